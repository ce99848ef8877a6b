/-! What stays true of the reference: the floor. -/
def kH0 (X : ka_M) : Prop := ∀ u, 1 ≤ u → u ≤ X 9 0 26 → X 78 0 u ≠ 1 → X 78 0 u ≠ 2 → X 80 0 u = 0
def kPl (X : ka_M) (b : Int) : Prop := ∀ g, 0 ≤ g → g < 20 → X 55 0 g ≤ b
def kUX (X : ka_M) (b : Int) : Prop := kU0 X ∧ kU1 X ∧ kU2 X ∧ kH0 X ∧ kFr X ∧ kFu X ∧ kPl X b
/-- units are taken or loosened -/
def kUg (X X' : ka_M) : Prop := ∀ u, (X' 78 0 u = X 78 0 u ∧ X' 80 0 u = X 80 0 u) ∨ (1 ≤ u ∧ u ≤ X 9 0 26 ∧ ((X' 78 0 u = 1 ∧ 1 ≤ X' 80 0 u ∧ X' 80 0 u ≤ X 9 0 15) ∨ (X' 78 0 u = 0 ∧ X' 80 0 u = 0)))
section
variable {E : Nat × Nat} {d c l : Nat} {s : ka_S} {h : ka_H} {Q : ka_Q} {J : ka_H} {A A' : ka_A} {V V' : ka_V} {C C' R X X' X'' Y Z : ka_M} {b b' : Int}
theorem kUg_rfl : kUg X X := fun _ => Or.inl ⟨rfl, rfl⟩
theorem kUg.trans (h : kUg X X') (h' : kUg X' X'') (h26 : X' 9 0 26 = X 9 0 26) (h15 : X' 9 0 15 = X 9 0 15) : kUg X X'' := fun u => by
  rcases h' u with ⟨a1, a2⟩ | a
  · rw [a1, a2]; exact h u
  · right
    rw [h26, h15] at a
    exact a
theorem kUX_g (U : kUX X b) (h15 : X' 9 0 15 = X 9 0 15) (h26 : X' 9 0 26 = X 9 0 26) (h79 : X' 79 = X 79) (h71 : X' 71 = X 71) (h68 : ∀ m, X 68 0 m = 1 → X' 68 0 m = 1) (h69 : ∀ m, X 9 0 15 < m → X' 69 0 m = X 69 0 m) (h75 : ∀ q, 5 * (X 9 0 15 + 1) ≤ q → X' 75 0 q = X 75 0 q) (hu : kUg X X') (h55 : kPl X' b') : kUX X' b' := by
  obtain ⟨U0, U1, U2, H0, Fr, Fu, Pl⟩ := U
  refine ⟨fun u x y => ?_, fun u x y z => ?_, fun u x y z => ?_, fun u x y z w => ?_, fun m x y => ?_, fun u x y => ?_, h55⟩
  · rw [h26] at y
    rw [h79, h15, h71]
    obtain ⟨a1, a2, a3, a4⟩ := U0 u x y
    exact ⟨a1, a2, h68 _ a3, a4⟩
  · rw [h26] at y
    rw [h15]
    rcases hu u with ⟨a1, a2⟩ | ⟨a1, a2, a3⟩
    · rw [a1] at z; rw [a2]; exact U1 u x y z
    · rcases a3 with a3 | a3
      · exact a3.2
      · omega
  · rw [h26] at y ⊢
    rcases hu u with ⟨a1, a2⟩ | ⟨a1, a2, a3⟩
    · rw [a1] at z
      obtain ⟨b1, b2, b3⟩ := U2 u x y z
      rw [a2]
      refine ⟨b1, b2, ?_⟩
      rcases hu (X 80 0 u) with ⟨c1, c2⟩ | ⟨c1, c2, c3⟩
      · rw [c1]; exact b3
      · rcases c3 with c3 | c3 <;> omega
    · rcases a3 with a3 | a3 <;> omega
  · rw [h26] at y
    rcases hu u with ⟨a1, a2⟩ | ⟨a1, a2, a3⟩
    · rw [a1] at z w; rw [a2]; exact H0 u x y z w
    · rcases a3 with a3 | a3
      · exact absurd a3.1 z
      · exact a3.2
  · rw [h15] at x
    obtain ⟨a1, a2, a3⟩ := Fr m x y
    refine ⟨by rw [h69 m x]; exact a1, by rw [h71]; exact a2, fun p p0 p1 => ?_⟩
    rw [h75 _ (by omega)]
    exact a3 p p0 p1
  · rw [h26] at x
    rcases hu u with ⟨a1, a2⟩ | ⟨a1, a2, a3⟩
    · rw [a1, a2]; exact Fu u x y
    · omega
/-- one offer to a part -/
theorem f152_g (rw : kRW V X) {m p : Int} (m0 : 1 ≤ m) (m1 : m ≤ X 9 0 15) (p0 : 0 ≤ p) (p1 : p < 5) (hn : f151 X m p ≤ X 73 0 (5 * m + p)) : kUg X (f152 X m p) ∧ (∀ g, f152 X m p 55 0 g ≤ X 55 0 g) ∧ ∀ q, 5 * (X 9 0 15 + 1) ≤ q → f152 X m p 75 0 q = X 75 0 q := by
  have B26 := rw.i26
  have B15 := rw.i15
  have B72 := rw.a72 (j := 5 * m + p) (by omega) (by omega)
  have B55 := rw.a55 (j := X 72 0 (5 * m + p)) (by omega) (by omega)
  have hk : ktn X m p = if X 73 0 (5 * m + p) - f151 X m p < X 55 0 (X 72 0 (5 * m + p)) then X 73 0 (5 * m + p) - f151 X m p else X 55 0 (X 72 0 (5 * m + p)) := rfl
  have hk0 : 0 ≤ ktn X m p := by rw [hk]; split <;> omega
  unfold f152
  dsimp only
  generalize X 73 0 (5 * m + p) - f151 X m p - ktn X m p = a0
  generalize ktn X m p = n at *
  generalize hg : X 72 0 (5 * m + p) = g at *
  have z := kfd_inv (P := fun u a => kUg X a.1 ∧ (∀ f, f ≠ 78 → f ≠ 80 → f ≠ 81 → a.1 f = kmu (kmu X 55 0 g (X 55 0 g - n)) 75 0 (5 * m + p) (X 75 0 (5 * m + p) + n) f)) (f := ktk m p g) (X 9 0 26).toNat 1 (kmu (kmu X 55 0 g (X 55 0 g - n)) 75 0 (5 * m + p) (X 75 0 (5 * m + p) + n), a0) (fun u a u0 u1 ⟨h1, h2⟩ => by
    unfold ktk
    split
    · rename_i z
      refine ⟨fun j => ?_, fun f x y w => by dsimp only; rw [kmu_ff w, kmu_ff y, kmu_ff x]; exact h2 f x y w⟩
      dsimp only
      rw [kmu_f (show (78:Nat) ≠ 81 by decide), kmu_f (show (78:Nat) ≠ 80 by decide), kmu_f (show (80:Nat) ≠ 81 by decide)]
      by_cases e : j = u
      · rw [e, kmu_eq, kmu_eq]
        exact Or.inr ⟨by omega, by omega, Or.inl ⟨rfl, m0, m1⟩⟩
      · rw [kmu_j e, kmu_j e, kmu_f (by decide)]
        exact h1 j
    · exact ⟨h1, h2⟩) ⟨fun j => Or.inl ⟨by dsimp only; rw [kmu_f (by decide), kmu_f (by decide)], by dsimp only; rw [kmu_f (by decide), kmu_f (by decide)]⟩, fun _ _ _ _ => rfl⟩
  generalize kfd (ktk m p g) (X 9 0 26).toNat 1 (kmu (kmu X 55 0 g (X 55 0 g - n)) 75 0 (5 * m + p) (X 75 0 (5 * m + p) + n), a0) = W at *
  refine ⟨z.1, fun j => ?_, fun q hq => ?_⟩
  · rw [z.2 55 (by decide) (by decide) (by decide), kmu_f (by decide)]
    by_cases e : j = g
    · rw [e, kmu_eq]; omega
    · rw [kmu_j e]; exact Int.le_refl _
  · rw [z.2 75 (by decide) (by decide) (by decide), kmu_j (by omega), kmu_f (by decide)]
/-- what an offer does -/
def kOf (X X' : ka_M) : Prop := kTk X X' ∧ kUg X X' ∧ (∀ g, X' 55 0 g ≤ X 55 0 g) ∧ ∀ q, 5 * (X 9 0 15 + 1) ≤ q → X' 75 0 q = X 75 0 q
theorem kOf_rfl : kOf X X := ⟨kTk_rfl, kUg_rfl, fun _ => Int.le_refl _, fun _ _ => rfl⟩
theorem kOf.trans (h : kOf X X') (h' : kOf X' X'') : kOf X X'' := by
  obtain ⟨a1, a2, a3, a4⟩ := h
  obtain ⟨b1, b2, b3, b4⟩ := h'
  have e9 := a1 9 (by decide) (by decide) (by decide) (by decide) (by decide)
  refine ⟨a1.trans b1, a2.trans b2 (by rw [e9]) (by rw [e9]), fun g => Int.le_trans (b3 g) (a3 g), fun q hq => (b4 q (by rw [e9]; exact hq)).trans (a4 q hq)⟩
theorem f153_g (hA : kJ A V) (v : kLV V) (rw : kRW V X) (nd : kND X) : kRW V (f153 X) ∧ kND (f153 X) ∧ kOf X (f153 X) := by
  obtain ⟨i1, i2, i3, -⟩ := j153 (E := (0, 0)) (d := 2) (c := 0) (l := 0) (Q := fun _ _ => True) (J := fun _ => none) (C := X) hA v rw nd (by omega)
  refine ⟨i1, i3, ?_⟩
  have B15 := rw.i15
  unfold f153
  have z := kfd_inv (P := fun m Y => kRW V Y ∧ kND Y ∧ kOf X Y) (f := kof) (X 9 0 15).toNat 1 X (fun m Y m0 m1 ⟨rY, nY, oY⟩ => by
    have e15 : Y 9 0 15 = X 9 0 15 := by rw [oY.1 9 (by decide) (by decide) (by decide) (by decide) (by decide)]
    obtain ⟨q1, q2, q3, -⟩ := j153_m (E := (0, 0)) (d := 2) (c := 0) (l := 0) (Q := fun _ _ => True) (J := fun _ => none) (C := X) hA v rY nY (m := m) (by omega) m0 (by omega) none
    refine ⟨q1, q3, ?_⟩
    unfold kof
    split
    · rename_i hs
      have B70 := rY.a70 (j := m) (by omega) (by omega)
      have w := kfd_inv (P := fun p W => 0 ≤ p ∧ kRW V W ∧ kND W ∧ kOf Y W) (f := fun p W => f152 W m p) (Y 70 0 m).toNat 0 Y (fun p W p0 p1 ⟨_, rW, nW, oW⟩ => by
        have e9 := oW.1 9 (by decide) (by decide) (by decide) (by decide) (by decide)
        have e70 := oW.1 70 (by decide) (by decide) (by decide) (by decide) (by decide)
        have e68 := oW.1 68 (by decide) (by decide) (by decide) (by decide) (by decide)
        have hn := nW m p m0 (by rw [e9]; omega) p0 (by rw [e70]; omega) (by rw [e68]; exact hs)
        obtain ⟨t1, t2, t3⟩ := f152_g rW (m := m) (p := p) m0 (by rw [e9]; omega) p0 (by omega) hn
        obtain ⟨s1, s2, -⟩ := j152 (E := (0, 0)) (d := 2) (c := 0) (l := 0) (Q := fun _ _ => True) (J := fun _ => none) (C := X) hA v rW (m := m) (p := p) (by omega) m0 (by omega) p0 (by omega) hn
        exact ⟨by omega, s1, f152_nd rW nW m0 (by omega) p0 (by omega) hn s2, oW.trans ⟨s2, t1, t2, t3⟩⟩) ⟨by omega, rY, nY, kOf_rfl⟩
      exact oY.trans w.2.2.2
    · exact oY) ⟨rw, nd, kOf_rfl⟩
  exact z.2.2
theorem kUX_of (U : kUX X b) (o : kOf X X') : kUX X' b := by
  obtain ⟨a1, a2, a3, a4⟩ := o
  have e9 := a1 9 (by decide) (by decide) (by decide) (by decide) (by decide)
  exact kUX_g U (by rw [e9]) (by rw [e9]) (a1 79 (by decide) (by decide) (by decide) (by decide) (by decide)) (a1 71 (by decide) (by decide) (by decide) (by decide) (by decide)) (fun m z => by rw [a1 68 (by decide) (by decide) (by decide) (by decide) (by decide)]; exact z) (fun m _ => by rw [a1 69 (by decide) (by decide) (by decide) (by decide) (by decide)]) a4 a2 (fun g x y => Int.le_trans (a3 g) (U.2.2.2.2.2.2 g x y))
end
