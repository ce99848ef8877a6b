/-! What stays true of the reference: the floor's calls before the offer. -/
/-- no more units are held -/
def kHl (X X' : ka_M) : Prop := ∀ u, X' 78 0 u = 1 → X 78 0 u = 1 ∧ X' 80 0 u = X 80 0 u ∧ X' 81 0 u = X 81 0 u
theorem kHl_rfl {X : ka_M} : kHl X X := fun _ h => ⟨h, rfl, rfl⟩
theorem kHl.trans {X X' X'' : ka_M} (h : kHl X X') (h' : kHl X' X'') : kHl X X'' := fun u z => by
  obtain ⟨a1, a2, a3⟩ := h' u z
  obtain ⟨b1, b2, b3⟩ := h u a1
  exact ⟨b1, a2.trans b2, a3.trans b3⟩
section
variable {E : Nat × Nat} {d c l : Nat} {s : ka_S} {h : ka_H} {Q : ka_Q} {J : ka_H} {A A' : ka_A} {V V' : ka_V} {C C' R X X' X'' Y Z : ka_M} {b b' : Int}
theorem kND_g (rw : kRW V X) (nd : kND X) (h15 : X' 9 0 15 = X 9 0 15) (h26 : X' 9 0 26 = X 9 0 26) (h70 : X' 70 = X 70) (h73 : X' 73 = X 73) (h68 : ∀ m, X' 68 0 m = 0 → X 68 0 m = 0) (h75 : ∀ q, 0 ≤ q → q < 205 → X' 75 0 q ≤ X 75 0 q) (hl : kHl X X') : kND X' := by
  intro m p m0 m1 p0 p1 hs
  have B15 := rw.i15
  rw [h15] at m1
  rw [h70] at p1
  have B70 := rw.a70 (j := m) (by omega) (by omega)
  have := nd m p m0 m1 p0 p1 (h68 m hs)
  have h1 := h75 (5 * m + p) (by omega) (by omega)
  have h2 : khu X' m p ≤ khu X m p := by
    unfold khu
    rw [h26]
    refine kcn_mono _ (fun u _ _ => ?_)
    rintro ⟨a1, a2, a3⟩
    obtain ⟨b1, b2, b3⟩ := hl u a1
    exact ⟨b1, b2 ▸ a2, b3 ▸ a3⟩
  rw [h73]
  unfold f151 at this ⊢
  omega
theorem f154_g (hA : kJ A V) (v : kLV V) (rw : kRW V X) {m p : Int} (m0 : 1 ≤ m) (m1 : m ≤ X 9 0 15) (p0 : 0 ≤ p) (p1 : p < 5) (hb : X 55 0 (X 72 0 (5 * m + p)) ≤ 999000) :
    kRW V (f154 X m p) ∧ kTk X (f154 X m p) ∧ kUg X (f154 X m p) ∧ kHl X (f154 X m p) ∧ (∀ g, f154 X m p 55 0 g ≤ X 55 0 g + 9) ∧ ∀ q, f154 X m p 75 0 q = if q = 5 * m + p then 0 else X 75 0 q := by
  have B15 := rw.i15
  have B26 := rw.i26
  obtain ⟨i1, i2, -⟩ := j154 (E := (0, 0)) (d := 2) (c := 0) (l := 0) (Q := fun _ _ => True) (J := fun _ => none) (C := X) hA v rw (m := m) (p := p) m0 (by omega) p0 p1 hb
  refine ⟨i1, i2, ?_⟩
  have h55 := fun g => f154_55 rw (m := m) (p := p) m0 (by omega) p0 p1 g
  unfold f154 at h55 ⊢
  dsimp only at h55 ⊢
  have z := kfd_inv (P := fun u Y => kUg X Y ∧ kHl X Y ∧ (∀ f, f ≠ 78 → f ≠ 80 → Y f = kmu (kmu X 55 0 (X 72 0 (5 * m + p)) (X 55 0 (X 72 0 (5 * m + p)) + X 75 0 (5 * m + p))) 75 0 (5 * m + p) 0 f)) (f := klg m p) (X 9 0 26).toNat 1 (kmu (kmu X 55 0 (X 72 0 (5 * m + p)) (X 55 0 (X 72 0 (5 * m + p)) + X 75 0 (5 * m + p))) 75 0 (5 * m + p) 0) (fun u Y u0 u1 ⟨h1, h2, h3⟩ => by
    unfold klg
    split
    · rename_i z
      refine ⟨fun j => ?_, fun j w => ?_, fun f x y => by rw [kmu_ff y, kmu_ff x]; exact h3 f x y⟩
      · rw [kmu_f (show (78:Nat) ≠ 80 by decide)]
        by_cases e : j = u
        · rw [e, kmu_eq, kmu_eq]
          exact Or.inr ⟨by omega, by omega, Or.inr ⟨rfl, rfl⟩⟩
        · rw [kmu_j e, kmu_j e, kmu_f (by decide)]
          exact h1 j
      · rw [kmu_f (show (78:Nat) ≠ 80 by decide)] at w
        by_cases e : j = u
        · rw [e, kmu_eq] at w; omega
        · rw [kmu_j e] at w
          rw [kmu_j e, kmu_f (by decide), kmu_f (by decide), kmu_f (by decide)]
          exact h2 j w
    · exact ⟨h1, h2, h3⟩) ⟨fun j => Or.inl ⟨by rw [kmu_f (by decide), kmu_f (by decide)], by rw [kmu_f (by decide), kmu_f (by decide)]⟩, fun j w => by
      rw [kmu_f (by decide), kmu_f (by decide)] at w
      exact ⟨w, by rw [kmu_f (by decide), kmu_f (by decide)], by rw [kmu_f (by decide), kmu_f (by decide)]⟩, fun _ _ _ => rfl⟩
  refine ⟨z.1, z.2.1, h55, fun q => ?_⟩
  rw [z.2.2 75 (by decide) (by decide)]
  by_cases e : q = 5 * m + p
  · rw [e, kmu_eq, if_pos rfl]
  · rw [kmu_j e, kmu_f (by decide), if_neg e]
/-- substitute -/
theorem f158b_g (hA : kJ A V) (v : kLV V) (rw : kRW V X) (nd : kND X) (U : kUX X b) (hb : b ≤ 900000) {m p : Int} (m0 : 1 ≤ m) (m1 : m ≤ X 9 0 15) (p0 : 1 ≤ p) (p1 : p ≤ X 70 0 m) (h5 : ¬ X 74 0 (5 * m + p - 1) = -1) :
    kRW V (f158b X m p) ∧ kND (f158b X m p) ∧ kUX (f158b X m p) (b + 9) ∧ (∀ f, f ≠ 55 → f ≠ 75 → f ≠ 78 → f ≠ 80 → f ≠ 72 → f ≠ 74 → f ≠ 81 → f158b X m p f = X f) ∧ ∀ f q, f = 72 ∨ f = 74 → q ≠ 5 * m + p - 1 → f158b X m p f 0 q = X f 0 q := by
  have B15 := rw.i15
  have B70 := rw.a70 (j := m) (by omega) (by omega)
  have B74 := rw.a74 (j := 5 * m + p - 1) (by omega) (by omega)
  have B72 := rw.a72 (j := 5 * m + (p - 1)) (by omega) (by omega)
  have pl := U.2.2.2.2.2.2
  obtain ⟨i1, i2, i3, i4, i5, i6⟩ := f154_g hA v rw (m := m) (p := p - 1) m0 m1 (by omega) (by omega) (by have := pl (X 72 0 (5 * m + (p - 1))) (by omega) (by omega); omega)
  have x74 : f154 X m (p - 1) 74 = X 74 := i2 74 (by decide) (by decide) (by decide) (by decide) (by decide)
  have e9 : f154 X m (p - 1) 9 = X 9 := i2 9 (by decide) (by decide) (by decide) (by decide) (by decide)
  have eb : f158b X m p = kmu (kmu (f154 X m (p - 1)) 72 0 (5 * m + p - 1) (X 74 0 (5 * m + p - 1))) 74 0 (5 * m + p - 1) (-1) := by
    unfold f158b
    dsimp only
    rw [x74]
  rw [eb]
  have fr : ∀ f, f ≠ 72 → f ≠ 74 → kmu (kmu (f154 X m (p - 1)) 72 0 (5 * m + p - 1) (X 74 0 (5 * m + p - 1))) 74 0 (5 * m + p - 1) (-1) f = f154 X m (p - 1) f := fun f x y => by rw [kmu_ff y, kmu_ff x]
  refine ⟨(i1.pa72 (by omega) (by omega)).pa74 (by omega) (by omega), ?_, ?_, fun f a1 a2 a3 a4 a5 a6 a7 => ?_, fun f q hf hq => ?_⟩
  · refine kND_g rw nd (by rw [fr 9 (by decide) (by decide), e9]) (by rw [fr 9 (by decide) (by decide), e9]) (by rw [fr 70 (by decide) (by decide)]; exact i2 70 (by decide) (by decide) (by decide) (by decide) (by decide)) (by rw [fr 73 (by decide) (by decide)]; exact i2 73 (by decide) (by decide) (by decide) (by decide) (by decide)) (fun m' z => by rw [fr 68 (by decide) (by decide), i2 68 (by decide) (by decide) (by decide) (by decide) (by decide)] at z; exact z) (fun q q0 q1 => ?_) (fun u z => ?_)
    · rw [fr 75 (by decide) (by decide), i6]
      have := rw.a75 (j := q) q0 q1
      split <;> omega
    · rw [fr 78 (by decide) (by decide)] at z
      rw [fr 80 (by decide) (by decide), fr 81 (by decide) (by decide)]
      exact i4 u z
  · refine kUX_g U (by rw [fr 9 (by decide) (by decide), e9]) (by rw [fr 9 (by decide) (by decide), e9]) (by rw [fr 79 (by decide) (by decide)]; exact i2 79 (by decide) (by decide) (by decide) (by decide) (by decide)) (by rw [fr 71 (by decide) (by decide)]; exact i2 71 (by decide) (by decide) (by decide) (by decide) (by decide)) (fun m' z => by rw [fr 68 (by decide) (by decide), i2 68 (by decide) (by decide) (by decide) (by decide) (by decide)]; exact z) (fun m' _ => by rw [fr 69 (by decide) (by decide), i2 69 (by decide) (by decide) (by decide) (by decide) (by decide)]) (fun q hq => by rw [fr 75 (by decide) (by decide), i6, if_neg (by omega)]) (fun u => ?_) (fun g x y => ?_)
    · rw [fr 78 (by decide) (by decide), fr 80 (by decide) (by decide)]; exact i3 u
    · rw [fr 55 (by decide) (by decide)]
      have := i5 g
      have := pl g x y
      omega
  · rw [fr f a5 a6]; exact i2 f a1 a2 a3 a4 a7
  · rcases hf with rfl | rfl
    · rw [kmu_f (by decide), kmu_j hq, i2 72 (by decide) (by decide) (by decide) (by decide) (by decide)]
    · rw [kmu_j hq, kmu_f (by decide), x74]
/-- drop -/
theorem f164b_g (hA : kJ A V) (v : kLV V) (rw : kRW V X) (nd : kND X) (U : kUX X b) (hb : b ≤ 900000) {m : Int} (m0 : 1 ≤ m) (m1 : m ≤ X 9 0 15) (hs : X 68 0 m = 0) :
    kRW V (f164b X m) ∧ kND (f164b X m) ∧ kUX (f164b X m) (b + 45) ∧ (∀ f, f ≠ 55 → f ≠ 75 → f ≠ 78 → f ≠ 80 → f ≠ 68 → f ≠ 81 → f164b X m f = X f) ∧ ∀ q, f164b X m 68 0 q = if q = m then 2 else X 68 0 q := by
  have B15 := rw.i15
  have B70 := rw.a70 (j := m) (by omega) (by omega)
  have pl := U.2.2.2.2.2.2
  have rw1 : kRW V (kmu X 68 0 m 2) := rw.pa68 (by omega) (by omega)
  have e9 : kmu X 68 0 m 2 9 = X 9 := kmu_ff (by decide)
  have e68 : ∀ q, kmu X 68 0 m 2 68 0 q = if q = m then 2 else X 68 0 q := fun q => by
    by_cases e : q = m
    · rw [e, kmu_eq, if_pos rfl]
    · rw [kmu_j e, if_neg e]
  unfold f164b
  have z := kfd_inv (P := fun p Y => 0 ≤ p ∧ kRW V Y ∧ kTk (kmu X 68 0 m 2) Y ∧ kUg (kmu X 68 0 m 2) Y ∧ kHl (kmu X 68 0 m 2) Y ∧ (∀ g, Y 55 0 g ≤ X 55 0 g + 9 * p) ∧ (∀ q, 0 ≤ q → q < 205 → Y 75 0 q ≤ X 75 0 q) ∧ ∀ q, 5 * (X 9 0 15 + 1) ≤ q → Y 75 0 q = X 75 0 q) (f := fun p R => f154 R m p) (X 70 0 m).toNat 0 (kmu X 68 0 m 2) (fun p Y p0 p1 ⟨_, rY, tY, uY, hY, aY, bY, cY⟩ => by
    have y9 : Y 9 = X 9 := (tY 9 (by decide) (by decide) (by decide) (by decide) (by decide)).trans e9
    have B72 := rY.a72 (j := 5 * m + p) (by omega) (by omega)
    obtain ⟨i1, i2, i3, i4, i5, i6⟩ := f154_g hA v rY (m := m) (p := p) m0 (by rw [y9]; exact m1) p0 (by omega) (by have := aY (Y 72 0 (5 * m + p)); have := pl (Y 72 0 (5 * m + p)) (by omega) (by omega); omega)
    refine ⟨by omega, i1, tY.trans i2, uY.trans i3 (by rw [y9, e9]) (by rw [y9, e9]), hY.trans i4, fun g => by have := i5 g; have := aY g; omega, fun q q0 q1 => ?_, fun q hq => ?_⟩
    · rw [i6]
      have := rw.a75 (j := q) q0 q1
      split
      · omega
      · exact bY q q0 q1
    · rw [i6, if_neg (by omega)]; exact cY q hq) ⟨by omega, rw1, kTk_rfl, kUg_rfl, kHl_rfl, fun g => by rw [kmu_f (by decide)]; omega, fun q _ _ => by rw [kmu_f (by decide)]; omega, fun q _ => by rw [kmu_f (by decide)]⟩
  generalize kfd (fun p R => f154 R m p) (X 70 0 m).toNat 0 (kmu X 68 0 m 2) = W at *
  obtain ⟨-, z1, z2, z3, z4, z5, z6, z7⟩ := z
  have w9 : W 9 = X 9 := (z2 9 (by decide) (by decide) (by decide) (by decide) (by decide)).trans e9
  have wf : ∀ f, f ≠ 55 → f ≠ 75 → f ≠ 78 → f ≠ 80 → f ≠ 68 → f ≠ 81 → W f = X f := fun f a1 a2 a3 a4 a5 a6 => (z2 f a1 a2 a3 a4 a6).trans (kmu_ff a5)
  have w68 : ∀ q, W 68 0 q = if q = m then 2 else X 68 0 q := fun q => by rw [z2 68 (by decide) (by decide) (by decide) (by decide) (by decide)]; exact e68 q
  refine ⟨z1, ?_, ?_, wf, w68⟩
  · refine kND_g rw nd (by rw [w9]) (by rw [w9]) (wf 70 (by decide) (by decide) (by decide) (by decide) (by decide) (by decide)) (wf 73 (by decide) (by decide) (by decide) (by decide) (by decide) (by decide)) (fun m' z => ?_) z6 (fun u z => ?_)
    · rw [w68] at z
      split at z
      · omega
      · exact z
    · obtain ⟨a1, a2, a3⟩ := z4 u z
      rw [kmu_f (by decide)] at a1 a2 a3
      exact ⟨a1, a2, a3⟩
  · refine kUX_g U (by rw [w9]) (by rw [w9]) (wf 79 (by decide) (by decide) (by decide) (by decide) (by decide) (by decide)) (wf 71 (by decide) (by decide) (by decide) (by decide) (by decide) (by decide)) (fun m' z => ?_) (fun m' _ => by rw [wf 69 (by decide) (by decide) (by decide) (by decide) (by decide) (by decide)]) z7 (fun u => ?_) (fun g x y => ?_)
    · rw [w68, if_neg (fun e => by rw [e] at z; omega)]; exact z
    · have := z3 u
      rw [kmu_f (show (78:Nat) ≠ 68 by decide), kmu_f (show (80:Nat) ≠ 68 by decide), e9] at this
      exact this
    · have := z5 g
      have := pl g x y
      omega
/-- a step fails -/
theorem f160_g (rw : kRW V X) (nd : kND X) (U : kUX X b) {m p : Int} (m0 : 1 ≤ m) (m1 : m ≤ X 9 0 15) (p0 : 0 ≤ p) (p1 : p < 5) :
    kRW V (f160 X m p) ∧ kND (f160 X m p) ∧ kUX (f160 X m p) b ∧ ∀ f, f ≠ 75 → f ≠ 78 → f ≠ 80 → f160 X m p f = X f := by
  have B15 := rw.i15
  obtain ⟨U0, U1, U2, H0, Fr, Fu, Pl⟩ := U
  have r2 := f160_rw rw (m := m) (p := p)
  unfold f160 at r2 ⊢
  have wf : ∀ f, f ≠ 75 → f ≠ 78 → f ≠ 80 → ksb (kmu X 75 0 (5 * m + p) 0) (fun u => 1 ≤ u ∧ u ≤ X 9 0 26 ∧ kbs X m p u) f = X f := fun f a1 a2 a3 => by rw [ksb_ff a2 a3, kmu_ff a1]
  have w75 : ∀ q, ksb (kmu X 75 0 (5 * m + p) 0) (fun u => 1 ≤ u ∧ u ≤ X 9 0 26 ∧ kbs X m p u) 75 0 q = if q = 5 * m + p then 0 else X 75 0 q := fun q => by
    rw [ksb_ff (by decide) (by decide)]
    by_cases e : q = 5 * m + p
    · rw [e, kmu_eq, if_pos rfl]
    · rw [kmu_j e, if_neg e]
  have wt : ∀ u, (1 ≤ u ∧ u ≤ X 9 0 26 ∧ kbs X m p u) → ksb (kmu X 75 0 (5 * m + p) 0) (fun u => 1 ≤ u ∧ u ≤ X 9 0 26 ∧ kbs X m p u) 78 0 u = 3 ∧ ksb (kmu X 75 0 (5 * m + p) 0) (fun u => 1 ≤ u ∧ u ≤ X 9 0 26 ∧ kbs X m p u) 80 0 u = 0 := fun u h => ⟨ksb_78t h, ksb_80t h⟩
  have wn : ∀ u, ¬ (1 ≤ u ∧ u ≤ X 9 0 26 ∧ kbs X m p u) → ksb (kmu X 75 0 (5 * m + p) 0) (fun u => 1 ≤ u ∧ u ≤ X 9 0 26 ∧ kbs X m p u) 78 0 u = X 78 0 u ∧ ksb (kmu X 75 0 (5 * m + p) 0) (fun u => 1 ≤ u ∧ u ≤ X 9 0 26 ∧ kbs X m p u) 80 0 u = X 80 0 u := fun u h => ⟨by rw [ksb_78f h, kmu_f (by decide)], by rw [ksb_80f h, kmu_f (by decide)]⟩
  generalize ksb (kmu X 75 0 (5 * m + p) 0) (fun u => 1 ≤ u ∧ u ≤ X 9 0 26 ∧ kbs X m p u) = W at *
  have w9 : W 9 = X 9 := wf 9 (by decide) (by decide) (by decide)
  refine ⟨r2, ?_, ⟨fun u x y => ?_, fun u x y z => ?_, fun u x y z => ?_, fun u x y z w => ?_, fun m' x y => ?_, fun u x y => ?_, fun g x y => ?_⟩, wf⟩
  · refine kND_g rw nd (by rw [w9]) (by rw [w9]) (wf 70 (by decide) (by decide) (by decide)) (wf 73 (by decide) (by decide) (by decide)) (fun m' z => by rw [wf 68 (by decide) (by decide) (by decide)] at z; exact z) (fun q q0 q1 => ?_) (fun u z => ?_)
    · rw [w75]
      have := rw.a75 (j := q) q0 q1
      split <;> omega
    · by_cases e : 1 ≤ u ∧ u ≤ X 9 0 26 ∧ kbs X m p u
      · rw [(wt u e).1] at z; omega
      · rw [(wn u e).1] at z
        rw [(wn u e).2, wf 81 (by decide) (by decide) (by decide)]
        exact ⟨z, rfl, rfl⟩
  · rw [w9] at y
    rw [wf 79 (by decide) (by decide) (by decide), w9, wf 68 (by decide) (by decide) (by decide), wf 71 (by decide) (by decide) (by decide)]
    exact U0 u x y
  · rw [w9] at y ⊢
    by_cases e : 1 ≤ u ∧ u ≤ X 9 0 26 ∧ kbs X m p u
    · rw [(wt u e).1] at z; omega
    · rw [(wn u e).1] at z
      rw [(wn u e).2]
      exact U1 u x y z
  · rw [w9] at y ⊢
    by_cases e : 1 ≤ u ∧ u ≤ X 9 0 26 ∧ kbs X m p u
    · rw [(wt u e).1] at z; omega
    · rw [(wn u e).1] at z
      rw [(wn u e).2]
      obtain ⟨b1, b2, b3⟩ := U2 u x y z
      refine ⟨b1, b2, ?_⟩
      by_cases e2 : 1 ≤ X 80 0 u ∧ X 80 0 u ≤ X 9 0 26 ∧ kbs X m p (X 80 0 u)
      · exact absurd ⟨x, y, kbs.bound u z e2.2.2⟩ e
      · rw [(wn _ e2).1]; exact b3
  · rw [w9] at y
    by_cases e : 1 ≤ u ∧ u ≤ X 9 0 26 ∧ kbs X m p u
    · exact (wt u e).2
    · rw [(wn u e).1] at z w
      rw [(wn u e).2]
      exact H0 u x y z w
  · rw [w9] at x
    obtain ⟨a1, a2, a3⟩ := Fr m' x y
    refine ⟨by rw [wf 69 (by decide) (by decide) (by decide)]; exact a1, by rw [wf 71 (by decide) (by decide) (by decide)]; exact a2, fun q q0 q1 => ?_⟩
    rw [w75, if_neg (by omega)]
    exact a3 q q0 q1
  · rw [w9] at x
    have e : ¬ (1 ≤ u ∧ u ≤ X 9 0 26 ∧ kbs X m p u) := fun z => by omega
    rw [(wn u e).1, (wn u e).2]
    exact Fu u x y
  · rw [wf 55 (by decide) (by decide) (by decide)]; exact Pl g x y
end
