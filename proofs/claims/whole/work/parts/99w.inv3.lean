/-! What stays true of the reference: done, broken, make. -/
section
variable {E : Nat × Nat} {d c l : Nat} {s : ka_S} {h : ka_H} {Q : ka_Q} {J : ka_H} {A A' : ka_A} {V V' : ka_V} {C C' R X X' X'' Y Z : ka_M} {b b' : Int}
/-- done -/
theorem f163b_g (rw : kRW V X) (bk : kBk X) (nd : kND X) (U : kUX X b) {m : Int} (m0 : 1 ≤ m) (m1 : m ≤ X 9 0 15) (hs : X 68 0 m = 0) (h60 : X 9 0 26 < 60) (hM : 0 ≤ X 66 0 m ∧ X 66 0 m < X 9 0 7) :
    kRW V (f163b X m) ∧ kND (f163b X m) ∧ kUX (f163b X m) b := by
  have B15 := rw.i15
  have B26 := rw.i26
  have B7 := rw.i7
  have B58 := rw.a58 (j := X 66 0 m) (by omega) (by omega)
  obtain ⟨U0, U1, U2, H0, Fr, Fu, Pl⟩ := U
  have r2 : kRW V (f163b X m) := by
    have z := kfd_inv (P := fun u Y => kRW V Y) (f := kbd m (X 9 0 26 + 1)) (X 9 0 26).toNat 1 X (fun u Y _ _ rY => (kbd_o rY (by omega) (by omega)).1) rw
    unfold f163b
    dsimp only
    exact (((((z.pi26 (by omega) (by omega)).pa77 (by omega) (by omega)).pa78 (by omega) (by omega)).pa79 (by omega) (by omega)).pa68 (by omega) (by omega)).pa71 (by omega) (by omega)
  obtain ⟨o1, o2, o3, o77, o79, o68, o71, o78, o80⟩ := f163b_q (X := X) (m := m) B26.1
  generalize hw : X 9 0 26 + 1 = w at *
  generalize f163b X m = Y at *
  have o70 : Y 70 = X 70 := o3 70 (by decide) (by decide) (by decide) (by decide) (by decide) (by decide) (by decide)
  have o81 : Y 81 = X 81 := o3 81 (by decide) (by decide) (by decide) (by decide) (by decide) (by decide) (by decide)
  have o75 : Y 75 = X 75 := o3 75 (by decide) (by decide) (by decide) (by decide) (by decide) (by decide) (by decide)
  have ew : (Y 9 0 26).toNat = (X 9 0 26).toNat + 1 := by omega
  have ew' : (((X 9 0 26).toNat : Nat) : Int) + 1 = w := by omega
  refine ⟨r2, fun m' p a1 a2 a3 a4 a5 => ?_, ⟨fun u x y => ?_, fun u x y z => ?_, fun u x y z => ?_, fun u x y z t => ?_, fun m' x y => ?_, fun u x y => ?_, fun g x y => ?_⟩⟩
  · rw [o2 15 (by decide)] at a2
    rw [o70] at a4
    rw [o68] at a5
    by_cases e : m' = m
    · rw [if_pos e] at a5; omega
    · rw [if_neg e] at a5
      have h1 := nd m' p a1 a2 a3 a4 a5
      have h2 : khu Y m' p ≤ khu X m' p := by
        unfold khu
        rw [ew]
        show kcn _ _ + kb _ ≤ _
        rw [kb_f (by
          rintro ⟨h1, -, -⟩
          rw [ew', o78, if_pos rfl] at h1
          omega), Int.add_zero]
        refine kcn_mono _ (fun u x y => ?_)
        rw [o78, if_neg (by omega), o80, o81]
        by_cases z : 1 ≤ u ∧ u ≤ X 9 0 26 ∧ X 78 0 u = 1 ∧ X 80 0 u = m
        · rw [if_pos z, if_pos z]
          rintro ⟨h1, -, -⟩; omega
        · rw [if_neg z, if_neg z]; exact id
      unfold f151 at h1 ⊢
      rw [o75, o3 73 (by decide) (by decide) (by decide) (by decide) (by decide) (by decide) (by decide)]
      omega
  · rw [o1] at y
    rw [o79, o2 15 (by decide)]
    by_cases e : u = w
    · rw [if_pos e, o68, if_pos rfl, o71, if_pos rfl]
      exact ⟨m0, m1, rfl, e.symm⟩
    · rw [if_neg e]
      obtain ⟨a1, a2, a3, a4⟩ := U0 u x (by omega)
      have hne : X 79 0 u ≠ m := fun z => by rw [z] at a3; omega
      rw [o68, if_neg hne, o71, if_neg hne]
      exact ⟨a1, a2, a3, a4⟩
  · rw [o1] at y
    rw [o2 15 (by decide)]
    rw [o78] at z
    by_cases e : u = w
    · rw [if_pos e] at z; omega
    · rw [if_neg e] at z
      rw [o80]
      by_cases k : 1 ≤ u ∧ u ≤ X 9 0 26 ∧ X 78 0 u = 1 ∧ X 80 0 u = m
      · rw [if_pos k] at z; omega
      · rw [if_neg k] at z ⊢
        exact U1 u x (by omega) z
  · rw [o1] at y ⊢
    rw [o78] at z
    by_cases e : u = w
    · rw [if_pos e] at z; omega
    · rw [if_neg e] at z
      rw [o80]
      by_cases k : 1 ≤ u ∧ u ≤ X 9 0 26 ∧ X 78 0 u = 1 ∧ X 80 0 u = m
      · rw [if_pos k]
        refine ⟨by omega, by omega, ?_⟩
        rw [o78, if_pos rfl]
        decide
      · rw [if_neg k] at z ⊢
        obtain ⟨b1, b2, b3⟩ := U2 u x (by omega) z
        refine ⟨b1, by omega, ?_⟩
        rw [o78, if_neg (by omega)]
        split
        · decide
        · exact b3
  · rw [o1] at y
    rw [o78] at z t
    by_cases e : u = w
    · rw [o80, if_neg (fun k => by omega), e]
      exact (Fu w (by omega) (by omega)).2
    · rw [if_neg e] at z t
      rw [o80]
      by_cases k : 1 ≤ u ∧ u ≤ X 9 0 26 ∧ X 78 0 u = 1 ∧ X 80 0 u = m
      · rw [if_pos k] at t; exact absurd rfl t
      · rw [if_neg k] at z t ⊢
        exact H0 u x (by omega) z t
  · rw [o2 15 (by decide)] at x
    obtain ⟨a1, a2, a3⟩ := Fr m' x y
    rw [o3 69 (by decide) (by decide) (by decide) (by decide) (by decide) (by decide) (by decide), o71, if_neg (by omega), o75]
    exact ⟨a1, a2, a3⟩
  · rw [o1] at x
    obtain ⟨a1, a2⟩ := Fu u (by omega) y
    rw [o78, if_neg (by omega), if_neg (fun k => by omega), o80, if_neg (fun k => by omega)]
    exact ⟨a1, a2⟩
  · rw [o3 55 (by decide) (by decide) (by decide) (by decide) (by decide) (by decide) (by decide)]; exact Pl g x y
/-- make -/
theorem f156b_g (rw : kRW V X) (bk : kBk X) (nd : kND X) (U : kUX X b) {k w : Int} (k0 : 0 ≤ k) (k1 : k < X 9 0 7) (w0 : 0 ≤ w) (w1 : w ≤ 4) (h40 : X 9 0 15 < 40) :
    kRW V (f156b X k w) ∧ kND (f156b X k w) ∧ kUX (f156b X k w) b := by
  have B15 := rw.i15
  have B26 := rw.i26
  obtain ⟨U0, U1, U2, H0, Fr, Fu, Pl⟩ := U
  obtain ⟨r2, -⟩ := f156b_o rw bk (k := k) (w := w) ⟨k0, by omega⟩ ⟨w0, w1⟩ h40
  obtain ⟨o1, o2, o3, o66, o67, o68, o70, on, oo⟩ := f156b_q (X := X) (k := k) (w := w)
  obtain ⟨b1, b2, b3, b4⟩ := f138_b rw bk (k := k) ⟨k0, by omega⟩
  have b61 := rw.a61 (j := f138 X k) (by omega) (by omega)
  generalize hm : X 9 0 15 + 1 = m at *
  generalize f156b X k w = Y at *
  have o78 : Y 78 = X 78 := o3 78 (by decide) (by decide) (by decide) (by decide) (by decide) (by decide) (by decide) (by decide)
  have o80 : Y 80 = X 80 := o3 80 (by decide) (by decide) (by decide) (by decide) (by decide) (by decide) (by decide) (by decide)
  have o81 : Y 81 = X 81 := o3 81 (by decide) (by decide) (by decide) (by decide) (by decide) (by decide) (by decide) (by decide)
  have o75 : Y 75 = X 75 := o3 75 (by decide) (by decide) (by decide) (by decide) (by decide) (by decide) (by decide) (by decide)
  have o71 : Y 71 = X 71 := o3 71 (by decide) (by decide) (by decide) (by decide) (by decide) (by decide) (by decide) (by decide)
  have o79 : Y 79 = X 79 := o3 79 (by decide) (by decide) (by decide) (by decide) (by decide) (by decide) (by decide) (by decide)
  have o26 := o2 26 (by decide)
  refine ⟨r2, fun m' p a1 a2 a3 a4 a5 => ?_, ⟨fun u x y => ?_, fun u x y z => ?_, fun u x y z => ?_, fun u x y z t => ?_, fun m' x y => ?_, fun u x y => ?_, fun g x y => ?_⟩⟩
  · rw [o1] at a2
    rw [o70] at a4
    rw [o68] at a5
    have hu : khu Y m' p = khu X m' p := khu_c (R := X) o26 o78 o80 o81 m' p
    unfold f151
    rw [hu, o75]
    by_cases e : m' = m
    · rw [if_pos e] at a4
      have h0 : khu X m' p = 0 := by
        unfold khu
        rw [kcn_0]
        rintro u u1 u2 ⟨h1, h2, h3⟩
        have := U1 u u1 (by omega) h1
        omega
      have h75 := (Fr m' (by omega) (by omega)).2.2 p a3 (by omega)
      have h73 := r2.a73 (j := 5 * m' + p) (by omega) (by omega)
      omega
    · rw [if_neg e] at a4 a5
      have B70 := rw.a70 (j := m') (by omega) (by omega)
      have := nd m' p a1 (by omega) a3 a4 a5
      unfold f151 at this
      rw [(oo (5 * m' + p) (by omega)).2.1]
      exact this
  · rw [o26] at y
    obtain ⟨a1, a2, a3, a4⟩ := U0 u x y
    rw [o79, o1, o68, if_neg (by omega), o71]
    exact ⟨a1, by omega, a3, a4⟩
  · rw [o26] at y
    rw [o78] at z
    rw [o80, o1]
    have := U1 u x y z
    omega
  · rw [o26] at y ⊢
    rw [o78] at z
    rw [o80, o78]
    exact U2 u x y z
  · rw [o26] at y
    rw [o78] at z t
    rw [o80]
    exact H0 u x y z t
  · rw [o1] at x
    rw [o3 69 (by decide) (by decide) (by decide) (by decide) (by decide) (by decide) (by decide) (by decide), o71, o75]
    exact Fr m' (by omega) y
  · rw [o26] at x
    rw [o78, o80]
    exact Fu u x y
  · rw [o3 55 (by decide) (by decide) (by decide) (by decide) (by decide) (by decide) (by decide) (by decide)]; exact Pl g x y
/-- broken -/
theorem f166b_g (rw : kRW V X) (nd : kND X) (U : kUX X b) (hb : b ≤ 900000) {u0 : Int} (u1 : 1 ≤ u0) (u2 : u0 ≤ X 9 0 26) (hs : X 78 0 u0 = 0) :
    kRW V (f166b X u0) ∧ kND (f166b X u0) ∧ kUX (f166b X u0) (b + 45) ∧ (∀ f, f ≠ 9 → f ≠ 55 → f ≠ 75 → f ≠ 78 → f ≠ 80 → f ≠ 83 → f ≠ 84 → f ≠ 81 → f166b X u0 f = X f) ∧ (∀ j, j ≠ 32 → f166b X u0 9 0 j = X 9 0 j) ∧ f166b X u0 9 0 32 = X 70 0 (X 79 0 u0) ∧ ∀ i, 0 ≤ i → i < X 70 0 (X 79 0 u0) → f166b X u0 83 0 i = X 72 0 (5 * X 79 0 u0 + i) ∧ f166b X u0 84 0 i = X 73 0 (5 * X 79 0 u0 + i) := by
  have B15 := rw.i15
  have B26 := rw.i26
  obtain ⟨U0, U1, U2, H0, Fr, Fu, Pl⟩ := U
  obtain ⟨m0, m1, m2, m3⟩ := U0 u0 u1 u2
  generalize hm : X 79 0 u0 = m at *
  have B70 := rw.a70 (j := m) (by omega) (by omega)
  -- the rows
  have za := kfd_inv (P := fun p Y => 0 ≤ p ∧ kRW V Y ∧ kRo (kmu X 9 0 32 (X 70 0 m)) Y ∧ (∀ g, 0 ≤ g → g < 20 → Y 55 0 g ≤ b + 9 * p) ∧ (∀ q, 0 ≤ q → q < 205 → Y 75 0 q ≤ X 75 0 q) ∧ (∀ q, 5 * (X 9 0 15 + 1) ≤ q → Y 75 0 q = X 75 0 q) ∧ ∀ i, 0 ≤ i → i < p → Y 83 0 i = X 72 0 (5 * m + i) ∧ Y 84 0 i = X 73 0 (5 * m + i)) (f := krw m) (X 70 0 m).toNat 0 (kmu X 9 0 32 (X 70 0 m)) (fun p Y p0 p1 ⟨_, rY, oY, bY, cY, dY, eY⟩ => by
    obtain ⟨y1, y2, y3⟩ := krw_o (m := m) (p := p) rY (by omega) (by omega) p0 (by omega) (b := b + 9 * p) bY (by omega)
    have e72 : Y 72 = X 72 := (oY 72 (by decide) (by decide) (by decide) (by decide)).trans (kmu_ff (by decide))
    have e73 : Y 73 = X 73 := (oY 73 (by decide) (by decide) (by decide) (by decide)).trans (kmu_ff (by decide))
    have k75 : ∀ q, krw m p Y 75 0 q = if q = 5 * m + p then 0 else Y 75 0 q := fun q => by
      unfold krw
      by_cases e : q = 5 * m + p
      · rw [e, kmu_eq, if_pos rfl]
      · rw [kmu_j e, if_neg e, kmu_f (by decide), kmu_f (by decide), kmu_f (by decide)]
    have k83 : ∀ q, krw m p Y 83 0 q = if q = p then X 72 0 (5 * m + p) else Y 83 0 q := fun q => by
      unfold krw
      rw [kmu_f (by decide), kmu_f (by decide), kmu_f (by decide), e72]
      by_cases e : q = p
      · rw [e, kmu_eq, if_pos rfl]
      · rw [kmu_j e, if_neg e]
    have k84 : ∀ q, krw m p Y 84 0 q = if q = p then X 73 0 (5 * m + p) else Y 84 0 q := fun q => by
      unfold krw
      rw [kmu_f (by decide), kmu_f (by decide), e73]
      by_cases e : q = p
      · rw [e, kmu_eq, if_pos rfl]
      · rw [kmu_j e, if_neg e, kmu_f (by decide)]
    refine ⟨by omega, y1, fun f a b' c' d' => (y2 f a b' c' d').trans (oY f a b' c' d'), fun g x y => by have := y3 g x y; omega, fun q q0 q1 => ?_, fun q hq => ?_, fun i i0 i1 => ?_⟩
    · rw [k75]
      have := rw.a75 (j := q) q0 q1
      split
      · omega
      · exact cY q q0 q1
    · rw [k75, if_neg (by omega)]; exact dY q hq
    · rw [k83, k84]
      by_cases e : i = p
      · rw [if_pos e, if_pos e, e]; exact ⟨rfl, rfl⟩
      · rw [if_neg e, if_neg e]; exact eY i i0 (by omega)) ⟨by omega, rw.pi32 (by omega) (by omega), fun _ _ _ _ _ => rfl, fun g x y => by rw [kmu_f (by decide)]; have := Pl g x y; omega, fun q _ _ => by rw [kmu_f (by decide)]; omega, fun q _ => by rw [kmu_f (by decide)], fun i a b' => by omega⟩
  have ea : kfd (krw m) (X 70 0 m).toNat 0 (kmu X 9 0 32 (X 70 0 m)) = f166a X u0 := by unfold f166a; rw [hm]
  rw [ea] at za
  unfold f166b
  generalize f166a X u0 = Xa at *
  obtain ⟨-, ra, oa, ba, ca, da, ea'⟩ := za
  have a9 : Xa 9 0 26 = X 9 0 26 := by rw [oa 9 (by decide) (by decide) (by decide) (by decide), kmu_j (by decide)]
  have af : ∀ f, f ≠ 9 → f ≠ 55 → f ≠ 75 → f ≠ 83 → f ≠ 84 → Xa f = X f := fun f x1 x2 x3 x4 x5 => (oa f x2 x3 x4 x5).trans (kmu_ff x1)
  -- the units
  have zb := kfd_inv (P := fun j Y => kRW V Y ∧ kTk Xa Y ∧ (∀ f, f ≠ 78 → f ≠ 80 → Y f = Xa f) ∧ ∀ u, (Y 78 0 u = X 78 0 u ∧ Y 80 0 u = X 80 0 u ∧ ¬ (1 ≤ u ∧ u < j ∧ X 78 0 u = 2 ∧ X 80 0 u = u0)) ∨ (1 ≤ u ∧ u ≤ X 9 0 26 ∧ X 78 0 u = 2 ∧ X 80 0 u = u0 ∧ Y 78 0 u = 0 ∧ Y 80 0 u = 0)) (f := kul u0) (X 9 0 26).toNat 1 Xa (fun j Y j0 j1 ⟨rY, tY, fY, uY⟩ => by
    obtain ⟨y1, y2⟩ := kul_o (w := u0) (u := j) rY
    refine ⟨y1, tY.trans y2, fun f x y => ?_, fun u => ?_⟩
    · unfold kul
      split
      · rw [kmu_ff y, kmu_ff x]; exact fY f x y
      · exact fY f x y
    · unfold kul
      by_cases z : Y 78 0 j = 2 ∧ Y 80 0 j = u0
      · rw [if_pos z, kmu_f (show (78:Nat) ≠ 80 by decide)]
        by_cases e : u = j
        · rw [e, kmu_eq, kmu_eq]
          right
          rcases uY j with ⟨k1, k2, k3⟩ | ⟨k1, k2, k3, k4, k5, k6⟩
          · exact ⟨j0, by omega, k1 ▸ z.1, k2 ▸ z.2, rfl, rfl⟩
          · omega
        · rw [kmu_j e, kmu_j e, kmu_f (by decide)]
          rcases uY u with ⟨k1, k2, k3⟩ | k
          · exact Or.inl ⟨k1, k2, fun t => k3 ⟨t.1, by omega, t.2.2⟩⟩
          · exact Or.inr k
      · rw [if_neg z]
        rcases uY u with ⟨k1, k2, k3⟩ | k
        · refine Or.inl ⟨k1, k2, fun t => ?_⟩
          by_cases e : u = j
          · apply z
            rw [← e, k1, k2]
            exact t.2.2
          · exact k3 ⟨t.1, by omega, t.2.2⟩
        · exact Or.inr k) ⟨ra, kTk_rfl, fun _ _ _ => rfl, fun u => Or.inl ⟨by rw [af 78 (by decide) (by decide) (by decide) (by decide) (by decide)], by rw [af 80 (by decide) (by decide) (by decide) (by decide) (by decide)], fun t => by omega⟩⟩
  generalize kfd (kul u0) (X 9 0 26).toNat 1 Xa = Xb at *
  obtain ⟨rb, tb, fb, ub⟩ := zb
  have e1 : (1:Int) + ((X 9 0 26).toNat : Nat) = X 9 0 26 + 1 := by omega
  rw [e1] at ub
  obtain ⟨o1, o2, o3, o4⟩ := f161_o (X := Xb) (u := u0)
  have r2 : kRW V (f161 Xb u0) := (rb.pa78 (by omega) (by omega)).pa80 (by omega) (by omega)
  generalize f161 Xb u0 = W at *
  have wf : ∀ f, f ≠ 9 → f ≠ 55 → f ≠ 75 → f ≠ 78 → f ≠ 80 → f ≠ 83 → f ≠ 84 → f ≠ 81 → W f = X f := fun f x1 x2 x3 x4 x5 x6 x7 x8 => (o1 f x4 x5).trans ((fb f x4 x5).trans (af f x1 x2 x3 x6 x7))
  have w81 : W 81 = X 81 := (o1 81 (by decide) (by decide)).trans ((fb 81 (by decide) (by decide)).trans (af 81 (by decide) (by decide) (by decide) (by decide) (by decide)))
  have wa : W 9 = Xa 9 := (o1 9 (by decide) (by decide)).trans (fb 9 (by decide) (by decide))
  have w9 : ∀ j, j ≠ 32 → W 9 0 j = X 9 0 j := fun j hj => by rw [wa, oa 9 (by decide) (by decide) (by decide) (by decide), kmu_j hj]
  have w932 : W 9 0 32 = X 70 0 m := by rw [wa, oa 9 (by decide) (by decide) (by decide) (by decide), kmu_eq]
  have w75 : W 75 = Xa 75 := (o1 75 (by decide) (by decide)).trans (fb 75 (by decide) (by decide))
  have w55 : W 55 = Xa 55 := (o1 55 (by decide) (by decide)).trans (fb 55 (by decide) (by decide))
  have w83 : W 83 = Xa 83 := (o1 83 (by decide) (by decide)).trans (fb 83 (by decide) (by decide))
  have w84 : W 84 = Xa 84 := (o1 84 (by decide) (by decide)).trans (fb 84 (by decide) (by decide))
  have wu : ∀ u, u ≠ u0 → (W 78 0 u = X 78 0 u ∧ W 80 0 u = X 80 0 u ∧ ¬ (1 ≤ u ∧ u ≤ X 9 0 26 ∧ X 78 0 u = 2 ∧ X 80 0 u = u0)) ∨ (1 ≤ u ∧ u ≤ X 9 0 26 ∧ W 78 0 u = 0 ∧ W 80 0 u = 0) := fun u hu => by
    rw [(o2 u hu).1, (o2 u hu).2]
    rcases ub u with ⟨k1, k2, k3⟩ | ⟨k1, k2, k3, k4, k5, k6⟩
    · exact Or.inl ⟨k1, k2, fun t => k3 ⟨t.1, by omega, t.2.2⟩⟩
    · exact Or.inr ⟨k1, k2, k5, k6⟩
  refine ⟨r2, ?_, ⟨fun u x y => ?_, fun u x y z => ?_, fun u x y z => ?_, fun u x y z t => ?_, fun m' x y => ?_, fun u x y => ?_, fun g x y => ?_⟩, wf, w9, w932, fun i i0 i1 => ?_⟩
  · refine kND_g rw nd (w9 15 (by decide)) (w9 26 (by decide)) (wf 70 (by decide) (by decide) (by decide) (by decide) (by decide) (by decide) (by decide) (by decide)) (wf 73 (by decide) (by decide) (by decide) (by decide) (by decide) (by decide) (by decide) (by decide)) (fun m' z => by rw [wf 68 (by decide) (by decide) (by decide) (by decide) (by decide) (by decide) (by decide) (by decide)] at z; exact z) (fun q q0 q1 => by rw [w75]; exact ca q q0 q1) (fun u z => ?_)
    by_cases e : u = u0
    · rw [e, o3] at z; omega
    · rcases wu u e with ⟨k1, k2, k3⟩ | ⟨k1, k2, k3, k4⟩
      · rw [k1] at z; rw [k2, w81]; exact ⟨z, rfl, rfl⟩
      · omega
  · rw [w9 26 (by decide)] at y
    rw [wf 79 (by decide) (by decide) (by decide) (by decide) (by decide) (by decide) (by decide) (by decide), w9 15 (by decide), wf 68 (by decide) (by decide) (by decide) (by decide) (by decide) (by decide) (by decide) (by decide), wf 71 (by decide) (by decide) (by decide) (by decide) (by decide) (by decide) (by decide) (by decide)]
    exact U0 u x y
  · rw [w9 26 (by decide)] at y
    rw [w9 15 (by decide)]
    by_cases e : u = u0
    · rw [e, o3] at z; omega
    · rcases wu u e with ⟨k1, k2, k3⟩ | ⟨k1, k2, k3, k4⟩
      · rw [k1] at z; rw [k2]; exact U1 u x y z
      · omega
  · rw [w9 26 (by decide)] at y ⊢
    by_cases e : u = u0
    · rw [e, o3] at z; omega
    · rcases wu u e with ⟨k1, k2, k3⟩ | ⟨k1, k2, k3, k4⟩
      · rw [k1] at z
        obtain ⟨b1, b2, b3⟩ := U2 u x y z
        rw [k2]
        refine ⟨b1, b2, ?_⟩
        have hne : X 80 0 u ≠ u0 := fun t => k3 ⟨x, y, z, t⟩
        rcases wu _ hne with ⟨k4, k5, k6⟩ | ⟨k4, k5, k6, k7⟩
        · rw [k4]; exact b3
        · omega
      · omega
  · rw [w9 26 (by decide)] at y
    by_cases e : u = u0
    · rw [e]; exact o4
    · rcases wu u e with ⟨k1, k2, k3⟩ | ⟨k1, k2, k3, k4⟩
      · rw [k1] at z t; rw [k2]; exact H0 u x y z t
      · exact k4
  · rw [w9 15 (by decide)] at x
    obtain ⟨a1, a2, a3⟩ := Fr m' x y
    rw [wf 69 (by decide) (by decide) (by decide) (by decide) (by decide) (by decide) (by decide) (by decide), wf 71 (by decide) (by decide) (by decide) (by decide) (by decide) (by decide) (by decide) (by decide), w75]
    refine ⟨a1, a2, fun p p0 p1 => ?_⟩
    rw [da _ (by omega)]
    exact a3 p p0 p1
  · rw [w9 26 (by decide)] at x
    have e : u ≠ u0 := by omega
    rcases wu u e with ⟨k1, k2, k3⟩ | ⟨k1, k2, k3, k4⟩
    · rw [k1, k2]; exact Fu u x y
    · omega
  · rw [w55]
    have := ba g x y
    omega
  · rw [w83, w84]
    exact ea' i i0 (by omega)
end
