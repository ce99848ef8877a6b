/-! A making begins. -/
/-- what the reference holds ready for new makings -/
def kFr (X : ka_M) : Prop := ∀ m, X 9 0 15 < m → m ≤ 40 → X 69 0 m = 0 ∧ X 71 0 m = 0 ∧ ∀ p, 0 ≤ p → p < 5 → X 75 0 (5 * m + p) = 0
section
variable {E : Nat × Nat} {d c l : Nat} {s : ka_S} {h : ka_H} {Q : ka_Q} {J : ka_H} {A A' : ka_A} {V V' : ka_V} {C C' C1 R X X' : ka_M}
theorem kBI_mk (rw : kRW V X) (I : kBI V C X) (fr : kFr X) (hU : kU1 X) {k w m : Int} (k0 : 0 ≤ k) (k1 : k < X 9 0 7) (w0 : 0 ≤ w) (w1 : w ≤ 4) (hm : X 9 0 15 + 1 = m) (hm40 : m ≤ 40)
    (hy : kCy C C1 (f138 X k) (100 + m) (X 61 0 (f138 X k)))
    (hv : kAv (kVm (kVr V (100 + m)) m) V' A A' 1 (C' 10 1 0)) (ha : kAdd (kCm C1 m k (X 58 0 k) w) C' 1 m) : kBI V' C' (f156b X k w) := by
  have B7 := rw.i7
  have B15 := rw.i15
  obtain ⟨b1, b2, b3, b4⟩ := f138_b rw I.2.2.2.1 (k := k) ⟨k0, by omega⟩
  obtain ⟨⟨i0, i32, i10, i3, i4, i8, i23, i20, i6, i33⟩, ⟨K1, K2, K3, K4, K5, K6, K7⟩, F, B, ⟨p0, p1, p2, p3⟩, M⟩ := I
  obtain ⟨F1, F2, F3, F4, F5, F6, F7, F8⟩ := F
  obtain ⟨o1, o2, o3, o66, o67, o68, o70, on, oo⟩ := f156b_q (X := X) (k := k) (w := w)
  have b61 := rw.a61 (j := f138 X k) (by omega) (by omega)
  have kq : ∃ q, f138 X k = 4 * k + q ∧ 0 ≤ q ∧ q < X 59 0 k := ⟨f138 X k - 4 * k, by omega, by omega, by omega⟩
  obtain ⟨qr, eq1, eq2, eq3⟩ := kq
  have R4 := K4 k qr k0 k1 eq2 eq3
  have R5 := fun p => K5 k qr p k0 k1 eq2 eq3
  rw [← eq1] at R4 R5
  rw [hm] at o1 o66 o67 o68 o70 on oo
  generalize f138 X k = b at *
  generalize hY : f156b X k w = Y at *
  obtain ⟨y1, y2, y3, y4, y5⟩ := hy
  obtain ⟨v1, v2, v3, v4⟩ := hv
  obtain ⟨a1, a2, a3, a4, a5, a6, a7, a8, a9, a10, a11⟩ := ha
  have e10 : kCm C1 m k (X 58 0 k) w 10 = C 10 := by
    rw [← y1 10 (by decide) (by decide) (by decide) (by decide)]
    funext i j
    unfold kCm
    simp
  have e33 : kCm C1 m k (X 58 0 k) w 33 = C 33 := by
    rw [← y1 33 (by decide) (by decide) (by decide) (by decide)]
    funext i j
    unfold kCm
    simp
  rw [e10] at a1 a4 a5 a6 a7 a8
  rw [e33] at a6
  have cf : ∀ f, f ≠ 6 → f ≠ 20 → f ≠ 21 → f ≠ 22 → f ≠ 4 → f ≠ 23 → f ≠ 24 → f ≠ 10 → f ≠ 33 → C' f = C f := by
    intro f h1 h2 h3 h4 h5 h6 h7 h8 h9
    rw [a9 f h8 h9, ← y1 f h1 h2 h3 h4]
    funext i j
    unfold kCm
    rw [if_neg (fun z => h5 z.1), if_neg (fun z => by omega)]
  have cr' : ∀ f i, f = 6 ∨ f = 20 ∨ f = 21 ∨ f = 22 → C' f i = C1 f i := by
    intro f i hf
    rw [a9 f (by omega) (by omega)]
    funext j
    unfold kCm
    rw [if_neg (fun z => by omega), if_neg (fun z => by omega)]
  have cr : ∀ f i, f = 6 ∨ f = 20 ∨ f = 21 ∨ f = 22 → i ≠ 100 + m → C' f i = C f i := fun f i hf hi => (cr' f i hf).trans (y2 f i hf hi)
  have c4 : ∀ f i, f = 4 ∨ f = 23 ∨ f = 24 → i ≠ m → C' f i = C f i := by
    intro f i hf hi
    rw [a9 f (by omega) (by omega), ← y1 f (by omega) (by omega) (by omega) (by omega)]
    funext j
    unfold kCm
    rw [if_neg (fun z => hi z.2), if_neg (fun z => hi z.2)]
  have c4m : ∀ j, C' 4 m j = if j = 0 then m else if j = 1 then k else if j = 2 then X 58 0 k else if j = 3 then w else 0 := by
    intro j
    rw [a9 4 (by decide) (by decide)]
    unfold kCm
    rw [if_pos ⟨rfl, rfl⟩]
  have c40 : C' 4 m 0 = m := c4m 0
  have c41 : C' 4 m 1 = k := c4m 1
  have c42 : C' 4 m 2 = X 58 0 k := c4m 2
  have c43 : C' 4 m 3 = w := c4m 3
  have c47 : C' 4 m 7 = 0 := c4m 7
  have c48 : C' 4 m 8 = 0 := c4m 8
  have c49 : C' 4 m 9 = 0 := c4m 9
  have c23 : ∀ f j, f = 23 ∨ f = 24 → C' f m j = 0 := by
    intro f j hf
    rw [a9 f (by omega) (by omega)]
    unfold kCm
    rw [if_neg (fun z => by omega), if_pos ⟨hf, rfl⟩]
  have c10 : ∀ q, q ≠ 1 → C' 10 q = C 10 q := fun q hq => by rw [a10 q hq, e10]
  have c33 : ∀ q, ¬ (1000 ≤ q ∧ q < 2000) → C' 33 q = C 33 q := fun q hq => by rw [a11 q (by omega), e33]
  have vv : ∀ f q, f ≠ 33 → (V' f q ↔ V f q ∨ ((f = 6 ∨ f = 20 ∨ f = 21 ∨ f = 22) ∧ q = 100 + m) ∨ ((f = 4 ∨ f = 23 ∨ f = 24) ∧ q = m)) := by
    intro f q hf
    rw [v1 f q (fun z => hf z.1)]
    unfold kVm kVr
    rw [or_assoc]
  have v33 : ∀ q, ¬ (1000 ≤ q ∧ q < 2000) → (V' 33 q ↔ V 33 q) := by
    intro q hq
    rw [v1 33 q (by omega)]
    unfold kVm kVr
    constructor
    · rintro ((z | z) | z)
      · exact z
      · omega
      · omega
    · intro z; exact Or.inl (Or.inl z)
  have n10 : C' 10 1 1 = m := by rw [a1, F3]; exact hm
  have hnm : ∀ i, V 4 i → i ≠ m := fun i z => by have := i4 i z; omega
  refine ⟨⟨fun i z => ?_, fun i z => ?_, fun i z => ?_, fun i z => ?_, fun i z => ?_, fun i z => ?_, fun f i hf z => ?_, fun f i hf z => ?_, fun i z => ?_, fun i z => ?_⟩, ⟨?_, ?_, fun k' b0 b1 => ?_, fun k' q b0 b1 q0 q1 => ?_, fun k' q p b0 b1 q0 q1 p0' p1' => ?_, fun q b0 b1 => ?_, fun a b0 b1 => ?_⟩, ⟨?_, ?_, ?_, ?_, fun m' b0 b1 => ?_, fun m' p b0 b1 c0 c1 => ?_, fun u b0 b1 => ?_, fun g b0 b1 => ?_⟩, ?_, ?_, fun m' b0 b1 => ?_⟩
  · rcases (vv 0 i (by decide)).mp z with z | z | z
    · exact i0 i z
    · omega
    · omega
  · rcases (vv 32 i (by decide)).mp z with z | z | z
    · exact i32 i z
    · omega
    · omega
  · rcases (vv 10 i (by decide)).mp z with z | z | z
    · exact i10 i z
    · omega
    · omega
  · rw [c10 0 (by decide)]
    rcases (vv 3 i (by decide)).mp z with z | z | z
    · exact i3 i z
    · omega
    · omega
  · rw [n10]
    rcases (vv 4 i (by decide)).mp z with z | z | z
    · have := i4 i z; omega
    · omega
    · omega
  · rw [c10 2 (by decide)]
    rcases (vv 8 i (by decide)).mp z with z | z | z
    · exact i8 i z
    · omega
    · omega
  · rcases (vv f i (by omega)).mp z with z | z | z
    · exact (vv 4 i (by decide)).mpr (Or.inl (i23 f i hf z))
    · omega
    · exact (vv 4 i (by decide)).mpr (Or.inr (Or.inr ⟨Or.inl rfl, z.2⟩))
  · rcases (vv f i (by omega)).mp z with z | z | z
    · exact (vv 6 i (by decide)).mpr (Or.inl (i20 f i hf z))
    · exact (vv 6 i (by decide)).mpr (Or.inr (Or.inl ⟨Or.inl rfl, z.2⟩))
    · omega
  · rw [n10, c10 0 (by decide), cf 3 (by decide) (by decide) (by decide) (by decide) (by decide) (by decide) (by decide) (by decide) (by decide)]
    rcases (vv 6 i (by decide)).mp z with z | z | z
    · rcases i6 i z with z | z
      · exact Or.inl z
      · right; omega
    · right; omega
    · omega
  · by_cases e : 1000 ≤ i ∧ i < 2000
    · exact Or.inr (Or.inl (v4 i z (by omega) (by omega)))
    · rw [c10 0 (by decide), c10 2 (by decide)]
      rcases i33 i ((v33 i e).mp z) with y | y | y
      · exact Or.inl y
      · have := F1.1; have := F1.2.1; omega
      · exact Or.inr (Or.inr y)
  · obtain ⟨l1, l2, l3, l4, l5, l6⟩ := K1
    unfold kLs
    rw [c10 0 (by decide)]
    exact ⟨l1, l2, l3, l4, fun z => (v33 _ (by omega)).mpr (l5 z), fun j a b => by rw [c33 _ (by omega)]; exact l6 j a b⟩
  · rw [c10 0 (by decide), o2 7 (by decide)]; exact K2
  · rw [o2 7 (by decide)] at b1
    obtain ⟨z1, z2, z3, z4, z5, z6⟩ := K3 k' b0 b1
    rw [cf 3 (by decide) (by decide) (by decide) (by decide) (by decide) (by decide) (by decide) (by decide) (by decide), c10 0 (by decide), c33 _ (by have := K1.1; have := K1.2.1; omega), o3 58 (by decide) (by decide) (by decide) (by decide) (by decide) (by decide) (by decide) (by decide), o3 59 (by decide) (by decide) (by decide) (by decide) (by decide) (by decide) (by decide) (by decide)]
    exact ⟨(vv 3 _ (by decide)).mpr (Or.inl z1), z2, z3, z4, z5, z6⟩
  · rw [o2 7 (by decide)] at b1
    rw [o3 59 (by decide) (by decide) (by decide) (by decide) (by decide) (by decide) (by decide) (by decide)] at q1
    have B59 := rw.a59 (j := k') b0 (by omega)
    obtain ⟨⟨z1, z2, z3, z4⟩, z5, z6, z7⟩ := K4 k' q b0 b1 q0 q1
    rw [cr 6 _ (by omega) (by omega), o3 60 (by decide) (by decide) (by decide) (by decide) (by decide) (by decide) (by decide) (by decide), o3 61 (by decide) (by decide) (by decide) (by decide) (by decide) (by decide) (by decide) (by decide)]
    exact ⟨⟨(vv 6 _ (by decide)).mpr (Or.inl z1), (vv 20 _ (by decide)).mpr (Or.inl z2), (vv 21 _ (by decide)).mpr (Or.inl z3), (vv 22 _ (by decide)).mpr (Or.inl z4)⟩, z5, z6, z7⟩
  · rw [o2 7 (by decide)] at b1
    rw [o3 59 (by decide) (by decide) (by decide) (by decide) (by decide) (by decide) (by decide) (by decide)] at q1
    rw [o3 61 (by decide) (by decide) (by decide) (by decide) (by decide) (by decide) (by decide) (by decide)] at p1'
    have B59 := rw.a59 (j := k') b0 (by omega)
    rw [cr 20 _ (by omega) (by omega), cr 21 _ (by omega) (by omega), cr 22 _ (by omega) (by omega), o3 62 (by decide) (by decide) (by decide) (by decide) (by decide) (by decide) (by decide) (by decide), o3 63 (by decide) (by decide) (by decide) (by decide) (by decide) (by decide) (by decide) (by decide), o3 64 (by decide) (by decide) (by decide) (by decide) (by decide) (by decide) (by decide) (by decide)]
    exact K5 k' q p b0 b1 q0 q1 p0' p1'
  · rw [cf 32 (by decide) (by decide) (by decide) (by decide) (by decide) (by decide) (by decide) (by decide) (by decide), o3 56 (by decide) (by decide) (by decide) (by decide) (by decide) (by decide) (by decide) (by decide)]
    exact K6 q b0 b1
  · rw [cf 25 (by decide) (by decide) (by decide) (by decide) (by decide) (by decide) (by decide) (by decide) (by decide)]
    obtain ⟨x1, x2, x3⟩ := K7 a b0 b1
    refine ⟨x1, x2, fun q q0 q1 => ?_⟩
    rw [x3 q q0 q1, klead_c (X := X) (o3 56 (by decide) (by decide) (by decide) (by decide) (by decide) (by decide) (by decide) (by decide)) (o3 59 (by decide) (by decide) (by decide) (by decide) (by decide) (by decide) (by decide) (by decide)) (o3 61 (by decide) (by decide) (by decide) (by decide) (by decide) (by decide) (by decide) (by decide)) (o3 62 (by decide) (by decide) (by decide) (by decide) (by decide) (by decide) (by decide) (by decide)) (o3 64 (by decide) (by decide) (by decide) (by decide) (by decide) (by decide) (by decide) (by decide))]
  · exact ⟨by omega, by omega, by rw [n10]; omega, by rw [n10]; omega, fun _ => v3, fun j b0 b1 => a8 j (by omega) b1⟩
  · obtain ⟨l1, l2, l3, l4, l5, l6⟩ := F2
    unfold kLs
    rw [c10 2 (by decide)]
    exact ⟨l1, l2, l3, l4, fun z => (v33 _ (by omega)).mpr (l5 z), fun j a b => by rw [c33 _ (by omega)]; exact l6 j a b⟩
  · rw [n10, o1]
  · rw [c10 2 (by decide), o2 26 (by decide)]; exact F4
  · rw [o1] at b1
    by_cases e : m' = m
    · subst e
      have fr' := fr m' (by omega) hm40
      have e7 : C' 33 (C' 10 1 0) (m' - 1) = m' := by
        have : m' - 1 = C 10 1 1 := by omega
        rw [this]; exact a7
      refine ⟨(vv 4 _ (by decide)).mpr (Or.inr (Or.inr ⟨by omega, rfl⟩)), (vv 23 _ (by decide)).mpr (Or.inr (Or.inr ⟨by omega, rfl⟩)), (vv 24 _ (by decide)).mpr (Or.inr (Or.inr ⟨by omega, rfl⟩)), ⟨(vv 6 _ (by decide)).mpr (Or.inr (Or.inl ⟨by omega, rfl⟩)), (vv 20 _ (by decide)).mpr (Or.inr (Or.inl ⟨by omega, rfl⟩)), (vv 21 _ (by decide)).mpr (Or.inr (Or.inl ⟨by omega, rfl⟩)), (vv 22 _ (by decide)).mpr (Or.inr (Or.inl ⟨by omega, rfl⟩))⟩, e7, ?_, ?_, ?_, ?_, ?_, ?_, ?_, ?_, ?_⟩
      · exact c40
      · rw [c41, o66, if_pos rfl]
      · rw [c42, o66, if_pos rfl, o3 58 (by decide) (by decide) (by decide) (by decide) (by decide) (by decide) (by decide) (by decide)]
      · rw [c43, o67, if_pos rfl]
      · rw [c47, o68, if_pos rfl]
      · rw [c48, o3 69 (by decide) (by decide) (by decide) (by decide) (by decide) (by decide) (by decide) (by decide), fr'.1]
      · rw [c49, o3 71 (by decide) (by decide) (by decide) (by decide) (by decide) (by decide) (by decide) (by decide), fr'.2.1]
      · rw [cr' 6 _ (by omega), o70, if_pos rfl]; exact y4
      · rw [cr' 6 _ (by omega)]; exact y3
    · obtain ⟨M1, M2, M3, ⟨r1, r2, r3, r4⟩, M5, M6, M7, M8, M9, M10, M11, M12, M13, M14⟩ := F5 m' b0 (by omega)
      unfold kRm
      rw [c4 4 m' (by omega) e, o66, if_neg e, o67, if_neg e, o68, if_neg e, o70, if_neg e, o3 69 (by decide) (by decide) (by decide) (by decide) (by decide) (by decide) (by decide) (by decide), o3 71 (by decide) (by decide) (by decide) (by decide) (by decide) (by decide) (by decide) (by decide), o3 58 (by decide) (by decide) (by decide) (by decide) (by decide) (by decide) (by decide) (by decide), cr 6 (100 + m') (by omega) (by omega), a6 (m' - 1) (by omega) (by omega)]
      exact ⟨(vv 4 _ (by decide)).mpr (Or.inl M1), (vv 23 _ (by decide)).mpr (Or.inl M2), (vv 24 _ (by decide)).mpr (Or.inl M3), ⟨(vv 6 _ (by decide)).mpr (Or.inl r1), (vv 20 _ (by decide)).mpr (Or.inl r2), (vv 21 _ (by decide)).mpr (Or.inl r3), (vv 22 _ (by decide)).mpr (Or.inl r4)⟩, M5, M6, M7, M8, M9, M10, M11, M12, M13, M14⟩
  · rw [o1] at b1
    rw [o70] at c1
    have hu : khu Y m' p = khu X m' p := khu_c (R := X) (o2 26 (by decide)) (o3 78 (by decide) (by decide) (by decide) (by decide) (by decide) (by decide) (by decide) (by decide)) (o3 80 (by decide) (by decide) (by decide) (by decide) (by decide) (by decide) (by decide) (by decide)) (o3 81 (by decide) (by decide) (by decide) (by decide) (by decide) (by decide) (by decide) (by decide)) m' p
    by_cases e : m' = m
    · subst e
      rw [if_pos rfl] at c1
      obtain ⟨n1, n2, n3⟩ := on p c0 c1
      obtain ⟨z1, z2, z3⟩ := y5 p c0 c1
      obtain ⟨t1, t2, t3⟩ := R5 p c0 c1
      have fr' := fr m' (by omega) hm40
      have h0 : khu X m' p = 0 := by
        unfold khu
        rw [kcn_0]
        rintro u u1 u2 ⟨h1, h2, h3⟩
        have := hU u u1 (by omega) h1
        omega
      refine ⟨by rw [cr' 20 _ (by omega), z1, t1, n1], by rw [cr' 21 _ (by omega), z2, t2, n2], by rw [cr' 22 _ (by omega), z3, t3, n3], fun _ => by rw [c23 24 p (by omega), hu, h0], fun _ => by
        rw [c23 23 p (by omega), o3 75 (by decide) (by decide) (by decide) (by decide) (by decide) (by decide) (by decide) (by decide)]
        exact (fr'.2.2 p c0 (by omega)).symm⟩
    · rw [if_neg e] at c1
      have B70 := rw.a70 (j := m') (by omega) (by omega)
      obtain ⟨P1, P2, P3, P4, P5⟩ := F6 m' p b0 (by omega) c0 c1
      obtain ⟨q1, q2, q3⟩ := oo (5 * m' + p) (by omega)
      unfold kRp
      rw [cr 20 (100 + m') (by omega) (by omega), cr 21 (100 + m') (by omega) (by omega), cr 22 (100 + m') (by omega) (by omega), c4 23 m' (by omega) e, c4 24 m' (by omega) e, q1, q2, q3, o68, if_neg e, hu, o3 71 (by decide) (by decide) (by decide) (by decide) (by decide) (by decide) (by decide) (by decide), o3 75 (by decide) (by decide) (by decide) (by decide) (by decide) (by decide) (by decide) (by decide), o3 78 (by decide) (by decide) (by decide) (by decide) (by decide) (by decide) (by decide) (by decide)]
      exact ⟨P1, P2, P3, P4, P5⟩
  · rw [o2 26 (by decide)] at b1
    obtain ⟨U1, U2⟩ := F7 u b0 b1
    unfold kRu
    rw [c10 2 (by decide), c33 _ (by have := F2.1; have := F2.2.1; omega), cf 8 (by decide) (by decide) (by decide) (by decide) (by decide) (by decide) (by decide) (by decide) (by decide), o3 77 (by decide) (by decide) (by decide) (by decide) (by decide) (by decide) (by decide) (by decide), o3 78 (by decide) (by decide) (by decide) (by decide) (by decide) (by decide) (by decide) (by decide), o3 79 (by decide) (by decide) (by decide) (by decide) (by decide) (by decide) (by decide) (by decide), o3 80 (by decide) (by decide) (by decide) (by decide) (by decide) (by decide) (by decide) (by decide), o3 81 (by decide) (by decide) (by decide) (by decide) (by decide) (by decide) (by decide) (by decide)]
    exact ⟨(vv 8 _ (by decide)).mpr (Or.inl U1), U2⟩
  · obtain ⟨G1, G2⟩ := F8 g b0 b1
    rw [cf 28 (by decide) (by decide) (by decide) (by decide) (by decide) (by decide) (by decide) (by decide) (by decide), cf 29 (by decide) (by decide) (by decide) (by decide) (by decide) (by decide) (by decide) (by decide) (by decide), o3 55 (by decide) (by decide) (by decide) (by decide) (by decide) (by decide) (by decide) (by decide), f149_c (R := X) (o2 26 (by decide)) (o3 77 (by decide) (by decide) (by decide) (by decide) (by decide) (by decide) (by decide) (by decide)) (o3 78 (by decide) (by decide) (by decide) (by decide) (by decide) (by decide) (by decide) (by decide))]
    exact ⟨G1, G2⟩
  · exact B.c (o3 56 (by decide) (by decide) (by decide) (by decide) (by decide) (by decide) (by decide) (by decide)) (o3 58 (by decide) (by decide) (by decide) (by decide) (by decide) (by decide) (by decide) (by decide)) (o3 59 (by decide) (by decide) (by decide) (by decide) (by decide) (by decide) (by decide) (by decide)) (o2 7 (by decide))
  · refine ⟨by rw [c10 0 (by decide)]; exact p0, ?_, by rw [c10 2 (by decide)]; exact p2, ?_⟩
    · rcases a5 with z | ⟨z1, z2⟩
      · rw [z]; exact p1
      · rw [z2]; exact p1.next (by omega)
    · rw [cf 0 (by decide) (by decide) (by decide) (by decide) (by decide) (by decide) (by decide) (by decide) (by decide), n10]
      rcases p3 with z | z
      · exact Or.inl z
      · right; omega
  · rw [o1] at b1
    rw [o66, o2 7 (by decide)]
    by_cases e : m' = m
    · rw [if_pos e]; exact ⟨k0, k1⟩
    · rw [if_neg e]; exact M m' b0 (by omega)
end
