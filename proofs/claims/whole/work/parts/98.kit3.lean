/-! A kit comes into the book. -/
section
variable {E : Nat × Nat} {d c l : Nat} {s : ka_S} {h : ka_H} {Q : ka_Q} {J : ka_H} {A : ka_A} {V V' : ka_V} {C C' R X X' : ka_M}
theorem f123_o {g : Int} : f123 X g 9 0 7 = X 9 0 7 + 1 ∧ (∀ j, j ≠ 7 → f123 X g 9 0 j = X 9 0 j) ∧ (∀ q, f123 X g 56 0 q = if q = g then X 9 0 7 else X 56 0 q) ∧ (∀ q, f123 X g 58 0 q = if q = X 9 0 7 then g else X 58 0 q) ∧ (∀ q, f123 X g 59 0 q = if q = X 9 0 7 then 1 else X 59 0 q) ∧ (∀ q, f123 X g 60 0 q = if q = 4 * X 9 0 7 then 0 else X 60 0 q) ∧ (∀ q, f123 X g 61 0 q = if q = 4 * X 9 0 7 then 0 else X 61 0 q) ∧ ∀ f, f ≠ 9 → f ≠ 56 → f ≠ 58 → f ≠ 59 → f ≠ 60 → f ≠ 61 → f123 X g f = X f := by
  refine ⟨kmu_eq, fun j hj => f123_9 hj, fun q => ?_, fun q => ?_, fun q => ?_, fun q => ?_, fun q => ?_, fun f a b c' d' e e' => ?_⟩
  · unfold f123
    rw [kmu_f (by decide)]
    by_cases e : q = g
    · subst e; rw [kmu_eq, if_pos rfl]
    · rw [kmu_j e, kmu_f (by decide), kmu_f (by decide), kmu_f (by decide), kmu_f (by decide), if_neg e]
  · unfold f123
    rw [kmu_f (by decide), kmu_f (by decide), kmu_f (by decide), kmu_f (by decide), kmu_f (by decide)]
    by_cases e : q = X 9 0 7
    · subst e; rw [kmu_eq, if_pos rfl]
    · rw [kmu_j e, if_neg e]
  · unfold f123
    rw [kmu_f (by decide), kmu_f (by decide), kmu_f (by decide), kmu_f (by decide)]
    by_cases e : q = X 9 0 7
    · subst e; rw [kmu_eq, if_pos rfl]
    · rw [kmu_j e, if_neg e, kmu_f (by decide)]
  · unfold f123
    rw [kmu_f (by decide), kmu_f (by decide), kmu_f (by decide)]
    by_cases e : q = 4 * X 9 0 7
    · subst e; rw [kmu_eq, if_pos rfl]
    · rw [kmu_j e, if_neg e, kmu_f (by decide), kmu_f (by decide)]
  · unfold f123
    rw [kmu_f (by decide), kmu_f (by decide)]
    by_cases e : q = 4 * X 9 0 7
    · subst e; rw [kmu_eq, if_pos rfl]
    · rw [kmu_j e, if_neg e, kmu_f (by decide), kmu_f (by decide), kmu_f (by decide)]
  · unfold f123
    rw [kmu_ff a, kmu_ff b, kmu_ff e', kmu_ff e, kmu_ff d', kmu_ff c']
theorem f123_lead (bk : kBk X) {g a b : Int} (g0 : 0 ≤ g) (hg : X 56 0 g = -1) (n0 : 0 ≤ X 9 0 7) (h4 : ∀ k, 0 ≤ k → k < X 9 0 7 → X 59 0 k ≤ 4) (a0 : 0 ≤ a) (a1 : a < 20) : klead (f123 X g) a b ↔ klead X a b := by
  obtain ⟨o1, o2, o3, o4, o5, o6, o7, o8⟩ := f123_o (X := X) (g := g)
  unfold klead kPr kP
  rw [o3, o8 62 (by decide) (by decide) (by decide) (by decide) (by decide) (by decide), o8 64 (by decide) (by decide) (by decide) (by decide) (by decide) (by decide)]
  by_cases e : a = g
  · subst e
    rw [if_pos rfl]
    constructor
    · rintro ⟨h1, q, q0, q1, p, p0, p1, h2⟩
      rw [o5, if_pos rfl] at q1
      have : q = 0 := by omega
      subst this
      rw [o7, if_pos (by omega)] at p1
      omega
    · rintro ⟨h1, -⟩
      exact absurd hg h1
  · rw [if_neg e]
    by_cases h1 : X 56 0 a = -1
    · simp [h1]
    · have hb := bk.2.2.1 a a0 a1 h1
      have e5 : f123 X g 59 0 (X 56 0 a) = X 59 0 (X 56 0 a) := by rw [o5, if_neg (by omega)]
      have e7 : ∀ q, 0 ≤ q → q < X 59 0 (X 56 0 a) → X 59 0 (X 56 0 a) ≤ 4 → f123 X g 61 0 (4 * X 56 0 a + q) = X 61 0 (4 * X 56 0 a + q) := by
        intro q a' b' c'
        rw [o7, if_neg (by omega)]
      rw [e5]
      refine and_congr_right (fun _ => exists_congr (fun q => ?_))
      constructor
      · rintro ⟨q0, q1, p, p0, p1, h2⟩
        refine ⟨q0, q1, p, p0, ?_, h2⟩
        rw [o7] at p1
        by_cases w : 4 * X 56 0 a + q = 4 * X 9 0 7
        · rw [if_pos w] at p1; omega
        · rw [if_neg w] at p1; exact p1
      · rintro ⟨q0, q1, p, p0, p1, h2⟩
        refine ⟨q0, q1, p, p0, ?_, h2⟩
        rw [o7]
        by_cases w : 4 * X 56 0 a + q = 4 * X 9 0 7
        · have := h4 (X 56 0 a) (by omega) (by omega)
          omega
        · rw [if_neg w]; exact p1
/-- what a kit's coming leaves -/
theorem kBI_kit (rw : kRW V X) (I : kBI V C X) {g : Int} (g0 : 0 ≤ g) (g1 : g < 20) (hg : X 56 0 g = -1) (hn : X 9 0 7 < 20)
    {A A' : ka_A} (hv : kAv (kVk V (X 9 0 7)) V' A A' 0 (C' 10 0 0)) (ha : kAdd (kmu (kCk C (X 9 0 7) g) 32 0 g (X 9 0 7)) C' 0 (X 9 0 7)) : kBI V' C' (f123 X g) := by
  have B7 := rw.i7
  obtain ⟨⟨i0, i32, i10, i3, i4, i8, i23, i20, i6, i33⟩, K, F, B, ⟨p0, p1, p2, p3⟩, M⟩ := I
  obtain ⟨K1, K2, K3, K4, K5, K6, K7⟩ := K
  have F' := F
  obtain ⟨F1, F2, F3, F4, F5, F6, F7, F8⟩ := F'
  obtain ⟨o1, o2, o3, o4, o5, o6, o7, o8⟩ := f123_o (X := X) (g := g)
  obtain ⟨v1, v2, v3, v4⟩ := hv
  generalize hk : X 9 0 7 = k at *
  -- the program's numbers before the add
  have e10 : kmu (kCk C k g) 32 0 g k 10 = C 10 := by
    rw [kmu_ff (by decide)]
    funext i j
    unfold kCk kCr
    simp
  have e33 : kmu (kCk C k g) 32 0 g k 33 = C 33 := by
    rw [kmu_ff (by decide)]
    funext i j
    unfold kCk kCr
    simp
  obtain ⟨a1, a2, a3, a4, a5, a6, a7, a8, a9, a10, a11⟩ := ha
  rw [e10] at a1 a4 a5 a6 a7 a8
  rw [e33] at a6
  have cf : ∀ f, f ≠ 3 → f ≠ 6 → f ≠ 20 → f ≠ 21 → f ≠ 22 → f ≠ 32 → f ≠ 10 → f ≠ 33 → C' f = C f := by
    intro f h1 h2 h3 h4 h5 h6 h7 h8
    rw [a9 f h7 h8, kmu_ff h6]
    funext i j
    unfold kCk kCr
    rw [if_neg (fun w => h1 w.1), if_neg (fun w => h2 w.1), if_neg (fun w => by omega)]
  have c3 : ∀ i j, i ≠ k → C' 3 i j = C 3 i j := by
    intro i j hne
    rw [a9 3 (by decide) (by decide), kmu_f (by decide)]
    unfold kCk kCr
    rw [if_neg (fun w => hne w.2), if_neg (fun w => absurd w.1 (by decide)), if_neg (fun w => by omega)]
  have c3k : ∀ j, C' 3 k j = if j = 0 then k else if j = 1 then g else if j = 2 then 4 * k else if j = 3 then 1 else -1 := by
    intro j
    rw [a9 3 (by decide) (by decide), kmu_f (by decide)]
    unfold kCk
    rw [if_pos ⟨rfl, rfl⟩]
  have c3k0 : C' 3 k 0 = k := (c3k 0).trans (if_pos rfl)
  have c3k1 : C' 3 k 1 = g := (c3k 1).trans (by rw [if_neg (by decide), if_pos rfl])
  have c3k2 : C' 3 k 2 = 4 * k := (c3k 2).trans (by rw [if_neg (by decide), if_neg (by decide), if_pos rfl])
  have c3k3 : C' 3 k 3 = 1 := (c3k 3).trans (by rw [if_neg (by decide), if_neg (by decide), if_neg (by decide), if_pos rfl])
  have cr : ∀ f i, f = 6 ∨ f = 20 ∨ f = 21 ∨ f = 22 → i ≠ 4 * k → C' f i = C f i := by
    intro f i hf hne
    rw [a9 f (by omega) (by omega), kmu_ff (by omega)]
    funext j
    unfold kCk kCr
    rw [if_neg (fun w => by omega), if_neg (fun w => hne w.2), if_neg (fun w => hne w.2)]
  have c6k : C' 6 (4 * k) 0 = 0 ∧ C' 6 (4 * k) 1 = -1 ∧ C' 6 (4 * k) 5 = 0 := by
    rw [a9 6 (by decide) (by decide), kmu_ff (by decide)]
    unfold kCk kCr
    simp
  have c32 : ∀ q, C' 32 0 q = if q = g then k else C 32 0 q := by
    intro q
    rw [a9 32 (by decide) (by decide)]
    by_cases e : q = g
    · rw [e, kmu_eq, if_pos rfl]
    · rw [kmu_j e, if_neg e]
      unfold kCk kCr
      simp
  have c10 : ∀ q, q ≠ 0 → C' 10 q = C 10 q := fun q hq => by rw [a10 q hq, e10]
  have c33 : ∀ q, 1000 ≤ q → C' 33 q = C 33 q := fun q hq => by rw [a11 q (by omega), e33]
  -- roles
  have vv : ∀ f q, f ≠ 33 → (V' f q ↔ V f q ∨ ((f = 6 ∨ f = 20 ∨ f = 21 ∨ f = 22) ∧ q = 4 * k) ∨ (f = 3 ∧ q = k)) := by
    intro f q hf
    rw [v1 f q (fun w => hf w.1)]
    unfold kVk kVr
    rw [or_assoc]
  have v33 : ∀ q, 1000 ≤ q → (V' 33 q ↔ V 33 q) := by
    intro q hq
    rw [v1 33 q (by omega)]
    unfold kVk kVr
    constructor
    · rintro ((z | z) | z)
      · exact z
      · omega
      · omega
    · intro z; exact Or.inl (Or.inl z)
  have n10 : C' 10 0 1 = k + 1 := by rw [a1, K2]
  refine ⟨⟨fun i z => ?_, fun i z => ?_, fun i z => ?_, fun i z => ?_, fun i z => ?_, fun i z => ?_, fun f i hf z => ?_, fun f i hf z => ?_, fun i z => ?_, fun i z => ?_⟩, ⟨?_, ?_, fun k' b0 b1 => ?_, fun k' q b0 b1 q0 q1 => ?_, fun k' q p b0 b1 q0 q1 p0' p1' => ?_, fun q b0 b1 => ?_, fun a b0 b1 => ?_⟩, ?_, ?_, ?_, fun m b0 b1 => ?_⟩
  · rcases (vv 0 i (by decide)).mp z with z | z | z
    · exact i0 i z
    · omega
    · omega
  · rcases (vv 32 i (by decide)).mp z with z | z | z
    · exact i32 i z
    · omega
    · omega
  · rcases (vv 10 i (by decide)).mp z with z | z | z
    · exact i10 i z
    · omega
    · omega
  · rw [n10]
    rcases (vv 3 i (by decide)).mp z with z | z | z
    · have := i3 i z; omega
    · omega
    · omega
  · rw [c10 1 (by decide)]
    rcases (vv 4 i (by decide)).mp z with z | z | z
    · exact i4 i z
    · omega
    · omega
  · rw [c10 2 (by decide)]
    rcases (vv 8 i (by decide)).mp z with z | z | z
    · exact i8 i z
    · omega
    · omega
  · rcases (vv f i (by omega)).mp z with z | z | z
    · exact (vv 4 i (by decide)).mpr (Or.inl (i23 f i hf z))
    · omega
    · omega
  · rcases (vv f i (by omega)).mp z with z | z | z
    · exact (vv 6 i (by decide)).mpr (Or.inl (i20 f i hf z))
    · exact (vv 6 i (by decide)).mpr (Or.inr (Or.inl ⟨Or.inl rfl, z.2⟩))
    · omega
  · rw [n10, c10 1 (by decide)]
    rcases (vv 6 i (by decide)).mp z with z | z | z
    · rcases i6 i z with ⟨k', q, b0, b1, b2, b3, b4⟩ | z
      · exact Or.inl ⟨k', q, b0, by omega, b2, by rw [c3 k' 3 (by omega)]; exact b3, b4⟩
      · exact Or.inr z
    · exact Or.inl ⟨k, 0, by omega, by omega, by omega, by rw [c3k3]; decide, by omega⟩
    · omega
  · by_cases e : 1000 ≤ i
    · rw [c10 1 (by decide), c10 2 (by decide)]
      rcases i33 i ((v33 i e).mp z) with y | y | y
      · have := K1.2.1; omega
      · exact Or.inr (Or.inl y)
      · exact Or.inr (Or.inr y)
    · by_cases e2 : 0 ≤ i
      · exact Or.inl (v4 i z (by omega) (by omega))
      · exfalso
        rw [v1 33 i (by omega)] at z
        unfold kVk kVr at z
        have : V 33 i := by
          rcases z with (z | z) | z
          · exact z
          · omega
          · omega
        rcases i33 i this with y | y | y
        · have := K1.1; omega
        · have := F1.1; omega
        · have := F2.1; omega
  · exact ⟨a2, a3, by omega, by rw [n10]; omega, fun _ => v3, fun j b0 b1 => a8 j (by omega) b1⟩
  · rw [n10, o1]
  · rw [o1] at b1
    by_cases e : k' = k
    · subst e
      refine ⟨(vv 3 _ (by decide)).mpr (Or.inr (Or.inr ⟨rfl, rfl⟩)), by rw [← K2]; rw [K2]; exact K2 ▸ a7, ?_, ?_, ?_, ?_⟩
      · exact c3k0
      · rw [c3k1, o4, if_pos rfl]
      · rw [c3k2, o5, if_pos rfl]
        omega
      · rw [c3k3, o5, if_pos rfl]
    · obtain ⟨x1, x2, x3, x4, x5, x6⟩ := K3 k' b0 (by omega)
      refine ⟨(vv 3 _ (by decide)).mpr (Or.inl x1), by rw [a6 k' b0 (by omega)]; exact x2, ?_, ?_, ?_, ?_⟩
      · rw [c3 k' 0 e]; exact x3
      · rw [c3 k' 1 e, o4, if_neg e]; exact x4
      · rw [c3 k' 2 e, o5, if_neg e]; exact x5
      · rw [c3 k' 3 e, o5, if_neg e]; exact x6
  · rw [o1] at b1
    rw [o5] at q1
    by_cases e : k' = k
    · subst e
      rw [if_pos rfl] at q1
      have : q = 0 := by omega
      subst this
      have e4 : 4 * k' + 0 = 4 * k' := by omega
      rw [e4]
      refine ⟨⟨(vv 6 _ (by decide)).mpr (Or.inr (Or.inl ⟨by omega, rfl⟩)), (vv 20 _ (by decide)).mpr (Or.inr (Or.inl ⟨by omega, rfl⟩)), (vv 21 _ (by decide)).mpr (Or.inr (Or.inl ⟨by omega, rfl⟩)), (vv 22 _ (by decide)).mpr (Or.inr (Or.inl ⟨by omega, rfl⟩))⟩, ?_, ?_, ?_⟩
      · rw [o6, if_pos rfl]; exact c6k.1
      · rw [if_pos rfl]; exact c6k.2.1
      · rw [o7, if_pos rfl]; exact c6k.2.2
    · rw [if_neg e] at q1
      have B59 := rw.a59 (j := k') b0 (by omega)
      obtain ⟨⟨x1, x2, x3, x4⟩, x5, x6, x7⟩ := K4 k' q b0 (by omega) q0 q1
      have hne : 4 * k' + q ≠ 4 * k := by omega
      refine ⟨⟨(vv 6 _ (by decide)).mpr (Or.inl x1), (vv 20 _ (by decide)).mpr (Or.inl x2), (vv 21 _ (by decide)).mpr (Or.inl x3), (vv 22 _ (by decide)).mpr (Or.inl x4)⟩, ?_, ?_, ?_⟩
      · rw [cr 6 _ (by omega) hne, o6, if_neg hne]; exact x5
      · rw [cr 6 _ (by omega) hne]; exact x6
      · rw [cr 6 _ (by omega) hne, o7, if_neg hne]; exact x7
  · rw [o1] at b1
    rw [o5] at q1
    by_cases e : k' = k
    · subst e
      rw [if_pos rfl] at q1
      have : q = 0 := by omega
      subst this
      rw [o7, if_pos (by omega)] at p1'
      omega
    · rw [if_neg e] at q1
      have B59 := rw.a59 (j := k') b0 (by omega)
      have hne : 4 * k' + q ≠ 4 * k := by omega
      rw [o7, if_neg hne] at p1'
      rw [cr 20 _ (by omega) hne, cr 21 _ (by omega) hne, cr 22 _ (by omega) hne, o8 62 (by decide) (by decide) (by decide) (by decide) (by decide) (by decide), o8 63 (by decide) (by decide) (by decide) (by decide) (by decide) (by decide), o8 64 (by decide) (by decide) (by decide) (by decide) (by decide) (by decide)]
      exact K5 k' q p b0 (by omega) q0 q1 p0' p1'
  · rw [c32, o3]
    split
    · rfl
    · exact K6 q b0 b1
  · rw [cf 25 (by decide) (by decide) (by decide) (by decide) (by decide) (by decide) (by decide) (by decide)]
    obtain ⟨x1, x2, x3⟩ := K7 a b0 b1
    refine ⟨x1, x2, fun q q0 q1 => ?_⟩
    rw [x3 q q0 q1, f123_lead B g0 hg (by omega) (fun k' y0 y1 => (rw.a59 (j := k') y0 (by omega)).2) b0 b1]
  · refine kRF_fr F (fun f q hf z => (vv f q (by omega)).mpr (Or.inl z)) (fun q hq z => (v33 q hq).mpr z) (fun f hf => cf f (by omega) (by omega) (by omega) (by omega) (by omega) (by omega) (by omega) (by omega)) (fun f q hf hq => cr f q hf (by omega)) (fun q hq => c10 q (by omega)) c33 (o2 15 (by decide)) (o2 26 (by decide)) (fun f hf => o8 f (by omega) (by omega) (by omega) (by omega) (by omega) (by omega)) (fun m b0 b1 => ?_)
    have := M m b0 b1
    rw [o4, if_neg (by omega)]
  · exact f123_bk rw B g0 g1 hg
  · refine ⟨?_, by rw [c10 1 (by decide)]; exact p1, by rw [c10 2 (by decide)]; exact p2, ?_⟩
    · rcases a5 with z | ⟨z1, z2⟩
      · rw [z]; exact p0
      · rw [z2]; exact p0.next (by omega)
    · rw [cf 0 (by decide) (by decide) (by decide) (by decide) (by decide) (by decide) (by decide) (by decide), c10 1 (by decide)]
      exact p3
  · rw [o2 15 (by decide)] at b1
    have := M m b0 b1
    rw [o8 66 (by decide) (by decide) (by decide) (by decide) (by decide) (by decide), o1]
    omega
end
