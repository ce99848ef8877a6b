/-! The roles that stand, and no others; a kit comes into the book. -/
def kVI (V : ka_V) (C : ka_M) : Prop :=
  (∀ i, V 0 i → i = 0) ∧ (∀ i, V 32 i → i = 0) ∧ (∀ i, V 10 i → i = 0 ∨ i = 1 ∨ i = 2) ∧ (∀ i, V 3 i → 0 ≤ i ∧ i < C 10 0 1) ∧ (∀ i, V 4 i → 1 ≤ i ∧ i ≤ C 10 1 1) ∧ (∀ i, V 8 i → 1 ≤ i ∧ i ≤ C 10 2 1) ∧
  (∀ f i, f = 23 ∨ f = 24 → V f i → V 4 i) ∧ (∀ f i, f = 20 ∨ f = 21 ∨ f = 22 → V f i → V 6 i) ∧
  (∀ i, V 6 i → (∃ k q, 0 ≤ k ∧ k < C 10 0 1 ∧ 0 ≤ q ∧ q < C 3 k 3 ∧ i = 4 * k + q) ∨ (101 ≤ i ∧ i ≤ 100 + C 10 1 1)) ∧
  (∀ i, V 33 i → i = C 10 0 0 ∨ i = C 10 1 0 ∨ i = C 10 2 0)
/-- capacities and the broken rows -/
def kCp3 (C : ka_M) : Prop := kCap (C 10 0 0 % 1000) ∧ kCap (C 10 1 0 % 1000) ∧ kCap (C 10 2 0 % 1000) ∧ (C 0 0 5 = -1 ∨ (101 ≤ C 0 0 5 ∧ C 0 0 5 ≤ 100 + C 10 1 1))
def kBI (V : ka_V) (C X : ka_M) : Prop := kVI V C ∧ kRK V C X ∧ kRF V C X ∧ kBk X ∧ kCp3 C ∧ ∀ m, 1 ≤ m → m ≤ X 9 0 15 → 0 ≤ X 66 0 m ∧ X 66 0 m < X 9 0 7
section
variable {E : Nat × Nat} {d c l : Nat} {s : ka_S} {h : ka_H} {Q : ka_Q} {J : ka_H} {A : ka_A} {V V' : ka_V} {C C' R X X' : ka_M}
/-- the floor is left alone -/
theorem kRF_fr (F : kRF V C X) (hV : ∀ f q, f = 4 ∨ f = 8 ∨ f = 23 ∨ f = 24 ∨ ((f = 6 ∨ f = 20 ∨ f = 21 ∨ f = 22) ∧ 101 ≤ q) → V f q → V' f q) (hV33 : ∀ q, 1000 ≤ q → V 33 q → V' 33 q) (hC : ∀ f, f = 4 ∨ f = 8 ∨ f = 23 ∨ f = 24 ∨ f = 28 ∨ f = 29 → C' f = C f) (hCr : ∀ f q, f = 6 ∨ f = 20 ∨ f = 21 ∨ f = 22 → 101 ≤ q → C' f q = C f q) (hC10 : ∀ q, q = 1 ∨ q = 2 → C' 10 q = C 10 q) (hC33 : ∀ q, 1000 ≤ q → C' 33 q = C 33 q)
    (h15 : X' 9 0 15 = X 9 0 15) (h26 : X' 9 0 26 = X 9 0 26) (hX : ∀ f, f = 55 ∨ f = 66 ∨ f = 67 ∨ f = 68 ∨ f = 69 ∨ f = 70 ∨ f = 71 ∨ f = 72 ∨ f = 73 ∨ f = 74 ∨ f = 75 ∨ f = 77 ∨ f = 78 ∨ f = 79 ∨ f = 80 ∨ f = 81 → X' f = X f) (h58 : ∀ m, 1 ≤ m → m ≤ X 9 0 15 → X' 58 0 (X 66 0 m) = X 58 0 (X 66 0 m)) : kRF V' C' X' := by
  obtain ⟨F1, F2, F3, F4, F5, F6, F7, F8⟩ := F
  have ls : ∀ i, i = 1 ∨ i = 2 → kLs V C i → kLs V' C' i := by
    rintro i hi ⟨a, b, c', d', e, f⟩
    unfold kLs
    rw [hC10 i hi, hC33 _ (by omega)]
    exact ⟨a, b, c', d', fun z => hV33 _ (by omega) (e z), f⟩
  refine ⟨ls 1 (by omega) F1, ls 2 (by omega) F2, by rw [hC10 1 (by omega), h15]; exact F3, by rw [hC10 2 (by omega), h26]; exact F4, fun m a b => ?_, fun m p a b a' b' => ?_, fun u a b => ?_, fun g a b => ?_⟩
  · rw [h15] at b
    obtain ⟨M1, M2, M3, ⟨r1, r2, r3, r4⟩, M5, M6, M7, M8, M9, M10, M11, M12, M13, M14⟩ := F5 m a b
    unfold kRm
    rw [hC10 1 (by omega), hC33 _ (by have := F1.1; omega), hC 4 (by omega), hX 66 (by omega), hX 67 (by omega), hX 68 (by omega), hX 69 (by omega), hX 70 (by omega), hX 71 (by omega), h58 m a b, hCr 6 (100 + m) (by omega) (by omega)]
    exact ⟨hV 4 m (by omega) M1, hV 23 m (by omega) M2, hV 24 m (by omega) M3, ⟨hV 6 _ (by omega) r1, hV 20 _ (by omega) r2, hV 21 _ (by omega) r3, hV 22 _ (by omega) r4⟩, M5, M6, M7, M8, M9, M10, M11, M12, M13, M14⟩
  · rw [h15] at b
    rw [hX 70 (by omega)] at b'
    obtain ⟨P1, P2, P3, P4, P5⟩ := F6 m p a b a' b'
    unfold kRp
    rw [hCr 20 (100 + m) (by omega) (by omega), hCr 21 (100 + m) (by omega) (by omega), hCr 22 (100 + m) (by omega) (by omega), hC 23 (by omega), hC 24 (by omega), hX 72 (by omega), hX 73 (by omega), hX 74 (by omega), hX 68 (by omega), hX 71 (by omega), hX 75 (by omega), hX 78 (by omega), khu_c (R := X) h26 (hX 78 (by omega)) (hX 80 (by omega)) (hX 81 (by omega))]
    exact ⟨P1, P2, P3, P4, P5⟩
  · rw [h26] at b
    obtain ⟨U1, U2⟩ := F7 u a b
    unfold kRu
    rw [hC10 2 (by omega), hC33 _ (by have := F2.1; omega), hC 8 (by omega), hX 77 (by omega), hX 78 (by omega), hX 79 (by omega), hX 80 (by omega), hX 81 (by omega)]
    exact ⟨hV 8 u (by omega) U1, U2⟩
  · obtain ⟨G1, G2⟩ := F8 g a b
    rw [hC 28 (by omega), hC 29 (by omega), hX 55 (by omega), f149_c (R := X) h26 (hX 77 (by omega)) (hX 78 (by omega))]
    exact ⟨G1, G2⟩
theorem kBI.l0 (I : kBI V C X) (v : kLV V) : kAl V C 0 := by
  obtain ⟨⟨i0, i32, i10, i3, i4, i8, i23, i20, i6, i33⟩, K, F, B, ⟨p0, p1, p2, p3⟩, M⟩ := I
  obtain ⟨K1, K2, K3, K4, K5, K6, K7⟩ := K
  obtain ⟨F1, F2, F3, F4, F5, F6, F7, F8⟩ := F
  have := p0.le
  refine ⟨Or.inl rfl, v.2.1, K1, fun q a b c' => ?_, fun q a => ?_, by omega, fun j a b => ?_⟩
  · rcases i33 q a with z | z | z
    · exact z
    · have := F1.1; omega
    · have := F2.1; omega
  · rcases i10 q a with rfl | rfl | rfl
    · exact ⟨Or.inl rfl, K1.1, K1.2.1⟩
    · exact ⟨Or.inr (Or.inl rfl), F1.1, F1.2.1⟩
    · exact ⟨Or.inr (Or.inr rfl), F2.1, F2.2.1⟩
  · obtain ⟨k1, k2, -⟩ := K3 j a (by omega)
    rw [k2]
    exact ⟨a, k1⟩
end
