/-! A making is done: what the reference writes, and the relation. -/
/-- what the reference holds ready for new units -/
def kFu (X : ka_M) : Prop := ∀ u, X 9 0 26 < u → u ≤ 60 → X 78 0 u = 0 ∧ X 80 0 u = 0
/-- the program's numbers of units behind the binding -/
def kBd (C C' : ka_M) (X : ka_M) (m w i : Int) : Prop := (∀ f, f ≠ 8 → C' f = C f) ∧ ∀ u, (¬ (1 ≤ u ∧ u ≤ i ∧ X 78 0 u = 1 ∧ X 80 0 u = m) → C' 8 u = C 8 u) ∧ (1 ≤ u → u ≤ i → X 78 0 u = 1 → X 80 0 u = m → (∀ j, j ≤ 2 → C' 8 u j = C 8 u j) ∧ C' 8 u 3 = 2 ∧ C' 8 u 4 = -1 ∧ C' 8 u 5 = -1 ∧ C' 8 u 6 = w)
section
variable {E : Nat × Nat} {d c l : Nat} {s : ka_S} {h : ka_H} {Q : ka_Q} {J : ka_H} {A A' : ka_A} {V V' : ka_V} {C C' C1 R X X' : ka_M}
theorem kbd_q {m w : Int} : ∀ (n : Nat) (a : Int) (Y : ka_M), (∀ f, f ≠ 78 → f ≠ 80 → kfd (kbd m w) n a Y f = Y f) ∧ ∀ u, kfd (kbd m w) n a Y 78 0 u = (if a ≤ u ∧ u < a + n ∧ Y 78 0 u = 1 ∧ Y 80 0 u = m then 2 else Y 78 0 u) ∧ kfd (kbd m w) n a Y 80 0 u = (if a ≤ u ∧ u < a + n ∧ Y 78 0 u = 1 ∧ Y 80 0 u = m then w else Y 80 0 u)
  | 0, a, Y => by
    refine ⟨fun _ _ _ => rfl, fun u => ?_⟩
    rw [if_neg (by omega), if_neg (by omega)]
    exact ⟨rfl, rfl⟩
  | n + 1, a, Y => by
    obtain ⟨h1, h2⟩ := kbd_q (m := m) (w := w) n (a + 1) (kbd m w a Y)
    have hf : ∀ f, f ≠ 78 → f ≠ 80 → kbd m w a Y f = Y f := by
      intro f x y
      unfold kbd
      split
      · rw [kmu_ff y, kmu_ff x]
      · rfl
    have h78 : ∀ u, kbd m w a Y 78 0 u = if u = a ∧ Y 78 0 a = 1 ∧ Y 80 0 a = m then 2 else Y 78 0 u := by
      intro u
      unfold kbd
      by_cases z : Y 78 0 a = 1 ∧ Y 80 0 a = m
      · rw [if_pos z, kmu_f (by decide)]
        by_cases e : u = a
        · rw [e, kmu_eq, if_pos ⟨rfl, z⟩]
        · rw [kmu_j e, if_neg (fun y => e y.1)]
      · rw [if_neg z, if_neg (fun y => z y.2)]
    have h80 : ∀ u, kbd m w a Y 80 0 u = if u = a ∧ Y 78 0 a = 1 ∧ Y 80 0 a = m then w else Y 80 0 u := by
      intro u
      unfold kbd
      by_cases z : Y 78 0 a = 1 ∧ Y 80 0 a = m
      · rw [if_pos z]
        by_cases e : u = a
        · rw [e, kmu_eq, if_pos ⟨rfl, z⟩]
        · rw [kmu_j e, kmu_f (by decide), if_neg (fun y => e y.1)]
      · rw [if_neg z, if_neg (fun y => z y.2)]
    unfold kfd
    refine ⟨fun f x y => (h1 f x y).trans (hf f x y), fun u => ?_⟩
    obtain ⟨g1, g2⟩ := h2 u
    by_cases e : u = a
    · subst e
      rw [if_neg (fun y => absurd y.1 (by omega))] at g1 g2
      rw [g1, g2, h78 u, h80 u]
      by_cases z : Y 78 0 u = 1 ∧ Y 80 0 u = m
      · exact ⟨(if_pos ⟨rfl, z⟩).trans (if_pos ⟨by omega, by omega, z⟩).symm, (if_pos ⟨rfl, z⟩).trans (if_pos ⟨by omega, by omega, z⟩).symm⟩
      · exact ⟨(if_neg (fun y => z y.2)).trans (if_neg (fun y => z y.2.2)).symm, (if_neg (fun y => z y.2)).trans (if_neg (fun y => z y.2.2)).symm⟩
    · have k78 : kbd m w a Y 78 0 u = Y 78 0 u := (h78 u).trans (if_neg (fun y => e y.1))
      have k80 : kbd m w a Y 80 0 u = Y 80 0 u := (h80 u).trans (if_neg (fun y => e y.1))
      rw [k78, k80] at g1 g2
      rw [g1, g2]
      by_cases z : a + 1 ≤ u ∧ u < a + 1 + n ∧ Y 78 0 u = 1 ∧ Y 80 0 u = m
      · exact ⟨(if_pos z).trans (if_pos ⟨by omega, by omega, z.2.2⟩).symm, (if_pos z).trans (if_pos ⟨by omega, by omega, z.2.2⟩).symm⟩
      · exact ⟨(if_neg z).trans (if_neg (fun y => z ⟨by omega, by omega, y.2.2⟩)).symm, (if_neg z).trans (if_neg (fun y => z ⟨by omega, by omega, y.2.2⟩)).symm⟩
theorem f163b_q {m : Int} (h26 : 0 ≤ X 9 0 26) : f163b X m 9 0 26 = X 9 0 26 + 1 ∧ (∀ j, j ≠ 26 → f163b X m 9 0 j = X 9 0 j) ∧ (∀ f, f ≠ 9 → f ≠ 77 → f ≠ 78 → f ≠ 79 → f ≠ 80 → f ≠ 68 → f ≠ 71 → f163b X m f = X f) ∧
    (∀ u, f163b X m 77 0 u = if u = X 9 0 26 + 1 then X 58 0 (X 66 0 m) else X 77 0 u) ∧ (∀ u, f163b X m 79 0 u = if u = X 9 0 26 + 1 then m else X 79 0 u) ∧ (∀ q, f163b X m 68 0 q = if q = m then 1 else X 68 0 q) ∧ (∀ q, f163b X m 71 0 q = if q = m then X 9 0 26 + 1 else X 71 0 q) ∧
    (∀ u, f163b X m 78 0 u = if u = X 9 0 26 + 1 then 0 else if 1 ≤ u ∧ u ≤ X 9 0 26 ∧ X 78 0 u = 1 ∧ X 80 0 u = m then 2 else X 78 0 u) ∧ (∀ u, f163b X m 80 0 u = if 1 ≤ u ∧ u ≤ X 9 0 26 ∧ X 78 0 u = 1 ∧ X 80 0 u = m then X 9 0 26 + 1 else X 80 0 u) := by
  obtain ⟨h1, h2⟩ := kbd_q (m := m) (w := X 9 0 26 + 1) (X 9 0 26).toNat 1 X
  unfold f163b
  generalize kfd (kbd m (X 9 0 26 + 1)) (X 9 0 26).toNat 1 X = Z at *
  have e : ∀ u, (1 ≤ u ∧ u < 1 + ((X 9 0 26).toNat : Int) ∧ X 78 0 u = 1 ∧ X 80 0 u = m) ↔ (1 ≤ u ∧ u ≤ X 9 0 26 ∧ X 78 0 u = 1 ∧ X 80 0 u = m) := by
    intro u
    constructor
    · rintro ⟨a, b, c'⟩; exact ⟨a, by omega, c'⟩
    · rintro ⟨a, b, c'⟩; exact ⟨a, by omega, c'⟩
  simp only [e] at h2
  generalize X 9 0 26 + 1 = w at *
  refine ⟨?_, fun j hj => ?_, fun f a b c' d' e' a' b' => ?_, fun u => ?_, fun u => ?_, fun q => ?_, fun q => ?_, fun u => ?_, fun u => ?_⟩
  · rw [kmu_f (by decide), kmu_f (by decide), kmu_f (by decide), kmu_f (by decide), kmu_f (by decide), kmu_eq]
  · rw [kmu_f (by decide), kmu_f (by decide), kmu_f (by decide), kmu_f (by decide), kmu_f (by decide), kmu_j hj, h1 9 (by decide) (by decide)]
  · rw [kmu_ff b', kmu_ff a', kmu_ff d', kmu_ff c', kmu_ff b, kmu_ff a, h1 f c' e']
  · rw [kmu_f (by decide), kmu_f (by decide), kmu_f (by decide), kmu_f (by decide)]
    by_cases z : u = w
    · rw [z, kmu_eq, if_pos rfl]
    · rw [kmu_j z, if_neg z, kmu_f (by decide), h1 77 (by decide) (by decide)]
  · rw [kmu_f (by decide), kmu_f (by decide)]
    by_cases z : u = w
    · rw [z, kmu_eq, if_pos rfl]
    · rw [kmu_j z, if_neg z, kmu_f (by decide), kmu_f (by decide), kmu_f (by decide), h1 79 (by decide) (by decide)]
  · rw [kmu_f (by decide)]
    by_cases z : q = m
    · rw [z, kmu_eq, if_pos rfl]
    · rw [kmu_j z, if_neg z, kmu_f (by decide), kmu_f (by decide), kmu_f (by decide), kmu_f (by decide), h1 68 (by decide) (by decide)]
  · by_cases z : q = m
    · rw [z, kmu_eq, if_pos rfl]
    · rw [kmu_j z, if_neg z, kmu_f (by decide), kmu_f (by decide), kmu_f (by decide), kmu_f (by decide), kmu_f (by decide), h1 71 (by decide) (by decide)]
  · rw [kmu_f (by decide), kmu_f (by decide), kmu_f (by decide)]
    by_cases z : u = w
    · rw [z, kmu_eq, if_pos rfl]
    · rw [kmu_j z, if_neg z, kmu_f (by decide), kmu_f (by decide)]
      exact (h2 u).1
  · rw [kmu_f (by decide), kmu_f (by decide), kmu_f (by decide), kmu_f (by decide), kmu_f (by decide), kmu_f (by decide)]
    exact (h2 u).2
end
