/-! Counting. -/
/-- how many of 1..n -/
noncomputable def kcn (p : Int → Prop) : Nat → Int
  | 0 => 0
  | n + 1 => kcn p n + kb (p (n + 1))
theorem kb_b (p : Prop) : 0 ≤ kb p ∧ kb p ≤ 1 := by
  by_cases h : p
  · rw [kb_t h]; omega
  · rw [kb_f h]; omega
theorem kcn_b (p : Int → Prop) : ∀ n : Nat, 0 ≤ kcn p n ∧ kcn p n ≤ n
  | 0 => by unfold kcn; omega
  | n + 1 => by
    have := kcn_b p n
    have := kb_b (p (n + 1))
    unfold kcn
    omega
theorem kcn_c {p q : Int → Prop} : ∀ n : Nat, (∀ j, 1 ≤ j → j ≤ (n : Int) → (p j ↔ q j)) → kcn p n = kcn q n
  | 0, _ => rfl
  | n + 1, h => by
    unfold kcn
    rw [kcn_c n (fun j h1 h2 => h j h1 (by omega)), kb_c (h (n + 1) (by omega) (by omega))]
/-- one place changes -/
theorem kcn_u {p q : Int → Prop} {u : Int} : ∀ n : Nat, 1 ≤ u → u ≤ (n : Int) → (∀ j, j ≠ u → 1 ≤ j → j ≤ (n : Int) → (p j ↔ q j)) → kcn q n = kcn p n + kb (q u) - kb (p u)
  | 0, h1, h2, _ => by omega
  | n + 1, h1, h2, h => by
    unfold kcn
    by_cases e : u = n + 1
    · subst e
      rw [kcn_c (p := q) (q := p) n (fun j a b => (h j (by omega) a (by omega)).symm)]
      omega
    · have := kcn_u n h1 (by omega) (fun j a b c => h j a b (by omega))
      rw [this, kb_c (h (n + 1) (by omega) (by omega) (by omega))]
      omega
theorem kcn_mono {p q : Int → Prop} : ∀ n : Nat, (∀ j, 1 ≤ j → j ≤ (n : Int) → p j → q j) → kcn p n ≤ kcn q n
  | 0, _ => Int.le_refl _
  | n + 1, h => by
    have := kcn_mono n (fun j a b => h j a (by omega))
    have h2 := h (n + 1) (by omega) (by omega)
    unfold kcn
    by_cases e : p (n + 1)
    · rw [kb_t e, kb_t (h2 e)]; omega
    · rw [kb_f e]
      have := kb_b (q (n + 1))
      omega
theorem kcn_lt {p q : Int → Prop} {u : Int} : ∀ n : Nat, (∀ j, 1 ≤ j → j ≤ (n : Int) → p j → q j) → 1 ≤ u → u ≤ (n : Int) → ¬ p u → q u → kcn p n + 1 ≤ kcn q n
  | 0, _, h1, h2, _, _ => by omega
  | n + 1, h, h1, h2, h3, h4 => by
    unfold kcn
    by_cases e : u = n + 1
    · subst e
      have := kcn_mono n (fun j a b => h j a (by omega))
      rw [kb_f h3, kb_t h4]
      omega
    · have := kcn_lt n (fun j a b => h j a (by omega)) h1 (by omega) h3 h4
      have h5 := h (n + 1) (by omega) (by omega)
      by_cases e : p (n + 1)
      · rw [kb_t e, kb_t (h5 e)]; omega
      · rw [kb_f e]
        have := kb_b (q (n + 1))
        omega
theorem kcn_0 {p : Int → Prop} : ∀ n : Nat, kcn p n = 0 ↔ ∀ j, 1 ≤ j → j ≤ (n : Int) → ¬ p j
  | 0 => ⟨fun _ j a b => by omega, fun _ => rfl⟩
  | n + 1 => by
    have h1 := kcn_b p n
    have h2 := kb_b (p (n + 1))
    have ih := kcn_0 (p := p) n
    unfold kcn
    constructor
    · intro h j a b
      by_cases e : j = n + 1
      · subst e
        exact (kb_0 _).mp (by omega)
      · exact ih.mp (by omega) j a (by omega)
    · intro h
      have := ih.mpr (fun j a b => h j a (by omega))
      have := (kb_0 _).mpr (h (n + 1) (by omega) (by omega))
      omega
