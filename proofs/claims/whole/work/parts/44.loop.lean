/-! Loops that count; truth as a number. -/
def kfd {α : Type} (f : Int → α → α) : Nat → Int → α → α
  | 0, _, a => a
  | k + 1, i, a => kfd f k (i + 1) (f i a)
theorem kfor {α : Type} {W inv : Int → α → Prop} {f : Int → α → α} {n : Int} (hs : ∀ i a, i < n → inv i a → inv (i + 1) (f i a) ∧ (W i a ↔ W (i + 1) (f i a))) :
    ∀ (k : Nat) (i : Int) (a : α), i + k = n → inv i a → (W i a ↔ W n (kfd f k i a)) ∧ inv n (kfd f k i a)
  | 0, i, a, h, hi => by
    have : i = n := by omega
    subst this
    exact ⟨Iff.rfl, hi⟩
  | k + 1, i, a, h, hi => by
    obtain ⟨h1, h2⟩ := hs i a (by omega) hi
    obtain ⟨h3, h4⟩ := kfor hs k (i + 1) (f i a) (by omega) h1
    exact ⟨h2.trans h3, h4⟩
/-- a fact that every step keeps -/
theorem kfd_inv {α : Type} {P : Int → α → Prop} {f : Int → α → α} : ∀ (k : Nat) (i : Int) (a : α), (∀ j b, i ≤ j → j < i + k → P j b → P (j + 1) (f j b)) → P i a → P (i + k) (kfd f k i a)
  | 0, i, a, _, h => by
    have e : i + ((0 : Nat) : Int) = i := by omega
    rw [e]
    exact h
  | k + 1, i, a, hs, h => by
    have h1 := hs i a (by omega) (by omega) h
    have := kfd_inv k (i + 1) (f i a) (fun j b h1 h2 => hs j b (by omega) (by omega)) h1
    have e : i + ((k + 1 : Nat) : Int) = i + 1 + (k : Int) := by omega
    rw [e]
    exact this
noncomputable def kb (p : Prop) : Int := @ite Int p (Classical.propDecidable p) 1 0
theorem kb_t {p : Prop} (h : p) : kb p = 1 := if_pos h
theorem kb_f {p : Prop} (h : ¬ p) : kb p = 0 := if_neg h
theorem kb_c {p q : Prop} (h : p ↔ q) : kb p = kb q := by rw [propext h]
theorem kb_d {p : Prop} [Decidable p] : kb p = if p then 1 else 0 := by
  by_cases h : p
  · rw [kb_t h, if_pos h]
  · rw [kb_f h, if_neg h]
theorem kb_r (p : Prop) : kR (kb p) := by
  by_cases h : p
  · rw [kb_t h]; unfold kR; omega
  · rw [kb_f h]; unfold kR; omega
theorem kb_0 (p : Prop) : kb p = 0 ↔ ¬ p := by
  by_cases h : p
  · rw [kb_t h]; simp [h]
  · rw [kb_f h]; simp [h]
theorem kb_n (p : Prop) : narrow .boolean (iv (kb p)) = iv (kb p) := by
  by_cases h : p
  · rw [kb_t h]; rfl
  · rw [kb_f h]; rfl
/-! What a comparison of longs answers. -/
section
variable {w x : Int}
theorem klc_R : kR (if w < x then 1 else if x = w then 0 else -1) := by
  unfold kR
  split
  · omega
  · split <;> omega
theorem klc_lt : ((if w < x then 1 else if x = w then 0 else -1 : Int) < 0) ↔ x < w := by
  split
  · omega
  · split <;> omega
theorem klc_ge : (0 ≤ (if w < x then 1 else if x = w then 0 else -1 : Int)) ↔ w ≤ x := by
  split
  · omega
  · split <;> omega
theorem klc_le : ((if w < x then 1 else if x = w then 0 else -1 : Int) ≤ 0) ↔ x ≤ w := by
  split
  · omega
  · split <;> omega
theorem klc_gt : (0 < (if w < x then 1 else if x = w then 0 else -1 : Int)) ↔ w < x := by
  split
  · omega
  · split <;> omega
theorem klc_eq : ((if w < x then 1 else if x = w then 0 else -1 : Int) = 0) ↔ x = w := by
  split
  · omega
  · split <;> omega
end
