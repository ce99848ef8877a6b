/-! First contracts: the reference's small methods. -/
section
variable {E : Nat × Nat} {d : Nat} {s : ka_S} {Q : ka_Q}
theorem k119 {x lo hi : Int} (h1 : kR x) (h2 : kR lo) (h3 : kR hi) : ka_W (kp E) (d, (119, 0, [some (iv x), some (iv lo), some (iv hi)], []), s) Q ↔ Q (.inl (some (iv (if lo ≤ x ∧ x ≤ hi then 1 else 0)))) s := by
  simp (disch := assumption) only [r119_0, r119_1, r119_2, r119_5, r119_6, r119_7, r119_10, r119_11, r119_14, r119_15, true_and, and_true, kk1_i, kk1_r, kk1_n, kk1_0, kcat_iv, kcat_ref, kcat_null, kisR_ref, kisR_null, ksz_nil, ksz_iv, ksz_ref, ksz_null, ksz_lv, kfit_int, kfit_long, kfit_obj, kfit_objN, kfit_arr, kfit_arrN, knarI, knarZ0, knarZ1, kret_v, kret_n, kret_x, Nat.reduceAdd, Nat.reduceLeDiff]
  by_cases c1 : x < lo
  · have : ¬ (lo ≤ x ∧ x ≤ hi) := by omega
    simp [c1, this]
  · by_cases c2 : hi < x
    · have : ¬ (lo ≤ x ∧ x ≤ hi) := by omega
      simp [c1, c2, this]
    · have : lo ≤ x ∧ x ≤ hi := by omega
      simp [c1, c2, this]
theorem k120 {x : Int} (h1 : kR x) : ka_W (kp E) (d, (120, 0, [some (iv x)], []), s) Q ↔ 1 ≤ d ∧ Q (.inl (some (iv (if 0 ≤ x ∧ x ≤ 19 then 1 else 0)))) s := by
  have h0 : kR 0 := by unfold kR; omega
  have h19 : kR 19 := by unfold kR; omega
  simp (disch := assumption) only [r120_0, r120_1, r120_2, r120_4, r120_7, true_and, and_true, kk1_i, kk1_r, kk1_n, kk1_0, kcat_iv, kcat_ref, kcat_null, kisR_ref, kisR_null, ksz_nil, ksz_iv, ksz_ref, ksz_null, ksz_lv, kfit_int, kfit_long, kfit_obj, kfit_objN, kfit_arr, kfit_arrN, knarI, knarZ0, knarZ1, kret_v, kret_n, kret_x, Nat.reduceAdd, Nat.reduceLeDiff, k119]
  by_cases c : 0 ≤ x ∧ x ≤ 19 <;> simp [c, knarZ0, knarZ1]
end
theorem knarZ {p : Prop} [Decidable p] : narrow .boolean (iv (if p then 1 else 0)) = iv (if p then 1 else 0) := by
  split <;> rfl
/-- how far on from recipe r today's is -/
def ktd (M : ka_M) (k : Int) : Nat → Int → Int
  | 0, r => r
  | n + 1, r => if r + 1 < M 59 0 k ∧ M 60 0 (4 * k + r + 1) ≤ M 9 0 1 then ktd M k n (r + 1) else r
