/-! The reference: today's recipe, the last recipe and its last part. -/
/-- how far on from recipe r today's is -/
def ktd (M : ka_M) (k : Int) : Nat → Int → Int
  | 0, r => r
  | n + 1, r => if r + 1 < M 59 0 k ∧ M 60 0 (4 * k + r + 1) ≤ M 9 0 1 then ktd M k n (r + 1) else r
section
variable {E : Nat × Nat} {d c l : Nat} {h : ka_H} {s : ka_S} {Q : ka_Q} {A : ka_A} {V : ka_V} {M : ka_M}
theorem k138_l (w : KW h A V M) (hv : V 9 0) (h59 : V 59 0) (h60 : V 60 0) {k : Int} (k0 : 0 ≤ k) (k1 : k < 21) (t0 : 0 ≤ M 9 0 1) (t1 : M 9 0 1 ≤ 1000) (hn0 : 0 ≤ M 59 0 k) (hn1 : M 59 0 k ≤ 4) (hs : ∀ j, 0 ≤ j → j < 84 → kR (M 60 0 j)) :
    ∀ (n : Nat) (r : Int), 0 ≤ r → r ≤ 4 → M 59 0 k ≤ r + 1 + n → (ka_W (kp E) (d, (138, 2, [some (.ref (A 9 0)), some (iv k), some (iv r)], []), (h, c, l)) Q ↔ Q (.inl (some (iv (4 * k + ktd M k n r)))) (h, c, l))
  | n, r, r0, r1, hr => by
    by_cases c1 : r + 1 < M 59 0 k
    · cases n with
      | zero => omega
      | succ n =>
        have r4 : kR (M 9 0 1) := by unfold kR; omega
        have r5 : kR (M 60 0 (4 * k + r + 1)) := hs _ (by omega) (by omega)
        have ih := k138_l w hv h59 h60 k0 k1 t0 t1 hn0 hn1 hs n (r + 1) (by omega) (by omega) (by omega)
        have c1' : ¬ M 59 0 k ≤ r + 1 := by omega
        by_cases c2 : M 60 0 (4 * k + r + 1) ≤ M 9 0 1
        · have c2' : ¬ M 9 0 1 < M 60 0 (4 * k + r + 1) := by omega
          simp (disch := first | assumption | omega | (unfold kR; omega)) only [r138_2, r138_3, r138_4, r138_5, r138_6, r138_9, r138_10, r138_11, r138_14, r138_15, r138_18, r138_19, r138_20, r138_21, r138_22, r138_23, r138_24, r138_25, r138_26, r138_27, r138_30, r138_33, r138_36, r138_39, r138_40, true_and, and_true, kk1_i, kk1_r, kk1_n, kk1_0, kcat_iv, kcat_ref, kcat_null, kisR_ref, kisR_null, ksz_nil, ksz_iv, ksz_ref, ksz_null, ksz_lv, kfit_int, kfit_long, kfit_obj, kfit_objN, kfit_arr, kfit_arrN, knarI, knarZ0, knarZ1, kret_v, kret_n, kret_x, Nat.reduceAdd, Nat.reduceLeDiff, w.o_9_9 hv, w.g_9_9 hv, w.o_9_10 hv, w.g_9_10 hv, w.o_9_1 hv, w.g_9_1 hv, w.oa_59 h59, w.ga_59 h59, w.oa_60 h60, w.ga_60 h60, true_or, c1', c2', false_implies, true_implies, not_false_eq_true, ih]
          simp only [ktd, c1, c2, and_self, if_true]
        · have c2' : M 9 0 1 < M 60 0 (4 * k + r + 1) := by omega
          simp (disch := first | assumption | omega | (unfold kR; omega)) only [r138_2, r138_3, r138_4, r138_5, r138_6, r138_9, r138_10, r138_11, r138_14, r138_15, r138_18, r138_19, r138_20, r138_21, r138_22, r138_23, r138_24, r138_25, r138_26, r138_27, r138_30, r138_33, r138_36, r138_39, r138_40, r138_41, r138_42, r138_43, r138_44, true_and, and_true, kk1_i, kk1_r, kk1_n, kk1_0, kcat_iv, kcat_ref, kcat_null, kisR_ref, kisR_null, ksz_nil, ksz_iv, ksz_ref, ksz_null, ksz_lv, kfit_int, kfit_long, kfit_obj, kfit_objN, kfit_arr, kfit_arrN, knarI, knarZ0, knarZ1, kret_v, kret_n, kret_x, Nat.reduceAdd, Nat.reduceLeDiff, w.o_9_9 hv, w.g_9_9 hv, w.o_9_10 hv, w.g_9_10 hv, w.o_9_1 hv, w.g_9_1 hv, w.oa_59 h59, w.ga_59 h59, w.oa_60 h60, w.ga_60 h60, true_or, c1', c2', false_implies, true_implies, not_false_eq_true, not_true_eq_false]
          simp only [ktd, c2, and_false, if_false]
    · have c1' : M 59 0 k ≤ r + 1 := by omega
      simp (disch := first | assumption | omega | (unfold kR; omega)) only [r138_2, r138_3, r138_4, r138_5, r138_6, r138_9, r138_10, r138_11, r138_14, r138_15, r138_18, r138_19, r138_20, r138_21, r138_22, r138_23, r138_24, r138_25, r138_26, r138_27, r138_30, r138_33, r138_36, r138_39, r138_40, r138_41, r138_42, r138_43, r138_44, true_and, and_true, kk1_i, kk1_r, kk1_n, kk1_0, kcat_iv, kcat_ref, kcat_null, kisR_ref, kisR_null, ksz_nil, ksz_iv, ksz_ref, ksz_null, ksz_lv, kfit_int, kfit_long, kfit_obj, kfit_objN, kfit_arr, kfit_arrN, knarI, knarZ0, knarZ1, kret_v, kret_n, kret_x, Nat.reduceAdd, Nat.reduceLeDiff, w.o_9_9 hv, w.g_9_9 hv, w.o_9_10 hv, w.g_9_10 hv, w.o_9_1 hv, w.g_9_1 hv, w.oa_59 h59, w.ga_59 h59, true_or, c1', false_implies, true_implies, not_false_eq_true, not_true_eq_false]
      cases n <;> simp only [ktd, c1, false_and, if_false]
end
