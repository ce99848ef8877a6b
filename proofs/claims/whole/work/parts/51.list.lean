/-! ArrayList's members. -/
section
variable {E : Nat × Nat} {d c l : Nat} {h : ka_H} {s : ka_S} {Q : ka_Q} {A : ka_A} {V : ka_V} {M : ka_M}
theorem k180 (w : KW h A V M) {i : Int} (hv : V 10 i) : ka_W (kp E) (d, (180, 0, [some (.ref (A 10 i))], []), (h, c, l)) Q ↔ Q (.inl (some (iv (M 10 i 1)))) (h, c, l) := by
  simp only [r180_0, r180_1, r180_4, true_and, and_true, kk1_i, kk1_r, kk1_n, kk1_0, kcat_iv, kcat_ref, kcat_null, kisR_ref, kisR_null, ksz_nil, ksz_iv, ksz_ref, ksz_null, ksz_lv, kfit_int, kfit_long, kfit_obj, kfit_objN, kfit_arr, kfit_arrN, knarI, knarZ0, knarZ1, kret_v, kret_n, kret_x, Nat.reduceAdd, Nat.reduceLeDiff, w.o_10_1 hv, w.g_10_1 hv]
theorem k191 {x n : Int} (h0 : 0 ≤ x) (h1 : x < n) (hn : n ≤ 2147483647) : ka_W (kp E) (d, (191, 0, [some (iv x), some (iv n), some .null], []), s) Q ↔ Q (.inl (some (iv x))) s := by
  have e1 : ¬ x < 0 := by omega
  simp (disch := (unfold kR; omega)) only [r191_0, r191_1, r191_4, r191_5, r191_6, r191_16, r191_17, true_and, and_true, kk1_i, kk1_r, kk1_n, kk1_0, kcat_iv, kcat_ref, kcat_null, kisR_ref, kisR_null, ksz_nil, ksz_iv, ksz_ref, ksz_null, ksz_lv, kfit_int, kfit_long, kfit_obj, kfit_objN, kfit_arr, kfit_arrN, knarI, knarZ0, knarZ1, kret_v, kret_n, kret_x, Nat.reduceAdd, Nat.reduceLeDiff, e1, h1, false_implies, true_implies, not_true_eq_false, not_false_eq_true]
theorem k188 {x n : Int} (h0 : 0 ≤ x) (h1 : x < n) (hn : n ≤ 2147483647) (hd : 1 ≤ d) : ka_W (kp E) (d, (188, 0, [some (iv x), some (iv n)], []), s) Q ↔ Q (.inl (some (iv x))) s := by
  have e8 : 0 ≤ 8 := by decide
  simp (disch := first | exact kcat_null | exact kcat_ref _ | assumption | omega) only [r188_0, r188_1, r188_2, r188_3, r188_6, true_and, and_true, kk1_i, kk1_r, kk1_n, kk1_0, kcat_iv, kcat_ref, kcat_null, kisR_ref, kisR_null, ksz_nil, ksz_iv, ksz_ref, ksz_null, ksz_lv, kfit_int, kfit_long, kfit_obj, kfit_objN, kfit_arr, kfit_arrN, knarI, knarZ0, knarZ1, kret_v, kret_n, kret_x, Nat.reduceAdd, Nat.reduceLeDiff, k191, hd, e8]
/-- a list's element array, where it isn't the empty one -/
theorem k181 (w : KW h A V M) {i x : Int} (hv : V 10 i) (he : M 10 i 0 % 1000 ≠ 0) (hve : V 33 (M 10 i 0)) (h0 : 0 ≤ x) (h1 : x < M 10 i 0 % 1000) (h2 : ka_isR (ke A 33 (M 10 i 0) x.toNat (M 33 (M 10 i 0) x)) = true) : ka_W (kp E) (d, (181, 0, [some (.ref (A 10 i)), some (iv x)], []), (h, c, l)) Q ↔ Q (.inl (some (ke A 33 (M 10 i 0) x.toNat (M 33 (M 10 i 0) x)))) (h, c, l) := by
  have g0 : kg h (A 10 i) 0 = .ref (A 33 (M 10 i 0)) := by
    rw [w.g_10_0 hv, if_neg he]
    rfl
  have hl : x.toNat < kl 33 (M 10 i 0) := by
    show x.toNat < (M 10 i 0 % 1000).toNat
    omega
  have o2 : ∃ t, 2000 ≤ t ∧ t < 3000 ∧ kok h (A 33 (M 10 i 0)) t x.toNat := ⟨2999, by decide, by decide, w.ok hve hl⟩
  have g2 := w.geta hve h0 hl
  have hm : M 10 i 0 % 1000 < 1000 := Int.emod_lt_of_pos _ (by decide)
  simp (disch := first | assumption | omega) only [r181_0, r181_1, r181_4, r181_5, r181_6, true_and, and_true, kk1_i, kk1_r, kk1_n, kk1_0, kcat_iv, kcat_ref, kcat_null, kisR_ref, kisR_null, ksz_nil, ksz_iv, ksz_ref, ksz_null, ksz_lv, kfit_int, kfit_long, kfit_obj, kfit_objN, kfit_arr, kfit_arrN, knarI, knarZ0, knarZ1, kret_v, kret_n, kret_x, Nat.reduceAdd, Nat.reduceLeDiff, w.o_10_0 hv, g0, o2, g2, h2]
/-- get, where the element there is the cell b -/
theorem k182 (w : KW h A V M) {i x : Int} {b : Nat} (hd : 2 ≤ d) (hv : V 10 i) (hve : V 33 (M 10 i 0)) (h0 : 0 ≤ x) (h1 : x < M 10 i 1) (h2 : M 10 i 1 ≤ M 10 i 0 % 1000) (hk : ke A 33 (M 10 i 0) x.toNat (M 33 (M 10 i 0) x) = .ref b) : ka_W (kp E) (d, (182, 0, [some (.ref (A 10 i)), some (iv x)], []), (h, c, l)) Q ↔ Q (.inl (some (.ref b))) (h, c, l) := by
  have he : M 10 i 0 % 1000 ≠ 0 := by omega
  have hm : M 10 i 0 % 1000 < 1000 := Int.emod_lt_of_pos _ (by decide)
  have d1 : 1 ≤ d := by omega
  have d2 : 1 ≤ d - 1 := by omega
  have hR : ka_isR (ke A 33 (M 10 i 0) x.toNat (M 33 (M 10 i 0) x)) = true := by rw [hk]; rfl
  have q1 : ∀ {Q : ka_Q}, ka_W (kp E) (d - 1, (188, 0, [some (iv x), some (iv (M 10 i 1))], []), (h, c, l)) Q ↔ Q (.inl (some (iv x))) (h, c, l) := k188 h0 h1 (by omega) d2
  have q2 : ∀ {Q : ka_Q}, ka_W (kp E) (d - 1, (181, 0, [some (.ref (A 10 i)), some (iv x)], []), (h, c, l)) Q ↔ Q (.inl (some (.ref b))) (h, c, l) := by
    intro Q
    rw [k181 w hv he hve h0 (by omega) hR, hk]
  have e8 : 0 ≤ 8 := by decide
  simp (disch := first | exact kcat_null | exact kcat_ref _ | assumption | omega) only [r182_0, r182_1, r182_2, r182_5, r182_8, r182_9, r182_10, r182_11, r182_14, true_and, and_true, kk1_i, kk1_r, kk1_n, kk1_0, kcat_iv, kcat_ref, kcat_null, kisR_ref, kisR_null, ksz_nil, ksz_iv, ksz_ref, ksz_null, ksz_lv, kfit_int, kfit_long, kfit_obj, kfit_objN, kfit_arr, kfit_arrN, knarI, knarZ0, knarZ1, kret_v, kret_n, kret_x, Nat.reduceAdd, Nat.reduceLeDiff, w.o_10_1 hv, w.g_10_1 hv, w.t_10 hv, q1, q2, d1, e8]
end
