/-! The reference's small methods, over its memory. -/
section
variable {E : Nat × Nat} {d c l : Nat} {h : ka_H} {s : ka_S} {Q : ka_Q} {A : ka_A} {V : ka_V} {M : ka_M}
theorem kR_lit {x : Int} (h1 : -2147483648 ≤ x) (h2 : x ≤ 2147483647) : kR x := ⟨h1, h2⟩
theorem k118 (w : KW h A V M) (hv : V 9 0) : ka_W (kp E) (d, (118, 0, [some (.ref (A 9 0))], []), (h, c, l)) Q ↔ Q (.inl (some (iv (M 9 0 0)))) (h, c, l) := by
  simp only [r118_0, r118_1, r118_4, true_and, and_true, kk1_i, kk1_r, kk1_n, kk1_0, kcat_iv, kcat_ref, kcat_null, kisR_ref, kisR_null, ksz_nil, ksz_iv, ksz_ref, ksz_null, ksz_lv, kfit_int, kfit_long, kfit_obj, kfit_objN, kfit_arr, kfit_arrN, knarI, knarZ0, knarZ1, kret_v, kret_n, kret_x, Nat.reduceAdd, Nat.reduceLeDiff, w.o_9_0 hv, w.g_9_0 hv]
theorem knarZ {p : Prop} [Decidable p] : narrow .boolean (iv (if p then 1 else 0)) = iv (if p then 1 else 0) := by
  split <;> rfl
theorem k121 (w : KW h A V M) (hv : V 9 0) {x : Int} (hd : 1 ≤ d) (hx : kR x) (h1 : 0 ≤ M 9 0 7) (h2 : M 9 0 7 ≤ 1000) : ka_W (kp E) (d, (121, 0, [some (.ref (A 9 0)), some (iv x)], []), (h, c, l)) Q ↔ Q (.inl (some (iv (if 0 ≤ x ∧ x ≤ M 9 0 7 - 1 then 1 else 0)))) (h, c, l) := by
  have e8 : 0 ≤ 8 := by decide
  have r0 : kR 0 := by unfold kR; omega
  have r1 : kR (M 9 0 7 - 1) := by unfold kR; omega
  simp (disch := assumption) only [r121_0, r121_1, r121_2, r121_3, r121_6, r121_7, r121_8, r121_11, true_and, and_true, kk1_i, kk1_r, kk1_n, kk1_0, kcat_iv, kcat_ref, kcat_null, kisR_ref, kisR_null, ksz_nil, ksz_iv, ksz_ref, ksz_null, ksz_lv, kfit_int, kfit_long, kfit_obj, kfit_objN, kfit_arr, kfit_arrN, knarI, knarZ0, knarZ1, kret_v, kret_n, kret_x, Nat.reduceAdd, Nat.reduceLeDiff, w.o_9_7 hv, w.g_9_7 hv, k119, hd, e8, knarZ]
theorem k157 (w : KW h A V M) (hv : V 9 0) {x : Int} (hd : 1 ≤ d) (hx : kR x) (h1 : 0 ≤ M 9 0 15) (h2 : M 9 0 15 ≤ 1000) : ka_W (kp E) (d, (157, 0, [some (.ref (A 9 0)), some (iv x)], []), (h, c, l)) Q ↔ Q (.inl (some (iv (if 1 ≤ x ∧ x ≤ M 9 0 15 then 1 else 0)))) (h, c, l) := by
  have e8 : 0 ≤ 8 := by decide
  have r0 : kR 1 := by unfold kR; omega
  have r1 : kR (M 9 0 15) := by unfold kR; omega
  simp (disch := assumption) only [r157_0, r157_1, r157_2, r157_3, r157_6, r157_9, true_and, and_true, kk1_i, kk1_r, kk1_n, kk1_0, kcat_iv, kcat_ref, kcat_null, kisR_ref, kisR_null, ksz_nil, ksz_iv, ksz_ref, ksz_null, ksz_lv, kfit_int, kfit_long, kfit_obj, kfit_objN, kfit_arr, kfit_arrN, knarI, knarZ0, knarZ1, kret_v, kret_n, kret_x, Nat.reduceAdd, Nat.reduceLeDiff, w.o_9_15 hv, w.g_9_15 hv, k119, hd, e8, knarZ]
theorem k165 (w : KW h A V M) (hv : V 9 0) {x : Int} (hd : 1 ≤ d) (hx : kR x) (h1 : 0 ≤ M 9 0 26) (h2 : M 9 0 26 ≤ 1000) : ka_W (kp E) (d, (165, 0, [some (.ref (A 9 0)), some (iv x)], []), (h, c, l)) Q ↔ Q (.inl (some (iv (if 1 ≤ x ∧ x ≤ M 9 0 26 then 1 else 0)))) (h, c, l) := by
  have e8 : 0 ≤ 8 := by decide
  have r0 : kR 1 := by unfold kR; omega
  have r1 : kR (M 9 0 26) := by unfold kR; omega
  simp (disch := assumption) only [r165_0, r165_1, r165_2, r165_3, r165_6, r165_9, true_and, and_true, kk1_i, kk1_r, kk1_n, kk1_0, kcat_iv, kcat_ref, kcat_null, kisR_ref, kisR_null, ksz_nil, ksz_iv, ksz_ref, ksz_null, ksz_lv, kfit_int, kfit_long, kfit_obj, kfit_objN, kfit_arr, kfit_arrN, knarI, knarZ0, knarZ1, kret_v, kret_n, kret_x, Nat.reduceAdd, Nat.reduceLeDiff, w.o_9_26 hv, w.g_9_26 hv, k119, hd, e8, knarZ]
end
