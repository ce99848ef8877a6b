/-! ArrayList's members. -/
section
variable {E : Nat × Nat} {d c l : Nat} {h : ka_H} {Q : ka_Q} {A : ka_A} {V : ka_V} {M : ka_M}
theorem k180 (w : KW h A V M) {i : Int} (hv : V 10 i) : ka_W (kp E) (d, (180, 0, [some (.ref (A 10 i))], []), (h, c, l)) Q ↔ Q (.inl (some (iv (M 10 i 1)))) (h, c, l) := by
  simp only [r180_0, r180_1, r180_4, true_and, and_true, kk1_i, kk1_r, kk1_n, kk1_0, kcat_iv, kcat_ref, kcat_null, kisR_ref, kisR_null, ksz_nil, ksz_iv, ksz_ref, ksz_null, ksz_lv, kfit_int, kfit_long, kfit_obj, kfit_objN, kfit_arr, kfit_arrN, knarI, knarZ0, knarZ1, kret_v, kret_n, kret_x, Nat.reduceAdd, Nat.reduceLeDiff, w.o_10_1 hv, w.g_10_1 hv]
end
