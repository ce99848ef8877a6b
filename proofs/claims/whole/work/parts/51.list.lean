/-! ArrayList's members. -/
theorem kl_obj10 (i : Int) : kl 10 i = 3 := rfl
theorem kt_10 : kt 10 = 10 := rfl
theorem ke_10_1 (A : ka_A) (i x : Int) : ke A 10 i 1 x = iv x := rfl
section
variable {E : Nat × Nat} {d c l : Nat} {h : ka_H} {Q : ka_Q} {A : ka_A} {V : ka_V} {M : ka_M}
theorem k180 (w : KW h A V M) {i : Int} (hv : V 10 i) : ka_W (kp E) (d, (180, 0, [some (.ref (A 10 i))], []), (h, c, l)) Q ↔ Q (.inl (some (iv (M 10 i 1)))) (h, c, l) := by
  have o1 : kok h (A 10 i) 10 1 := w.ok hv (by decide)
  have g1 : kg h (A 10 i) 1 = iv (M 10 i 1) := w.get hv (by decide)
  simp only [r180_0, r180_1, r180_4, true_and, and_true, kk1_i, kk1_r, kk1_n, kk1_0, kcat_iv, kcat_ref, kcat_null, kisR_ref, kisR_null, ksz_nil, ksz_iv, ksz_ref, ksz_null, ksz_lv, kfit_int, kfit_long, kfit_obj, kfit_objN, kfit_arr, kfit_arrN, knarI, knarZ0, knarZ1, kret_v, kret_n, kret_x, Nat.reduceAdd, Nat.reduceLeDiff, o1, g1]
end
