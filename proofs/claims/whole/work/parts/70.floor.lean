/-! The reference: loose and held pieces. -/
theorem kcn_s {p : Int → Prop} {u : Int} (h : 1 ≤ u) : kcn p u.toNat = kcn p (u - 1).toNat + kb (p u) := by
  have e : u.toNat = (u - 1).toNat + 1 := by omega
  rw [e]
  have e2 : (((u - 1).toNat : Nat) : Int) + 1 = u := by omega
  show kcn p (u - 1).toNat + kb (p (((u - 1).toNat : Nat) + 1)) = _
  rw [e2]
noncomputable def f149 (R : ka_M) (g : Int) : Int := kcn (fun u => R 77 0 u = g ∧ R 78 0 u = 0) (R 9 0 26).toNat
noncomputable def f150 (R : ka_M) (g : Int) : Int := R 55 0 g + f149 R g
/-- units held by making m for a part -/
noncomputable def khu (R : ka_M) (m p : Int) : Int := kcn (fun u => R 78 0 u = 1 ∧ R 80 0 u = m ∧ R 81 0 u = p) (R 9 0 26).toNat
noncomputable def f151 (R : ka_M) (m p : Int) : Int := R 75 0 (5 * m + p) + khu R m p
section
variable {E : Nat × Nat} {d c l : Nat} {s : ka_S} {Q : ka_Q} {J : ka_H} {A : ka_A} {V : ka_V} {C R : ka_M}
theorem j149 (hA : kJ A V) (v : kLV V) (r : kRW V R) {g : Int} (g0 : 0 ≤ g) (g1 : g < 20) : ka_W (kp E) (d, (149, 0, [some (.ref (A 9 0)), some (iv g), none, none], []), (kHp J A V C R, c, l)) Q ↔ Q (.inl (some (iv (f149 R g)))) (kHp J A V C R, c, l) := by
  have B := r.i26
  have K := kcn_b (fun u => R 77 0 u = g ∧ R 78 0 u = 0)
  obtain ⟨w, -⟩ := kfor (α := Unit) (n := R 9 0 26 + 1) (f := fun _ a => a) (inv := fun u _ => 1 ≤ u) (W := fun u _ => ka_W (kp E) (d, (149, 4, [some (.ref (A 9 0)), some (iv g), some (iv (kcn (fun u => R 77 0 u = g ∧ R 78 0 u = 0) (u - 1).toNat)), some (iv u)], []), (kHp J A V C R, c, l)) Q) (fun u _ hu u1 => by
    refine ⟨by omega, ?_⟩
    have e : (u + 1 - 1).toNat = u.toNat := by omega
    have B1 := r.a77 (j := u) (by omega) (by omega)
    have B2 := r.a78 (j := u) (by omega) (by omega)
    have K1 := K (u - 1).toNat
    rw [e, kcn_s u1, r149_4]
    by_cases h1 : R 77 0 u = g
    · by_cases h2 : R 78 0 u = 0
      · rw [kb_t ⟨h1, h2⟩]
        simp (disch := first | assumption | (unfold kR; decide) | exact klc_R | (unfold kR; omega) | omega | (unfold kL; omega) | exact kcat_null | exact kcat_ref _ | exact kcat_iv _) only [r149_5, r149_6, r149_9, r149_12, r149_13, r149_14, r149_17, r149_18, r149_19, r149_20, r149_23, r149_24, r149_27, r149_28, r149_29, r149_32, r149_33, r149_36, r149_37, r149_38, r149_39, r149_42, ho_9_26 hA v.l9, hg_9_26 hA v.l9, ho_9_27 hA v.l9, hg_9_27 hA v.l9, hoa_77 hA v.l77, hga_77 hA v.l77, ho_9_28 hA v.l9, hg_9_28 hA v.l9, hoa_78 hA v.l78, hga_78 hA v.l78, true_and, and_true, kk1_i, kk1_r, kk1_n, kk1_0, kcat_iv, kcat_ref, kcat_null, kisR_ref, kisR_null, ksz_nil, ksz_iv, ksz_ref, ksz_null, ksz_lv, kfit_int, kfit_long, kfit_obj, kfit_objN, kfit_arr, kfit_arrN, knarI, knarZ0, knarZ1, kret_v, kret_n, kret_x, Nat.reduceAdd, Nat.reduceLeDiff, reduceCtorEq, Int.reduceLE, Int.reduceLT, Int.reduceEq, ite_true, ite_false, true_or, or_true, false_implies, true_implies, not_true_eq_false, not_false_eq_true, and_self, eq_self, klc_lt, klc_ge, klc_le, klc_gt, klc_eq, kmu_eq, kmu_f, kmu_i, kmu_j, h1, h2, show ¬ R 9 0 26 < u by omega]
      · rw [kb_f (fun z => h2 z.2)]
        simp (disch := first | assumption | (unfold kR; decide) | exact klc_R | (unfold kR; omega) | omega | (unfold kL; omega) | exact kcat_null | exact kcat_ref _ | exact kcat_iv _) only [r149_5, r149_6, r149_9, r149_12, r149_13, r149_14, r149_17, r149_18, r149_19, r149_20, r149_23, r149_24, r149_27, r149_28, r149_29, r149_32, r149_33, r149_36, r149_37, r149_38, r149_39, r149_42, ho_9_26 hA v.l9, hg_9_26 hA v.l9, ho_9_27 hA v.l9, hg_9_27 hA v.l9, hoa_77 hA v.l77, hga_77 hA v.l77, ho_9_28 hA v.l9, hg_9_28 hA v.l9, hoa_78 hA v.l78, hga_78 hA v.l78, true_and, and_true, kk1_i, kk1_r, kk1_n, kk1_0, kcat_iv, kcat_ref, kcat_null, kisR_ref, kisR_null, ksz_nil, ksz_iv, ksz_ref, ksz_null, ksz_lv, kfit_int, kfit_long, kfit_obj, kfit_objN, kfit_arr, kfit_arrN, knarI, knarZ0, knarZ1, kret_v, kret_n, kret_x, Nat.reduceAdd, Nat.reduceLeDiff, reduceCtorEq, Int.reduceLE, Int.reduceLT, Int.reduceEq, ite_true, ite_false, true_or, or_true, false_implies, true_implies, not_true_eq_false, not_false_eq_true, and_self, eq_self, klc_lt, klc_ge, klc_le, klc_gt, klc_eq, kmu_eq, kmu_f, kmu_i, kmu_j, h1, h2, show ¬ R 9 0 26 < u by omega]
    · rw [kb_f (fun z => h1 z.1)]
      simp (disch := first | assumption | (unfold kR; decide) | exact klc_R | (unfold kR; omega) | omega | (unfold kL; omega) | exact kcat_null | exact kcat_ref _ | exact kcat_iv _) only [r149_5, r149_6, r149_9, r149_12, r149_13, r149_14, r149_17, r149_18, r149_19, r149_20, r149_23, r149_24, r149_27, r149_28, r149_29, r149_32, r149_33, r149_36, r149_37, r149_38, r149_39, r149_42, ho_9_26 hA v.l9, hg_9_26 hA v.l9, ho_9_27 hA v.l9, hg_9_27 hA v.l9, hoa_77 hA v.l77, hga_77 hA v.l77, ho_9_28 hA v.l9, hg_9_28 hA v.l9, hoa_78 hA v.l78, hga_78 hA v.l78, true_and, and_true, kk1_i, kk1_r, kk1_n, kk1_0, kcat_iv, kcat_ref, kcat_null, kisR_ref, kisR_null, ksz_nil, ksz_iv, ksz_ref, ksz_null, ksz_lv, kfit_int, kfit_long, kfit_obj, kfit_objN, kfit_arr, kfit_arrN, knarI, knarZ0, knarZ1, kret_v, kret_n, kret_x, Nat.reduceAdd, Nat.reduceLeDiff, reduceCtorEq, Int.reduceLE, Int.reduceLT, Int.reduceEq, ite_true, ite_false, true_or, or_true, false_implies, true_implies, not_true_eq_false, not_false_eq_true, and_self, eq_self, klc_lt, klc_ge, klc_le, klc_gt, klc_eq, kmu_eq, kmu_f, kmu_i, kmu_j, h1, show ¬ R 9 0 26 < u by omega]) (R 9 0 26).toNat 1 () (by omega) (by omega)
  have e : (R 9 0 26 + 1 - 1).toNat = (R 9 0 26).toNat := by omega
  rw [e] at w
  unfold f149
  have w' := w.trans (show _ ↔ Q (.inl (some (iv (kcn (fun u => R 77 0 u = g ∧ R 78 0 u = 0) (R 9 0 26).toNat)))) (kHp J A V C R, c, l) by
    simp (disch := first | assumption | (unfold kR; decide) | exact klc_R | (unfold kR; omega) | omega | (unfold kL; omega) | exact kcat_null | exact kcat_ref _ | exact kcat_iv _) only [r149_4, r149_5, r149_6, r149_9, r149_45, r149_46, ho_9_26 hA v.l9, hg_9_26 hA v.l9, true_and, and_true, kk1_i, kk1_r, kk1_n, kk1_0, kcat_iv, kcat_ref, kcat_null, kisR_ref, kisR_null, ksz_nil, ksz_iv, ksz_ref, ksz_null, ksz_lv, kfit_int, kfit_long, kfit_obj, kfit_objN, kfit_arr, kfit_arrN, knarI, knarZ0, knarZ1, kret_v, kret_n, kret_x, Nat.reduceAdd, Nat.reduceLeDiff, reduceCtorEq, Int.reduceLE, Int.reduceLT, Int.reduceEq, ite_true, ite_false, true_or, or_true, false_implies, true_implies, not_true_eq_false, not_false_eq_true, and_self, eq_self, klc_lt, klc_ge, klc_le, klc_gt, klc_eq, kmu_eq, kmu_f, kmu_i, kmu_j, show R 9 0 26 < R 9 0 26 + 1 by omega])
  rw [← w']
  simp (disch := first | assumption | (unfold kR; decide) | exact klc_R | (unfold kR; omega) | omega | (unfold kL; omega) | exact kcat_null | exact kcat_ref _ | exact kcat_iv _) only [r149_0, r149_1, r149_2, r149_3, true_and, and_true, kk1_i, kk1_r, kk1_n, kk1_0, kcat_iv, kcat_ref, kcat_null, kisR_ref, kisR_null, ksz_nil, ksz_iv, ksz_ref, ksz_null, ksz_lv, kfit_int, kfit_long, kfit_obj, kfit_objN, kfit_arr, kfit_arrN, knarI, knarZ0, knarZ1, kret_v, kret_n, kret_x, Nat.reduceAdd, Nat.reduceLeDiff, reduceCtorEq, Int.reduceLE, Int.reduceLT, Int.reduceEq, ite_true, ite_false, true_or, or_true, false_implies, true_implies, not_true_eq_false, not_false_eq_true, and_self, eq_self, klc_lt, klc_ge, klc_le, klc_gt, klc_eq, kmu_eq, kmu_f, kmu_i, kmu_j]
  rfl
theorem f149_b (r : kRW V R) (g : Int) : 0 ≤ f149 R g ∧ f149 R g ≤ 60 := by
  have B := r.i26
  have := kcn_b (fun u => R 77 0 u = g ∧ R 78 0 u = 0) (R 9 0 26).toNat
  unfold f149
  omega
theorem khu_b (r : kRW V R) (m p : Int) : 0 ≤ khu R m p ∧ khu R m p ≤ 60 := by
  have B := r.i26
  have := kcn_b (fun u => R 78 0 u = 1 ∧ R 80 0 u = m ∧ R 81 0 u = p) (R 9 0 26).toNat
  unfold khu
  omega
theorem j150 (hA : kJ A V) (v : kLV V) (r : kRW V R) {g : Int} (hd : 1 ≤ d) (g0 : 0 ≤ g) (g1 : g < 20) : ka_W (kp E) (d, (150, 0, [some (.ref (A 9 0)), some (iv g)], []), (kHp J A V C R, c, l)) Q ↔ Q (.inl (some (iv (f150 R g)))) (kHp J A V C R, c, l) := by
  simp (disch := first | assumption | (unfold kR; decide) | exact klc_R | (unfold kR; omega) | omega | (unfold kL; omega) | exact kcat_null | exact kcat_ref _ | exact kcat_iv _) only [r150_0, r150_1, r150_4, r150_5, r150_6, r150_7, r150_8, r150_11, r150_12, ho_9_5 hA v.l9, hg_9_5 hA v.l9, hoa_55 hA v.l55, hga_55 hA v.l55, ht_9 hA v.l9, true_and, and_true, kk1_i, kk1_r, kk1_n, kk1_0, kcat_iv, kcat_ref, kcat_null, kisR_ref, kisR_null, ksz_nil, ksz_iv, ksz_ref, ksz_null, ksz_lv, kfit_int, kfit_long, kfit_obj, kfit_objN, kfit_arr, kfit_arrN, knarI, knarZ0, knarZ1, kret_v, kret_n, kret_x, Nat.reduceAdd, Nat.reduceLeDiff, reduceCtorEq, Int.reduceLE, Int.reduceLT, Int.reduceEq, ite_true, ite_false, true_or, or_true, false_implies, true_implies, not_true_eq_false, not_false_eq_true, and_self, eq_self, klc_lt, klc_ge, klc_le, klc_gt, klc_eq, kmu_eq, kmu_f, kmu_i, kmu_j, j149 hA v r, hd, Nat.zero_le, f150]
theorem j151 (hA : kJ A V) (v : kLV V) (r : kRW V R) {m p : Int} (m0 : 0 ≤ m) (m1 : m ≤ 40) (p0 : 0 ≤ p) (p1 : p < 5) : ka_W (kp E) (d, (151, 0, [some (.ref (A 9 0)), some (iv m), some (iv p), none, none], []), (kHp J A V C R, c, l)) Q ↔ Q (.inl (some (iv (f151 R m p)))) (kHp J A V C R, c, l) := by
  have B := r.i26
  have B75 := r.a75 (j := 5 * m + p) (by omega) (by omega)
  have K := kcn_b (fun u => R 78 0 u = 1 ∧ R 80 0 u = m ∧ R 81 0 u = p)
  obtain ⟨w, -⟩ := kfor (α := Unit) (n := R 9 0 26 + 1) (f := fun _ a => a) (inv := fun u _ => 1 ≤ u) (W := fun u _ => ka_W (kp E) (d, (151, 14, [some (.ref (A 9 0)), some (iv m), some (iv p), some (iv (R 75 0 (5 * m + p) + kcn (fun u => R 78 0 u = 1 ∧ R 80 0 u = m ∧ R 81 0 u = p) (u - 1).toNat)), some (iv u)], []), (kHp J A V C R, c, l)) Q) (fun u _ hu u1 => by
    refine ⟨by omega, ?_⟩
    have e : (u + 1 - 1).toNat = u.toNat := by omega
    have B1 := r.a78 (j := u) (by omega) (by omega)
    have B2 := r.a80 (j := u) (by omega) (by omega)
    have B3 := r.a81 (j := u) (by omega) (by omega)
    have K1 := K (u - 1).toNat
    rw [e, kcn_s u1, ← Int.add_assoc, r151_14]
    by_cases h1 : R 78 0 u = 1
    · by_cases h2 : R 80 0 u = m
      · by_cases h3 : R 81 0 u = p
        · rw [kb_t ⟨h1, h2, h3⟩]
          simp (disch := first | assumption | (unfold kR; decide) | exact klc_R | (unfold kR; omega) | omega | (unfold kL; omega) | exact kcat_null | exact kcat_ref _ | exact kcat_iv _) only [r151_16, r151_17, r151_20, r151_23, r151_24, r151_25, r151_28, r151_30, r151_31, r151_32, r151_35, r151_36, r151_39, r151_41, r151_42, r151_43, r151_46, r151_47, r151_50, r151_52, r151_53, r151_54, r151_57, r151_58, r151_61, r151_62, r151_63, r151_64, r151_67, ho_9_26 hA v.l9, hg_9_26 hA v.l9, ho_9_28 hA v.l9, hg_9_28 hA v.l9, hoa_78 hA v.l78, hga_78 hA v.l78, ho_9_30 hA v.l9, hg_9_30 hA v.l9, hoa_80 hA v.l80, hga_80 hA v.l80, ho_9_31 hA v.l9, hg_9_31 hA v.l9, hoa_81 hA v.l81, hga_81 hA v.l81, true_and, and_true, kk1_i, kk1_r, kk1_n, kk1_0, kcat_iv, kcat_ref, kcat_null, kisR_ref, kisR_null, ksz_nil, ksz_iv, ksz_ref, ksz_null, ksz_lv, kfit_int, kfit_long, kfit_obj, kfit_objN, kfit_arr, kfit_arrN, knarI, knarZ0, knarZ1, kret_v, kret_n, kret_x, Nat.reduceAdd, Nat.reduceLeDiff, reduceCtorEq, Int.reduceLE, Int.reduceLT, Int.reduceEq, ite_true, ite_false, true_or, or_true, false_implies, true_implies, not_true_eq_false, not_false_eq_true, and_self, eq_self, klc_lt, klc_ge, klc_le, klc_gt, klc_eq, kmu_eq, kmu_f, kmu_i, kmu_j, h1, h2, h3, show ¬ R 9 0 26 < u by omega]
        · rw [kb_f (fun z => h3 z.2.2)]
          simp (disch := first | assumption | (unfold kR; decide) | exact klc_R | (unfold kR; omega) | omega | (unfold kL; omega) | exact kcat_null | exact kcat_ref _ | exact kcat_iv _) only [r151_16, r151_17, r151_20, r151_23, r151_24, r151_25, r151_28, r151_30, r151_31, r151_32, r151_35, r151_36, r151_39, r151_41, r151_42, r151_43, r151_46, r151_47, r151_50, r151_52, r151_53, r151_54, r151_57, r151_58, r151_61, r151_62, r151_63, r151_64, r151_67, ho_9_26 hA v.l9, hg_9_26 hA v.l9, ho_9_28 hA v.l9, hg_9_28 hA v.l9, hoa_78 hA v.l78, hga_78 hA v.l78, ho_9_30 hA v.l9, hg_9_30 hA v.l9, hoa_80 hA v.l80, hga_80 hA v.l80, ho_9_31 hA v.l9, hg_9_31 hA v.l9, hoa_81 hA v.l81, hga_81 hA v.l81, true_and, and_true, kk1_i, kk1_r, kk1_n, kk1_0, kcat_iv, kcat_ref, kcat_null, kisR_ref, kisR_null, ksz_nil, ksz_iv, ksz_ref, ksz_null, ksz_lv, kfit_int, kfit_long, kfit_obj, kfit_objN, kfit_arr, kfit_arrN, knarI, knarZ0, knarZ1, kret_v, kret_n, kret_x, Nat.reduceAdd, Nat.reduceLeDiff, reduceCtorEq, Int.reduceLE, Int.reduceLT, Int.reduceEq, ite_true, ite_false, true_or, or_true, false_implies, true_implies, not_true_eq_false, not_false_eq_true, and_self, eq_self, klc_lt, klc_ge, klc_le, klc_gt, klc_eq, kmu_eq, kmu_f, kmu_i, kmu_j, h1, h2, h3, show ¬ R 9 0 26 < u by omega]
      · rw [kb_f (fun z => h2 z.2.1)]
        simp (disch := first | assumption | (unfold kR; decide) | exact klc_R | (unfold kR; omega) | omega | (unfold kL; omega) | exact kcat_null | exact kcat_ref _ | exact kcat_iv _) only [r151_16, r151_17, r151_20, r151_23, r151_24, r151_25, r151_28, r151_30, r151_31, r151_32, r151_35, r151_36, r151_39, r151_41, r151_42, r151_43, r151_46, r151_47, r151_50, r151_52, r151_53, r151_54, r151_57, r151_58, r151_61, r151_62, r151_63, r151_64, r151_67, ho_9_26 hA v.l9, hg_9_26 hA v.l9, ho_9_28 hA v.l9, hg_9_28 hA v.l9, hoa_78 hA v.l78, hga_78 hA v.l78, ho_9_30 hA v.l9, hg_9_30 hA v.l9, hoa_80 hA v.l80, hga_80 hA v.l80, ho_9_31 hA v.l9, hg_9_31 hA v.l9, hoa_81 hA v.l81, hga_81 hA v.l81, true_and, and_true, kk1_i, kk1_r, kk1_n, kk1_0, kcat_iv, kcat_ref, kcat_null, kisR_ref, kisR_null, ksz_nil, ksz_iv, ksz_ref, ksz_null, ksz_lv, kfit_int, kfit_long, kfit_obj, kfit_objN, kfit_arr, kfit_arrN, knarI, knarZ0, knarZ1, kret_v, kret_n, kret_x, Nat.reduceAdd, Nat.reduceLeDiff, reduceCtorEq, Int.reduceLE, Int.reduceLT, Int.reduceEq, ite_true, ite_false, true_or, or_true, false_implies, true_implies, not_true_eq_false, not_false_eq_true, and_self, eq_self, klc_lt, klc_ge, klc_le, klc_gt, klc_eq, kmu_eq, kmu_f, kmu_i, kmu_j, h1, h2, show ¬ R 9 0 26 < u by omega]
    · rw [kb_f (fun z => h1 z.1)]
      simp (disch := first | assumption | (unfold kR; decide) | exact klc_R | (unfold kR; omega) | omega | (unfold kL; omega) | exact kcat_null | exact kcat_ref _ | exact kcat_iv _) only [r151_16, r151_17, r151_20, r151_23, r151_24, r151_25, r151_28, r151_30, r151_31, r151_32, r151_35, r151_36, r151_39, r151_41, r151_42, r151_43, r151_46, r151_47, r151_50, r151_52, r151_53, r151_54, r151_57, r151_58, r151_61, r151_62, r151_63, r151_64, r151_67, ho_9_26 hA v.l9, hg_9_26 hA v.l9, ho_9_28 hA v.l9, hg_9_28 hA v.l9, hoa_78 hA v.l78, hga_78 hA v.l78, ho_9_30 hA v.l9, hg_9_30 hA v.l9, hoa_80 hA v.l80, hga_80 hA v.l80, ho_9_31 hA v.l9, hg_9_31 hA v.l9, hoa_81 hA v.l81, hga_81 hA v.l81, true_and, and_true, kk1_i, kk1_r, kk1_n, kk1_0, kcat_iv, kcat_ref, kcat_null, kisR_ref, kisR_null, ksz_nil, ksz_iv, ksz_ref, ksz_null, ksz_lv, kfit_int, kfit_long, kfit_obj, kfit_objN, kfit_arr, kfit_arrN, knarI, knarZ0, knarZ1, kret_v, kret_n, kret_x, Nat.reduceAdd, Nat.reduceLeDiff, reduceCtorEq, Int.reduceLE, Int.reduceLT, Int.reduceEq, ite_true, ite_false, true_or, or_true, false_implies, true_implies, not_true_eq_false, not_false_eq_true, and_self, eq_self, klc_lt, klc_ge, klc_le, klc_gt, klc_eq, kmu_eq, kmu_f, kmu_i, kmu_j, h1, show ¬ R 9 0 26 < u by omega]) (R 9 0 26).toNat 1 () (by omega) (by omega)
  have e : (R 9 0 26 + 1 - 1).toNat = (R 9 0 26).toNat := by omega
  rw [e] at w
  have w' := w.trans (show _ ↔ Q (.inl (some (iv (f151 R m p)))) (kHp J A V C R, c, l) by
    simp (disch := first | assumption | (unfold kR; decide) | exact klc_R | (unfold kR; omega) | omega | (unfold kL; omega) | exact kcat_null | exact kcat_ref _ | exact kcat_iv _) only [r151_14, r151_16, r151_17, r151_20, r151_70, r151_71, ho_9_26 hA v.l9, hg_9_26 hA v.l9, true_and, and_true, kk1_i, kk1_r, kk1_n, kk1_0, kcat_iv, kcat_ref, kcat_null, kisR_ref, kisR_null, ksz_nil, ksz_iv, ksz_ref, ksz_null, ksz_lv, kfit_int, kfit_long, kfit_obj, kfit_objN, kfit_arr, kfit_arrN, knarI, knarZ0, knarZ1, kret_v, kret_n, kret_x, Nat.reduceAdd, Nat.reduceLeDiff, reduceCtorEq, Int.reduceLE, Int.reduceLT, Int.reduceEq, ite_true, ite_false, true_or, or_true, false_implies, true_implies, not_true_eq_false, not_false_eq_true, and_self, eq_self, klc_lt, klc_ge, klc_le, klc_gt, klc_eq, kmu_eq, kmu_f, kmu_i, kmu_j, show R 9 0 26 < R 9 0 26 + 1 by omega, f151, khu])
  rw [← w']
  simp (disch := first | assumption | (unfold kR; decide) | exact klc_R | (unfold kR; omega) | omega | (unfold kL; omega) | exact kcat_null | exact kcat_ref _ | exact kcat_iv _) only [r151_0, r151_1, r151_4, r151_5, r151_6, r151_7, r151_8, r151_9, r151_10, r151_11, r151_12, ho_9_25 hA v.l9, hg_9_25 hA v.l9, hoa_75 hA v.l75, hga_75 hA v.l75, true_and, and_true, kk1_i, kk1_r, kk1_n, kk1_0, kcat_iv, kcat_ref, kcat_null, kisR_ref, kisR_null, ksz_nil, ksz_iv, ksz_ref, ksz_null, ksz_lv, kfit_int, kfit_long, kfit_obj, kfit_objN, kfit_arr, kfit_arrN, knarI, knarZ0, knarZ1, kret_v, kret_n, kret_x, Nat.reduceAdd, Nat.reduceLeDiff, reduceCtorEq, Int.reduceLE, Int.reduceLT, Int.reduceEq, ite_true, ite_false, true_or, or_true, false_implies, true_implies, not_true_eq_false, not_false_eq_true, and_self, eq_self, klc_lt, klc_ge, klc_le, klc_gt, klc_eq, kmu_eq, kmu_f, kmu_i, kmu_j]
  have e0 : R 75 0 (5 * m + p) + kcn (fun u => R 78 0 u = 1 ∧ R 80 0 u = m ∧ R 81 0 u = p) ((1 : Int) - 1).toNat = R 75 0 (5 * m + p) := by
    show R 75 0 (5 * m + p) + 0 = _
    omega
  rw [e0]
end
/-- a unit is taken -/
def ktk (m p g : Int) (u : Int) (a : ka_M × Int) : ka_M × Int :=
  if 0 < a.2 ∧ a.1 77 0 u = g ∧ a.1 78 0 u = 0 then (kmu (kmu (kmu a.1 78 0 u 1) 80 0 u m) 81 0 u p, a.2 + -1) else a
/-- how many plain pieces are taken -/
noncomputable def ktn (R : ka_M) (m p : Int) : Int :=
  let need := R 73 0 (5 * m + p) - f151 R m p
  let pl := R 55 0 (R 72 0 (5 * m + p))
  if need < pl then need else pl
noncomputable def f152 (R : ka_M) (m p : Int) : ka_M :=
  let q := 5 * m + p
  let g := R 72 0 q
  let n := ktn R m p
  (kfd (ktk m p g) (R 9 0 26).toNat 1 (kmu (kmu R 55 0 g (R 55 0 g - n)) 75 0 q (R 75 0 q + n), R 73 0 q - f151 R m p - n)).1
/-- only pieces and units change hands -/
def kTk (R R' : ka_M) : Prop := ∀ f, f ≠ 55 → f ≠ 75 → f ≠ 78 → f ≠ 80 → f ≠ 81 → R' f = R f
theorem kTk_rfl {R : ka_M} : kTk R R := fun _ _ _ _ _ _ => rfl
theorem kTk.trans {R R' R'' : ka_M} (h : kTk R R') (h' : kTk R' R'') : kTk R R'' := fun f a b c d e => (h' f a b c d e).trans (h f a b c d e)
theorem kTk.mu {R R' : ka_M} (h : kTk R R') {f : Nat} {i j x : Int} (hf : f = 55 ∨ f = 75 ∨ f = 78 ∨ f = 80 ∨ f = 81) : kTk R (kmu R' f i j x) := fun f' a b c d e => (kmu_ff (by omega)).trans (h f' a b c d e)
section
variable {E : Nat × Nat} {d c l : Nat} {s : ka_S} {Q : ka_Q} {J : ka_H} {A : ka_A} {V : ka_V} {C R : ka_M}
theorem ktk_o {m p g u : Int} {a : ka_M × Int} (hm : 1 ≤ m) (hm1 : m ≤ 40) (p0 : 0 ≤ p) (p1 : p < 5) (r : kRW V a.1) (u1 : 1 ≤ u) (u2 : u ≤ 60) : kRW V (ktk m p g u a).1 ∧ kTk a.1 (ktk m p g u a).1 ∧ (0 ≤ a.2 → 0 ≤ (ktk m p g u a).2) ∧ (ktk m p g u a).2 ≤ a.2 := by
  unfold ktk
  split
  · rename_i h
    dsimp only
    exact ⟨((r.pa78 (by omega) (by omega)).pa80 (by omega) (by omega)).pa81 p0 (by omega), ((kTk_rfl.mu (by omega)).mu (by omega)).mu (by omega), fun _ => by omega, by omega⟩
  · exact ⟨r, kTk_rfl, id, Int.le_refl _⟩
theorem j152 (hA : kJ A V) (v : kLV V) (r : kRW V R) {m p : Int} (hd : 1 ≤ d) (m0 : 1 ≤ m) (m1 : m ≤ 40) (p0 : 0 ≤ p) (p1 : p < 5) (hn : f151 R m p ≤ R 73 0 (5 * m + p)) :
    kRW V (f152 R m p) ∧ kTk R (f152 R m p) ∧ (ka_W (kp E) (d, (152, 0, [some (.ref (A 9 0)), some (iv m), some (iv p), none, none, none, none, none], []), (kHp J A V C R, c, l)) Q ↔ Q (.inl none) (kHp J A V C (f152 R m p), c, l)) := by
  have B := r.i26
  have B75 := r.a75 (j := 5 * m + p) (by omega) (by omega)
  have B73 := r.a73 (j := 5 * m + p) (by omega) (by omega)
  have B72 := r.a72 (j := 5 * m + p) (by omega) (by omega)
  have B55 := r.a55 (j := R 72 0 (5 * m + p)) (by omega) (by omega)
  have H := khu_b r m p
  have f1 : f151 R m p = R 75 0 (5 * m + p) + khu R m p := rfl
  have hk : ktn R m p = if R 73 0 (5 * m + p) - f151 R m p < R 55 0 (R 72 0 (5 * m + p)) then R 73 0 (5 * m + p) - f151 R m p else R 55 0 (R 72 0 (5 * m + p)) := rfl
  have hk0 : 0 ≤ ktn R m p ∧ ktn R m p ≤ R 73 0 (5 * m + p) - f151 R m p ∧ ktn R m p ≤ R 55 0 (R 72 0 (5 * m + p)) := by
    rw [hk]
    split <;> omega
  unfold f152
  dsimp only
  generalize hg : R 72 0 (5 * m + p) = g at *
  generalize hkt : ktn R m p = n at *
  have r1 : kRW V (kmu (kmu R 55 0 g (R 55 0 g - n)) 75 0 (5 * m + p) (R 75 0 (5 * m + p) + n)) := (r.pa55 (by omega) (by omega)).pa75 (by omega) (by omega)
  have e26 : kmu (kmu R 55 0 g (R 55 0 g - n)) 75 0 (5 * m + p) (R 75 0 (5 * m + p) + n) 9 0 26 = R 9 0 26 := by rw [kmu_f (by decide), kmu_f (by decide)]
  have t1 : kTk R (kmu (kmu R 55 0 g (R 55 0 g - n)) 75 0 (5 * m + p) (R 75 0 (5 * m + p) + n)) := (kTk_rfl.mu (by omega)).mu (by omega)
  generalize hR1 : kmu (kmu R 55 0 g (R 55 0 g - n)) 75 0 (5 * m + p) (R 75 0 (5 * m + p) + n) = R1 at *
  obtain ⟨w, -, x1, x2, x3, -⟩ := kfor (n := R 9 0 26 + 1) (f := ktk m p g) (inv := fun u a => 1 ≤ u ∧ kRW V a.1 ∧ kTk R a.1 ∧ 0 ≤ a.2 ∧ a.2 ≤ 9) (W := fun u a => ka_W (kp E) (d, (152, 88, [some (.ref (A 9 0)), some (iv m), some (iv p), some (iv (5 * m + p)), some (iv a.2), some (iv g), some (iv n), some (iv u)], []), (kHp J A V C a.1, c, l)) Q) (fun u a hu ⟨u1, ra, ta, a0, a9⟩ => by
    obtain ⟨y1, y2, y3, y4⟩ := ktk_o (g := g) m0 m1 p0 p1 ra u1 (by omega)
    refine ⟨⟨by omega, y1, ta.trans y2, y3 a0, by omega⟩, ?_⟩
    have B77 := ra.a77 (j := u) (by omega) (by omega)
    have B78 := ra.a78 (j := u) (by omega) (by omega)
    have e9 : a.1 9 0 26 = R 9 0 26 := by rw [ta 9 (by decide) (by decide) (by decide) (by decide) (by decide)]
    have c1 : ¬ R 9 0 26 < u := by omega
    by_cases h0 : 0 < a.2
    · have c2 : ¬ a.2 ≤ 0 := by omega
      by_cases h1 : a.1 77 0 u = g
      · by_cases h2 : a.1 78 0 u = 0
        · rw [show ktk m p g u a = (kmu (kmu (kmu a.1 78 0 u 1) 80 0 u m) 81 0 u p, a.2 + -1) from if_pos ⟨h0, h1, h2⟩]
          dsimp only
          rw [r152_88]
          simp (disch := first | assumption | (unfold kR; decide) | exact klc_R | (unfold kR; omega) | omega | (unfold kL; omega) | exact kcat_null | exact kcat_ref _ | exact kcat_iv _) only [r152_90, r152_91, r152_94, r152_97, r152_99, r152_102, r152_103, r152_106, r152_108, r152_109, r152_111, r152_114, r152_115, r152_118, r152_120, r152_121, r152_124, r152_127, r152_128, r152_131, r152_133, r152_134, r152_135, r152_136, r152_139, r152_141, r152_142, r152_143, r152_144, r152_147, r152_149, r152_150, r152_151, r152_154, r152_157, ho_9_26 hA v.l9, hg_9_26 hA v.l9, ho_9_27 hA v.l9, hg_9_27 hA v.l9, hoa_77 hA v.l77, hga_77 hA v.l77, hpa_77 hA v.l77, ho_9_28 hA v.l9, hg_9_28 hA v.l9, hoa_78 hA v.l78, hga_78 hA v.l78, hpa_78 hA v.l78, ho_9_30 hA v.l9, hg_9_30 hA v.l9, hoa_80 hA v.l80, hga_80 hA v.l80, hpa_80 hA v.l80, ho_9_31 hA v.l9, hg_9_31 hA v.l9, hoa_81 hA v.l81, hga_81 hA v.l81, hpa_81 hA v.l81, true_and, and_true, kk1_i, kk1_r, kk1_n, kk1_0, kcat_iv, kcat_ref, kcat_null, kisR_ref, kisR_null, ksz_nil, ksz_iv, ksz_ref, ksz_null, ksz_lv, kfit_int, kfit_long, kfit_obj, kfit_objN, kfit_arr, kfit_arrN, knarI, knarZ0, knarZ1, kret_v, kret_n, kret_x, Nat.reduceAdd, Nat.reduceLeDiff, reduceCtorEq, Int.reduceLE, Int.reduceLT, Int.reduceEq, ite_true, ite_false, true_or, or_true, false_implies, true_implies, not_true_eq_false, not_false_eq_true, and_self, eq_self, klc_lt, klc_ge, klc_le, klc_gt, klc_eq, kmu_eq, kmu_f, kmu_i, kmu_j, e9, c1, c2, h1, h2]
        · rw [show ktk m p g u a = a from if_neg (fun z => h2 z.2.2), r152_88]
          simp (disch := first | assumption | (unfold kR; decide) | exact klc_R | (unfold kR; omega) | omega | (unfold kL; omega) | exact kcat_null | exact kcat_ref _ | exact kcat_iv _) only [r152_90, r152_91, r152_94, r152_97, r152_99, r152_102, r152_103, r152_106, r152_108, r152_109, r152_111, r152_114, r152_115, r152_118, r152_120, r152_121, r152_124, r152_127, r152_128, r152_131, r152_133, r152_134, r152_135, r152_136, r152_139, r152_141, r152_142, r152_143, r152_144, r152_147, r152_149, r152_150, r152_151, r152_154, r152_157, ho_9_26 hA v.l9, hg_9_26 hA v.l9, ho_9_27 hA v.l9, hg_9_27 hA v.l9, hoa_77 hA v.l77, hga_77 hA v.l77, hpa_77 hA v.l77, ho_9_28 hA v.l9, hg_9_28 hA v.l9, hoa_78 hA v.l78, hga_78 hA v.l78, hpa_78 hA v.l78, ho_9_30 hA v.l9, hg_9_30 hA v.l9, hoa_80 hA v.l80, hga_80 hA v.l80, hpa_80 hA v.l80, ho_9_31 hA v.l9, hg_9_31 hA v.l9, hoa_81 hA v.l81, hga_81 hA v.l81, hpa_81 hA v.l81, true_and, and_true, kk1_i, kk1_r, kk1_n, kk1_0, kcat_iv, kcat_ref, kcat_null, kisR_ref, kisR_null, ksz_nil, ksz_iv, ksz_ref, ksz_null, ksz_lv, kfit_int, kfit_long, kfit_obj, kfit_objN, kfit_arr, kfit_arrN, knarI, knarZ0, knarZ1, kret_v, kret_n, kret_x, Nat.reduceAdd, Nat.reduceLeDiff, reduceCtorEq, Int.reduceLE, Int.reduceLT, Int.reduceEq, ite_true, ite_false, true_or, or_true, false_implies, true_implies, not_true_eq_false, not_false_eq_true, and_self, eq_self, klc_lt, klc_ge, klc_le, klc_gt, klc_eq, kmu_eq, kmu_f, kmu_i, kmu_j, e9, c1, c2, h1, h2]
      · rw [show ktk m p g u a = a from if_neg (fun z => h1 z.2.1), r152_88]
        simp (disch := first | assumption | (unfold kR; decide) | exact klc_R | (unfold kR; omega) | omega | (unfold kL; omega) | exact kcat_null | exact kcat_ref _ | exact kcat_iv _) only [r152_90, r152_91, r152_94, r152_97, r152_99, r152_102, r152_103, r152_106, r152_108, r152_109, r152_111, r152_114, r152_115, r152_118, r152_120, r152_121, r152_124, r152_127, r152_128, r152_131, r152_133, r152_134, r152_135, r152_136, r152_139, r152_141, r152_142, r152_143, r152_144, r152_147, r152_149, r152_150, r152_151, r152_154, r152_157, ho_9_26 hA v.l9, hg_9_26 hA v.l9, ho_9_27 hA v.l9, hg_9_27 hA v.l9, hoa_77 hA v.l77, hga_77 hA v.l77, hpa_77 hA v.l77, ho_9_28 hA v.l9, hg_9_28 hA v.l9, hoa_78 hA v.l78, hga_78 hA v.l78, hpa_78 hA v.l78, ho_9_30 hA v.l9, hg_9_30 hA v.l9, hoa_80 hA v.l80, hga_80 hA v.l80, hpa_80 hA v.l80, ho_9_31 hA v.l9, hg_9_31 hA v.l9, hoa_81 hA v.l81, hga_81 hA v.l81, hpa_81 hA v.l81, true_and, and_true, kk1_i, kk1_r, kk1_n, kk1_0, kcat_iv, kcat_ref, kcat_null, kisR_ref, kisR_null, ksz_nil, ksz_iv, ksz_ref, ksz_null, ksz_lv, kfit_int, kfit_long, kfit_obj, kfit_objN, kfit_arr, kfit_arrN, knarI, knarZ0, knarZ1, kret_v, kret_n, kret_x, Nat.reduceAdd, Nat.reduceLeDiff, reduceCtorEq, Int.reduceLE, Int.reduceLT, Int.reduceEq, ite_true, ite_false, true_or, or_true, false_implies, true_implies, not_true_eq_false, not_false_eq_true, and_self, eq_self, klc_lt, klc_ge, klc_le, klc_gt, klc_eq, kmu_eq, kmu_f, kmu_i, kmu_j, e9, c1, c2, h1]
    · rw [show ktk m p g u a = a from if_neg (fun z => h0 z.1)]
      have c2 : a.2 ≤ 0 := by omega
      by_cases c3 : R 9 0 26 < u + 1
      · simp (disch := first | assumption | (unfold kR; decide) | exact klc_R | (unfold kR; omega) | omega | (unfold kL; omega) | exact kcat_null | exact kcat_ref _ | exact kcat_iv _) only [r152_88, r152_90, r152_91, r152_94, r152_97, r152_99, r152_160, ho_9_26 hA v.l9, hg_9_26 hA v.l9, true_and, and_true, kk1_i, kk1_r, kk1_n, kk1_0, kcat_iv, kcat_ref, kcat_null, kisR_ref, kisR_null, ksz_nil, ksz_iv, ksz_ref, ksz_null, ksz_lv, kfit_int, kfit_long, kfit_obj, kfit_objN, kfit_arr, kfit_arrN, knarI, knarZ0, knarZ1, kret_v, kret_n, kret_x, Nat.reduceAdd, Nat.reduceLeDiff, reduceCtorEq, Int.reduceLE, Int.reduceLT, Int.reduceEq, ite_true, ite_false, true_or, or_true, false_implies, true_implies, not_true_eq_false, not_false_eq_true, and_self, eq_self, klc_lt, klc_ge, klc_le, klc_gt, klc_eq, kmu_eq, kmu_f, kmu_i, kmu_j, e9, c1, c2, c3]
      · simp (disch := first | assumption | (unfold kR; decide) | exact klc_R | (unfold kR; omega) | omega | (unfold kL; omega) | exact kcat_null | exact kcat_ref _ | exact kcat_iv _) only [r152_88, r152_90, r152_91, r152_94, r152_97, r152_99, r152_160, ho_9_26 hA v.l9, hg_9_26 hA v.l9, true_and, and_true, kk1_i, kk1_r, kk1_n, kk1_0, kcat_iv, kcat_ref, kcat_null, kisR_ref, kisR_null, ksz_nil, ksz_iv, ksz_ref, ksz_null, ksz_lv, kfit_int, kfit_long, kfit_obj, kfit_objN, kfit_arr, kfit_arrN, knarI, knarZ0, knarZ1, kret_v, kret_n, kret_x, Nat.reduceAdd, Nat.reduceLeDiff, reduceCtorEq, Int.reduceLE, Int.reduceLT, Int.reduceEq, ite_true, ite_false, true_or, or_true, false_implies, true_implies, not_true_eq_false, not_false_eq_true, and_self, eq_self, klc_lt, klc_ge, klc_le, klc_gt, klc_eq, kmu_eq, kmu_f, kmu_i, kmu_j, e9, c1, c2, c3]) (R 9 0 26).toNat 1 (R1, R 73 0 (5 * m + p) - f151 R m p - n) (by omega) ⟨by omega, r1, t1, by show 0 ≤ R 73 0 (5 * m + p) - f151 R m p - n; omega, by show R 73 0 (5 * m + p) - f151 R m p - n ≤ 9; omega⟩
  refine ⟨x1, x2, ?_⟩
  have e9 : (kfd (ktk m p g) (R 9 0 26).toNat 1 (R1, R 73 0 (5 * m + p) - f151 R m p - n)).1 9 0 26 = R 9 0 26 := by rw [x2 9 (by decide) (by decide) (by decide) (by decide) (by decide)]
  generalize kfd (ktk m p g) (R 9 0 26).toNat 1 (R1, R 73 0 (5 * m + p) - f151 R m p - n) = X at *
  have w' := w.trans (show _ ↔ Q (.inl none) (kHp J A V C X.1, c, l) by
    simp (disch := first | assumption | (unfold kR; decide) | exact klc_R | (unfold kR; omega) | omega | (unfold kL; omega) | exact kcat_null | exact kcat_ref _ | exact kcat_iv _) only [r152_88, r152_90, r152_91, r152_94, r152_160, ho_9_26 hA v.l9, hg_9_26 hA v.l9, true_and, and_true, kk1_i, kk1_r, kk1_n, kk1_0, kcat_iv, kcat_ref, kcat_null, kisR_ref, kisR_null, ksz_nil, ksz_iv, ksz_ref, ksz_null, ksz_lv, kfit_int, kfit_long, kfit_obj, kfit_objN, kfit_arr, kfit_arrN, knarI, knarZ0, knarZ1, kret_v, kret_n, kret_x, Nat.reduceAdd, Nat.reduceLeDiff, reduceCtorEq, Int.reduceLE, Int.reduceLT, Int.reduceEq, ite_true, ite_false, true_or, or_true, false_implies, true_implies, not_true_eq_false, not_false_eq_true, and_self, eq_self, klc_lt, klc_ge, klc_le, klc_gt, klc_eq, kmu_eq, kmu_f, kmu_i, kmu_j, e9, show R 9 0 26 < R 9 0 26 + 1 by omega])
  rw [← w']
  dsimp only
  by_cases h : R 73 0 (5 * m + p) - f151 R m p < R 55 0 g
  · rw [if_pos h] at hk
    subst hk
    simp (disch := first | assumption | (unfold kR; decide) | exact klc_R | (unfold kR; omega) | omega | (unfold kL; omega) | exact kcat_null | exact kcat_ref _ | exact kcat_iv _) only [r152_0, r152_1, r152_2, r152_3, r152_4, r152_5, r152_6, r152_7, r152_10, r152_11, r152_12, r152_13, r152_14, r152_15, r152_18, r152_19, r152_21, r152_22, r152_25, r152_26, r152_27, r152_29, r152_31, r152_32, r152_35, r152_37, r152_38, r152_41, r152_43, r152_46, r152_47, r152_50, r152_52, r152_53, r152_55, r152_56, r152_59, r152_61, r152_62, r152_63, r152_65, r152_66, r152_67, r152_68, r152_71, r152_72, r152_73, r152_74, r152_76, r152_77, r152_78, r152_80, r152_82, r152_83, r152_85, r152_86, ho_9_23 hA v.l9, hg_9_23 hA v.l9, hoa_73 hA v.l73, hga_73 hA v.l73, hpa_73 hA v.l73, ht_9 hA v.l9, ho_9_22 hA v.l9, hg_9_22 hA v.l9, hoa_72 hA v.l72, hga_72 hA v.l72, hpa_72 hA v.l72, ho_9_5 hA v.l9, hg_9_5 hA v.l9, hoa_55 hA v.l55, hga_55 hA v.l55, hpa_55 hA v.l55, ho_9_25 hA v.l9, hg_9_25 hA v.l9, hoa_75 hA v.l75, hga_75 hA v.l75, hpa_75 hA v.l75, true_and, and_true, kk1_i, kk1_r, kk1_n, kk1_0, kcat_iv, kcat_ref, kcat_null, kisR_ref, kisR_null, ksz_nil, ksz_iv, ksz_ref, ksz_null, ksz_lv, kfit_int, kfit_long, kfit_obj, kfit_objN, kfit_arr, kfit_arrN, knarI, knarZ0, knarZ1, kret_v, kret_n, kret_x, Nat.reduceAdd, Nat.reduceLeDiff, reduceCtorEq, Int.reduceLE, Int.reduceLT, Int.reduceEq, ite_true, ite_false, true_or, or_true, false_implies, true_implies, not_true_eq_false, not_false_eq_true, and_self, eq_self, klc_lt, klc_ge, klc_le, klc_gt, klc_eq, kmu_eq, kmu_f, kmu_i, kmu_j, j151 hA v r, hg, h, show ¬ R 55 0 g ≤ R 73 0 (5 * m + p) - f151 R m p by omega, hd, Nat.zero_le, hR1]
  · rw [if_neg h] at hk
    subst hk
    simp (disch := first | assumption | (unfold kR; decide) | exact klc_R | (unfold kR; omega) | omega | (unfold kL; omega) | exact kcat_null | exact kcat_ref _ | exact kcat_iv _) only [r152_0, r152_1, r152_2, r152_3, r152_4, r152_5, r152_6, r152_7, r152_10, r152_11, r152_12, r152_13, r152_14, r152_15, r152_18, r152_19, r152_21, r152_22, r152_25, r152_26, r152_27, r152_29, r152_31, r152_32, r152_35, r152_37, r152_38, r152_41, r152_43, r152_46, r152_47, r152_50, r152_52, r152_53, r152_55, r152_56, r152_59, r152_61, r152_62, r152_63, r152_65, r152_66, r152_67, r152_68, r152_71, r152_72, r152_73, r152_74, r152_76, r152_77, r152_78, r152_80, r152_82, r152_83, r152_85, r152_86, ho_9_23 hA v.l9, hg_9_23 hA v.l9, hoa_73 hA v.l73, hga_73 hA v.l73, hpa_73 hA v.l73, ht_9 hA v.l9, ho_9_22 hA v.l9, hg_9_22 hA v.l9, hoa_72 hA v.l72, hga_72 hA v.l72, hpa_72 hA v.l72, ho_9_5 hA v.l9, hg_9_5 hA v.l9, hoa_55 hA v.l55, hga_55 hA v.l55, hpa_55 hA v.l55, ho_9_25 hA v.l9, hg_9_25 hA v.l9, hoa_75 hA v.l75, hga_75 hA v.l75, hpa_75 hA v.l75, true_and, and_true, kk1_i, kk1_r, kk1_n, kk1_0, kcat_iv, kcat_ref, kcat_null, kisR_ref, kisR_null, ksz_nil, ksz_iv, ksz_ref, ksz_null, ksz_lv, kfit_int, kfit_long, kfit_obj, kfit_objN, kfit_arr, kfit_arrN, knarI, knarZ0, knarZ1, kret_v, kret_n, kret_x, Nat.reduceAdd, Nat.reduceLeDiff, reduceCtorEq, Int.reduceLE, Int.reduceLT, Int.reduceEq, ite_true, ite_false, true_or, or_true, false_implies, true_implies, not_true_eq_false, not_false_eq_true, and_self, eq_self, klc_lt, klc_ge, klc_le, klc_gt, klc_eq, kmu_eq, kmu_f, kmu_i, kmu_j, j151 hA v r, hg, h, show R 55 0 g ≤ R 73 0 (5 * m + p) - f151 R m p by omega, hd, Nat.zero_le, hR1]
end
