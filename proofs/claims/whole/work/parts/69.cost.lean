/-! The reference: costs. -/
def keach (R : ka_M) (p : Int) : Int := if R 56 0 (R 62 0 p) = -1 then R 54 0 (R 62 0 p) else R 88 0 (R 56 0 (R 62 0 p))
def ksum (R : ka_M) : Nat → Int → Int → Int
  | 0, _, s => s
  | n + 1, p, s => ksum R n (p + 1) (if keach R p < 0 ∨ s < 0 then -1 else s + keach R p * R 63 0 p)
def f140 (R : ka_M) (k : Int) : Int :=
  let s := ksum R (R 61 0 (f138 R k)).toNat (5 * f138 R k) 0
  if 1000000000 < s then -1 else s
section
variable {E : Nat × Nat} {d c l : Nat} {s : ka_S} {Q : ka_Q} {J : ka_H} {A : ka_A} {V : ka_V} {C R : ka_M}
theorem keach_b (r : kRW V R) {p : Int} (p0 : 0 ≤ p) (p1 : p < 420) : -1 ≤ keach R p ∧ keach R p ≤ 1000000000 := by
  have B := r.a62 p0 p1
  have B2 := r.a56 (j := R 62 0 p) (by omega) (by omega)
  unfold keach
  split
  · have := r.a54 (j := R 62 0 p) (by omega) (by omega); omega
  · have := r.a88 (j := R 56 0 (R 62 0 p)) (by omega) (by omega); omega
theorem kmul_b {x y a b : Int} (x0 : 0 ≤ x) (x1 : x ≤ a) (y0 : 0 ≤ y) (y1 : y ≤ b) : 0 ≤ x * y ∧ x * y ≤ a * b :=
  ⟨Int.mul_nonneg x0 y0, Int.mul_le_mul x1 y1 y0 (by omega)⟩
theorem knx_b (r : kRW V R) {p s : Int} {n : Nat} (p0 : 0 ≤ p) (p1 : p < 420) (s0 : -1 ≤ s) (s1 : s ≤ 9000000000 * n) : -1 ≤ (if keach R p < 0 ∨ s < 0 then -1 else s + keach R p * R 63 0 p) ∧ (if keach R p < 0 ∨ s < 0 then -1 else s + keach R p * R 63 0 p) ≤ 9000000000 * (n + 1 : Nat) := by
  have B := keach_b r p0 p1
  have B2 := r.a63 p0 p1
  split
  · omega
  · have := kmul_b (x := keach R p) (y := R 63 0 p) (a := 1000000000) (b := 9) (by omega) B.2 B2.1 B2.2
    omega
theorem ksum_b (r : kRW V R) : ∀ (n : Nat) (p s : Int) (m : Nat), 0 ≤ p → p + n ≤ 420 → -1 ≤ s → s ≤ 9000000000 * m → -1 ≤ ksum R n p s ∧ ksum R n p s ≤ 9000000000 * (m + n : Nat)
  | 0, p, s, m, p0, p1, s0, s1 => ⟨s0, by simpa [ksum] using s1⟩
  | n + 1, p, s, m, p0, p1, s0, s1 => by
    have z := knx_b r (n := m) p0 (by omega) s0 s1
    have := ksum_b r n (p + 1) _ (m + 1) (by omega) (by omega) z.1 z.2
    unfold ksum
    have e : m + 1 + n = m + (n + 1) := by omega
    rw [e] at this
    exact this
theorem j140_l (hA : kJ A V) (v : kLV V) (r : kRW V R) {k base : Int} (b0 : 0 ≤ base) (b1 : base < 84) :
    ∀ (n m : Nat) (p s : Int) (l6 l7 l8 : Option Value), kk1 l6 = true → p + n = 5 * base + R 61 0 base → 5 * base ≤ p → -1 ≤ s → s ≤ 9000000000 * m → m + n ≤ 5 →
    (ka_W (kp E) (d, (140, 13, [some (.ref (A 9 0)), some (iv k), some (iv base), some (lv s), none, some (iv p), l6, l7, l8], []), (kHp J A V C R, c, l)) Q ↔ Q (.inl (some (lv (if 1000000000 < ksum R n p s then -1 else ksum R n p s)))) (kHp J A V C R, c, l))
  | 0, m, p, s, l6, l7, l8, h6, hn, p0, s0, s1, hm => by
    have B := r.a61 b0 b1
    have e : p = 5 * base + R 61 0 base := by omega
    subst e
    unfold ksum
    simp (disch := first | assumption | (unfold kR; decide) | exact klc_R | (unfold kR; omega) | omega | (unfold kL; omega) | exact kcat_null | exact kcat_ref _ | exact kcat_iv _) only [r140_13, r140_15, r140_16, r140_17, r140_18, r140_19, r140_22, r140_23, r140_24, r140_25, r140_113, r140_114, r140_117, r140_118, r140_121, r140_124, r140_127, r140_128, ho_9_11 hA v.l9, hg_9_11 hA v.l9, hoa_61 hA v.l61, hga_61 hA v.l61, true_and, and_true, kk1_i, kk1_r, kk1_n, kk1_0, kcat_iv, kcat_ref, kcat_null, kisR_ref, kisR_null, ksz_nil, ksz_iv, ksz_ref, ksz_null, ksz_lv, kfit_int, kfit_long, kfit_obj, kfit_objN, kfit_arr, kfit_arrN, knarI, knarZ0, knarZ1, kret_v, kret_n, kret_x, Nat.reduceAdd, Nat.reduceLeDiff, reduceCtorEq, Int.reduceLE, Int.reduceLT, Int.reduceEq, ite_true, ite_false, true_or, or_true, false_implies, true_implies, not_true_eq_false, not_false_eq_true, and_self, eq_self, klc_lt, klc_ge, klc_le, klc_gt, klc_eq, kmu_eq, kmu_f, kmu_i, kmu_j, Int.le_refl]
    by_cases h : 1000000000 < s
    · simp only [h, if_true, show ¬ s ≤ 1000000000 by omega, false_implies, true_and, not_false_eq_true, true_implies]
    · simp only [h, if_false, show s ≤ 1000000000 by omega, not_true_eq_false, false_implies, and_true, true_implies]
  | n + 1, m, p, s, l6, l7, l8, h6, hn, p0, s0, s1, hm => by
    have B := r.a61 b0 b1
    have B2 := r.a62 (j := p) (by omega) (by omega)
    have B3 := r.a56 (j := R 62 0 p) (by omega) (by omega)
    have B4 := r.a63 (j := p) (by omega) (by omega)
    have B5 := r.a54 (j := R 62 0 p) (by omega) (by omega)
    have z := knx_b r (p := p) (n := m) (by omega) (by omega) s0 s1
    have ke := keach_b r (p := p) (by omega) (by omega)
    have c1 : ¬ 5 * base + R 61 0 base ≤ p := by omega
    have ih := fun l6 l7 l8 h => j140_l hA v r (k := k) b0 b1 n (m + 1) (p + 1) _ l6 l7 l8 h (by omega) (by omega) z.1 z.2 (by omega)
    unfold ksum
    rw [r140_13]
    by_cases h1 : R 56 0 (R 62 0 p) = -1
    · have e : keach R p = R 54 0 (R 62 0 p) := if_pos h1
      rw [e] at ih ke ⊢
      rw [← ih (some (iv (-1))) (some (lv (R 54 0 (R 62 0 p)))) none rfl]
      have c2 : ¬ R 54 0 (R 62 0 p) < 0 := by omega
      by_cases h3 : s < 0
      · simp (disch := first | assumption | (unfold kR; decide) | exact klc_R | (unfold kR; omega) | omega | (unfold kL; omega) | exact kcat_null | exact kcat_ref _ | exact kcat_iv _) only [r140_15, r140_16, r140_17, r140_18, r140_19, r140_22, r140_23, r140_24, r140_25, r140_28, r140_29, r140_32, r140_33, r140_36, r140_38, r140_39, r140_40, r140_42, r140_44, r140_45, r140_48, r140_49, r140_52, r140_53, r140_56, r140_58, r140_59, r140_60, r140_61, r140_64, r140_65, r140_68, r140_70, r140_71, r140_73, r140_75, r140_76, r140_77, r140_80, r140_81, r140_82, r140_83, r140_86, r140_89, r140_90, r140_93, r140_94, r140_96, r140_97, r140_100, r140_102, r140_103, r140_104, r140_105, r140_106, r140_107, r140_110, ho_9_11 hA v.l9, hg_9_11 hA v.l9, hoa_61 hA v.l61, hga_61 hA v.l61, ho_9_6 hA v.l9, hg_9_6 hA v.l9, hoa_56 hA v.l56, hga_56 hA v.l56, ho_9_12 hA v.l9, hg_9_12 hA v.l9, hoa_62 hA v.l62, hga_62 hA v.l62, ho_9_4 hA v.l9, hg_9_4 hA v.l9, hoa_54 hA v.l54, hga_54 hA v.l54, ho_9_38 hA v.l9, hg_9_38 hA v.l9, hoa_88 hA v.l88, hga_88 hA v.l88, ho_9_13 hA v.l9, hg_9_13 hA v.l9, hoa_63 hA v.l63, hga_63 hA v.l63, true_and, and_true, kk1_i, kk1_r, kk1_n, kk1_0, kcat_iv, kcat_ref, kcat_null, kisR_ref, kisR_null, ksz_nil, ksz_iv, ksz_ref, ksz_null, ksz_lv, kfit_int, kfit_long, kfit_obj, kfit_objN, kfit_arr, kfit_arrN, knarI, knarZ0, knarZ1, kret_v, kret_n, kret_x, Nat.reduceAdd, Nat.reduceLeDiff, reduceCtorEq, Int.reduceLE, Int.reduceLT, Int.reduceEq, ite_true, ite_false, true_or, or_true, false_implies, true_implies, not_true_eq_false, not_false_eq_true, and_self, eq_self, klc_lt, klc_ge, klc_le, klc_gt, klc_eq, kmu_eq, kmu_f, kmu_i, kmu_j, c1, c2, h1, h3, h6, if_true, show ¬ 0 ≤ s by omega]
      · simp (disch := first | assumption | (unfold kR; decide) | exact klc_R | (unfold kR; omega) | omega | (unfold kL; omega) | exact kcat_null | exact kcat_ref _ | exact kcat_iv _) only [r140_15, r140_16, r140_17, r140_18, r140_19, r140_22, r140_23, r140_24, r140_25, r140_28, r140_29, r140_32, r140_33, r140_36, r140_38, r140_39, r140_40, r140_42, r140_44, r140_45, r140_48, r140_49, r140_52, r140_53, r140_56, r140_58, r140_59, r140_60, r140_61, r140_64, r140_65, r140_68, r140_70, r140_71, r140_73, r140_75, r140_76, r140_77, r140_80, r140_81, r140_82, r140_83, r140_86, r140_89, r140_90, r140_93, r140_94, r140_96, r140_97, r140_100, r140_102, r140_103, r140_104, r140_105, r140_106, r140_107, r140_110, ho_9_11 hA v.l9, hg_9_11 hA v.l9, hoa_61 hA v.l61, hga_61 hA v.l61, ho_9_6 hA v.l9, hg_9_6 hA v.l9, hoa_56 hA v.l56, hga_56 hA v.l56, ho_9_12 hA v.l9, hg_9_12 hA v.l9, hoa_62 hA v.l62, hga_62 hA v.l62, ho_9_4 hA v.l9, hg_9_4 hA v.l9, hoa_54 hA v.l54, hga_54 hA v.l54, ho_9_38 hA v.l9, hg_9_38 hA v.l9, hoa_88 hA v.l88, hga_88 hA v.l88, ho_9_13 hA v.l9, hg_9_13 hA v.l9, hoa_63 hA v.l63, hga_63 hA v.l63, true_and, and_true, kk1_i, kk1_r, kk1_n, kk1_0, kcat_iv, kcat_ref, kcat_null, kisR_ref, kisR_null, ksz_nil, ksz_iv, ksz_ref, ksz_null, ksz_lv, kfit_int, kfit_long, kfit_obj, kfit_objN, kfit_arr, kfit_arrN, knarI, knarZ0, knarZ1, kret_v, kret_n, kret_x, Nat.reduceAdd, Nat.reduceLeDiff, reduceCtorEq, Int.reduceLE, Int.reduceLT, Int.reduceEq, ite_true, ite_false, true_or, or_true, false_implies, true_implies, not_true_eq_false, not_false_eq_true, and_self, eq_self, klc_lt, klc_ge, klc_le, klc_gt, klc_eq, kmu_eq, kmu_f, kmu_i, kmu_j, c1, c2, h1, h3, h6, if_false, or_self, show 0 ≤ s by omega]
    · have e : keach R p = R 88 0 (R 56 0 (R 62 0 p)) := if_neg h1
      rw [e] at ih ke ⊢
      rw [← ih (some (iv (R 56 0 (R 62 0 p)))) (some (lv (R 88 0 (R 56 0 (R 62 0 p))))) none rfl]
      by_cases h2 : R 88 0 (R 56 0 (R 62 0 p)) < 0
      · simp (disch := first | assumption | (unfold kR; decide) | exact klc_R | (unfold kR; omega) | omega | (unfold kL; omega) | exact kcat_null | exact kcat_ref _ | exact kcat_iv _) only [r140_15, r140_16, r140_17, r140_18, r140_19, r140_22, r140_23, r140_24, r140_25, r140_28, r140_29, r140_32, r140_33, r140_36, r140_38, r140_39, r140_40, r140_42, r140_44, r140_45, r140_48, r140_49, r140_52, r140_53, r140_56, r140_58, r140_59, r140_60, r140_61, r140_64, r140_65, r140_68, r140_70, r140_71, r140_73, r140_75, r140_76, r140_77, r140_80, r140_81, r140_82, r140_83, r140_86, r140_89, r140_90, r140_93, r140_94, r140_96, r140_97, r140_100, r140_102, r140_103, r140_104, r140_105, r140_106, r140_107, r140_110, ho_9_11 hA v.l9, hg_9_11 hA v.l9, hoa_61 hA v.l61, hga_61 hA v.l61, ho_9_6 hA v.l9, hg_9_6 hA v.l9, hoa_56 hA v.l56, hga_56 hA v.l56, ho_9_12 hA v.l9, hg_9_12 hA v.l9, hoa_62 hA v.l62, hga_62 hA v.l62, ho_9_4 hA v.l9, hg_9_4 hA v.l9, hoa_54 hA v.l54, hga_54 hA v.l54, ho_9_38 hA v.l9, hg_9_38 hA v.l9, hoa_88 hA v.l88, hga_88 hA v.l88, ho_9_13 hA v.l9, hg_9_13 hA v.l9, hoa_63 hA v.l63, hga_63 hA v.l63, true_and, and_true, kk1_i, kk1_r, kk1_n, kk1_0, kcat_iv, kcat_ref, kcat_null, kisR_ref, kisR_null, ksz_nil, ksz_iv, ksz_ref, ksz_null, ksz_lv, kfit_int, kfit_long, kfit_obj, kfit_objN, kfit_arr, kfit_arrN, knarI, knarZ0, knarZ1, kret_v, kret_n, kret_x, Nat.reduceAdd, Nat.reduceLeDiff, reduceCtorEq, Int.reduceLE, Int.reduceLT, Int.reduceEq, ite_true, ite_false, true_or, or_true, false_implies, true_implies, not_true_eq_false, not_false_eq_true, and_self, eq_self, klc_lt, klc_ge, klc_le, klc_gt, klc_eq, kmu_eq, kmu_f, kmu_i, kmu_j, c1, h1, h2, h6, if_true]
      · by_cases h3 : s < 0
        · simp (disch := first | assumption | (unfold kR; decide) | exact klc_R | (unfold kR; omega) | omega | (unfold kL; omega) | exact kcat_null | exact kcat_ref _ | exact kcat_iv _) only [r140_15, r140_16, r140_17, r140_18, r140_19, r140_22, r140_23, r140_24, r140_25, r140_28, r140_29, r140_32, r140_33, r140_36, r140_38, r140_39, r140_40, r140_42, r140_44, r140_45, r140_48, r140_49, r140_52, r140_53, r140_56, r140_58, r140_59, r140_60, r140_61, r140_64, r140_65, r140_68, r140_70, r140_71, r140_73, r140_75, r140_76, r140_77, r140_80, r140_81, r140_82, r140_83, r140_86, r140_89, r140_90, r140_93, r140_94, r140_96, r140_97, r140_100, r140_102, r140_103, r140_104, r140_105, r140_106, r140_107, r140_110, ho_9_11 hA v.l9, hg_9_11 hA v.l9, hoa_61 hA v.l61, hga_61 hA v.l61, ho_9_6 hA v.l9, hg_9_6 hA v.l9, hoa_56 hA v.l56, hga_56 hA v.l56, ho_9_12 hA v.l9, hg_9_12 hA v.l9, hoa_62 hA v.l62, hga_62 hA v.l62, ho_9_4 hA v.l9, hg_9_4 hA v.l9, hoa_54 hA v.l54, hga_54 hA v.l54, ho_9_38 hA v.l9, hg_9_38 hA v.l9, hoa_88 hA v.l88, hga_88 hA v.l88, ho_9_13 hA v.l9, hg_9_13 hA v.l9, hoa_63 hA v.l63, hga_63 hA v.l63, true_and, and_true, kk1_i, kk1_r, kk1_n, kk1_0, kcat_iv, kcat_ref, kcat_null, kisR_ref, kisR_null, ksz_nil, ksz_iv, ksz_ref, ksz_null, ksz_lv, kfit_int, kfit_long, kfit_obj, kfit_objN, kfit_arr, kfit_arrN, knarI, knarZ0, knarZ1, kret_v, kret_n, kret_x, Nat.reduceAdd, Nat.reduceLeDiff, reduceCtorEq, Int.reduceLE, Int.reduceLT, Int.reduceEq, ite_true, ite_false, true_or, or_true, false_implies, true_implies, not_true_eq_false, not_false_eq_true, and_self, eq_self, klc_lt, klc_ge, klc_le, klc_gt, klc_eq, kmu_eq, kmu_f, kmu_i, kmu_j, c1, h1, h2, h3, h6, if_true, show ¬ 0 ≤ s by omega]
        · simp (disch := first | assumption | (unfold kR; decide) | exact klc_R | (unfold kR; omega) | omega | (unfold kL; omega) | exact kcat_null | exact kcat_ref _ | exact kcat_iv _) only [r140_15, r140_16, r140_17, r140_18, r140_19, r140_22, r140_23, r140_24, r140_25, r140_28, r140_29, r140_32, r140_33, r140_36, r140_38, r140_39, r140_40, r140_42, r140_44, r140_45, r140_48, r140_49, r140_52, r140_53, r140_56, r140_58, r140_59, r140_60, r140_61, r140_64, r140_65, r140_68, r140_70, r140_71, r140_73, r140_75, r140_76, r140_77, r140_80, r140_81, r140_82, r140_83, r140_86, r140_89, r140_90, r140_93, r140_94, r140_96, r140_97, r140_100, r140_102, r140_103, r140_104, r140_105, r140_106, r140_107, r140_110, ho_9_11 hA v.l9, hg_9_11 hA v.l9, hoa_61 hA v.l61, hga_61 hA v.l61, ho_9_6 hA v.l9, hg_9_6 hA v.l9, hoa_56 hA v.l56, hga_56 hA v.l56, ho_9_12 hA v.l9, hg_9_12 hA v.l9, hoa_62 hA v.l62, hga_62 hA v.l62, ho_9_4 hA v.l9, hg_9_4 hA v.l9, hoa_54 hA v.l54, hga_54 hA v.l54, ho_9_38 hA v.l9, hg_9_38 hA v.l9, hoa_88 hA v.l88, hga_88 hA v.l88, ho_9_13 hA v.l9, hg_9_13 hA v.l9, hoa_63 hA v.l63, hga_63 hA v.l63, true_and, and_true, kk1_i, kk1_r, kk1_n, kk1_0, kcat_iv, kcat_ref, kcat_null, kisR_ref, kisR_null, ksz_nil, ksz_iv, ksz_ref, ksz_null, ksz_lv, kfit_int, kfit_long, kfit_obj, kfit_objN, kfit_arr, kfit_arrN, knarI, knarZ0, knarZ1, kret_v, kret_n, kret_x, Nat.reduceAdd, Nat.reduceLeDiff, reduceCtorEq, Int.reduceLE, Int.reduceLT, Int.reduceEq, ite_true, ite_false, true_or, or_true, false_implies, true_implies, not_true_eq_false, not_false_eq_true, and_self, eq_self, klc_lt, klc_ge, klc_le, klc_gt, klc_eq, kmu_eq, kmu_f, kmu_i, kmu_j, c1, h1, h2, h3, h6, if_false, or_self, show 0 ≤ s by omega]
theorem j140 (hA : kJ A V) (v : kLV V) (r : kRW V R) {k : Int} (hd : 1 ≤ d) (k0 : 0 ≤ k) (k1 : k < 20) (hk : 1 ≤ R 59 0 k) : ka_W (kp E) (d, (140, 0, [some (.ref (A 9 0)), some (iv k), none, none, none, none, none, none, none], []), (kHp J A V C R, c, l)) Q ↔ Q (.inl (some (lv (f140 R k)))) (kHp J A V C R, c, l) := by
  have B := r.a59 (j := k) k0 (by omega)
  have T := ktd_b R k 4 0 (by omega) (by omega)
  have hb : 0 ≤ f138 R k ∧ f138 R k < 84 := by unfold f138; omega
  have B2 := r.a61 hb.1 hb.2
  have z := j140_l (E := E) (d := d) (c := c) (l := l) (Q := Q) (J := J) (C := C) hA v r (k := k) hb.1 hb.2 (R 61 0 (f138 R k)).toNat 0 (5 * f138 R k) 0 none none none rfl (by omega) (by omega) (by omega) (by omega) (by omega)
  unfold f140
  rw [← z]
  simp (disch := first | assumption | (unfold kR; decide) | exact klc_R | (unfold kR; omega) | omega | (unfold kL; omega) | exact kcat_null | exact kcat_ref _ | exact kcat_iv _) only [r140_0, r140_1, r140_2, r140_5, r140_6, r140_7, r140_8, r140_9, r140_10, r140_11, ht_9 hA v.l9, true_and, and_true, kk1_i, kk1_r, kk1_n, kk1_0, kcat_iv, kcat_ref, kcat_null, kisR_ref, kisR_null, ksz_nil, ksz_iv, ksz_ref, ksz_null, ksz_lv, kfit_int, kfit_long, kfit_obj, kfit_objN, kfit_arr, kfit_arrN, knarI, knarZ0, knarZ1, kret_v, kret_n, kret_x, Nat.reduceAdd, Nat.reduceLeDiff, reduceCtorEq, Int.reduceLE, Int.reduceLT, Int.reduceEq, ite_true, ite_false, true_or, or_true, false_implies, true_implies, not_true_eq_false, not_false_eq_true, and_self, eq_self, klc_lt, klc_ge, klc_le, klc_gt, klc_eq, kmu_eq, kmu_f, kmu_i, kmu_j, j138 hA v r, hd, Nat.zero_le]
theorem f140_b (r : kRW V R) {k : Int} (k0 : 0 ≤ k) (k1 : k < 20) (hk : 1 ≤ R 59 0 k) : -1 ≤ f140 R k ∧ f140 R k ≤ 1000000000 := by
  have B := r.a59 (j := k) k0 (by omega)
  have T := ktd_b R k 4 0 (by omega) (by omega)
  have hb : 0 ≤ f138 R k ∧ f138 R k < 84 := by unfold f138; omega
  have B2 := r.a61 hb.1 hb.2
  have := ksum_b r (R 61 0 (f138 R k)).toNat (5 * f138 R k) 0 0 (by omega) (by omega) (by omega) (by omega)
  unfold f140
  dsimp only
  split <;> omega
/-- a round over the kits -/
def kck (k : Int) (R : ka_M) : ka_M := kmu R 88 0 k (f140 R k)
def kcr (n : Nat) (_ : Int) (R : ka_M) : ka_M := kfd kck n 0 R
def f139 (R : ka_M) : ka_M := kfd (kcr (R 9 0 7).toNat) ((R 9 0 7).toNat + 1) 0 (kfd (fun k R => kmu R 88 0 k 0) (R 9 0 7).toNat 0 R)
/-- only costs change -/
def kCo (R R' : ka_M) : Prop := ∀ f, f ≠ 88 → R' f = R f
theorem j139 (hA : kJ A V) (v : kLV V) (r : kRW V R) (b : kBk R) (hd : 2 ≤ d) : kRW V (f139 R) ∧ kCo R (f139 R) ∧ (ka_W (kp E) (d, (139, 0, [some (.ref (A 9 0)), none, none], []), (kHp J A V C R, c, l)) Q ↔ Q (.inl none) (kHp J A V C (f139 R), c, l)) := by
  have B := r.i7
  have d1 : 1 ≤ d := by omega
  generalize hn : R 9 0 7 = n at *
  -- all to 0
  have s1 := kfor (n := n) (f := fun k R => kmu R 88 0 k 0) (inv := fun k X => 0 ≤ k ∧ kRW V X ∧ kCo R X) (W := fun k X => ka_W (kp E) (d, (139, 2, [some (.ref (A 9 0)), some (iv k), none], []), (kHp J A V C X, c, l)) Q) (fun k X hk ⟨k0, rX, cX⟩ => by
    have e7 : X 9 0 7 = n := by rw [cX 9 (by decide)]; exact hn
    refine ⟨⟨by omega, rX.pa88 (by omega) (by omega), fun f hf => (kmu_ff hf).trans (cX f hf)⟩, ?_⟩
    rw [r139_2]
    simp (disch := first | assumption | (unfold kR; decide) | exact klc_R | (unfold kR; omega) | omega | (unfold kL; omega) | exact kcat_null | exact kcat_ref _ | exact kcat_iv _) only [r139_3, r139_4, r139_7, r139_10, r139_11, r139_14, r139_15, r139_16, r139_17, r139_20, ho_9_7 hA v.l9, hg_9_7 hA v.l9, ho_9_38 hA v.l9, hg_9_38 hA v.l9, hoa_88 hA v.l88, hga_88 hA v.l88, hpa_88 hA v.l88, true_and, and_true, kk1_i, kk1_r, kk1_n, kk1_0, kcat_iv, kcat_ref, kcat_null, kisR_ref, kisR_null, ksz_nil, ksz_iv, ksz_ref, ksz_null, ksz_lv, kfit_int, kfit_long, kfit_obj, kfit_objN, kfit_arr, kfit_arrN, knarI, knarZ0, knarZ1, kret_v, kret_n, kret_x, Nat.reduceAdd, Nat.reduceLeDiff, reduceCtorEq, Int.reduceLE, Int.reduceLT, Int.reduceEq, ite_true, ite_false, true_or, or_true, false_implies, true_implies, not_true_eq_false, not_false_eq_true, and_self, eq_self, klc_lt, klc_ge, klc_le, klc_gt, klc_eq, kmu_eq, kmu_f, kmu_i, kmu_j, e7, show ¬ n ≤ k by omega]) n.toNat 0 R (by omega) ⟨by omega, r, fun _ _ => rfl⟩
  unfold f139
  rw [hn]
  generalize kfd (fun k R => kmu R 88 0 k 0) n.toNat 0 R = R1 at *
  obtain ⟨w1, -, r1, c1⟩ := s1
  have s2 := kfor (n := n + 1) (f := kcr n.toNat) (inv := fun k X => 0 ≤ k ∧ kRW V X ∧ kCo R X) (W := fun k X => ka_W (kp E) (d, (139, 25, [some (.ref (A 9 0)), some (iv k), none], []), (kHp J A V C X, c, l)) Q) (fun k X hk ⟨k0, rX, cX⟩ => by
    have s3 := kfor (n := n) (f := kck) (inv := fun k X => 0 ≤ k ∧ kRW V X ∧ kCo R X) (W := fun j X => ka_W (kp E) (d, (139, 35, [some (.ref (A 9 0)), some (iv k), some (iv j)], []), (kHp J A V C X, c, l)) Q) (fun j Y hj ⟨j0, rY, cY⟩ => by
      have e7 : Y 9 0 7 = n := by rw [cY 9 (by decide)]; exact hn
      have e59 : 1 ≤ Y 59 0 j := by rw [cY 59 (by decide)]; exact b.2.2.2 j j0 (by omega)
      have fb := f140_b rY j0 (by omega) e59
      refine ⟨⟨by omega, rY.pa88 fb.1 fb.2, fun f hf => (kmu_ff hf).trans (cY f hf)⟩, ?_⟩
      unfold kck
      rw [r139_35]
      simp (disch := first | assumption | (unfold kR; decide) | exact klc_R | (unfold kR; omega) | omega | (unfold kL; omega) | exact kcat_null | exact kcat_ref _ | exact kcat_iv _) only [r139_36, r139_37, r139_40, r139_43, r139_44, r139_47, r139_48, r139_49, r139_50, r139_53, r139_54, r139_57, ho_9_7 hA v.l9, hg_9_7 hA v.l9, ho_9_38 hA v.l9, hg_9_38 hA v.l9, hoa_88 hA v.l88, hga_88 hA v.l88, hpa_88 hA v.l88, ht_9 hA v.l9, true_and, and_true, kk1_i, kk1_r, kk1_n, kk1_0, kcat_iv, kcat_ref, kcat_null, kisR_ref, kisR_null, ksz_nil, ksz_iv, ksz_ref, ksz_null, ksz_lv, kfit_int, kfit_long, kfit_obj, kfit_objN, kfit_arr, kfit_arrN, knarI, knarZ0, knarZ1, kret_v, kret_n, kret_x, Nat.reduceAdd, Nat.reduceLeDiff, reduceCtorEq, Int.reduceLE, Int.reduceLT, Int.reduceEq, ite_true, ite_false, true_or, or_true, false_implies, true_implies, not_true_eq_false, not_false_eq_true, and_self, eq_self, klc_lt, klc_ge, klc_le, klc_gt, klc_eq, kmu_eq, kmu_f, kmu_i, kmu_j, e7, j140 hA v rY, show ¬ n ≤ j by omega, d1, Nat.zero_le, e59]) n.toNat 0 X (by omega) ⟨by omega, rX, cX⟩
    obtain ⟨w3, -, r3, c3⟩ := s3
    have e7 : X 9 0 7 = n := by rw [cX 9 (by decide)]; exact hn
    have e7' : kfd kck n.toNat 0 X 9 0 7 = n := by rw [c3 9 (by decide)]; exact hn
    refine ⟨⟨by omega, r3, c3⟩, ?_⟩
    unfold kcr
    have hi : ∀ {l2 l2' : Option Value}, (ka_W (kp E) (d, (139, 25, [some (.ref (A 9 0)), some (iv (k + 1)), l2], []), (kHp J A V C (kfd kck n.toNat 0 X), c, l)) Q ↔ ka_W (kp E) (d, (139, 25, [some (.ref (A 9 0)), some (iv (k + 1)), l2'], []), (kHp J A V C (kfd kck n.toNat 0 X), c, l)) Q) := by
      intro l2 l2'
      by_cases z : n < k + 1
      · simp (disch := first | assumption | (unfold kR; decide) | exact klc_R | (unfold kR; omega) | omega | (unfold kL; omega) | exact kcat_null | exact kcat_ref _ | exact kcat_iv _) only [r139_25, r139_26, r139_27, r139_30, r139_66, ho_9_7 hA v.l9, hg_9_7 hA v.l9, true_and, and_true, kk1_i, kk1_r, kk1_n, kk1_0, kcat_iv, kcat_ref, kcat_null, kisR_ref, kisR_null, ksz_nil, ksz_iv, ksz_ref, ksz_null, ksz_lv, kfit_int, kfit_long, kfit_obj, kfit_objN, kfit_arr, kfit_arrN, knarI, knarZ0, knarZ1, kret_v, kret_n, kret_x, Nat.reduceAdd, Nat.reduceLeDiff, reduceCtorEq, Int.reduceLE, Int.reduceLT, Int.reduceEq, ite_true, ite_false, true_or, or_true, false_implies, true_implies, not_true_eq_false, not_false_eq_true, and_self, eq_self, klc_lt, klc_ge, klc_le, klc_gt, klc_eq, kmu_eq, kmu_f, kmu_i, kmu_j, e7', z]
      · simp (disch := first | assumption | (unfold kR; decide) | exact klc_R | (unfold kR; omega) | omega | (unfold kL; omega) | exact kcat_null | exact kcat_ref _ | exact kcat_iv _) only [r139_25, r139_26, r139_27, r139_30, r139_33, r139_34, ho_9_7 hA v.l9, hg_9_7 hA v.l9, true_and, and_true, kk1_i, kk1_r, kk1_n, kk1_0, kcat_iv, kcat_ref, kcat_null, kisR_ref, kisR_null, ksz_nil, ksz_iv, ksz_ref, ksz_null, ksz_lv, kfit_int, kfit_long, kfit_obj, kfit_objN, kfit_arr, kfit_arrN, knarI, knarZ0, knarZ1, kret_v, kret_n, kret_x, Nat.reduceAdd, Nat.reduceLeDiff, reduceCtorEq, Int.reduceLE, Int.reduceLT, Int.reduceEq, ite_true, ite_false, true_or, or_true, false_implies, true_implies, not_true_eq_false, not_false_eq_true, and_self, eq_self, klc_lt, klc_ge, klc_le, klc_gt, klc_eq, kmu_eq, kmu_f, kmu_i, kmu_j, e7', z]
    rw [hi (l2 := none) (l2' := some (iv n)), r139_25]
    simp (disch := first | assumption | (unfold kR; decide) | exact klc_R | (unfold kR; omega) | omega | (unfold kL; omega) | exact kcat_null | exact kcat_ref _ | exact kcat_iv _) only [r139_26, r139_27, r139_30, r139_33, r139_34, ho_9_7 hA v.l9, hg_9_7 hA v.l9, true_and, and_true, kk1_i, kk1_r, kk1_n, kk1_0, kcat_iv, kcat_ref, kcat_null, kisR_ref, kisR_null, ksz_nil, ksz_iv, ksz_ref, ksz_null, ksz_lv, kfit_int, kfit_long, kfit_obj, kfit_objN, kfit_arr, kfit_arrN, knarI, knarZ0, knarZ1, kret_v, kret_n, kret_x, Nat.reduceAdd, Nat.reduceLeDiff, reduceCtorEq, Int.reduceLE, Int.reduceLT, Int.reduceEq, ite_true, ite_false, true_or, or_true, false_implies, true_implies, not_true_eq_false, not_false_eq_true, and_self, eq_self, klc_lt, klc_ge, klc_le, klc_gt, klc_eq, kmu_eq, kmu_f, kmu_i, kmu_j, e7, show ¬ n < k by omega, w3]
    rw [r139_35]
    simp (disch := first | assumption | (unfold kR; decide) | exact klc_R | (unfold kR; omega) | omega | (unfold kL; omega) | exact kcat_null | exact kcat_ref _ | exact kcat_iv _) only [r139_36, r139_37, r139_40, r139_43, r139_44, r139_47, r139_48, r139_49, r139_50, r139_53, r139_54, r139_57, r139_60, r139_63, ho_9_7 hA v.l9, hg_9_7 hA v.l9, ho_9_38 hA v.l9, hg_9_38 hA v.l9, hoa_88 hA v.l88, hga_88 hA v.l88, hpa_88 hA v.l88, ht_9 hA v.l9, true_and, and_true, kk1_i, kk1_r, kk1_n, kk1_0, kcat_iv, kcat_ref, kcat_null, kisR_ref, kisR_null, ksz_nil, ksz_iv, ksz_ref, ksz_null, ksz_lv, kfit_int, kfit_long, kfit_obj, kfit_objN, kfit_arr, kfit_arrN, knarI, knarZ0, knarZ1, kret_v, kret_n, kret_x, Nat.reduceAdd, Nat.reduceLeDiff, reduceCtorEq, Int.reduceLE, Int.reduceLT, Int.reduceEq, ite_true, ite_false, true_or, or_true, false_implies, true_implies, not_true_eq_false, not_false_eq_true, and_self, eq_self, klc_lt, klc_ge, klc_le, klc_gt, klc_eq, kmu_eq, kmu_f, kmu_i, kmu_j, e7', Int.le_refl]) (n.toNat + 1) 0 R1 (by omega) ⟨by omega, r1, c1⟩
  obtain ⟨w2, -, r2, c2⟩ := s2
  have e7 : R1 9 0 7 = n := by rw [c1 9 (by decide)]; exact hn
  have e7' : kfd (kcr n.toNat) (n.toNat + 1) 0 R1 9 0 7 = n := by rw [c2 9 (by decide)]; exact hn
  refine ⟨r2, c2, ?_⟩
  rw [r139_0]
  simp (disch := first | assumption | (unfold kR; decide) | exact klc_R | (unfold kR; omega) | omega | (unfold kL; omega) | exact kcat_null | exact kcat_ref _ | exact kcat_iv _) only [r139_1, true_and, and_true, kk1_i, kk1_r, kk1_n, kk1_0, kcat_iv, kcat_ref, kcat_null, kisR_ref, kisR_null, ksz_nil, ksz_iv, ksz_ref, ksz_null, ksz_lv, kfit_int, kfit_long, kfit_obj, kfit_objN, kfit_arr, kfit_arrN, knarI, knarZ0, knarZ1, kret_v, kret_n, kret_x, Nat.reduceAdd, Nat.reduceLeDiff, reduceCtorEq, Int.reduceLE, Int.reduceLT, Int.reduceEq, ite_true, ite_false, true_or, or_true, false_implies, true_implies, not_true_eq_false, not_false_eq_true, and_self, eq_self, klc_lt, klc_ge, klc_le, klc_gt, klc_eq, kmu_eq, kmu_f, kmu_i, kmu_j, w1]
  simp (disch := first | assumption | (unfold kR; decide) | exact klc_R | (unfold kR; omega) | omega | (unfold kL; omega) | exact kcat_null | exact kcat_ref _ | exact kcat_iv _) only [r139_2, r139_3, r139_4, r139_7, r139_10, r139_11, r139_14, r139_15, r139_16, r139_17, r139_20, r139_23, r139_24, ho_9_7 hA v.l9, hg_9_7 hA v.l9, ho_9_38 hA v.l9, hg_9_38 hA v.l9, hoa_88 hA v.l88, hga_88 hA v.l88, hpa_88 hA v.l88, true_and, and_true, kk1_i, kk1_r, kk1_n, kk1_0, kcat_iv, kcat_ref, kcat_null, kisR_ref, kisR_null, ksz_nil, ksz_iv, ksz_ref, ksz_null, ksz_lv, kfit_int, kfit_long, kfit_obj, kfit_objN, kfit_arr, kfit_arrN, knarI, knarZ0, knarZ1, kret_v, kret_n, kret_x, Nat.reduceAdd, Nat.reduceLeDiff, reduceCtorEq, Int.reduceLE, Int.reduceLT, Int.reduceEq, ite_true, ite_false, true_or, or_true, false_implies, true_implies, not_true_eq_false, not_false_eq_true, and_self, eq_self, klc_lt, klc_ge, klc_le, klc_gt, klc_eq, kmu_eq, kmu_f, kmu_i, kmu_j, e7, Int.le_refl, w2]
  rw [r139_25]
  simp (disch := first | assumption | (unfold kR; decide) | exact klc_R | (unfold kR; omega) | omega | (unfold kL; omega) | exact kcat_null | exact kcat_ref _ | exact kcat_iv _) only [r139_26, r139_27, r139_30, r139_66, ho_9_7 hA v.l9, hg_9_7 hA v.l9, true_and, and_true, kk1_i, kk1_r, kk1_n, kk1_0, kcat_iv, kcat_ref, kcat_null, kisR_ref, kisR_null, ksz_nil, ksz_iv, ksz_ref, ksz_null, ksz_lv, kfit_int, kfit_long, kfit_obj, kfit_objN, kfit_arr, kfit_arrN, knarI, knarZ0, knarZ1, kret_v, kret_n, kret_x, Nat.reduceAdd, Nat.reduceLeDiff, reduceCtorEq, Int.reduceLE, Int.reduceLT, Int.reduceEq, ite_true, ite_false, true_or, or_true, false_implies, true_implies, not_true_eq_false, not_false_eq_true, and_self, eq_self, klc_lt, klc_ge, klc_le, klc_gt, klc_eq, kmu_eq, kmu_f, kmu_i, kmu_j, e7', show n < n + 1 by omega]
end
