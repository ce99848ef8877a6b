/-! The reference: does one good lead to another in one go. -/
def kP (R : ka_M) (base hh : Int) (p : Int) : Prop := ∃ q, p ≤ q ∧ q < 5 * base + R 61 0 base ∧ (R 62 0 q = hh ∨ R 64 0 q = hh)
/-- from recipe q on -/
def kPr (R : ka_M) (k hh q : Int) : Prop := ∃ s, q ≤ s ∧ s < R 59 0 k ∧ kP R (4 * k + s) hh (5 * (4 * k + s))
def klead (R : ka_M) (g hh : Int) : Prop := R 56 0 g ≠ -1 ∧ kPr R (R 56 0 g) hh 0
theorem kP_end {R : ka_M} {base hh : Int} : ¬ kP R base hh (5 * base + R 61 0 base) := fun ⟨q, h1, h2, _⟩ => by omega
theorem kP_step {R : ka_M} {base hh p : Int} (h : p < 5 * base + R 61 0 base) : kP R base hh p ↔ (R 62 0 p = hh ∨ R 64 0 p = hh) ∨ kP R base hh (p + 1) := by
  constructor
  · rintro ⟨q, h1, h2, h3⟩
    by_cases e : q = p
    · subst e
      exact Or.inl h3
    · exact Or.inr ⟨q, by omega, h2, h3⟩
  · rintro (h3 | ⟨q, h1, h2, h3⟩)
    · exact ⟨p, by omega, h, h3⟩
    · exact ⟨q, by omega, h2, h3⟩
theorem kPr_end {R : ka_M} {k hh q : Int} (h : R 59 0 k ≤ q) : ¬ kPr R k hh q := fun ⟨s, h1, h2, _⟩ => by omega
theorem kPr_step {R : ka_M} {k hh q : Int} (h : q < R 59 0 k) : kPr R k hh q ↔ kP R (4 * k + q) hh (5 * (4 * k + q)) ∨ kPr R k hh (q + 1) := by
  constructor
  · rintro ⟨s, h1, h2, h3⟩
    by_cases e : s = q
    · subst e
      exact Or.inl h3
    · exact Or.inr ⟨s, by omega, h2, h3⟩
  · rintro (h3 | ⟨s, h1, h2, h3⟩)
    · exact ⟨q, by omega, h, h3⟩
    · exact ⟨s, by omega, h2, h3⟩
section
variable {E : Nat × Nat} {d c l : Nat} {s : ka_S} {Q : ka_Q} {J : ka_H} {A : ka_A} {V : ka_V} {C R : ka_M}
theorem j124_i (hA : kJ A V) (v : kLV V) (r : kRW V R) {g hh k rr base : Int} (b0 : 0 ≤ base) (b1 : base < 84) (hh0 : 0 ≤ hh) (hh1 : hh ≤ 19) :
    ∀ (n : Nat) (p : Int) (P : Prop), 5 * base ≤ p → p ≤ 5 * base + R 61 0 base → 5 * base + R 61 0 base ≤ p + n →
    (ka_W (kp E) (d, (124, 43, [some (.ref (A 9 0)), some (iv g), some (iv hh), some (iv k), some (iv (kb P)), some (iv rr), some (iv base), some (iv p)], []), (kHp J A V C R, c, l)) Q ↔
     ka_W (kp E) (d, (124, 100, [some (.ref (A 9 0)), some (iv g), some (iv hh), some (iv k), some (iv (kb (P ∨ kP R base hh p))), some (iv rr), some (iv base), some (iv (5 * base + R 61 0 base))], []), (kHp J A V C R, c, l)) Q)
  | n, p, P, p0, p1, pn => by
    have B := r.a61 b0 b1
    have hs := kb_r P
    by_cases c1 : 5 * base + R 61 0 base ≤ p
    · have e : p = 5 * base + R 61 0 base := by omega
      subst e
      have e2 : kb (P ∨ kP R base hh (5 * base + R 61 0 base)) = kb P := kb_c (by simp [kP_end])
      rw [e2]
      simp (disch := first | assumption | (unfold kR; decide) | exact klc_R | (unfold kR; omega) | omega | (unfold kL; omega) | exact kcat_null | exact kcat_ref _ | exact kcat_iv _) only [r124_43, r124_45, r124_46, r124_48, r124_49, r124_50, r124_53, r124_55, r124_56, r124_57, ho_9_11 hA v.l9, hg_9_11 hA v.l9, hoa_61 hA v.l61, hga_61 hA v.l61, true_and, and_true, kk1_i, kk1_r, kk1_n, kk1_0, kcat_iv, kcat_ref, kcat_null, kisR_ref, kisR_null, ksz_nil, ksz_iv, ksz_ref, ksz_null, ksz_lv, kfit_int, kfit_long, kfit_obj, kfit_objN, kfit_arr, kfit_arrN, knarI, knarZ0, knarZ1, kret_v, kret_n, kret_x, Nat.reduceAdd, Nat.reduceLeDiff, reduceCtorEq, Int.reduceLE, Int.reduceLT, Int.reduceEq, ite_true, ite_false, true_or, or_true, false_implies, true_implies, not_true_eq_false, not_false_eq_true, and_self, eq_self, klc_lt, klc_ge, klc_le, klc_gt, klc_eq, kmu_eq, kmu_f, kmu_i, kmu_j, Int.le_refl]
    · cases n with
      | zero => omega
      | succ n =>
        have G := r.a62 (j := p) (by omega) (by omega)
        have I := r.a64 (j := p) (by omega) (by omega)
        have st := kP_step (R := R) (base := base) (hh := hh) (p := p) (by omega)
        have ih := fun P' => j124_i hA v r (g := g) (k := k) (rr := rr) b0 b1 hh0 hh1 n (p + 1) P' (by omega) (by omega) (by omega)
        have key : ∀ b : Int, (b = kb (P ∨ (R 62 0 p = hh ∨ R 64 0 p = hh))) → (ka_W (kp E) (d, (124, 43, [some (.ref (A 9 0)), some (iv g), some (iv hh), some (iv k), some (iv b), some (iv rr), some (iv base), some (iv (p + 1))], []), (kHp J A V C R, c, l)) Q ↔ ka_W (kp E) (d, (124, 100, [some (.ref (A 9 0)), some (iv g), some (iv hh), some (iv k), some (iv (kb (P ∨ kP R base hh p))), some (iv rr), some (iv base), some (iv (5 * base + R 61 0 base))], []), (kHp J A V C R, c, l)) Q) := by
          rintro b rfl
          rw [ih, kb_c (show (P ∨ (R 62 0 p = hh ∨ R 64 0 p = hh)) ∨ kP R base hh (p + 1) ↔ P ∨ kP R base hh p by rw [st, or_assoc])]
        rw [r124_43]
        by_cases hP : P
        · rw [kb_t hP]
          simp (disch := first | assumption | (unfold kR; decide) | exact klc_R | (unfold kR; omega) | omega | (unfold kL; omega) | exact kcat_null | exact kcat_ref _ | exact kcat_iv _) only [r124_45, r124_46, r124_48, r124_49, r124_50, r124_53, r124_55, r124_56, r124_57, r124_60, r124_62, r124_65, r124_66, r124_69, r124_71, r124_72, r124_73, r124_76, r124_77, r124_80, r124_82, r124_83, r124_84, r124_87, r124_88, r124_91, r124_92, r124_94, r124_97, ho_9_11 hA v.l9, hg_9_11 hA v.l9, hoa_61 hA v.l61, hga_61 hA v.l61, ho_9_12 hA v.l9, hg_9_12 hA v.l9, hoa_62 hA v.l62, hga_62 hA v.l62, ho_9_14 hA v.l9, hg_9_14 hA v.l9, hoa_64 hA v.l64, hga_64 hA v.l64, true_and, and_true, kk1_i, kk1_r, kk1_n, kk1_0, kcat_iv, kcat_ref, kcat_null, kisR_ref, kisR_null, ksz_nil, ksz_iv, ksz_ref, ksz_null, ksz_lv, kfit_int, kfit_long, kfit_obj, kfit_objN, kfit_arr, kfit_arrN, knarI, knarZ0, knarZ1, kret_v, kret_n, kret_x, Nat.reduceAdd, Nat.reduceLeDiff, reduceCtorEq, Int.reduceLE, Int.reduceLT, Int.reduceEq, ite_true, ite_false, true_or, or_true, false_implies, true_implies, not_true_eq_false, not_false_eq_true, and_self, eq_self, klc_lt, klc_ge, klc_le, klc_gt, klc_eq, kmu_eq, kmu_f, kmu_i, kmu_j, c1]
          exact key 1 (by rw [kb_t (Or.inl hP)])
        · rw [kb_f hP]
          by_cases h1 : R 62 0 p = hh
          · simp (disch := first | assumption | (unfold kR; decide) | exact klc_R | (unfold kR; omega) | omega | (unfold kL; omega) | exact kcat_null | exact kcat_ref _ | exact kcat_iv _) only [r124_45, r124_46, r124_48, r124_49, r124_50, r124_53, r124_55, r124_56, r124_57, r124_60, r124_62, r124_65, r124_66, r124_69, r124_71, r124_72, r124_73, r124_76, r124_77, r124_80, r124_82, r124_83, r124_84, r124_87, r124_88, r124_91, r124_92, r124_94, r124_97, ho_9_11 hA v.l9, hg_9_11 hA v.l9, hoa_61 hA v.l61, hga_61 hA v.l61, ho_9_12 hA v.l9, hg_9_12 hA v.l9, hoa_62 hA v.l62, hga_62 hA v.l62, ho_9_14 hA v.l9, hg_9_14 hA v.l9, hoa_64 hA v.l64, hga_64 hA v.l64, true_and, and_true, kk1_i, kk1_r, kk1_n, kk1_0, kcat_iv, kcat_ref, kcat_null, kisR_ref, kisR_null, ksz_nil, ksz_iv, ksz_ref, ksz_null, ksz_lv, kfit_int, kfit_long, kfit_obj, kfit_objN, kfit_arr, kfit_arrN, knarI, knarZ0, knarZ1, kret_v, kret_n, kret_x, Nat.reduceAdd, Nat.reduceLeDiff, reduceCtorEq, Int.reduceLE, Int.reduceLT, Int.reduceEq, ite_true, ite_false, true_or, or_true, false_implies, true_implies, not_true_eq_false, not_false_eq_true, and_self, eq_self, klc_lt, klc_ge, klc_le, klc_gt, klc_eq, kmu_eq, kmu_f, kmu_i, kmu_j, c1, h1]
            exact key 1 (by rw [kb_t (Or.inr (Or.inl h1))])
          · by_cases h2 : R 64 0 p = hh
            · simp (disch := first | assumption | (unfold kR; decide) | exact klc_R | (unfold kR; omega) | omega | (unfold kL; omega) | exact kcat_null | exact kcat_ref _ | exact kcat_iv _) only [r124_45, r124_46, r124_48, r124_49, r124_50, r124_53, r124_55, r124_56, r124_57, r124_60, r124_62, r124_65, r124_66, r124_69, r124_71, r124_72, r124_73, r124_76, r124_77, r124_80, r124_82, r124_83, r124_84, r124_87, r124_88, r124_91, r124_92, r124_94, r124_97, ho_9_11 hA v.l9, hg_9_11 hA v.l9, hoa_61 hA v.l61, hga_61 hA v.l61, ho_9_12 hA v.l9, hg_9_12 hA v.l9, hoa_62 hA v.l62, hga_62 hA v.l62, ho_9_14 hA v.l9, hg_9_14 hA v.l9, hoa_64 hA v.l64, hga_64 hA v.l64, true_and, and_true, kk1_i, kk1_r, kk1_n, kk1_0, kcat_iv, kcat_ref, kcat_null, kisR_ref, kisR_null, ksz_nil, ksz_iv, ksz_ref, ksz_null, ksz_lv, kfit_int, kfit_long, kfit_obj, kfit_objN, kfit_arr, kfit_arrN, knarI, knarZ0, knarZ1, kret_v, kret_n, kret_x, Nat.reduceAdd, Nat.reduceLeDiff, reduceCtorEq, Int.reduceLE, Int.reduceLT, Int.reduceEq, ite_true, ite_false, true_or, or_true, false_implies, true_implies, not_true_eq_false, not_false_eq_true, and_self, eq_self, klc_lt, klc_ge, klc_le, klc_gt, klc_eq, kmu_eq, kmu_f, kmu_i, kmu_j, c1, h1, h2]
              exact key 1 (by rw [kb_t (Or.inr (Or.inr h2))])
            · simp (disch := first | assumption | (unfold kR; decide) | exact klc_R | (unfold kR; omega) | omega | (unfold kL; omega) | exact kcat_null | exact kcat_ref _ | exact kcat_iv _) only [r124_45, r124_46, r124_48, r124_49, r124_50, r124_53, r124_55, r124_56, r124_57, r124_60, r124_62, r124_65, r124_66, r124_69, r124_71, r124_72, r124_73, r124_76, r124_77, r124_80, r124_82, r124_83, r124_84, r124_87, r124_88, r124_91, r124_92, r124_94, r124_97, ho_9_11 hA v.l9, hg_9_11 hA v.l9, hoa_61 hA v.l61, hga_61 hA v.l61, ho_9_12 hA v.l9, hg_9_12 hA v.l9, hoa_62 hA v.l62, hga_62 hA v.l62, ho_9_14 hA v.l9, hg_9_14 hA v.l9, hoa_64 hA v.l64, hga_64 hA v.l64, true_and, and_true, kk1_i, kk1_r, kk1_n, kk1_0, kcat_iv, kcat_ref, kcat_null, kisR_ref, kisR_null, ksz_nil, ksz_iv, ksz_ref, ksz_null, ksz_lv, kfit_int, kfit_long, kfit_obj, kfit_objN, kfit_arr, kfit_arrN, knarI, knarZ0, knarZ1, kret_v, kret_n, kret_x, Nat.reduceAdd, Nat.reduceLeDiff, reduceCtorEq, Int.reduceLE, Int.reduceLT, Int.reduceEq, ite_true, ite_false, true_or, or_true, false_implies, true_implies, not_true_eq_false, not_false_eq_true, and_self, eq_self, klc_lt, klc_ge, klc_le, klc_gt, klc_eq, kmu_eq, kmu_f, kmu_i, kmu_j, c1, h1, h2]
              exact key 0 (by rw [kb_f (by simp [hP, h1, h2])])
theorem j124_o (hA : kJ A V) (v : kLV V) (r : kRW V R) {g hh k : Int} (k0 : 0 ≤ k) (k1 : k < 20) (hh0 : 0 ≤ hh) (hh1 : hh ≤ 19) :
    ∀ (n : Nat) (q : Int) (P : Prop) (l6 l7 : Option Value), 0 ≤ q → q ≤ 4 → R 59 0 k ≤ q + n → kk1 l6 = true →
    (ka_W (kp E) (d, (124, 13, [some (.ref (A 9 0)), some (iv g), some (iv hh), some (iv k), some (iv (kb P)), some (iv q), l6, l7], []), (kHp J A V C R, c, l)) Q ↔ Q (.inl (some (iv (kb (P ∨ kPr R k hh q))))) (kHp J A V C R, c, l))
  | n, q, P, l6, l7, q0, q4, qn, hl6 => by
    have B := r.a59 (j := k) (by omega) (by omega)
    by_cases c1 : R 59 0 k ≤ q
    · have e2 : kb (P ∨ kPr R k hh q) = kb P := kb_c (by simp [kPr_end c1])
      rw [e2]
      simp (disch := first | assumption | (unfold kR; decide) | exact klc_R | (unfold kR; omega) | omega | (unfold kL; omega) | exact kcat_null | exact kcat_ref _ | exact kcat_iv _) only [r124_13, r124_14, r124_15, r124_18, r124_20, r124_21, r124_24, r124_25, r124_26, r124_106, r124_108, ho_9_9 hA v.l9, hg_9_9 hA v.l9, hoa_59 hA v.l59, hga_59 hA v.l59, true_and, and_true, kk1_i, kk1_r, kk1_n, kk1_0, kcat_iv, kcat_ref, kcat_null, kisR_ref, kisR_null, ksz_nil, ksz_iv, ksz_ref, ksz_null, ksz_lv, kfit_int, kfit_long, kfit_obj, kfit_objN, kfit_arr, kfit_arrN, knarI, knarZ0, knarZ1, kret_v, kret_n, kret_x, Nat.reduceAdd, Nat.reduceLeDiff, reduceCtorEq, Int.reduceLE, Int.reduceLT, Int.reduceEq, ite_true, ite_false, true_or, or_true, false_implies, true_implies, not_true_eq_false, not_false_eq_true, and_self, eq_self, klc_lt, klc_ge, klc_le, klc_gt, klc_eq, kmu_eq, kmu_f, kmu_i, kmu_j, c1, kb_n, show ¬ k = -1 by omega]
    · cases n with
      | zero => omega
      | succ n =>
        have B2 := r.a61 (j := 4 * k + q) (by omega) (by omega)
        have ih := fun P' l6 l7 h => j124_o hA v r (g := g) k0 k1 hh0 hh1 n (q + 1) P' l6 l7 (by omega) (by omega) (by omega) h
        have ii := j124_i hA v r (E := E) (d := d) (c := c) (l := l) (Q := Q) (J := J) (C := C) (g := g) (k := k) (rr := q) (base := 4 * k + q) (hh := hh) (by omega) (by omega) hh0 hh1 5 (5 * (4 * k + q)) P (by omega) (by omega) (by omega)
        rw [r124_13]
        have hk : ¬ k = -1 := by omega
        simp (disch := first | assumption | (unfold kR; decide) | exact klc_R | (unfold kR; omega) | omega | (unfold kL; omega) | exact kcat_null | exact kcat_ref _ | exact kcat_iv _) only [r124_14, r124_15, r124_18, r124_20, r124_21, r124_24, r124_25, r124_26, r124_29, r124_30, r124_31, r124_32, r124_34, r124_35, r124_37, r124_38, r124_40, r124_41, r124_100, r124_103, ho_9_9 hA v.l9, hg_9_9 hA v.l9, hoa_59 hA v.l59, hga_59 hA v.l59, true_and, and_true, kk1_i, kk1_r, kk1_n, kk1_0, kcat_iv, kcat_ref, kcat_null, kisR_ref, kisR_null, ksz_nil, ksz_iv, ksz_ref, ksz_null, ksz_lv, kfit_int, kfit_long, kfit_obj, kfit_objN, kfit_arr, kfit_arrN, knarI, knarZ0, knarZ1, kret_v, kret_n, kret_x, Nat.reduceAdd, Nat.reduceLeDiff, reduceCtorEq, Int.reduceLE, Int.reduceLT, Int.reduceEq, ite_true, ite_false, true_or, or_true, false_implies, true_implies, not_true_eq_false, not_false_eq_true, and_self, eq_self, klc_lt, klc_ge, klc_le, klc_gt, klc_eq, kmu_eq, kmu_f, kmu_i, kmu_j, c1, hl6, hk, ii]
        rw [ih _ _ _ rfl, kb_c (show (P ∨ kP R (4 * k + q) hh (5 * (4 * k + q))) ∨ kPr R k hh (q + 1) ↔ P ∨ kPr R k hh q by rw [kPr_step (R := R) (k := k) (q := q) (hh := hh) (by omega), or_assoc])]
theorem j124 (hA : kJ A V) (v : kLV V) (r : kRW V R) {g hh : Int} (g0 : 0 ≤ g) (g1 : g ≤ 19) (hh0 : 0 ≤ hh) (hh1 : hh ≤ 19) : ka_W (kp E) (d, (124, 0, [some (.ref (A 9 0)), some (iv g), some (iv hh), none, none, none, none, none], []), (kHp J A V C R, c, l)) Q ↔ Q (.inl (some (iv (kb (klead R g hh))))) (kHp J A V C R, c, l) := by
  have B := r.a56 (j := g) (by omega) (by omega)
  simp (disch := first | assumption | (unfold kR; decide) | exact klc_R | (unfold kR; omega) | omega | (unfold kL; omega) | exact kcat_null | exact kcat_ref _ | exact kcat_iv _) only [r124_0, r124_1, r124_4, r124_5, r124_6, r124_7, r124_8, r124_10, r124_11, ho_9_6 hA v.l9, hg_9_6 hA v.l9, hoa_56 hA v.l56, hga_56 hA v.l56, true_and, and_true, kk1_i, kk1_r, kk1_n, kk1_0, kcat_iv, kcat_ref, kcat_null, kisR_ref, kisR_null, ksz_nil, ksz_iv, ksz_ref, ksz_null, ksz_lv, kfit_int, kfit_long, kfit_obj, kfit_objN, kfit_arr, kfit_arrN, knarI, knarZ0, knarZ1, kret_v, kret_n, kret_x, Nat.reduceAdd, Nat.reduceLeDiff, reduceCtorEq, Int.reduceLE, Int.reduceLT, Int.reduceEq, ite_true, ite_false, true_or, or_true, false_implies, true_implies, not_true_eq_false, not_false_eq_true, and_self, eq_self, klc_lt, klc_ge, klc_le, klc_gt, klc_eq, kmu_eq, kmu_f, kmu_i, kmu_j]
  by_cases hk : R 56 0 g = -1
  · rw [kb_f (show ¬ klead R g hh by simp [klead, hk])]
    simp (disch := first | assumption | (unfold kR; decide) | exact klc_R | (unfold kR; omega) | omega | (unfold kL; omega) | exact kcat_null | exact kcat_ref _ | exact kcat_iv _) only [r124_13, r124_14, r124_15, r124_106, r124_108, true_and, and_true, kk1_i, kk1_r, kk1_n, kk1_0, kcat_iv, kcat_ref, kcat_null, kisR_ref, kisR_null, ksz_nil, ksz_iv, ksz_ref, ksz_null, ksz_lv, kfit_int, kfit_long, kfit_obj, kfit_objN, kfit_arr, kfit_arrN, knarI, knarZ0, knarZ1, kret_v, kret_n, kret_x, Nat.reduceAdd, Nat.reduceLeDiff, reduceCtorEq, Int.reduceLE, Int.reduceLT, Int.reduceEq, ite_true, ite_false, true_or, or_true, false_implies, true_implies, not_true_eq_false, not_false_eq_true, and_self, eq_self, klc_lt, klc_ge, klc_le, klc_gt, klc_eq, kmu_eq, kmu_f, kmu_i, kmu_j, hk]
  · have B2 := r.a59 (j := R 56 0 g) (by omega) (by omega)
    have z := j124_o hA v r (E := E) (d := d) (c := c) (l := l) (Q := Q) (J := J) (C := C) (g := g) (k := R 56 0 g) (by omega) (by omega) hh0 hh1 4 0 False none none (by omega) (by omega) (by omega) rfl
    rw [kb_f id, kb_c (show False ∨ kPr R (R 56 0 g) hh 0 ↔ klead R g hh by simp [klead, hk])] at z
    exact z
end
