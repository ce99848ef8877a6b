/-! Calls: making, unit, good, count, kit. -/
section
variable {E : Nat × Nat} {d D yr c l : Nat} {s : ka_S} {h : ka_H} {Q : ka_Q} {J : ka_H} {A A' : ka_A} {V V' : ka_V} {C C' R R' X X' X'' Y Z : ka_M} {t : Int} {ag : ka_A → List (Option Value)} {ex : List (Nat × Int)}
theorem f168_r (rw : kRW V R) {m y : Int} (m0 : 1 ≤ m) (m1 : m ≤ R 9 0 15) : kR (f168 R m y) := by
  have B15 := rw.i15
  have B68 := rw.a68 (j := m) (by omega) (by omega)
  have B66 := rw.a66 (j := m) (by omega) (by omega)
  have B67 := rw.a67 (j := m) (by omega) (by omega)
  have B69 := rw.a69 (j := m) (by omega) (by omega)
  have B70 := rw.a70 (j := m) (by omega) (by omega)
  have B71 := rw.a71 (j := m) (by omega) (by omega)
  have z := kfd_inv (P := fun p a => 0 ≤ p ∧ -100 * p ≤ a ∧ a ≤ 100 * p) (f := kms R m y) (R 70 0 m).toNat 0 0 (fun p a p0 p1 ⟨_, a0, a1⟩ => by
    have B73 := rw.a73 (j := 5 * m + p) (by omega) (by omega)
    have f := f151_r rw (m := m) (p := p) (by omega) (by omega) p0 (by omega)
    unfold kms
    refine ⟨by omega, ?_, ?_⟩
    · split <;> omega
    · split <;> omega) ⟨by omega, by omega, by omega⟩
  unfold f168
  unfold kR
  (repeat' split) <;> omega
/-- making -/
theorem t38 (I : kIv E A V C R t) {m y : Int} (hm : kR m) (hy : kR y) (hd : 40 ≤ d) (hD : 40 ≤ D) (hc : 121 ≤ c) (hl : 2786 ≤ l) (H : kEnd E D 168 (fun A => [some (.ref (A 9 0)), some (iv m), some (iv y), none, none]) [(2, 1), (0, 2)] V A R t c l Q) :
    ka_W (kp E) (d, (38, 0, [some (.ref (A 0 0)), some (iv m), some (iv y), none], []), (kHp J A V C R, c, l)) Q := by
  have hI := I
  obtain ⟨hA, v, hE, rw, ⟨B, M1, M2, M3, M4, M5, M6⟩, XI⟩ := hI
  have F := B.2.2.1
  by_cases h1 : 1 ≤ m ∧ m ≤ R 9 0 15
  · have B15 := rw.i15
    have B68 := rw.a68 (j := m) (by omega) (by omega)
    obtain ⟨z1, z2, z3, ⟨r1, r2, r3, r4⟩, z5, z6, z7, z8, z9, z10, z11, z12, z13, z14⟩ := F.2.2.2.2.1 m h1.1 h1.2
    have q46 := fun {Q} => c46 (E := E) (d := d - 1) (c := c) (l := l) (Q := Q) (J := J) (R := R) hA v rw F (by omega) h1
    by_cases h2 : 0 ≤ y ∧ y ≤ 6
    · have := H.q I (J := J) (x := f168 R m y) (f168_r rw h1.1 h1.2) (fun _ Q' z => (j168_0 hA v rw (by omega) hm hy h1 h2).mpr z)
      by_cases e0 : y = 0
      · subst e0
        have e : f168 R m 0 = R 68 0 m := rfl
        rw [e] at this
        simp (disch := first | assumption | (unfold kR; decide) | exact klc_R | (unfold kR; omega) | omega | (unfold kL; omega) | exact kcat_null | exact kcat_ref _ | exact kcat_iv _) only [r38_0, r38_1, r38_2, r38_5, r38_6, r38_7_0, r38_7_1, r38_7_2, r38_7_3, r38_7_4, r38_7_5, r38_7_6, r38_7, r38_48, r38_49, r38_52, ht_0 hA v.l0, ho_4_7 hA, hg_4_7 hA, true_and, and_true, kk1_i, kk1_r, kk1_n, kk1_0, kcat_iv, kcat_ref, kcat_null, kisR_ref, kisR_null, ksz_nil, ksz_iv, ksz_ref, ksz_null, ksz_lv, kfit_int, kfit_long, kfit_obj, kfit_objN, kfit_arr, kfit_arrN, knarI, knarZ0, knarZ1, kret_v, kret_n, kret_x, Nat.reduceAdd, Nat.reduceLeDiff, reduceCtorEq, Int.reduceLE, Int.reduceLT, Int.reduceEq, ite_true, ite_false, true_or, or_true, false_implies, true_implies, not_true_eq_false, not_false_eq_true, and_self, eq_self, klc_lt, klc_ge, klc_le, klc_gt, klc_eq, kmu_eq, kmu_f, kmu_i, kmu_j, q46, z10, Nat.zero_le, show 1 ≤ d by omega]
        exact this
      · by_cases e1 : y = 1
        · subst e1
          have e : f168 R m 1 = R 66 0 m := rfl
          rw [e] at this
          simp (disch := first | assumption | (unfold kR; decide) | exact klc_R | (unfold kR; omega) | omega | (unfold kL; omega) | exact kcat_null | exact kcat_ref _ | exact kcat_iv _) only [r38_0, r38_1, r38_2, r38_5, r38_6, r38_7_0, r38_7_1, r38_7_2, r38_7_3, r38_7_4, r38_7_5, r38_7_6, r38_7, r38_48, r38_49, r38_52, r38_53, r38_54, r38_57, ht_0 hA v.l0, ho_4_7 hA, hg_4_7 hA, ho_4_1 hA, hg_4_1 hA, true_and, and_true, kk1_i, kk1_r, kk1_n, kk1_0, kcat_iv, kcat_ref, kcat_null, kisR_ref, kisR_null, ksz_nil, ksz_iv, ksz_ref, ksz_null, ksz_lv, kfit_int, kfit_long, kfit_obj, kfit_objN, kfit_arr, kfit_arrN, knarI, knarZ0, knarZ1, kret_v, kret_n, kret_x, Nat.reduceAdd, Nat.reduceLeDiff, reduceCtorEq, Int.reduceLE, Int.reduceLT, Int.reduceEq, ite_true, ite_false, true_or, or_true, false_implies, true_implies, not_true_eq_false, not_false_eq_true, and_self, eq_self, klc_lt, klc_ge, klc_le, klc_gt, klc_eq, kmu_eq, kmu_f, kmu_i, kmu_j, q46, z7, Nat.zero_le, show 1 ≤ d by omega]
          exact this
        · by_cases e2 : y = 2
          · subst e2
            have e : f168 R m 2 = R 67 0 m := rfl
            rw [e] at this
            simp (disch := first | assumption | (unfold kR; decide) | exact klc_R | (unfold kR; omega) | omega | (unfold kL; omega) | exact kcat_null | exact kcat_ref _ | exact kcat_iv _) only [r38_0, r38_1, r38_2, r38_5, r38_6, r38_7_0, r38_7_1, r38_7_2, r38_7_3, r38_7_4, r38_7_5, r38_7_6, r38_7, r38_48, r38_49, r38_52, r38_53, r38_54, r38_57, r38_58, r38_59, r38_62, ht_0 hA v.l0, ho_4_7 hA, hg_4_7 hA, ho_4_1 hA, hg_4_1 hA, ho_4_3 hA, hg_4_3 hA, true_and, and_true, kk1_i, kk1_r, kk1_n, kk1_0, kcat_iv, kcat_ref, kcat_null, kisR_ref, kisR_null, ksz_nil, ksz_iv, ksz_ref, ksz_null, ksz_lv, kfit_int, kfit_long, kfit_obj, kfit_objN, kfit_arr, kfit_arrN, knarI, knarZ0, knarZ1, kret_v, kret_n, kret_x, Nat.reduceAdd, Nat.reduceLeDiff, reduceCtorEq, Int.reduceLE, Int.reduceLT, Int.reduceEq, ite_true, ite_false, true_or, or_true, false_implies, true_implies, not_true_eq_false, not_false_eq_true, and_self, eq_self, klc_lt, klc_ge, klc_le, klc_gt, klc_eq, kmu_eq, kmu_f, kmu_i, kmu_j, q46, z9, Nat.zero_le, show 1 ≤ d by omega]
            exact this
          · by_cases e3 : y = 3
            · subst e3
              have e : f168 R m 3 = R 69 0 m := rfl
              rw [e] at this
              simp (disch := first | assumption | (unfold kR; decide) | exact klc_R | (unfold kR; omega) | omega | (unfold kL; omega) | exact kcat_null | exact kcat_ref _ | exact kcat_iv _) only [r38_0, r38_1, r38_2, r38_5, r38_6, r38_7_0, r38_7_1, r38_7_2, r38_7_3, r38_7_4, r38_7_5, r38_7_6, r38_7, r38_48, r38_49, r38_52, r38_53, r38_54, r38_57, r38_58, r38_59, r38_62, r38_63, r38_64, r38_67, ht_0 hA v.l0, ho_4_7 hA, hg_4_7 hA, ho_4_1 hA, hg_4_1 hA, ho_4_3 hA, hg_4_3 hA, ho_4_8 hA, hg_4_8 hA, true_and, and_true, kk1_i, kk1_r, kk1_n, kk1_0, kcat_iv, kcat_ref, kcat_null, kisR_ref, kisR_null, ksz_nil, ksz_iv, ksz_ref, ksz_null, ksz_lv, kfit_int, kfit_long, kfit_obj, kfit_objN, kfit_arr, kfit_arrN, knarI, knarZ0, knarZ1, kret_v, kret_n, kret_x, Nat.reduceAdd, Nat.reduceLeDiff, reduceCtorEq, Int.reduceLE, Int.reduceLT, Int.reduceEq, ite_true, ite_false, true_or, or_true, false_implies, true_implies, not_true_eq_false, not_false_eq_true, and_self, eq_self, klc_lt, klc_ge, klc_le, klc_gt, klc_eq, kmu_eq, kmu_f, kmu_i, kmu_j, q46, z11, Nat.zero_le, show 1 ≤ d by omega]
              exact this
            · by_cases e6 : y = 6
              · subst e6
                have e : f168 R m 6 = R 71 0 m := rfl
                rw [e] at this
                simp (disch := first | assumption | (unfold kR; decide) | exact klc_R | (unfold kR; omega) | omega | (unfold kL; omega) | exact kcat_null | exact kcat_ref _ | exact kcat_iv _) only [r38_0, r38_1, r38_2, r38_5, r38_6, r38_7_0, r38_7_1, r38_7_2, r38_7_3, r38_7_4, r38_7_5, r38_7_6, r38_7, r38_100, r38_101, r38_104, ht_0 hA v.l0, ho_4_9 hA, hg_4_9 hA, true_and, and_true, kk1_i, kk1_r, kk1_n, kk1_0, kcat_iv, kcat_ref, kcat_null, kisR_ref, kisR_null, ksz_nil, ksz_iv, ksz_ref, ksz_null, ksz_lv, kfit_int, kfit_long, kfit_obj, kfit_objN, kfit_arr, kfit_arrN, knarI, knarZ0, knarZ1, kret_v, kret_n, kret_x, Nat.reduceAdd, Nat.reduceLeDiff, reduceCtorEq, Int.reduceLE, Int.reduceLT, Int.reduceEq, ite_true, ite_false, true_or, or_true, false_implies, true_implies, not_true_eq_false, not_false_eq_true, and_self, eq_self, klc_lt, klc_ge, klc_le, klc_gt, klc_eq, kmu_eq, kmu_f, kmu_i, kmu_j, q46, z12, Nat.zero_le, show 1 ≤ d by omega]
                exact this
              · by_cases e4 : y = 4
                · subst e4
                  by_cases hs : R 68 0 m = 0
                  · have q87 := fun {Q} => c87 (E := E) (d := d - 1) (c := c) (l := l) (Q := Q) (J := J) (R := R) hA v rw F (by omega) h1.1 h1.2 hs
                    simp (disch := first | assumption | (unfold kR; decide) | exact klc_R | (unfold kR; omega) | omega | (unfold kL; omega) | exact kcat_null | exact kcat_ref _ | exact kcat_iv _) only [r38_0, r38_1, r38_2, r38_5, r38_6, r38_7_0, r38_7_1, r38_7_2, r38_7_3, r38_7_4, r38_7_5, r38_7_6, r38_7, r38_68, r38_69, r38_72, r38_75, r38_76, r38_79, r38_82, r38_83, ht_0 hA v.l0, ho_4_7 hA, hg_4_7 hA, ht_4 hA, true_and, and_true, kk1_i, kk1_r, kk1_n, kk1_0, kcat_iv, kcat_ref, kcat_null, kisR_ref, kisR_null, ksz_nil, ksz_iv, ksz_ref, ksz_null, ksz_lv, kfit_int, kfit_long, kfit_obj, kfit_objN, kfit_arr, kfit_arrN, knarI, knarZ0, knarZ1, kret_v, kret_n, kret_x, Nat.reduceAdd, Nat.reduceLeDiff, reduceCtorEq, Int.reduceLE, Int.reduceLT, Int.reduceEq, ite_true, ite_false, true_or, or_true, false_implies, true_implies, not_true_eq_false, not_false_eq_true, and_self, eq_self, klc_lt, klc_ge, klc_le, klc_gt, klc_eq, kmu_eq, kmu_f, kmu_i, kmu_j, q46, q87, z10, hs, Nat.zero_le, show 1 ≤ d by omega]
                    exact this
                  · have e : f168 R m 4 = 0 := by unfold f168; simp [hs]
                    rw [e] at this
                    simp (disch := first | assumption | (unfold kR; decide) | exact klc_R | (unfold kR; omega) | omega | (unfold kL; omega) | exact kcat_null | exact kcat_ref _ | exact kcat_iv _) only [r38_0, r38_1, r38_2, r38_5, r38_6, r38_7_0, r38_7_1, r38_7_2, r38_7_3, r38_7_4, r38_7_5, r38_7_6, r38_7, r38_68, r38_69, r38_72, r38_75, r38_76, r38_79, r38_82, r38_83, ht_0 hA v.l0, ho_4_7 hA, hg_4_7 hA, ht_4 hA, true_and, and_true, kk1_i, kk1_r, kk1_n, kk1_0, kcat_iv, kcat_ref, kcat_null, kisR_ref, kisR_null, ksz_nil, ksz_iv, ksz_ref, ksz_null, ksz_lv, kfit_int, kfit_long, kfit_obj, kfit_objN, kfit_arr, kfit_arrN, knarI, knarZ0, knarZ1, kret_v, kret_n, kret_x, Nat.reduceAdd, Nat.reduceLeDiff, reduceCtorEq, Int.reduceLE, Int.reduceLT, Int.reduceEq, ite_true, ite_false, true_or, or_true, false_implies, true_implies, not_true_eq_false, not_false_eq_true, and_self, eq_self, klc_lt, klc_ge, klc_le, klc_gt, klc_eq, kmu_eq, kmu_f, kmu_i, kmu_j, q46, z10, hs, Nat.zero_le, show 1 ≤ d by omega]
                    exact this
                · have e5 : y = 5 := by omega
                  subst e5
                  by_cases hs : R 68 0 m = 0
                  · have q88 := fun {Q} => c88 (E := E) (d := d - 1) (c := c) (l := l) (Q := Q) (J := J) (R := R) hA v rw F (by omega) h1.1 h1.2 hs
                    simp (disch := first | assumption | (unfold kR; decide) | exact klc_R | (unfold kR; omega) | omega | (unfold kL; omega) | exact kcat_null | exact kcat_ref _ | exact kcat_iv _) only [r38_0, r38_1, r38_2, r38_5, r38_6, r38_7_0, r38_7_1, r38_7_2, r38_7_3, r38_7_4, r38_7_5, r38_7_6, r38_7, r38_84, r38_85, r38_88, r38_91, r38_92, r38_95, r38_98, r38_99, ht_0 hA v.l0, ho_4_7 hA, hg_4_7 hA, ht_4 hA, true_and, and_true, kk1_i, kk1_r, kk1_n, kk1_0, kcat_iv, kcat_ref, kcat_null, kisR_ref, kisR_null, ksz_nil, ksz_iv, ksz_ref, ksz_null, ksz_lv, kfit_int, kfit_long, kfit_obj, kfit_objN, kfit_arr, kfit_arrN, knarI, knarZ0, knarZ1, kret_v, kret_n, kret_x, Nat.reduceAdd, Nat.reduceLeDiff, reduceCtorEq, Int.reduceLE, Int.reduceLT, Int.reduceEq, ite_true, ite_false, true_or, or_true, false_implies, true_implies, not_true_eq_false, not_false_eq_true, and_self, eq_self, klc_lt, klc_ge, klc_le, klc_gt, klc_eq, kmu_eq, kmu_f, kmu_i, kmu_j, q46, q88, z10, hs, Nat.zero_le, show 1 ≤ d by omega]
                    exact this
                  · have e : f168 R m 5 = 0 := by unfold f168; simp [hs]
                    rw [e] at this
                    simp (disch := first | assumption | (unfold kR; decide) | exact klc_R | (unfold kR; omega) | omega | (unfold kL; omega) | exact kcat_null | exact kcat_ref _ | exact kcat_iv _) only [r38_0, r38_1, r38_2, r38_5, r38_6, r38_7_0, r38_7_1, r38_7_2, r38_7_3, r38_7_4, r38_7_5, r38_7_6, r38_7, r38_84, r38_85, r38_88, r38_91, r38_92, r38_95, r38_98, r38_99, ht_0 hA v.l0, ho_4_7 hA, hg_4_7 hA, ht_4 hA, true_and, and_true, kk1_i, kk1_r, kk1_n, kk1_0, kcat_iv, kcat_ref, kcat_null, kisR_ref, kisR_null, ksz_nil, ksz_iv, ksz_ref, ksz_null, ksz_lv, kfit_int, kfit_long, kfit_obj, kfit_objN, kfit_arr, kfit_arrN, knarI, knarZ0, knarZ1, kret_v, kret_n, kret_x, Nat.reduceAdd, Nat.reduceLeDiff, reduceCtorEq, Int.reduceLE, Int.reduceLT, Int.reduceEq, ite_true, ite_false, true_or, or_true, false_implies, true_implies, not_true_eq_false, not_false_eq_true, and_self, eq_self, klc_lt, klc_ge, klc_le, klc_gt, klc_eq, kmu_eq, kmu_f, kmu_i, kmu_j, q46, z10, hs, Nat.zero_le, show 1 ≤ d by omega]
                    exact this
    · have := H.x I (J := J) (e := 0) (x := 2) (b := some (iv 0)) (by simp) (by omega) (by omega) (fun _ Q' z => (j168_2 hA v rw (by omega) hm hy h1 h2).mpr z) (Or.inr ⟨rfl, rfl⟩)
      simp (disch := first | assumption | (unfold kR; decide) | exact klc_R | (unfold kR; omega) | omega | (unfold kL; omega) | exact kcat_null | exact kcat_ref _ | exact kcat_iv _) only [r38_0, r38_1, r38_2, r38_5, r38_6, ht_0 hA v.l0, true_and, and_true, kk1_i, kk1_r, kk1_n, kk1_0, kcat_iv, kcat_ref, kcat_null, kisR_ref, kisR_null, ksz_nil, ksz_iv, ksz_ref, ksz_null, ksz_lv, kfit_int, kfit_long, kfit_obj, kfit_objN, kfit_arr, kfit_arrN, knarI, knarZ0, knarZ1, kret_v, kret_n, kret_x, Nat.reduceAdd, Nat.reduceLeDiff, reduceCtorEq, Int.reduceLE, Int.reduceLT, Int.reduceEq, ite_true, ite_false, true_or, or_true, false_implies, true_implies, not_true_eq_false, not_false_eq_true, and_self, eq_self, klc_lt, klc_ge, klc_le, klc_gt, klc_eq, kmu_eq, kmu_f, kmu_i, kmu_j, q46, Nat.zero_le, show 1 ≤ d by omega]
      rw [r38_7 hy (by omega), r38_105]
      exact ⟨by omega, by omega, by omega, this⟩
  · have := H.x I (J := J) (e := 2) (x := 1) (b := some (iv 0)) (by simp) (by omega) (by omega) (fun _ Q' z => (j168_1 hA v rw (by omega) hm hy h1).mpr z) (Or.inr ⟨rfl, rfl⟩)
    have q46 := fun {Q} => c46x (E := E) (d := d - 1) (c := c) (l := l) (Q := Q) (J := J) (R := R) hA v rw F hm (by omega) h1
    simp (disch := first | assumption | (unfold kR; decide) | exact klc_R | (unfold kR; omega) | omega | (unfold kL; omega) | exact kcat_null | exact kcat_ref _ | exact kcat_iv _) only [r38_0, r38_1, r38_2, ht_0 hA v.l0, true_and, and_true, kk1_i, kk1_r, kk1_n, kk1_0, kcat_iv, kcat_ref, kcat_null, kisR_ref, kisR_null, ksz_nil, ksz_iv, ksz_ref, ksz_null, ksz_lv, kfit_int, kfit_long, kfit_obj, kfit_objN, kfit_arr, kfit_arrN, knarI, knarZ0, knarZ1, kret_v, kret_n, kret_x, Nat.reduceAdd, Nat.reduceLeDiff, reduceCtorEq, Int.reduceLE, Int.reduceLT, Int.reduceEq, ite_true, ite_false, true_or, or_true, false_implies, true_implies, not_true_eq_false, not_false_eq_true, and_self, eq_self, klc_lt, klc_ge, klc_le, klc_gt, klc_eq, kmu_eq, kmu_f, kmu_i, kmu_j, q46, Nat.zero_le, show 1 ≤ d by omega]
    exact ⟨by omega, by omega, this⟩
/-- unit -/
theorem t39 (I : kIv E A V C R t) {u y : Int} (hu : kR u) (hy : kR y) (hd : 40 ≤ d) (hD : 40 ≤ D) (hc : 121 ≤ c) (hl : 2786 ≤ l) (H : kEnd E D 169 (fun A => [some (.ref (A 9 0)), some (iv u), some (iv y)]) [(2, 1), (0, 2)] V A R t c l Q) :
    ka_W (kp E) (d, (39, 0, [some (.ref (A 0 0)), some (iv u), some (iv y), none], []), (kHp J A V C R, c, l)) Q := by
  have hI := I
  obtain ⟨hA, v, hE, rw, ⟨B, M1, M2, M3, M4, M5, M6⟩, XI⟩ := hI
  have F := B.2.2.1
  obtain ⟨U0, U1, U2, H0, Fr, Fu, Pl⟩ := XI.2.2.1
  by_cases h1 : 1 ≤ u ∧ u ≤ R 9 0 26
  · have B26 := rw.i26
    have B77 := rw.a77 (j := u) (by omega) (by omega)
    have B78 := rw.a78 (j := u) (by omega) (by omega)
    have B79 := rw.a79 (j := u) (by omega) (by omega)
    have B80 := rw.a80 (j := u) (by omega) (by omega)
    obtain ⟨z1, z2, z3, z4, z5, z6, z7, z8, z9⟩ := F.2.2.2.2.2.2.1 u h1.1 h1.2
    have q47 := fun {Q} => c47 (E := E) (d := d - 1) (c := c) (l := l) (Q := Q) (J := J) (R := R) hA v rw F (by omega) h1
    by_cases h2 : 0 ≤ y ∧ y ≤ 3
    · have := H.q I (J := J) (x := f169 R u y) (by unfold f169; unfold kR; (repeat' split) <;> omega) (fun _ Q' z => (j169_0 hA v rw (by omega) hu hy h1 h2).mpr z)
      by_cases e0 : y = 0
      · subst e0
        have e : f169 R u 0 = R 78 0 u := rfl
        rw [e] at this
        simp (disch := first | assumption | (unfold kR; decide) | exact klc_R | (unfold kR; omega) | omega | (unfold kL; omega) | exact kcat_null | exact kcat_ref _ | exact kcat_iv _) only [r39_0, r39_1, r39_2, r39_5, r39_6, r39_7_0, r39_7_1, r39_7_2, r39_7_3, r39_7, r39_36, r39_37, r39_40, ht_0 hA v.l0, ho_8_3 hA, hg_8_3 hA, true_and, and_true, kk1_i, kk1_r, kk1_n, kk1_0, kcat_iv, kcat_ref, kcat_null, kisR_ref, kisR_null, ksz_nil, ksz_iv, ksz_ref, ksz_null, ksz_lv, kfit_int, kfit_long, kfit_obj, kfit_objN, kfit_arr, kfit_arrN, knarI, knarZ0, knarZ1, kret_v, kret_n, kret_x, Nat.reduceAdd, Nat.reduceLeDiff, reduceCtorEq, Int.reduceLE, Int.reduceLT, Int.reduceEq, ite_true, ite_false, true_or, or_true, false_implies, true_implies, not_true_eq_false, not_false_eq_true, and_self, eq_self, klc_lt, klc_ge, klc_le, klc_gt, klc_eq, kmu_eq, kmu_f, kmu_i, kmu_j, q47, z6, Nat.zero_le, show 1 ≤ d by omega]
        exact this
      · by_cases e1 : y = 1
        · subst e1
          have e : f169 R u 1 = R 77 0 u := rfl
          rw [e] at this
          simp (disch := first | assumption | (unfold kR; decide) | exact klc_R | (unfold kR; omega) | omega | (unfold kL; omega) | exact kcat_null | exact kcat_ref _ | exact kcat_iv _) only [r39_0, r39_1, r39_2, r39_5, r39_6, r39_7_0, r39_7_1, r39_7_2, r39_7_3, r39_7, r39_36, r39_37, r39_40, r39_41, r39_42, r39_45, ht_0 hA v.l0, ho_8_3 hA, hg_8_3 hA, ho_8_1 hA, hg_8_1 hA, true_and, and_true, kk1_i, kk1_r, kk1_n, kk1_0, kcat_iv, kcat_ref, kcat_null, kisR_ref, kisR_null, ksz_nil, ksz_iv, ksz_ref, ksz_null, ksz_lv, kfit_int, kfit_long, kfit_obj, kfit_objN, kfit_arr, kfit_arrN, knarI, knarZ0, knarZ1, kret_v, kret_n, kret_x, Nat.reduceAdd, Nat.reduceLeDiff, reduceCtorEq, Int.reduceLE, Int.reduceLT, Int.reduceEq, ite_true, ite_false, true_or, or_true, false_implies, true_implies, not_true_eq_false, not_false_eq_true, and_self, eq_self, klc_lt, klc_ge, klc_le, klc_gt, klc_eq, kmu_eq, kmu_f, kmu_i, kmu_j, q47, z4, Nat.zero_le, show 1 ≤ d by omega]
          exact this
        · by_cases e2 : y = 2
          · subst e2
            have e : f169 R u 2 = R 79 0 u := rfl
            rw [e] at this
            obtain ⟨y1, y2, -⟩ := U0 u h1.1 h1.2
            obtain ⟨t1, -, -, -, -, t6, -⟩ := F.2.2.2.2.1 (R 79 0 u) y1 y2
            have z5' : 0 ≤ C 8 u 2 := by omega
            simp (disch := first | assumption | (unfold kR; decide) | exact klc_R | (unfold kR; omega) | omega | (unfold kL; omega) | exact kcat_null | exact kcat_ref _ | exact kcat_iv _) only [r39_0, r39_1, r39_2, r39_5, r39_6, r39_7_0, r39_7_1, r39_7_2, r39_7_3, r39_7, r39_36, r39_37, r39_40, r39_41, r39_42, r39_45, r39_46, r39_47, r39_50, r39_53, ht_0 hA v.l0, ho_8_3 hA, hg_8_3 hA, ho_8_1 hA, hg_8_1 hA, ho_8_2 hA, hg_8_2 hA, hgn_8_2 hA, ho_4_0 hA, hg_4_0 hA, true_and, and_true, kk1_i, kk1_r, kk1_n, kk1_0, kcat_iv, kcat_ref, kcat_null, kisR_ref, kisR_null, ksz_nil, ksz_iv, ksz_ref, ksz_null, ksz_lv, kfit_int, kfit_long, kfit_obj, kfit_objN, kfit_arr, kfit_arrN, knarI, knarZ0, knarZ1, kret_v, kret_n, kret_x, Nat.reduceAdd, Nat.reduceLeDiff, reduceCtorEq, Int.reduceLE, Int.reduceLT, Int.reduceEq, ite_true, ite_false, true_or, or_true, false_implies, true_implies, not_true_eq_false, not_false_eq_true, and_self, eq_self, klc_lt, klc_ge, klc_le, klc_gt, klc_eq, kmu_eq, kmu_f, kmu_i, kmu_j, q47, z5, t6, Nat.zero_le, show 1 ≤ d by omega]
            exact this
          · have e3 : y = 3 := by omega
            subst e3
            have e : f169 R u 3 = R 80 0 u := rfl
            rw [e] at this
            have hm4 : 0 ≤ C 8 u 4 → V 4 (C 8 u 4) := by
              rw [z7]
              intro w
              split at w
              · rename_i q
                rw [if_pos q]
                have := U1 u h1.1 h1.2 q
                exact (F.2.2.2.2.1 _ this.1 this.2).1
              · omega
            have hm6 : 0 ≤ C 8 u 6 → V 8 (C 8 u 6) := by
              rw [z9]
              intro w
              split at w
              · rename_i q
                rw [if_pos q]
                have := U2 u h1.1 h1.2 q
                exact (F.2.2.2.2.2.2.1 _ (by omega) this.2.1).1
              · omega
            have ev : (if 0 ≤ C 8 u 4 then C 4 (C 8 u 4) 0 else if 0 ≤ C 8 u 6 then C 8 (C 8 u 6) 0 else 0) = R 80 0 u := by
              by_cases q1 : R 78 0 u = 1
              · have w := U1 u h1.1 h1.2 q1
                rw [z7, if_pos q1, if_pos (by omega)]
                exact (F.2.2.2.2.1 _ w.1 w.2).2.2.2.2.2.1
              · by_cases q2 : R 78 0 u = 2
                · have w := U2 u h1.1 h1.2 q2
                  rw [z7, if_neg q1, if_neg (by decide), z9, if_pos q2, if_pos (by omega)]
                  exact (F.2.2.2.2.2.2.1 _ (by omega) w.2.1).2.2.1
                · rw [z7, if_neg q1, if_neg (by decide), z9, if_neg q2, if_neg (by decide)]
                  exact (H0 u h1.1 h1.2 q1 q2).symm
            rw [← ev] at this
            simp (disch := first | assumption | (unfold kR; decide) | exact klc_R | (unfold kR; omega) | omega | (unfold kL; omega) | exact kcat_null | exact kcat_ref _ | exact kcat_iv _) only [r39_0, r39_1, r39_2, r39_5, r39_6, r39_7_0, r39_7_1, r39_7_2, r39_7_3, r39_7, r39_54, r39_55, r39_58, ht_0 hA v.l0, ht_8 hA, true_and, and_true, kk1_i, kk1_r, kk1_n, kk1_0, kcat_iv, kcat_ref, kcat_null, kisR_ref, kisR_null, ksz_nil, ksz_iv, ksz_ref, ksz_null, ksz_lv, kfit_int, kfit_long, kfit_obj, kfit_objN, kfit_arr, kfit_arrN, knarI, knarZ0, knarZ1, kret_v, kret_n, kret_x, Nat.reduceAdd, Nat.reduceLeDiff, reduceCtorEq, Int.reduceLE, Int.reduceLT, Int.reduceEq, ite_true, ite_false, true_or, or_true, false_implies, true_implies, not_true_eq_false, not_false_eq_true, and_self, eq_self, klc_lt, klc_ge, klc_le, klc_gt, klc_eq, kmu_eq, kmu_f, kmu_i, kmu_j, q47, c109 hA z1 hm4 hm6, Nat.zero_le, show 1 ≤ d by omega]
            exact this
    · have := H.x I (J := J) (e := 0) (x := 2) (b := some (iv 0)) (by simp) (by omega) (by omega) (fun _ Q' z => (j169_2 hA v rw (by omega) hu hy h1 h2).mpr z) (Or.inr ⟨rfl, rfl⟩)
      simp (disch := first | assumption | (unfold kR; decide) | exact klc_R | (unfold kR; omega) | omega | (unfold kL; omega) | exact kcat_null | exact kcat_ref _ | exact kcat_iv _) only [r39_0, r39_1, r39_2, r39_5, r39_6, ht_0 hA v.l0, true_and, and_true, kk1_i, kk1_r, kk1_n, kk1_0, kcat_iv, kcat_ref, kcat_null, kisR_ref, kisR_null, ksz_nil, ksz_iv, ksz_ref, ksz_null, ksz_lv, kfit_int, kfit_long, kfit_obj, kfit_objN, kfit_arr, kfit_arrN, knarI, knarZ0, knarZ1, kret_v, kret_n, kret_x, Nat.reduceAdd, Nat.reduceLeDiff, reduceCtorEq, Int.reduceLE, Int.reduceLT, Int.reduceEq, ite_true, ite_false, true_or, or_true, false_implies, true_implies, not_true_eq_false, not_false_eq_true, and_self, eq_self, klc_lt, klc_ge, klc_le, klc_gt, klc_eq, kmu_eq, kmu_f, kmu_i, kmu_j, q47, Nat.zero_le, show 1 ≤ d by omega]
      rw [r39_7 hy (by omega), r39_59]
      exact ⟨by omega, by omega, by omega, this⟩
  · have := H.x I (J := J) (e := 2) (x := 1) (b := some (iv 0)) (by simp) (by omega) (by omega) (fun _ Q' z => (j169_1 hA v rw (by omega) hu hy h1).mpr z) (Or.inr ⟨rfl, rfl⟩)
    have q47 := fun {Q} => c47x (E := E) (d := d - 1) (c := c) (l := l) (Q := Q) (J := J) (R := R) hA v rw F hu (by omega) h1
    simp (disch := first | assumption | (unfold kR; decide) | exact klc_R | (unfold kR; omega) | omega | (unfold kL; omega) | exact kcat_null | exact kcat_ref _ | exact kcat_iv _) only [r39_0, r39_1, r39_2, ht_0 hA v.l0, true_and, and_true, kk1_i, kk1_r, kk1_n, kk1_0, kcat_iv, kcat_ref, kcat_null, kisR_ref, kisR_null, ksz_nil, ksz_iv, ksz_ref, ksz_null, ksz_lv, kfit_int, kfit_long, kfit_obj, kfit_objN, kfit_arr, kfit_arrN, knarI, knarZ0, knarZ1, kret_v, kret_n, kret_x, Nat.reduceAdd, Nat.reduceLeDiff, reduceCtorEq, Int.reduceLE, Int.reduceLT, Int.reduceEq, ite_true, ite_false, true_or, or_true, false_implies, true_implies, not_true_eq_false, not_false_eq_true, and_self, eq_self, klc_lt, klc_ge, klc_le, klc_gt, klc_eq, kmu_eq, kmu_f, kmu_i, kmu_j, q47, Nat.zero_le, show 1 ≤ d by omega]
    exact ⟨by omega, by omega, this⟩
theorem f150_r (rw : kRW V R) {g : Int} (g0 : 0 ≤ g) (g1 : g ≤ 19) : kR (f150 R g) := by
  have B := rw.a55 (j := g) g0 (by omega)
  have B26 := rw.i26
  have K := kcn_b (fun u => R 77 0 u = g ∧ R 78 0 u = 0) (R 9 0 26).toNat
  unfold f150 f149 kR
  omega
/-- good -/
theorem t40 (I : kIv E A V C R t) {x y : Int} (hx : kR x) (hy : kR y) (hd : 40 ≤ d) (hD : 40 ≤ D) (hc : 121 ≤ c) (hl : 2786 ≤ l) (H : kEnd E D 170 (fun A => [some (.ref (A 9 0)), some (iv x), some (iv y)]) [(0, 1)] V A R t c l Q) :
    ka_W (kp E) (d, (40, 0, [some (.ref (A 0 0)), some (iv x), some (iv y)], []), (kHp J A V C R, c, l)) Q := by
  have hI := I
  obtain ⟨hA, v, hE, rw, ⟨B, M1, M2, M3, M4, M5, M6⟩, XI⟩ := hI
  have F := B.2.2.1
  by_cases h1 : 0 ≤ x ∧ x ≤ 19
  · by_cases h2 : 0 ≤ y ∧ y ≤ 1
    · obtain ⟨f1, f2⟩ := F.2.2.2.2.2.2.2 x h1.1 (by omega)
      have k6 := B.2.1.2.2.2.2.2.1 x h1.1 (by omega)
      have B56 := rw.a56 (j := x) h1.1 (by omega)
      by_cases e : y = 0
      · have e150 : f150 (kmu R 9 0 0 0) x = f150 R x := by
          unfold f150
          rw [kmu_f (by decide), f149_c (R := R) (kmu_j (by decide)) (kmu_ff (by decide)) (kmu_ff (by decide))]
        have := H.q I (J := J) (x := f150 R x) (f150_r rw h1.1 h1.2) (fun _ Q' z => by
          refine (j170_0 hA v rw (by omega) hx hy h1 h2).mpr ?_
          rw [if_pos e, e150]; exact z)
        have ev : C 28 0 x + C 29 0 x = f150 R x := by rw [f1, f2]; rfl
        rw [← ev] at this
        simp (disch := first | assumption | (unfold kR; decide) | exact klc_R | (unfold kR; omega) | omega | (unfold kL; omega) | exact kcat_null | exact kcat_ref _ | exact kcat_iv _) only [r40_0, r40_1, r40_4, r40_5, r40_6, r40_7, r40_10, r40_11, r40_14, r40_15, r40_18, r40_19, r40_22, r40_25, r40_26, r40_29, r40_30, r40_33, ho_0_3 hA v.l0, hg_0_3 hA v.l0, ht_2 hA v.l2, ho_0_0 hA v.l0, hg_0_0 hA v.l0, ht_1 hA v.l1, true_and, and_true, kk1_i, kk1_r, kk1_n, kk1_0, kcat_iv, kcat_ref, kcat_null, kisR_ref, kisR_null, ksz_nil, ksz_iv, ksz_ref, ksz_null, ksz_lv, kfit_int, kfit_long, kfit_obj, kfit_objN, kfit_arr, kfit_arrN, knarI, knarZ0, knarZ1, kret_v, kret_n, kret_x, Nat.reduceAdd, Nat.reduceLeDiff, reduceCtorEq, Int.reduceLE, Int.reduceLT, Int.reduceEq, ite_true, ite_false, true_or, or_true, false_implies, true_implies, not_true_eq_false, not_false_eq_true, and_self, eq_self, klc_lt, klc_ge, klc_le, klc_gt, klc_eq, kmu_eq, kmu_f, kmu_i, kmu_j, c42, c43, c66 hA v, h1, h2, e, Nat.zero_le, show 1 ≤ d by omega, show 1 ≤ d - 1 by omega]
        exact this
      · have := H.q I (J := J) (x := R 56 0 x) (by unfold kR; omega) (fun _ Q' z => by
          refine (j170_0 hA v rw (by omega) hx hy h1 h2).mpr ?_
          rw [if_neg e]; exact z)
        have hv : 0 ≤ C 32 0 x → V 3 (C 32 0 x) := by
          rw [k6]
          intro w
          have w2 := B.2.2.2.1.2.2.1 x h1.1 (by omega) (by omega)
          exact (B.2.1.2.2.1 _ w2.1 w2.2.1).1
        have ev : (if 0 ≤ C 32 0 x then C 3 (C 32 0 x) 0 else -1) = R 56 0 x := by
          rw [k6]
          by_cases w : 0 ≤ R 56 0 x
          · have w2 := B.2.2.2.1.2.2.1 x h1.1 (by omega) (by omega)
            rw [if_pos w]
            exact (B.2.1.2.2.1 _ w2.1 w2.2.1).2.2.1
          · rw [if_neg w]; omega
        rw [← ev] at this
        simp (disch := first | assumption | (unfold kR; decide) | exact klc_R | (unfold kR; omega) | omega | (unfold kL; omega) | exact kcat_null | exact kcat_ref _ | exact kcat_iv _) only [r40_0, r40_1, r40_4, r40_5, r40_6, r40_7, r40_10, r40_11, r40_14, r40_15, r40_18, r40_19, r40_22, r40_25, r40_26, r40_29, r40_30, r40_33, ho_0_3 hA v.l0, hg_0_3 hA v.l0, ht_2 hA v.l2, ho_0_0 hA v.l0, hg_0_0 hA v.l0, ht_1 hA v.l1, true_and, and_true, kk1_i, kk1_r, kk1_n, kk1_0, kcat_iv, kcat_ref, kcat_null, kisR_ref, kisR_null, ksz_nil, ksz_iv, ksz_ref, ksz_null, ksz_lv, kfit_int, kfit_long, kfit_obj, kfit_objN, kfit_arr, kfit_arrN, knarI, knarZ0, knarZ1, kret_v, kret_n, kret_x, Nat.reduceAdd, Nat.reduceLeDiff, reduceCtorEq, Int.reduceLE, Int.reduceLT, Int.reduceEq, ite_true, ite_false, true_or, or_true, false_implies, true_implies, not_true_eq_false, not_false_eq_true, and_self, eq_self, klc_lt, klc_ge, klc_le, klc_gt, klc_eq, kmu_eq, kmu_f, kmu_i, kmu_j, c42, c43, c55 hA v h1.1 (show x < 20 by omega) hv, h1, h2, e, Nat.zero_le, show 1 ≤ d by omega, show 1 ≤ d - 1 by omega]
        exact this
    · have := H.x I (J := J) (e := 0) (x := 1) (b := some (iv 0)) (by simp) (by omega) (by omega) (fun _ Q' z => (j170_1 hA v rw (by omega) hx hy (Or.inr h2)).mpr z) (Or.inr ⟨rfl, rfl⟩)
      simp (disch := first | assumption | (unfold kR; decide) | exact klc_R | (unfold kR; omega) | omega | (unfold kL; omega) | exact kcat_null | exact kcat_ref _ | exact kcat_iv _) only [r40_0, r40_1, r40_4, r40_5, r40_6, r40_7, true_and, and_true, kk1_i, kk1_r, kk1_n, kk1_0, kcat_iv, kcat_ref, kcat_null, kisR_ref, kisR_null, ksz_nil, ksz_iv, ksz_ref, ksz_null, ksz_lv, kfit_int, kfit_long, kfit_obj, kfit_objN, kfit_arr, kfit_arrN, knarI, knarZ0, knarZ1, kret_v, kret_n, kret_x, Nat.reduceAdd, Nat.reduceLeDiff, reduceCtorEq, Int.reduceLE, Int.reduceLT, Int.reduceEq, ite_true, ite_false, true_or, or_true, false_implies, true_implies, not_true_eq_false, not_false_eq_true, and_self, eq_self, klc_lt, klc_ge, klc_le, klc_gt, klc_eq, kmu_eq, kmu_f, kmu_i, kmu_j, c42x, c43, h1, h2, Nat.zero_le, show 1 ≤ d by omega, show 1 ≤ d - 1 by omega]
      exact ⟨by omega, by omega, by omega, this⟩
  · have := H.x I (J := J) (e := 0) (x := 1) (b := some (iv 0)) (by simp) (by omega) (by omega) (fun _ Q' z => (j170_1 hA v rw (by omega) hx hy (Or.inl h1)).mpr z) (Or.inr ⟨rfl, rfl⟩)
    simp (disch := first | assumption | (unfold kR; decide) | exact klc_R | (unfold kR; omega) | omega | (unfold kL; omega) | exact kcat_null | exact kcat_ref _ | exact kcat_iv _) only [r40_0, r40_1, true_and, and_true, kk1_i, kk1_r, kk1_n, kk1_0, kcat_iv, kcat_ref, kcat_null, kisR_ref, kisR_null, ksz_nil, ksz_iv, ksz_ref, ksz_null, ksz_lv, kfit_int, kfit_long, kfit_obj, kfit_objN, kfit_arr, kfit_arrN, knarI, knarZ0, knarZ1, kret_v, kret_n, kret_x, Nat.reduceAdd, Nat.reduceLeDiff, reduceCtorEq, Int.reduceLE, Int.reduceLT, Int.reduceEq, ite_true, ite_false, true_or, or_true, false_implies, true_implies, not_true_eq_false, not_false_eq_true, and_self, eq_self, klc_lt, klc_ge, klc_le, klc_gt, klc_eq, kmu_eq, kmu_f, kmu_i, kmu_j, c43x, h1, Nat.zero_le, show 1 ≤ d by omega, show 9 ≤ d - 1 by omega]
    exact ⟨by omega, by omega, this⟩
/-- count -/
theorem t41 (I : kIv E A V C R t) {y : Int} (hy : kR y) (hd : 40 ≤ d) (hD : 40 ≤ D) (H : kEnd E D 171 (fun A => [some (.ref (A 9 0)), some (iv y)]) [] V A R t c l Q) :
    ka_W (kp E) (d, (41, 0, [some (.ref (A 0 0)), some (iv y)], []), (kHp J A V C R, c, l)) Q := by
  have hI := I
  obtain ⟨hA, v, hE, rw, ⟨B, M1, M2, M3, M4, M5, M6⟩, XI⟩ := hI
  have K2 := B.2.1.2.1
  have F3 := B.2.2.1.2.2.1
  have F4 := B.2.2.1.2.2.2.1
  have B7 := rw.i7
  have B15 := rw.i15
  have B26 := rw.i26
  have B1 := rw.i1
  have B3 := rw.i3
  have v100 := v.2.1
  have v101 := v.2.2.1
  have v102 := v.2.2.2
  have := H.q I (J := J) (x := f171 R y) (by unfold f171; unfold kR; (repeat' split) <;> omega) (fun _ Q' z => (j171 hA v rw hy).mpr z)
  by_cases e0 : y = 0
  · subst e0
    have e : f171 R 0 = R 9 0 7 := rfl
    rw [e] at this
    simp (disch := first | assumption | (unfold kR; decide) | exact klc_R | (unfold kR; omega) | omega | (unfold kL; omega) | exact kcat_null | exact kcat_ref _ | exact kcat_iv _) only [r41_0, r41_1_0, r41_1_1, r41_1_2, r41_1_3, r41_1_4, r41_1, r41_36, r41_37, r41_40, r41_43, r41_46, ho_0_0 hA v.l0, hg_0_0 hA v.l0, ho_1_0 hA v.l1, hg_1_0 hA v.l1, ht_10 hA, true_and, and_true, kk1_i, kk1_r, kk1_n, kk1_0, kcat_iv, kcat_ref, kcat_null, kisR_ref, kisR_null, ksz_nil, ksz_iv, ksz_ref, ksz_null, ksz_lv, kfit_int, kfit_long, kfit_obj, kfit_objN, kfit_arr, kfit_arrN, knarI, knarZ0, knarZ1, kret_v, kret_n, kret_x, Nat.reduceAdd, Nat.reduceLeDiff, reduceCtorEq, Int.reduceLE, Int.reduceLT, Int.reduceEq, ite_true, ite_false, true_or, or_true, false_implies, true_implies, not_true_eq_false, not_false_eq_true, and_self, eq_self, klc_lt, klc_ge, klc_le, klc_gt, klc_eq, kmu_eq, kmu_f, kmu_i, kmu_j, c180 hA v100, K2, Nat.zero_le, show 1 ≤ d by omega]
    exact this
  · by_cases e1 : y = 1
    · subst e1
      have e : f171 R 1 = R 9 0 15 := rfl
      rw [e] at this
      simp (disch := first | assumption | (unfold kR; decide) | exact klc_R | (unfold kR; omega) | omega | (unfold kL; omega) | exact kcat_null | exact kcat_ref _ | exact kcat_iv _) only [r41_0, r41_1_0, r41_1_1, r41_1_2, r41_1_3, r41_1_4, r41_1, r41_36, r41_37, r41_40, r41_43, r41_46, r41_47, r41_48, r41_51, r41_54, r41_57, ho_0_0 hA v.l0, hg_0_0 hA v.l0, ho_1_0 hA v.l1, hg_1_0 hA v.l1, ht_10 hA, ho_0_3 hA v.l0, hg_0_3 hA v.l0, ho_2_0 hA v.l2, hg_2_0 hA v.l2, true_and, and_true, kk1_i, kk1_r, kk1_n, kk1_0, kcat_iv, kcat_ref, kcat_null, kisR_ref, kisR_null, ksz_nil, ksz_iv, ksz_ref, ksz_null, ksz_lv, kfit_int, kfit_long, kfit_obj, kfit_objN, kfit_arr, kfit_arrN, knarI, knarZ0, knarZ1, kret_v, kret_n, kret_x, Nat.reduceAdd, Nat.reduceLeDiff, reduceCtorEq, Int.reduceLE, Int.reduceLT, Int.reduceEq, ite_true, ite_false, true_or, or_true, false_implies, true_implies, not_true_eq_false, not_false_eq_true, and_self, eq_self, klc_lt, klc_ge, klc_le, klc_gt, klc_eq, kmu_eq, kmu_f, kmu_i, kmu_j, c180 hA v101, F3, Nat.zero_le, show 1 ≤ d by omega]
      exact this
    · by_cases e2 : y = 2
      · subst e2
        have e : f171 R 2 = R 9 0 26 := rfl
        rw [e] at this
        simp (disch := first | assumption | (unfold kR; decide) | exact klc_R | (unfold kR; omega) | omega | (unfold kL; omega) | exact kcat_null | exact kcat_ref _ | exact kcat_iv _) only [r41_0, r41_1_0, r41_1_1, r41_1_2, r41_1_3, r41_1_4, r41_1, r41_36, r41_37, r41_40, r41_43, r41_46, r41_47, r41_48, r41_51, r41_54, r41_57, r41_58, r41_59, r41_62, r41_65, r41_68, ho_0_0 hA v.l0, hg_0_0 hA v.l0, ho_1_0 hA v.l1, hg_1_0 hA v.l1, ht_10 hA, ho_0_3 hA v.l0, hg_0_3 hA v.l0, ho_2_0 hA v.l2, hg_2_0 hA v.l2, ho_2_1 hA v.l2, hg_2_1 hA v.l2, true_and, and_true, kk1_i, kk1_r, kk1_n, kk1_0, kcat_iv, kcat_ref, kcat_null, kisR_ref, kisR_null, ksz_nil, ksz_iv, ksz_ref, ksz_null, ksz_lv, kfit_int, kfit_long, kfit_obj, kfit_objN, kfit_arr, kfit_arrN, knarI, knarZ0, knarZ1, kret_v, kret_n, kret_x, Nat.reduceAdd, Nat.reduceLeDiff, reduceCtorEq, Int.reduceLE, Int.reduceLT, Int.reduceEq, ite_true, ite_false, true_or, or_true, false_implies, true_implies, not_true_eq_false, not_false_eq_true, and_self, eq_self, klc_lt, klc_ge, klc_le, klc_gt, klc_eq, kmu_eq, kmu_f, kmu_i, kmu_j, c180 hA v102, F4, Nat.zero_le, show 1 ≤ d by omega]
        exact this
      · by_cases e3 : y = 3
        · subst e3
          have e : f171 R 3 = R 9 0 1 := rfl
          rw [e] at this
          simp (disch := first | assumption | (unfold kR; decide) | exact klc_R | (unfold kR; omega) | omega | (unfold kL; omega) | exact kcat_null | exact kcat_ref _ | exact kcat_iv _) only [r41_0, r41_1_0, r41_1_1, r41_1_2, r41_1_3, r41_1_4, r41_1, r41_36, r41_37, r41_40, r41_43, r41_46, r41_47, r41_48, r41_51, r41_54, r41_57, r41_58, r41_59, r41_62, r41_65, r41_68, r41_69, r41_70, r41_73, ho_0_0 hA v.l0, hg_0_0 hA v.l0, ho_1_0 hA v.l1, hg_1_0 hA v.l1, ht_10 hA, ho_0_3 hA v.l0, hg_0_3 hA v.l0, ho_2_0 hA v.l2, hg_2_0 hA v.l2, ho_2_1 hA v.l2, hg_2_1 hA v.l2, ho_0_6 hA v.l0, hg_0_6 hA v.l0, true_and, and_true, kk1_i, kk1_r, kk1_n, kk1_0, kcat_iv, kcat_ref, kcat_null, kisR_ref, kisR_null, ksz_nil, ksz_iv, ksz_ref, ksz_null, ksz_lv, kfit_int, kfit_long, kfit_obj, kfit_objN, kfit_arr, kfit_arrN, knarI, knarZ0, knarZ1, kret_v, kret_n, kret_x, Nat.reduceAdd, Nat.reduceLeDiff, reduceCtorEq, Int.reduceLE, Int.reduceLT, Int.reduceEq, ite_true, ite_false, true_or, or_true, false_implies, true_implies, not_true_eq_false, not_false_eq_true, and_self, eq_self, klc_lt, klc_ge, klc_le, klc_gt, klc_eq, kmu_eq, kmu_f, kmu_i, kmu_j, M1]
          exact this
        · by_cases e4 : y = 4
          · subst e4
            have e : f171 R 4 = R 9 0 3 := rfl
            rw [e] at this
            simp (disch := first | assumption | (unfold kR; decide) | exact klc_R | (unfold kR; omega) | omega | (unfold kL; omega) | exact kcat_null | exact kcat_ref _ | exact kcat_iv _) only [r41_0, r41_1_0, r41_1_1, r41_1_2, r41_1_3, r41_1_4, r41_1, r41_36, r41_37, r41_40, r41_43, r41_46, r41_47, r41_48, r41_51, r41_54, r41_57, r41_58, r41_59, r41_62, r41_65, r41_68, r41_69, r41_70, r41_73, r41_74, r41_75, r41_78, r41_81, ho_0_0 hA v.l0, hg_0_0 hA v.l0, ho_1_0 hA v.l1, hg_1_0 hA v.l1, ht_10 hA, ho_0_3 hA v.l0, hg_0_3 hA v.l0, ho_2_0 hA v.l2, hg_2_0 hA v.l2, ho_2_1 hA v.l2, hg_2_1 hA v.l2, ho_0_6 hA v.l0, hg_0_6 hA v.l0, ho_0_1 hA v.l0, hg_0_1 hA v.l0, ho_5_1 hA v.l5, hg_5_1 hA v.l5, true_and, and_true, kk1_i, kk1_r, kk1_n, kk1_0, kcat_iv, kcat_ref, kcat_null, kisR_ref, kisR_null, ksz_nil, ksz_iv, ksz_ref, ksz_null, ksz_lv, kfit_int, kfit_long, kfit_obj, kfit_objN, kfit_arr, kfit_arrN, knarI, knarZ0, knarZ1, kret_v, kret_n, kret_x, Nat.reduceAdd, Nat.reduceLeDiff, reduceCtorEq, Int.reduceLE, Int.reduceLT, Int.reduceEq, ite_true, ite_false, true_or, or_true, false_implies, true_implies, not_true_eq_false, not_false_eq_true, and_self, eq_self, klc_lt, klc_ge, klc_le, klc_gt, klc_eq, kmu_eq, kmu_f, kmu_i, kmu_j, M2]
            exact this
          · have e : f171 R y = -1 := by unfold f171; rw [if_neg e0, if_neg e1, if_neg e2, if_neg e3, if_neg e4]
            rw [e] at this
            rw [r41_0, r41_1 hy (by omega)]
            simp (disch := first | assumption | (unfold kR; decide) | exact klc_R | (unfold kR; omega) | omega | (unfold kL; omega) | exact kcat_null | exact kcat_ref _ | exact kcat_iv _) only [r41_82, r41_83, true_and, and_true, kk1_i, kk1_r, kk1_n, kk1_0, kcat_iv, kcat_ref, kcat_null, kisR_ref, kisR_null, ksz_nil, ksz_iv, ksz_ref, ksz_null, ksz_lv, kfit_int, kfit_long, kfit_obj, kfit_objN, kfit_arr, kfit_arrN, knarI, knarZ0, knarZ1, kret_v, kret_n, kret_x, Nat.reduceAdd, Nat.reduceLeDiff, reduceCtorEq, Int.reduceLE, Int.reduceLT, Int.reduceEq, ite_true, ite_false, true_or, or_true, false_implies, true_implies, not_true_eq_false, not_false_eq_true, and_self, eq_self, klc_lt, klc_ge, klc_le, klc_gt, klc_eq, kmu_eq, kmu_f, kmu_i, kmu_j]
            exact this
end
