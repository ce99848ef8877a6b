/-! Calls: kit, changed, cost, read. -/
section
variable {E : Nat × Nat} {d D yr c l : Nat} {s : ka_S} {h : ka_H} {Q : ka_Q} {J : ka_H} {A A' : ka_A} {V V' : ka_V} {C C' R R' X X' X'' Y Z : ka_M} {t : Int} {ag : ka_A → List (Option Value)} {ex : List (Nat × Int)}
theorem kMI_c (M : kMI C X) (hC : ∀ f, f = 0 ∨ f = 5 ∨ f = 7 ∨ f = 27 ∨ f = 30 ∨ f = 31 → C' f = C f) (hX : ∀ f, f = 52 ∨ f = 54 ∨ f = 85 ∨ f = 68 ∨ f = 70 ∨ f = 72 ∨ f = 73 ∨ f = 83 ∨ f = 84 → X' f = X f) (h9 : ∀ j, j = 1 ∨ j = 3 ∨ j = 32 ∨ j = 36 ∨ j = 15 → X' 9 0 j = X 9 0 j) : kMI C' X' := by
  obtain ⟨M1, M2, M3, M4, M5, M6⟩ := M
  refine ⟨by rw [hC 0 (by omega), h9 1 (by omega)]; exact M1, by rw [hC 5 (by omega), h9 3 (by omega)]; exact M2, fun j a b => ?_, kRg_c M4 (hC 7 (by omega)) (hC 27 (by omega)) (h9 36 (by omega)) (hX 85 (by omega)), fun g a b => ?_, kBw_c M6 (by rw [hC 0 (by omega)]) (h9 32 (by omega)) (h9 15 (by omega)) (fun f hf => hX f (by omega))⟩
  · rw [h9 3 (by omega)] at b
    rw [hC 31 (by omega), hX 52 (by omega)]; exact M3 j a b
  · rw [hC 30 (by omega), hX 54 (by omega)]; exact M5 g a b
/-- the book changes, the floor doesn't -/
theorem kXI_b {t' : Int} (I : kXI X t) (ht : t ≤ t') (hX : ∀ f, f = 55 ∨ f = 68 ∨ f = 69 ∨ f = 70 ∨ f = 71 ∨ f = 73 ∨ f = 75 ∨ f = 78 ∨ f = 79 ∨ f = 80 ∨ f = 81 → X' f = X f) (h15 : X' 9 0 15 = X 9 0 15) (h26 : X' 9 0 26 = X 9 0 26) (h7 : X' 9 0 7 ≤ 12) (hb : kBY X') : kXI X' t' := by
  obtain ⟨x1, x2, x3, x4, x5⟩ := I
  refine ⟨h7, kND_9 x2 (fun f hf => hX f (by omega)) h15 h26, kUX_9 x3 (by omega) (fun f hf => hX f (by omega)) h15 h26, hb, ?_⟩
  unfold kSp
  rw [h15, hX 69 (by omega), hX 70 (by omega)]
  exact x5
/-- kit -/
theorem t23 (I : kIv E A V C R t) {x : Int} (hx : kR x) (hd : 40 ≤ d) (hD : 40 ≤ D) (hc : 121 ≤ c) (hl : 2786 ≤ l) (H : kEnd E D 132 (fun A => [some (.ref (A 9 0)), some (iv x)]) [(0, 1), (1, 2), (3, 3)] V A R t c l Q) :
    ka_W (kp E) (d, (23, 0, [some (.ref (A 0 0)), some (iv x)], []), (kHp J A V C R, c, l)) Q := by
  have hI := I
  obtain ⟨hA, v, hE, rw, FI, XI⟩ := hI
  have B := FI.1
  have K2 := B.2.1.2.1
  have B7 := rw.i7
  have v100 := v.2.1
  by_cases h1 : 0 ≤ x ∧ x ≤ 19
  · have k6 := B.2.1.2.2.2.2.2.1 x h1.1 (by omega)
    have B56 := rw.a56 (j := x) h1.1 (by omega)
    by_cases h2 : R 56 0 x = -1
    · have e54 : ¬ 0 ≤ C 32 0 x := by rw [k6, h2]; decide
      by_cases h3 : R 9 0 7 = 12
      · have := H.x I (J := J) (e := 3) (x := 3) (b := some (iv 0)) (by simp) (by omega) (by omega) (fun _ Q' z => (j132_3 hA v rw (by omega) hx h1 h2 h3).mpr z) (Or.inr ⟨rfl, rfl⟩)
        simp (disch := first | assumption | (unfold kR; decide) | exact klc_R | (unfold kR; omega) | omega | (unfold kL; omega) | exact kcat_null | exact kcat_ref _ | exact kcat_iv _) only [r23_0, r23_1, r23_4, r23_5, r23_8, r23_9, r23_12, r23_15, r23_25, r23_26, r23_29, r23_32, r23_35, r23_37, r23_40, ho_0_0 hA v.l0, hg_0_0 hA v.l0, ht_1 hA v.l1, ho_1_0 hA v.l1, hg_1_0 hA v.l1, ht_10 hA, true_and, and_true, kk1_i, kk1_r, kk1_n, kk1_0, kcat_iv, kcat_ref, kcat_null, kisR_ref, kisR_null, ksz_nil, ksz_iv, ksz_ref, ksz_null, ksz_lv, kfit_int, kfit_long, kfit_obj, kfit_objN, kfit_arr, kfit_arrN, knarI, knarZ0, knarZ1, kret_v, kret_n, kret_x, Nat.reduceAdd, Nat.reduceLeDiff, reduceCtorEq, Int.reduceLE, Int.reduceLT, Int.reduceEq, ite_true, ite_false, true_or, or_true, false_implies, true_implies, not_true_eq_false, not_false_eq_true, and_self, eq_self, klc_lt, klc_ge, klc_le, klc_gt, klc_eq, kmu_eq, kmu_f, kmu_i, kmu_j, c43, c54 hA v, c180 hA v100, K2, h1, h3, e54, Nat.zero_le, show 1 ≤ d by omega, show 1 ≤ d - 1 by omega]
        exact ⟨by omega, by omega, by omega, this⟩
      · have h12 := XI.1
        have rw0 : kRW V (kmu R 9 0 0 0) := rw.pi0 (by omega) (by omega)
        have FI0 := kFI_0 FI (x := 0)
        have e7 : kmu R 9 0 0 0 9 0 7 = R 9 0 7 := kmu_j (by decide)
        have e56 : kmu R 9 0 0 0 56 0 x = -1 := by rw [kmu_f (by decide)]; exact h2
        have bk0 := FI0.1.2.2.2.1
        simp (disch := first | assumption | (unfold kR; decide) | exact klc_R | (unfold kR; omega) | omega | (unfold kL; omega) | exact kcat_null | exact kcat_ref _ | exact kcat_iv _) only [r23_0, r23_1, r23_4, r23_5, r23_8, r23_9, r23_12, r23_15, r23_25, r23_26, r23_29, r23_32, r23_35, r23_37, r23_50, r23_51, r23_54, r23_55, ho_0_0 hA v.l0, hg_0_0 hA v.l0, ht_1 hA v.l1, ho_1_0 hA v.l1, hg_1_0 hA v.l1, ht_10 hA, true_and, and_true, kk1_i, kk1_r, kk1_n, kk1_0, kcat_iv, kcat_ref, kcat_null, kisR_ref, kisR_null, ksz_nil, ksz_iv, ksz_ref, ksz_null, ksz_lv, kfit_int, kfit_long, kfit_obj, kfit_objN, kfit_arr, kfit_arrN, knarI, knarZ0, knarZ1, kret_v, kret_n, kret_x, Nat.reduceAdd, Nat.reduceLeDiff, reduceCtorEq, Int.reduceLE, Int.reduceLT, Int.reduceEq, ite_true, ite_false, true_or, or_true, false_implies, true_implies, not_true_eq_false, not_false_eq_true, and_self, eq_self, klc_lt, klc_ge, klc_le, klc_gt, klc_eq, kmu_eq, kmu_f, kmu_i, kmu_j, c43, c54 hA v, c180 hA v100, K2, h1, e54, show R 9 0 7 < 12 by omega, Nat.zero_le, show 1 ≤ d by omega, show 1 ≤ d - 1 by omega]
        refine c56 hA v hE rw0 FI0.1 h1.1 (by omega) e56 (by rw [e7]; omega) (by omega) (by omega) (by omega) (fun J1 A1 V1 C1 c1 l1 a1 a2 a3 a4 a5 a6 a7 => ?_)
        have v1 := a2.lv v
        obtain ⟨o1, o2, o3, o4, o5, o6, o7, o8⟩ := f123_o (X := kmu R 9 0 0 0) (g := x)
        rw [e7] at a4 o1
        have rw1 := a2.rw (f123_rw rw0 h1.1 (by omega) (by rw [e7]; omega))
        have k0 : C1 3 (R 9 0 7) 0 = R 9 0 7 := (a3.2.1.2.2.1 (R 9 0 7) (by omega) (by rw [o1]; omega)).2.2.1
        have hz := fun {Q} {C9} => j132_0 (E := E) (d := D) (c := c1) (l := l1) (Q := Q) (J := J1) (C := C9) a1 v1 (a2.rw rw) (by omega) hx h1 h2 (by omega)
        have xx : ∀ f, f ≠ 9 → f ≠ 56 → f ≠ 58 → f ≠ 59 → f ≠ 60 → f ≠ 61 → f123 (kmu R 9 0 0 0) x f = R f := fun f b1 b2 b3 b4 b5 b6 => (o8 f b1 b2 b3 b4 b5 b6).trans (kmu_ff b1)
        have x9 : ∀ j, j ≠ 7 → j ≠ 0 → f123 (kmu R 9 0 0 0) x 9 0 j = R 9 0 j := fun j b1 b2 => (o2 j b1).trans (kmu_j b2)
        have y1 : kBY (f123 (kmu R 9 0 0 0) x) := kBY_123 rw0 bk0 (kBY_c XI.2.2.2.1 (fun f hf => kmu_ff (by omega)) e7) h1.1 e56 (by rw [e7]; omega)
        have := H J1 A1 V1 C1 (f123 (kmu R 9 0 0 0) x) c1 l1 (.inl (some (iv (R 9 0 7)))) (some (iv (R 9 0 7))) ⟨a1, v1, by rw [(a2 34 0 (by decide) v.l34).2]; exact hE, rw1, ⟨a3, kMI_c FI.2 (fun f hf => a5 f (by omega) (by omega) (by omega) (by omega) (by omega) (by omega) (by omega) (by omega)) (fun f hf => xx f (by omega) (by omega) (by omega) (by omega) (by omega) (by omega)) (fun j hj => x9 j (by omega) (by omega))⟩, kXI_b XI (by omega) (fun f hf => xx f (by omega) (by omega) (by omega) (by omega) (by omega) (by omega)) (x9 15 (by decide) (by decide)) (x9 26 (by decide) (by decide)) (by omega) y1⟩ a2.e0 (by omega) (by omega) (fun _ Q' z => hz.mpr z) (Or.inl ⟨rfl, (o2 0 (by decide)).trans kmu_eq⟩) (Or.inr ⟨rfl, _, rfl, by unfold kR; omega⟩)
        rw [e7]
        simp (disch := first | assumption | (unfold kR; decide) | exact klc_R | (unfold kR; omega) | omega | (unfold kL; omega) | exact kcat_null | exact kcat_ref _ | exact kcat_iv _) only [r23_58, r23_61, ho_3_0 a1 a4, hg_3_0 a1 a4, true_and, and_true, kk1_i, kk1_r, kk1_n, kk1_0, kcat_iv, kcat_ref, kcat_null, kisR_ref, kisR_null, ksz_nil, ksz_iv, ksz_ref, ksz_null, ksz_lv, kfit_int, kfit_long, kfit_obj, kfit_objN, kfit_arr, kfit_arrN, knarI, knarZ0, knarZ1, kret_v, kret_n, kret_x, Nat.reduceAdd, Nat.reduceLeDiff, reduceCtorEq, Int.reduceLE, Int.reduceLT, Int.reduceEq, ite_true, ite_false, true_or, or_true, false_implies, true_implies, not_true_eq_false, not_false_eq_true, and_self, eq_self, klc_lt, klc_ge, klc_le, klc_gt, klc_eq, kmu_eq, kmu_f, kmu_i, kmu_j, k0]
        exact this
    · have e54 : 0 ≤ C 32 0 x := by rw [k6]; omega
      have := H.x I (J := J) (e := 1) (x := 2) (b := some (iv 0)) (by simp) (by omega) (by omega) (fun _ Q' z => (j132_2 hA v rw (by omega) hx h1 h2).mpr z) (Or.inr ⟨rfl, rfl⟩)
      simp (disch := first | assumption | (unfold kR; decide) | exact klc_R | (unfold kR; omega) | omega | (unfold kL; omega) | exact kcat_null | exact kcat_ref _ | exact kcat_iv _) only [r23_0, r23_1, r23_4, r23_5, r23_8, r23_9, r23_12, r23_15, ho_0_0 hA v.l0, hg_0_0 hA v.l0, ht_1 hA v.l1, true_and, and_true, kk1_i, kk1_r, kk1_n, kk1_0, kcat_iv, kcat_ref, kcat_null, kisR_ref, kisR_null, ksz_nil, ksz_iv, ksz_ref, ksz_null, ksz_lv, kfit_int, kfit_long, kfit_obj, kfit_objN, kfit_arr, kfit_arrN, knarI, knarZ0, knarZ1, kret_v, kret_n, kret_x, Nat.reduceAdd, Nat.reduceLeDiff, reduceCtorEq, Int.reduceLE, Int.reduceLT, Int.reduceEq, ite_true, ite_false, true_or, or_true, false_implies, true_implies, not_true_eq_false, not_false_eq_true, and_self, eq_self, klc_lt, klc_ge, klc_le, klc_gt, klc_eq, kmu_eq, kmu_f, kmu_i, kmu_j, c43, c54 hA v, h1, e54, show ¬ (1:Int) = 0 by decide, Nat.zero_le, show 1 ≤ d by omega, show 1 ≤ d - 1 by omega]
      exact ⟨by omega, by omega, by omega, this⟩
  · have := H.x I (J := J) (e := 0) (x := 1) (b := some (iv 0)) (by simp) (by omega) (by omega) (fun _ Q' z => (j132_1 hA v rw (by omega) hx h1).mpr z) (Or.inr ⟨rfl, rfl⟩)
    simp (disch := first | assumption | (unfold kR; decide) | exact klc_R | (unfold kR; omega) | omega | (unfold kL; omega) | exact kcat_null | exact kcat_ref _ | exact kcat_iv _) only [r23_0, r23_1, true_and, and_true, kk1_i, kk1_r, kk1_n, kk1_0, kcat_iv, kcat_ref, kcat_null, kisR_ref, kisR_null, ksz_nil, ksz_iv, ksz_ref, ksz_null, ksz_lv, kfit_int, kfit_long, kfit_obj, kfit_objN, kfit_arr, kfit_arrN, knarI, knarZ0, knarZ1, kret_v, kret_n, kret_x, Nat.reduceAdd, Nat.reduceLeDiff, reduceCtorEq, Int.reduceLE, Int.reduceLT, Int.reduceEq, ite_true, ite_false, true_or, or_true, false_implies, true_implies, not_true_eq_false, not_false_eq_true, and_self, eq_self, klc_lt, klc_ge, klc_le, klc_gt, klc_eq, kmu_eq, kmu_f, kmu_i, kmu_j, c43x, h1, Nat.zero_le, show 1 ≤ d by omega, show 9 ≤ d - 1 by omega]
    exact ⟨by omega, by omega, this⟩
/-- changed -/
theorem t26 (I : kIv E A V C R t) {k x : Int} (hk : kR k) (hx : kR x) (hd : 40 ≤ d) (hD : 40 ≤ D) (hc : 121 ≤ c) (hl : 2786 ≤ l) (H : kEnd E D 135 (fun A => [some (.ref (A 9 0)), some (iv k), some (iv x)]) [(2, 1), (0, 2), (1, 3), (3, 4)] V A R t c l Q) :
    ka_W (kp E) (d, (26, 0, [some (.ref (A 0 0)), some (iv k), some (iv x), none], []), (kHp J A V C R, c, l)) Q := by
  have hI := I
  obtain ⟨hA, v, hE, rw, FI, XI⟩ := hI
  have B := FI.1
  have M1 := FI.2.1
  have B7 := rw.i7
  have B1 := rw.i1
  have bk := B.2.2.2.1
  by_cases h1 : 0 ≤ k ∧ k ≤ R 9 0 7 - 1
  · have q45 := fun {Q} => c45 (E := E) (d := d - 1) (c := c) (l := l) (Q := Q) (J := J) (R := R) hA v rw B (by omega) h1
    obtain ⟨n1, n2, n3, n4, n5, n6, n7, n8, n9⟩ := B.new rw h1.1 (by omega)
    have r6 := n3.1
    have n2' : 0 ≤ C 3 k 2 := by omega
    have r6' : V 6 (C 3 k 2) := by rw [n2]; exact r6
    have d0 : C 6 (C 3 k 2) 0 = R 60 0 (4 * k + R 59 0 k - 1) := by
      have := (B.2.1.2.2.2.1 k (R 59 0 k - 1) h1.1 (by omega) (by omega) (by omega)).2.1
      have e : 4 * k + (R 59 0 k - 1) = 4 * k + R 59 0 k - 1 := by omega
      rw [e] at this
      rw [n2]; exact this
    have B60 := rw.a60 (j := 4 * k + R 59 0 k - 1) (by omega) (by omega)
    have n33 : C 3 k 3 = R 59 0 k := (B.2.1.2.2.1 k h1.1 (by omega)).2.2.2.2.2
    by_cases h2 : 0 ≤ x ∧ x ≤ 1000
    · by_cases h3 : x < R 9 0 1
      · have := H.x I (J := J) (e := 1) (x := 3) (b := some (iv 0)) (by simp) (by omega) (by omega) (fun _ Q' z => (j135_3 hA v rw bk (by omega) hk hx h1 h2 (Or.inl h3)).mpr z) (Or.inr ⟨rfl, rfl⟩)
        simp (disch := first | assumption | (unfold kR; decide) | exact klc_R | (unfold kR; omega) | omega | (unfold kL; omega) | exact kcat_null | exact kcat_ref _ | exact kcat_iv _) only [r26_0, r26_1, r26_2, r26_5, r26_6, r26_7, r26_8, r26_11, r26_14, r26_15, r26_16, r26_19, r26_22, r26_23, r26_24, r26_27, r26_30, r26_33, ht_0 hA v.l0, ho_0_6 hA v.l0, hg_0_6 hA v.l0, ho_3_2 hA, hg_3_2 hA, hgn_3_2 hA, ho_6_0 hA, hg_6_0 hA, true_and, and_true, kk1_i, kk1_r, kk1_n, kk1_0, kcat_iv, kcat_ref, kcat_null, kisR_ref, kisR_null, ksz_nil, ksz_iv, ksz_ref, ksz_null, ksz_lv, kfit_int, kfit_long, kfit_obj, kfit_objN, kfit_arr, kfit_arrN, knarI, knarZ0, knarZ1, kret_v, kret_n, kret_x, Nat.reduceAdd, Nat.reduceLeDiff, reduceCtorEq, Int.reduceLE, Int.reduceLT, Int.reduceEq, ite_true, ite_false, true_or, or_true, false_implies, true_implies, not_true_eq_false, not_false_eq_true, and_self, eq_self, klc_lt, klc_ge, klc_le, klc_gt, klc_eq, kmu_eq, kmu_f, kmu_i, kmu_j, q45, c42, M1, h2, h3, Nat.zero_le, show 1 ≤ d by omega]
        exact ⟨by omega, by omega, by omega, this⟩
      · by_cases h4 : R 60 0 (4 * k + R 59 0 k - 1) < x
        · by_cases h5 : R 59 0 k = 4
          · have := H.x I (J := J) (e := 3) (x := 4) (b := some (iv 0)) (by simp) (by omega) (by omega) (fun _ Q' z => (j135_4 hA v rw bk (by omega) hk hx h1 h2 h3 h4 h5).mpr z) (Or.inr ⟨rfl, rfl⟩)
            have n34 := n33.trans h5
            simp (disch := first | assumption | (unfold kR; decide) | exact klc_R | (unfold kR; omega) | omega | (unfold kL; omega) | exact kcat_null | exact kcat_ref _ | exact kcat_iv _) only [r26_0, r26_1, r26_2, r26_5, r26_6, r26_7, r26_8, r26_11, r26_14, r26_15, r26_16, r26_19, r26_22, r26_23, r26_24, r26_27, r26_30, r26_33, r26_43, r26_44, r26_47, r26_48, r26_51, ht_0 hA v.l0, ho_0_6 hA v.l0, hg_0_6 hA v.l0, ho_3_2 hA, hg_3_2 hA, hgn_3_2 hA, ho_6_0 hA, hg_6_0 hA, ho_3_3 hA, hg_3_3 hA, true_and, and_true, kk1_i, kk1_r, kk1_n, kk1_0, kcat_iv, kcat_ref, kcat_null, kisR_ref, kisR_null, ksz_nil, ksz_iv, ksz_ref, ksz_null, ksz_lv, kfit_int, kfit_long, kfit_obj, kfit_objN, kfit_arr, kfit_arrN, knarI, knarZ0, knarZ1, kret_v, kret_n, kret_x, Nat.reduceAdd, Nat.reduceLeDiff, reduceCtorEq, Int.reduceLE, Int.reduceLT, Int.reduceEq, ite_true, ite_false, true_or, or_true, false_implies, true_implies, not_true_eq_false, not_false_eq_true, and_self, eq_self, klc_lt, klc_ge, klc_le, klc_gt, klc_eq, kmu_eq, kmu_f, kmu_i, kmu_j, q45, c42, M1, d0, n34, h2, h3, h4, Nat.zero_le, show 1 ≤ d by omega]
            exact ⟨by omega, by omega, by omega, this⟩
          · have rw0 : kRW V (kmu R 9 0 0 0) := rw.pi0 (by omega) (by omega)
            have FI0 := kFI_0 FI (x := 0)
            have e7 : kmu R 9 0 0 0 9 0 7 = R 9 0 7 := kmu_j (by decide)
            have e59 : kmu R 9 0 0 0 59 = R 59 := kmu_ff (by decide)
            simp (disch := first | assumption | (unfold kR; decide) | exact klc_R | (unfold kR; omega) | omega | (unfold kL; omega) | exact kcat_null | exact kcat_ref _ | exact kcat_iv _) only [r26_0, r26_1, r26_2, r26_5, r26_6, r26_7, r26_8, r26_11, r26_14, r26_15, r26_16, r26_19, r26_22, r26_23, r26_24, r26_27, r26_30, r26_33, r26_43, r26_44, r26_47, r26_48, r26_61, r26_62, r26_63, ht_0 hA v.l0, ho_0_6 hA v.l0, hg_0_6 hA v.l0, ho_3_2 hA, hg_3_2 hA, hgn_3_2 hA, ho_6_0 hA, hg_6_0 hA, ho_3_3 hA, hg_3_3 hA, ht_3 hA, true_and, and_true, kk1_i, kk1_r, kk1_n, kk1_0, kcat_iv, kcat_ref, kcat_null, kisR_ref, kisR_null, ksz_nil, ksz_iv, ksz_ref, ksz_null, ksz_lv, kfit_int, kfit_long, kfit_obj, kfit_objN, kfit_arr, kfit_arrN, knarI, knarZ0, knarZ1, kret_v, kret_n, kret_x, Nat.reduceAdd, Nat.reduceLeDiff, reduceCtorEq, Int.reduceLE, Int.reduceLT, Int.reduceEq, ite_true, ite_false, true_or, or_true, false_implies, true_implies, not_true_eq_false, not_false_eq_true, and_self, eq_self, klc_lt, klc_ge, klc_le, klc_gt, klc_eq, kmu_eq, kmu_f, kmu_i, kmu_j, q45, c42, M1, d0, n33, h2, h3, h4, show R 59 0 k < 4 by omega, Nat.zero_le, show 1 ≤ d by omega]
            refine c81 hA v rw0 FI0.1 (k := k) (n := R 59 0 k) (x := x) (by omega) (by omega) (by omega) h1.1 (by rw [e7]; omega) (by rw [e59]) (by omega) (fun J1 A1 a1 a2 => ?_)
            have v1 := a2.lv v
            have bi := kBI_ch rw0 FI0.1 (k := k) (n := R 59 0 k) (x := x) h1.1 (by rw [e7]; omega) (by rw [e59]) (by omega)
            obtain ⟨o1, o2, o3, o4⟩ := f135_o (X := kmu R 9 0 0 0) (k := k) (x := x)
            have xx : ∀ f, f ≠ 9 → f ≠ 59 → f ≠ 60 → f ≠ 61 → f135 (kmu R 9 0 0 0) k x f = R f := fun f b1 b2 b3 b4 => (o4 f b2 b3 b4).trans (kmu_ff b1)
            have x9 : ∀ j, j ≠ 0 → f135 (kmu R 9 0 0 0) k x 9 0 j = R 9 0 j := fun j b1 => by rw [o4 9 (by decide) (by decide) (by decide), kmu_j b1]
            have hz := fun {Q} {C9} => j135_0 (E := E) (d := D) (c := c - 4) (l := l - 21) (Q := Q) (J := J1) (C := C9) a1 v1 (a2.rw rw) bk (by omega) hk hx h1 h2 h3 h4 h5
            have y1 : kBY (f135 (kmu R 9 0 0 0) k x) := kBY_135 rw0 FI0.1.2.2.2.1 (kBY_c XI.2.2.2.1 (fun f hf => kmu_ff (by omega)) e7) h1.1 (by rw [e7]; omega) (by rw [e59]; omega) (by rw [e59, kmu_f (by decide)]; exact h4)
            have rw1 : kRW V (f135 (kmu R 9 0 0 0) k x) := by
              unfold f135
              rw [e59]
              exact ((rw0.pa59 (by omega) (by omega)).pa60 (by omega) (by omega)).pa61 (by omega) (by omega)
            have cf : ∀ f, f ≠ 3 → f ≠ 6 → f ≠ 20 → f ≠ 21 → f ≠ 22 → kCc C k (R 59 0 k) x f = C f := by
              intro f a b c' d' e
              unfold kCc
              rw [kmu_ff a, kmu_ff a]
              funext i j
              unfold kCr
              rw [if_neg (fun w => b w.1), if_neg (fun w => by omega)]
            have c33 : kCc C k (R 59 0 k) x 3 k 3 = R 59 0 k + 1 := by unfold kCc; rw [kmu_eq]
            have := H J1 A1 _ (kCc C k (R 59 0 k) x) (f135 (kmu R 9 0 0 0) k x) (c - 4) (l - 21) (.inl (some (iv (R 59 0 k + 1)))) (some (iv (R 59 0 k + 1))) ⟨a1, v1, by rw [(a2 34 0 (by decide) v.l34).2]; exact hE, a2.rw rw1, ⟨bi, kMI_c FI.2 (fun f hf => cf f (by omega) (by omega) (by omega) (by omega) (by omega)) (fun f hf => xx f (by omega) (by omega) (by omega) (by omega)) (fun j hj => x9 j (by omega))⟩, kXI_b XI (by omega) (fun f hf => xx f (by omega) (by omega) (by omega) (by omega)) (x9 15 (by decide)) (x9 26 (by decide)) (by rw [x9 7 (by decide)]; exact XI.1) y1⟩ a2.e0 (by omega) (by omega) (fun _ Q' z => hz.mpr z) (Or.inl ⟨rfl, by rw [o4 9 (by decide) (by decide) (by decide), kmu_eq]⟩) (Or.inr ⟨rfl, _, rfl, by unfold kR; omega⟩)
            have v3 : kVr V (4 * k + R 59 0 k) 3 k := Or.inl n1
            have eA : A 3 k = A1 3 k := (a2 3 k (by decide) n1).2.symm
            rw [eA]
            simp (disch := first | assumption | (unfold kR; decide) | exact klc_R | (unfold kR; omega) | omega | (unfold kL; omega) | exact kcat_null | exact kcat_ref _ | exact kcat_iv _) only [r26_66, r26_67, r26_70, ho_3_3 a1 v3, hg_3_3 a1 v3, true_and, and_true, kk1_i, kk1_r, kk1_n, kk1_0, kcat_iv, kcat_ref, kcat_null, kisR_ref, kisR_null, ksz_nil, ksz_iv, ksz_ref, ksz_null, ksz_lv, kfit_int, kfit_long, kfit_obj, kfit_objN, kfit_arr, kfit_arrN, knarI, knarZ0, knarZ1, kret_v, kret_n, kret_x, Nat.reduceAdd, Nat.reduceLeDiff, reduceCtorEq, Int.reduceLE, Int.reduceLT, Int.reduceEq, ite_true, ite_false, true_or, or_true, false_implies, true_implies, not_true_eq_false, not_false_eq_true, and_self, eq_self, klc_lt, klc_ge, klc_le, klc_gt, klc_eq, kmu_eq, kmu_f, kmu_i, kmu_j, c33]
            exact this
        · have := H.x I (J := J) (e := 1) (x := 3) (b := some (iv 0)) (by simp) (by omega) (by omega) (fun _ Q' z => (j135_3 hA v rw bk (by omega) hk hx h1 h2 (Or.inr (by omega))).mpr z) (Or.inr ⟨rfl, rfl⟩)
          simp (disch := first | assumption | (unfold kR; decide) | exact klc_R | (unfold kR; omega) | omega | (unfold kL; omega) | exact kcat_null | exact kcat_ref _ | exact kcat_iv _) only [r26_0, r26_1, r26_2, r26_5, r26_6, r26_7, r26_8, r26_11, r26_14, r26_15, r26_16, r26_19, r26_22, r26_23, r26_24, r26_27, r26_30, r26_33, ht_0 hA v.l0, ho_0_6 hA v.l0, hg_0_6 hA v.l0, ho_3_2 hA, hg_3_2 hA, hgn_3_2 hA, ho_6_0 hA, hg_6_0 hA, true_and, and_true, kk1_i, kk1_r, kk1_n, kk1_0, kcat_iv, kcat_ref, kcat_null, kisR_ref, kisR_null, ksz_nil, ksz_iv, ksz_ref, ksz_null, ksz_lv, kfit_int, kfit_long, kfit_obj, kfit_objN, kfit_arr, kfit_arrN, knarI, knarZ0, knarZ1, kret_v, kret_n, kret_x, Nat.reduceAdd, Nat.reduceLeDiff, reduceCtorEq, Int.reduceLE, Int.reduceLT, Int.reduceEq, ite_true, ite_false, true_or, or_true, false_implies, true_implies, not_true_eq_false, not_false_eq_true, and_self, eq_self, klc_lt, klc_ge, klc_le, klc_gt, klc_eq, kmu_eq, kmu_f, kmu_i, kmu_j, q45, c42, M1, d0, h2, h3, h4, Nat.zero_le, show 1 ≤ d by omega]
          exact ⟨by omega, by omega, by omega, this⟩
    · have := H.x I (J := J) (e := 0) (x := 2) (b := some (iv 0)) (by simp) (by omega) (by omega) (fun _ Q' z => (j135_2 hA v rw (by omega) hk hx h1 h2).mpr z) (Or.inr ⟨rfl, rfl⟩)
      simp (disch := first | assumption | (unfold kR; decide) | exact klc_R | (unfold kR; omega) | omega | (unfold kL; omega) | exact kcat_null | exact kcat_ref _ | exact kcat_iv _) only [r26_0, r26_1, r26_2, r26_5, r26_6, r26_7, r26_8, r26_11, ht_0 hA v.l0, true_and, and_true, kk1_i, kk1_r, kk1_n, kk1_0, kcat_iv, kcat_ref, kcat_null, kisR_ref, kisR_null, ksz_nil, ksz_iv, ksz_ref, ksz_null, ksz_lv, kfit_int, kfit_long, kfit_obj, kfit_objN, kfit_arr, kfit_arrN, knarI, knarZ0, knarZ1, kret_v, kret_n, kret_x, Nat.reduceAdd, Nat.reduceLeDiff, reduceCtorEq, Int.reduceLE, Int.reduceLT, Int.reduceEq, ite_true, ite_false, true_or, or_true, false_implies, true_implies, not_true_eq_false, not_false_eq_true, and_self, eq_self, klc_lt, klc_ge, klc_le, klc_gt, klc_eq, kmu_eq, kmu_f, kmu_i, kmu_j, q45, c42x, h2, Nat.zero_le, show 1 ≤ d by omega]
      exact ⟨by omega, by omega, by omega, this⟩
  · have := H.x I (J := J) (e := 2) (x := 1) (b := some (iv 0)) (by simp) (by omega) (by omega) (fun _ Q' z => (j135_1 hA v rw (by omega) hk h1).mpr z) (Or.inr ⟨rfl, rfl⟩)
    have q45 := fun {Q} => c45x (E := E) (d := d - 1) (c := c) (l := l) (Q := Q) (J := J) (R := R) hA v rw B hk (by omega) h1
    simp (disch := first | assumption | (unfold kR; decide) | exact klc_R | (unfold kR; omega) | omega | (unfold kL; omega) | exact kcat_null | exact kcat_ref _ | exact kcat_iv _) only [r26_0, r26_1, r26_2, ht_0 hA v.l0, true_and, and_true, kk1_i, kk1_r, kk1_n, kk1_0, kcat_iv, kcat_ref, kcat_null, kisR_ref, kisR_null, ksz_nil, ksz_iv, ksz_ref, ksz_null, ksz_lv, kfit_int, kfit_long, kfit_obj, kfit_objN, kfit_arr, kfit_arrN, knarI, knarZ0, knarZ1, kret_v, kret_n, kret_x, Nat.reduceAdd, Nat.reduceLeDiff, reduceCtorEq, Int.reduceLE, Int.reduceLT, Int.reduceEq, ite_true, ite_false, true_or, or_true, false_implies, true_implies, not_true_eq_false, not_false_eq_true, and_self, eq_self, klc_lt, klc_ge, klc_le, klc_gt, klc_eq, kmu_eq, kmu_f, kmu_i, kmu_j, q45, Nat.zero_le, show 1 ≤ d by omega]
    exact ⟨by omega, by omega, this⟩
/-- cost -/
theorem t29 (I : kIv E A V C R t) {k : Int} (hk : kR k) (hd : 40 ≤ d) (hD : 40 ≤ D) (hc : 121 ≤ c) (hl : 2786 ≤ l) (H : kEnd E D 141 (fun A => [some (.ref (A 9 0)), some (iv k)]) [(2, 1)] V A R t c l Q) :
    ka_W (kp E) (d, (29, 0, [some (.ref (A 0 0)), some (iv k), none, none, none], []), (kHp J A V C R, c, l)) Q := by
  have hI := I
  obtain ⟨hA, v, hE, rw, FI, XI⟩ := hI
  have B := FI.1
  have B7 := rw.i7
  have bk := B.2.2.2.1
  by_cases h1 : 0 ≤ k ∧ k ≤ R 9 0 7 - 1
  · have q45 := fun {Q} => c45 (E := E) (d := d - 1) (c := c) (l := l) (Q := Q) (J := J) (R := R) hA v rw B (by omega) h1
    have rw0 : kRW V (kmu R 9 0 0 0) := rw.pi0 (by omega) (by omega)
    have FI0 := kFI_0 FI (x := 0)
    have e7 : kmu R 9 0 0 0 9 0 7 = R 9 0 7 := kmu_j (by decide)
    have bk0 := FI0.1.2.2.2.1
    have y0 : kBY (kmu R 9 0 0 0) := kBY_c XI.2.2.2.1 (fun f hf => kmu_ff (by omega)) e7
    obtain ⟨z1, z2, z3⟩ := f139_fix rw0 bk0 y0.2.2
    have z7 : f139 (kmu R 9 0 0 0) 9 0 7 = R 9 0 7 := by rw [z2 9 (by decide)]; exact e7
    have B88 := z1.a88 (j := k) (by omega) (by omega)
    have hz := fun {Q} {C} => j141_0 (E := E) (d := D) (c := c) (l := l) (Q := Q) (J := J) (C := C) hA v rw bk (by omega) hk h1
    have rk := krk_n bk0 y0.2.2 h1.1 (by rw [e7]; omega)
    rw [e7] at rk
    have x12 := XI.1
    obtain ⟨VI, ⟨K1, K2, K3, K4, K5, K6, K7⟩, F, -⟩ := B
    simp (disch := first | assumption | (unfold kR; decide) | exact klc_R | (unfold kR; omega) | omega | (unfold kL; omega) | exact kcat_null | exact kcat_ref _ | exact kcat_iv _) only [r29_0, r29_1, r29_2, r29_5, r29_6, r29_7, r29_10, ht_0 hA v.l0, ho_0_0 hA v.l0, hg_0_0 hA v.l0, ht_1 hA v.l1, true_and, and_true, kk1_i, kk1_r, kk1_n, kk1_0, kcat_iv, kcat_ref, kcat_null, kisR_ref, kisR_null, ksz_nil, ksz_iv, ksz_ref, ksz_null, ksz_lv, kfit_int, kfit_long, kfit_obj, kfit_objN, kfit_arr, kfit_arrN, knarI, knarZ0, knarZ1, kret_v, kret_n, kret_x, Nat.reduceAdd, Nat.reduceLeDiff, reduceCtorEq, Int.reduceLE, Int.reduceLT, Int.reduceEq, ite_true, ite_false, true_or, or_true, false_implies, true_implies, not_true_eq_false, not_false_eq_true, and_self, eq_self, klc_lt, klc_ge, klc_le, klc_gt, klc_eq, kmu_eq, kmu_f, kmu_i, kmu_j, q45, Nat.zero_le, show 1 ≤ d by omega]
    refine c60 hA v K1 (n := R 9 0 7) (by omega) K2 B7.1 B7.2 (fun k' a b => ⟨(K3 k' a b).1, (K3 k' a b).2.1⟩) (fun C1 a1 a2 a3 => ?_)
    have kn1 : kKn C C1 := ⟨a1, a2⟩
    have B1 := kBI_kn FI0.1 kn1
    have xx : ∀ f, f ≠ 9 → f ≠ 88 → f139 (kmu R 9 0 0 0) f = R f := fun f b1 b2 => (z2 f b2).trans (kmu_ff b1)
    have x9 : ∀ j, j ≠ 0 → f139 (kmu R 9 0 0 0) 9 0 j = R 9 0 j := fun j b1 => by rw [z2 9 (by decide), kmu_j b1]
    have x0 : f139 (kmu R 9 0 0 0) 9 0 0 = 0 := by rw [z2 9 (by decide), kmu_eq]
    have rk0 := krk_0 (X := kmu R 9 0 0 0) (g := kmu R 9 0 0 0 58 0 k)
    simp (disch := first | assumption | (unfold kR; decide) | exact klc_R | (unfold kR; omega) | omega | (unfold kL; omega) | exact kcat_null | exact kcat_ref _ | exact kcat_iv _) only [r29_13, r29_14, r29_15, r29_16, ht_0 hA v.l0, true_and, and_true, kk1_i, kk1_r, kk1_n, kk1_0, kcat_iv, kcat_ref, kcat_null, kisR_ref, kisR_null, ksz_nil, ksz_iv, ksz_ref, ksz_null, ksz_lv, kfit_int, kfit_long, kfit_obj, kfit_objN, kfit_arr, kfit_arrN, knarI, knarZ0, knarZ1, kret_v, kret_n, kret_x, Nat.reduceAdd, Nat.reduceLeDiff, reduceCtorEq, Int.reduceLE, Int.reduceLT, Int.reduceEq, ite_true, ite_false, true_or, or_true, false_implies, true_implies, not_true_eq_false, not_false_eq_true, and_self, eq_self, klc_lt, klc_ge, klc_le, klc_gt, klc_eq, kmu_eq, kmu_f, kmu_i, kmu_j, Nat.zero_le, show 1 ≤ d by omega]
    refine c51 hA v rw0 bk0 y0.2.1 y0.1 y0.2.2 z1 z2 z3 12 (d - 1) k 1 C1 _ ?_ ?_ B1 (fun k' b0 b1 => Or.inl (a3 k' b0 (by omega))) h1.1 (by rw [e7]; omega) (by omega) (by omega) (by omega) (by omega) (fun C2 b1 b2 => ?_)
    · rw [a1 0 (by decide), kmu_j (by decide)]; exact FI.2.1
    · intro g g0 g1
      rw [a1 30 (by decide), kmu_f (by decide)]; exact FI.2.2.2.2.2.1 g g0 g1
    · have kn2 := kn1.trans b1
      have B2 : kBI V C2 (f139 (kmu R 9 0 0 0)) := kBI_9 (kBI_kn FI.1 kn2) (fun f c1 _ _ _ _ _ _ c2 => xx f c1 c2) (x9 7 (by decide)) (x9 15 (by decide)) (x9 26 (by decide))
      have := H J A V C2 (f139 (kmu R 9 0 0 0)) c l (.inl (some (iv (f139 (kmu R 9 0 0 0) 88 0 k)))) (some (iv (f139 (kmu R 9 0 0 0) 88 0 k))) ⟨hA, v, hE, z1, ⟨B2, kMI_c FI.2 (fun f hf => kn2.1 f (by omega)) (fun f hf => xx f (by omega) (by omega)) (fun j hj => x9 j (by omega))⟩, kXI_9 XI (by omega) (fun f b1 _ _ _ _ b2 => xx f b1 b2) (x9 7 (by decide)) (x9 15 (by decide)) (x9 26 (by decide))⟩ kEx0_rfl (by omega) (by omega) (fun _ Q' z => hz.mpr z) (Or.inl ⟨rfl, x0⟩) (Or.inr ⟨rfl, _, rfl, by unfold kR; omega⟩)
      generalize f139 (kmu R 9 0 0 0) 88 0 k = w at *
      by_cases e : w < 0
      · have ew : w = -1 := by omega
        have ec : kcap w = 1000000001 := by unfold kcap; rw [if_pos e]
        rw [ew] at this
        simp (disch := first | assumption | (unfold kR; decide) | exact klc_R | (unfold kR; omega) | omega | (unfold kL; omega) | exact kcat_null | exact kcat_ref _ | exact kcat_iv _) only [r29_19, r29_20, r29_21, r29_24, r29_25, r29_28, r29_29, r29_32, r29_33, r29_34, true_and, and_true, kk1_i, kk1_r, kk1_n, kk1_0, kcat_iv, kcat_ref, kcat_null, kisR_ref, kisR_null, ksz_nil, ksz_iv, ksz_ref, ksz_null, ksz_lv, kfit_int, kfit_long, kfit_obj, kfit_objN, kfit_arr, kfit_arrN, knarI, knarZ0, knarZ1, kret_v, kret_n, kret_x, Nat.reduceAdd, Nat.reduceLeDiff, reduceCtorEq, Int.reduceLE, Int.reduceLT, Int.reduceEq, ite_true, ite_false, true_or, or_true, false_implies, true_implies, not_true_eq_false, not_false_eq_true, and_self, eq_self, klc_lt, klc_ge, klc_le, klc_gt, klc_eq, kmu_eq, kmu_f, kmu_i, kmu_j, ec]
        exact this
      · have ec : kcap w = w := by unfold kcap; rw [if_neg e]
        simp (disch := first | assumption | (unfold kR; decide) | exact klc_R | (unfold kR; omega) | omega | (unfold kL; omega) | exact kcat_null | exact kcat_ref _ | exact kcat_iv _) only [r29_19, r29_20, r29_21, r29_24, r29_25, r29_28, r29_29, r29_32, r29_33, r29_34, true_and, and_true, kk1_i, kk1_r, kk1_n, kk1_0, kcat_iv, kcat_ref, kcat_null, kisR_ref, kisR_null, ksz_nil, ksz_iv, ksz_ref, ksz_null, ksz_lv, kfit_int, kfit_long, kfit_obj, kfit_objN, kfit_arr, kfit_arrN, knarI, knarZ0, knarZ1, kret_v, kret_n, kret_x, Nat.reduceAdd, Nat.reduceLeDiff, reduceCtorEq, Int.reduceLE, Int.reduceLT, Int.reduceEq, ite_true, ite_false, true_or, or_true, false_implies, true_implies, not_true_eq_false, not_false_eq_true, and_self, eq_self, klc_lt, klc_ge, klc_le, klc_gt, klc_eq, kmu_eq, kmu_f, kmu_i, kmu_j, ec, show w ≤ 1000000000 by omega]
        exact this
  · have := H.x I (J := J) (e := 2) (x := 1) (b := some (iv 0)) (by simp) (by omega) (by omega) (fun _ Q' z => (j141_1 hA v rw (by omega) hk h1).mpr z) (Or.inr ⟨rfl, rfl⟩)
    have q45 := fun {Q} => c45x (E := E) (d := d - 1) (c := c) (l := l) (Q := Q) (J := J) (R := R) hA v rw B hk (by omega) h1
    simp (disch := first | assumption | (unfold kR; decide) | exact klc_R | (unfold kR; omega) | omega | (unfold kL; omega) | exact kcat_null | exact kcat_ref _ | exact kcat_iv _) only [r29_0, r29_1, r29_2, ht_0 hA v.l0, true_and, and_true, kk1_i, kk1_r, kk1_n, kk1_0, kcat_iv, kcat_ref, kcat_null, kisR_ref, kisR_null, ksz_nil, ksz_iv, ksz_ref, ksz_null, ksz_lv, kfit_int, kfit_long, kfit_obj, kfit_objN, kfit_arr, kfit_arrN, knarI, knarZ0, knarZ1, kret_v, kret_n, kret_x, Nat.reduceAdd, Nat.reduceLeDiff, reduceCtorEq, Int.reduceLE, Int.reduceLT, Int.reduceEq, ite_true, ite_false, true_or, or_true, false_implies, true_implies, not_true_eq_false, not_false_eq_true, and_self, eq_self, klc_lt, klc_ge, klc_le, klc_gt, klc_eq, kmu_eq, kmu_f, kmu_i, kmu_j, q45, Nat.zero_le, show 1 ≤ d by omega]
    exact ⟨by omega, by omega, this⟩
end
