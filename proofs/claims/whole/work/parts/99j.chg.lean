/-! Existing kits, makings, units; a kit's next recipe. -/
section
variable {E : Nat × Nat} {d c l : Nat} {s : ka_S} {h : ka_H} {Q : ka_Q} {J : ka_H} {A A' : ka_A} {V V' : ka_V} {C C' R X X' : ka_M}
theorem c45 (hA : kJ A V) (v : kLV V) (rw : kRW V X) (I : kBI V C X) {k : Int} (hd : 3 ≤ d) (h1 : 0 ≤ k ∧ k ≤ X 9 0 7 - 1) :
    ka_W (kp E) (d, (45, 0, [some (.ref (A 0 0)), some (iv k)], []), (kHp J A V C R, c, l)) Q ↔ Q (.inl (some (.ref (A 3 k)))) (kHp J A V C R, c, l) := by
  obtain ⟨VI, ⟨K1, K2, K3, K4, K5, K6, K7⟩, F, B, P, M⟩ := I
  have B7 := rw.i7
  obtain ⟨x1, x2, -⟩ := K3 k h1.1 (by omega)
  have v100 := v.2.1
  have q182 := fun {Q} => c182_0 (E := E) (d := d - 1) (c := c) (l := l) (Q := Q) (J := J) (R := R) hA v K1 (x := k) (y := k) (by omega) (by omega) (by omega) x2 (by omega)
  simp (disch := first | assumption | (unfold kR; decide) | exact klc_R | (unfold kR; omega) | omega | (unfold kL; omega) | exact kcat_null | exact kcat_ref _ | exact kcat_iv _) only [r45_0, r45_1, r45_4, r45_5, r45_6, r45_9, r45_12, r45_15, r45_29, r45_30, r45_33, r45_36, r45_37, r45_40, r45_43, ho_0_0 hA v.l0, hg_0_0 hA v.l0, ho_1_0 hA v.l1, hg_1_0 hA v.l1, ht_10 hA, ht_3 hA, true_and, and_true, kk1_i, kk1_r, kk1_n, kk1_0, kcat_iv, kcat_ref, kcat_null, kisR_ref, kisR_null, ksz_nil, ksz_iv, ksz_ref, ksz_null, ksz_lv, kfit_int, kfit_long, kfit_obj, kfit_objN, kfit_arr, kfit_arrN, knarI, knarZ0, knarZ1, kret_v, kret_n, kret_x, Nat.reduceAdd, Nat.reduceLeDiff, reduceCtorEq, Int.reduceLE, Int.reduceLT, Int.reduceEq, ite_true, ite_false, true_or, or_true, false_implies, true_implies, not_true_eq_false, not_false_eq_true, and_self, eq_self, klc_lt, klc_ge, klc_le, klc_gt, klc_eq, kmu_eq, kmu_f, kmu_i, kmu_j, c180 hA v100, K2, q182, show ¬ k < 0 by omega, show k < X 9 0 7 by omega, Nat.zero_le, show 1 ≤ d by omega]
theorem c45x (hA : kJ A V) (v : kLV V) (rw : kRW V X) (I : kBI V C X) {k : Int} (hk : kR k) (hd : 8 ≤ d) (h1 : ¬ (0 ≤ k ∧ k ≤ X 9 0 7 - 1)) :
    ka_W (kp E) (d, (45, 0, [some (.ref (A 0 0)), some (iv k)], []), (kHp J A V C R, c, l)) Q ↔ 1 ≤ c ∧ 6 ≤ l ∧ Q (.inr 2) (kHp J A V C R, c - 1, l - 6) := by
  have K2 := I.2.1.2.1
  have B7 := rw.i7
  have v100 := v.2.1
  by_cases e : k < 0
  · simp (disch := first | assumption | (unfold kR; decide) | exact klc_R | (unfold kR; omega) | omega | (unfold kL; omega) | exact kcat_null | exact kcat_ref _ | exact kcat_iv _) only [r45_0, r45_1, r45_4, r45_5, r45_6, r45_9, r45_12, r45_15, r45_18, ho_0_0 hA v.l0, hg_0_0 hA v.l0, ho_1_0 hA v.l1, hg_1_0 hA v.l1, ht_10 hA, true_and, and_true, kk1_i, kk1_r, kk1_n, kk1_0, kcat_iv, kcat_ref, kcat_null, kisR_ref, kisR_null, ksz_nil, ksz_iv, ksz_ref, ksz_null, ksz_lv, kfit_int, kfit_long, kfit_obj, kfit_objN, kfit_arr, kfit_arrN, knarI, knarZ0, knarZ1, kret_v, kret_n, kret_x, Nat.reduceAdd, Nat.reduceLeDiff, reduceCtorEq, Int.reduceLE, Int.reduceLT, Int.reduceEq, ite_true, ite_false, true_or, or_true, false_implies, true_implies, not_true_eq_false, not_false_eq_true, and_self, eq_self, klc_lt, klc_ge, klc_le, klc_gt, klc_eq, kmu_eq, kmu_f, kmu_i, kmu_j, e, hd]
  · simp (disch := first | assumption | (unfold kR; decide) | exact klc_R | (unfold kR; omega) | omega | (unfold kL; omega) | exact kcat_null | exact kcat_ref _ | exact kcat_iv _) only [r45_0, r45_1, r45_4, r45_5, r45_6, r45_9, r45_12, r45_15, r45_18, ho_0_0 hA v.l0, hg_0_0 hA v.l0, ho_1_0 hA v.l1, hg_1_0 hA v.l1, ht_10 hA, true_and, and_true, kk1_i, kk1_r, kk1_n, kk1_0, kcat_iv, kcat_ref, kcat_null, kisR_ref, kisR_null, ksz_nil, ksz_iv, ksz_ref, ksz_null, ksz_lv, kfit_int, kfit_long, kfit_obj, kfit_objN, kfit_arr, kfit_arrN, knarI, knarZ0, knarZ1, kret_v, kret_n, kret_x, Nat.reduceAdd, Nat.reduceLeDiff, reduceCtorEq, Int.reduceLE, Int.reduceLT, Int.reduceEq, ite_true, ite_false, true_or, or_true, false_implies, true_implies, not_true_eq_false, not_false_eq_true, and_self, eq_self, klc_lt, klc_ge, klc_le, klc_gt, klc_eq, kmu_eq, kmu_f, kmu_i, kmu_j, c180 hA v100, K2, e, show ¬ k < X 9 0 7 by omega, hd, Nat.zero_le, show 1 ≤ d by omega]
theorem c46 (hA : kJ A V) (v : kLV V) (rw : kRW V X) (F : kRF V C X) {m : Int} (hd : 3 ≤ d) (h1 : 1 ≤ m ∧ m ≤ X 9 0 15) :
    ka_W (kp E) (d, (46, 0, [some (.ref (A 0 0)), some (iv m)], []), (kHp J A V C R, c, l)) Q ↔ Q (.inl (some (.ref (A 4 m)))) (kHp J A V C R, c, l) := by
  obtain ⟨F1, F2, F3, F4, F5, F6, F7, F8⟩ := F
  have B := rw.i15
  obtain ⟨x1, x2, x3, x4, x5, -⟩ := F5 m h1.1 h1.2
  have v101 := v.2.2.1
  have q182 := fun {Q} => c182_1 (E := E) (d := d - 1) (c := c) (l := l) (Q := Q) (J := J) (R := R) hA v F1 (x := m - 1) (y := m) (by omega) (by omega) (by omega) x5 (by omega)
  simp (disch := first | assumption | (unfold kR; decide) | exact klc_R | (unfold kR; omega) | omega | (unfold kL; omega) | exact kcat_null | exact kcat_ref _ | exact kcat_iv _) only [r46_0, r46_1, r46_2, r46_5, r46_6, r46_7, r46_10, r46_13, r46_16, r46_30, r46_31, r46_34, r46_37, r46_38, r46_39, r46_40, r46_43, r46_46, ho_0_3 hA v.l0, hg_0_3 hA v.l0, ho_2_0 hA v.l2, hg_2_0 hA v.l2, ht_10 hA, ht_4 hA, true_and, and_true, kk1_i, kk1_r, kk1_n, kk1_0, kcat_iv, kcat_ref, kcat_null, kisR_ref, kisR_null, ksz_nil, ksz_iv, ksz_ref, ksz_null, ksz_lv, kfit_int, kfit_long, kfit_obj, kfit_objN, kfit_arr, kfit_arrN, knarI, knarZ0, knarZ1, kret_v, kret_n, kret_x, Nat.reduceAdd, Nat.reduceLeDiff, reduceCtorEq, Int.reduceLE, Int.reduceLT, Int.reduceEq, ite_true, ite_false, true_or, or_true, false_implies, true_implies, not_true_eq_false, not_false_eq_true, and_self, eq_self, klc_lt, klc_ge, klc_le, klc_gt, klc_eq, kmu_eq, kmu_f, kmu_i, kmu_j, c180 hA v101, F3, q182, show ¬ m < 1 by omega, show m ≤ X 9 0 15 by omega, Nat.zero_le, show 1 ≤ d by omega]
theorem c46x (hA : kJ A V) (v : kLV V) (rw : kRW V X) (F : kRF V C X) {m : Int} (hm : kR m) (hd : 8 ≤ d) (h1 : ¬ (1 ≤ m ∧ m ≤ X 9 0 15)) :
    ka_W (kp E) (d, (46, 0, [some (.ref (A 0 0)), some (iv m)], []), (kHp J A V C R, c, l)) Q ↔ 1 ≤ c ∧ 6 ≤ l ∧ Q (.inr 2) (kHp J A V C R, c - 1, l - 6) := by
  have F3 := F.2.2.1
  have B := rw.i15
  have v101 := v.2.2.1
  by_cases e : m < 1
  · simp (disch := first | assumption | (unfold kR; decide) | exact klc_R | (unfold kR; omega) | omega | (unfold kL; omega) | exact kcat_null | exact kcat_ref _ | exact kcat_iv _) only [r46_0, r46_1, r46_2, r46_5, r46_6, r46_7, r46_10, r46_13, r46_16, r46_19, ho_0_3 hA v.l0, hg_0_3 hA v.l0, ho_2_0 hA v.l2, hg_2_0 hA v.l2, ht_10 hA, true_and, and_true, kk1_i, kk1_r, kk1_n, kk1_0, kcat_iv, kcat_ref, kcat_null, kisR_ref, kisR_null, ksz_nil, ksz_iv, ksz_ref, ksz_null, ksz_lv, kfit_int, kfit_long, kfit_obj, kfit_objN, kfit_arr, kfit_arrN, knarI, knarZ0, knarZ1, kret_v, kret_n, kret_x, Nat.reduceAdd, Nat.reduceLeDiff, reduceCtorEq, Int.reduceLE, Int.reduceLT, Int.reduceEq, ite_true, ite_false, true_or, or_true, false_implies, true_implies, not_true_eq_false, not_false_eq_true, and_self, eq_self, klc_lt, klc_ge, klc_le, klc_gt, klc_eq, kmu_eq, kmu_f, kmu_i, kmu_j, e, hd]
  · simp (disch := first | assumption | (unfold kR; decide) | exact klc_R | (unfold kR; omega) | omega | (unfold kL; omega) | exact kcat_null | exact kcat_ref _ | exact kcat_iv _) only [r46_0, r46_1, r46_2, r46_5, r46_6, r46_7, r46_10, r46_13, r46_16, r46_19, ho_0_3 hA v.l0, hg_0_3 hA v.l0, ho_2_0 hA v.l2, hg_2_0 hA v.l2, ht_10 hA, true_and, and_true, kk1_i, kk1_r, kk1_n, kk1_0, kcat_iv, kcat_ref, kcat_null, kisR_ref, kisR_null, ksz_nil, ksz_iv, ksz_ref, ksz_null, ksz_lv, kfit_int, kfit_long, kfit_obj, kfit_objN, kfit_arr, kfit_arrN, knarI, knarZ0, knarZ1, kret_v, kret_n, kret_x, Nat.reduceAdd, Nat.reduceLeDiff, reduceCtorEq, Int.reduceLE, Int.reduceLT, Int.reduceEq, ite_true, ite_false, true_or, or_true, false_implies, true_implies, not_true_eq_false, not_false_eq_true, and_self, eq_self, klc_lt, klc_ge, klc_le, klc_gt, klc_eq, kmu_eq, kmu_f, kmu_i, kmu_j, c180 hA v101, F3, e, show ¬ m ≤ X 9 0 15 by omega, hd, Nat.zero_le, show 1 ≤ d by omega]
theorem c47 (hA : kJ A V) (v : kLV V) (rw : kRW V X) (F : kRF V C X) {u : Int} (hd : 3 ≤ d) (h1 : 1 ≤ u ∧ u ≤ X 9 0 26) :
    ka_W (kp E) (d, (47, 0, [some (.ref (A 0 0)), some (iv u)], []), (kHp J A V C R, c, l)) Q ↔ Q (.inl (some (.ref (A 8 u)))) (kHp J A V C R, c, l) := by
  obtain ⟨F1, F2, F3, F4, F5, F6, F7, F8⟩ := F
  have B := rw.i26
  obtain ⟨x1, x2, -⟩ := F7 u h1.1 h1.2
  have v102 := v.2.2.2
  have q182 := fun {Q} => c182_2 (E := E) (d := d - 1) (c := c) (l := l) (Q := Q) (J := J) (R := R) hA v F2 (x := u - 1) (y := u) (by omega) (by omega) (by omega) x2 (by omega)
  simp (disch := first | assumption | (unfold kR; decide) | exact klc_R | (unfold kR; omega) | omega | (unfold kL; omega) | exact kcat_null | exact kcat_ref _ | exact kcat_iv _) only [r47_0, r47_1, r47_2, r47_5, r47_6, r47_7, r47_10, r47_13, r47_16, r47_30, r47_31, r47_34, r47_37, r47_38, r47_39, r47_40, r47_43, r47_46, ho_0_3 hA v.l0, hg_0_3 hA v.l0, ho_2_1 hA v.l2, hg_2_1 hA v.l2, ht_10 hA, ht_8 hA, true_and, and_true, kk1_i, kk1_r, kk1_n, kk1_0, kcat_iv, kcat_ref, kcat_null, kisR_ref, kisR_null, ksz_nil, ksz_iv, ksz_ref, ksz_null, ksz_lv, kfit_int, kfit_long, kfit_obj, kfit_objN, kfit_arr, kfit_arrN, knarI, knarZ0, knarZ1, kret_v, kret_n, kret_x, Nat.reduceAdd, Nat.reduceLeDiff, reduceCtorEq, Int.reduceLE, Int.reduceLT, Int.reduceEq, ite_true, ite_false, true_or, or_true, false_implies, true_implies, not_true_eq_false, not_false_eq_true, and_self, eq_self, klc_lt, klc_ge, klc_le, klc_gt, klc_eq, kmu_eq, kmu_f, kmu_i, kmu_j, c180 hA v102, F4, q182, show ¬ u < 1 by omega, show u ≤ X 9 0 26 by omega, Nat.zero_le, show 1 ≤ d by omega]
theorem c47x (hA : kJ A V) (v : kLV V) (rw : kRW V X) (F : kRF V C X) {u : Int} (hu : kR u) (hd : 8 ≤ d) (h1 : ¬ (1 ≤ u ∧ u ≤ X 9 0 26)) :
    ka_W (kp E) (d, (47, 0, [some (.ref (A 0 0)), some (iv u)], []), (kHp J A V C R, c, l)) Q ↔ 1 ≤ c ∧ 6 ≤ l ∧ Q (.inr 2) (kHp J A V C R, c - 1, l - 6) := by
  have F4 := F.2.2.2.1
  have B := rw.i26
  have v102 := v.2.2.2
  by_cases e : u < 1
  · simp (disch := first | assumption | (unfold kR; decide) | exact klc_R | (unfold kR; omega) | omega | (unfold kL; omega) | exact kcat_null | exact kcat_ref _ | exact kcat_iv _) only [r47_0, r47_1, r47_2, r47_5, r47_6, r47_7, r47_10, r47_13, r47_16, r47_19, ho_0_3 hA v.l0, hg_0_3 hA v.l0, ho_2_1 hA v.l2, hg_2_1 hA v.l2, ht_10 hA, true_and, and_true, kk1_i, kk1_r, kk1_n, kk1_0, kcat_iv, kcat_ref, kcat_null, kisR_ref, kisR_null, ksz_nil, ksz_iv, ksz_ref, ksz_null, ksz_lv, kfit_int, kfit_long, kfit_obj, kfit_objN, kfit_arr, kfit_arrN, knarI, knarZ0, knarZ1, kret_v, kret_n, kret_x, Nat.reduceAdd, Nat.reduceLeDiff, reduceCtorEq, Int.reduceLE, Int.reduceLT, Int.reduceEq, ite_true, ite_false, true_or, or_true, false_implies, true_implies, not_true_eq_false, not_false_eq_true, and_self, eq_self, klc_lt, klc_ge, klc_le, klc_gt, klc_eq, kmu_eq, kmu_f, kmu_i, kmu_j, e, hd]
  · simp (disch := first | assumption | (unfold kR; decide) | exact klc_R | (unfold kR; omega) | omega | (unfold kL; omega) | exact kcat_null | exact kcat_ref _ | exact kcat_iv _) only [r47_0, r47_1, r47_2, r47_5, r47_6, r47_7, r47_10, r47_13, r47_16, r47_19, ho_0_3 hA v.l0, hg_0_3 hA v.l0, ho_2_1 hA v.l2, hg_2_1 hA v.l2, ht_10 hA, true_and, and_true, kk1_i, kk1_r, kk1_n, kk1_0, kcat_iv, kcat_ref, kcat_null, kisR_ref, kisR_null, ksz_nil, ksz_iv, ksz_ref, ksz_null, ksz_lv, kfit_int, kfit_long, kfit_obj, kfit_objN, kfit_arr, kfit_arrN, knarI, knarZ0, knarZ1, kret_v, kret_n, kret_x, Nat.reduceAdd, Nat.reduceLeDiff, reduceCtorEq, Int.reduceLE, Int.reduceLT, Int.reduceEq, ite_true, ite_false, true_or, or_true, false_implies, true_implies, not_true_eq_false, not_false_eq_true, and_self, eq_self, klc_lt, klc_ge, klc_le, klc_gt, klc_eq, kmu_eq, kmu_f, kmu_i, kmu_j, c180 hA v102, F4, e, show ¬ u ≤ X 9 0 26 by omega, hd, Nat.zero_le, show 1 ≤ d by omega]
theorem f135_o {k x : Int} : (∀ q, f135 X k x 59 0 q = if q = k then X 59 0 k + 1 else X 59 0 q) ∧ (∀ q, f135 X k x 60 0 q = if q = 4 * k + X 59 0 k then x else X 60 0 q) ∧ (∀ q, f135 X k x 61 0 q = if q = 4 * k + X 59 0 k then 0 else X 61 0 q) ∧ ∀ f, f ≠ 59 → f ≠ 60 → f ≠ 61 → f135 X k x f = X f := by
  have e : 4 * k + (X 59 0 k + 1) - 1 = 4 * k + X 59 0 k := by omega
  unfold f135
  rw [e]
  generalize 4 * k + X 59 0 k = q0
  refine ⟨fun q => ?_, fun q => ?_, fun q => ?_, fun f a b c' => ?_⟩
  · rw [kmu_f (by decide), kmu_f (by decide)]
    by_cases e : q = k
    · rw [e, kmu_eq, if_pos rfl]
    · rw [kmu_j e, if_neg e]
  · rw [kmu_f (by decide)]
    by_cases e : q = q0
    · rw [e, kmu_eq, if_pos rfl]
    · rw [kmu_j e, if_neg e, kmu_f (by decide)]
  · by_cases e : q = q0
    · rw [e, kmu_eq, if_pos rfl]
    · rw [kmu_j e, if_neg e, kmu_f (by decide), kmu_f (by decide)]
  · rw [kmu_ff c', kmu_ff b, kmu_ff a]
theorem f135_lead (rw : kRW V X) (bk : kBk X) {k x a b : Int} (k0 : 0 ≤ k) (k1 : k < X 9 0 7) (h4 : X 59 0 k < 4) (a0 : 0 ≤ a) (a1 : a < 20) : klead (f135 X k x) a b ↔ klead X a b := by
  obtain ⟨o1, o2, o3, o4⟩ := f135_o (X := X) (k := k) (x := x)
  have B7 := rw.i7
  unfold klead kPr kP
  rw [o4 56 (by decide) (by decide) (by decide), o4 62 (by decide) (by decide) (by decide), o4 64 (by decide) (by decide) (by decide)]
  by_cases h1 : X 56 0 a = -1
  · simp [h1]
  · have hb := bk.2.2.1 a a0 a1 h1
    have hr := bk.2.2.2 k k0 k1
    have B59 := rw.a59 (j := X 56 0 a) (by omega) (by omega)
    refine and_congr_right (fun _ => exists_congr (fun q => ?_))
    constructor
    · rintro ⟨q0, q1, p, p0, p1, h2⟩
      rw [o1] at q1
      rw [o3] at p1
      by_cases w : 4 * X 56 0 a + q = 4 * k + X 59 0 k
      · rw [if_pos w] at p1; omega
      · rw [if_neg w] at p1
        refine ⟨q0, ?_, p, p0, p1, h2⟩
        by_cases w2 : X 56 0 a = k
        · rw [if_pos w2] at q1; rw [w2] at w ⊢; omega
        · rw [if_neg w2] at q1; exact q1
    · rintro ⟨q0, q1, p, p0, p1, h2⟩
      have w : ¬ 4 * X 56 0 a + q = 4 * k + X 59 0 k := by
        intro w
        have : X 56 0 a = k := by omega
        rw [this] at q1 w
        omega
      refine ⟨q0, ?_, p, p0, by rw [o3, if_neg w]; exact p1, h2⟩
      rw [o1]
      by_cases w2 : X 56 0 a = k
      · rw [if_pos w2]; rw [w2] at q1; omega
      · rw [if_neg w2]; exact q1
def kCc (C : ka_M) (k n day : Int) : ka_M := kmu (kmu (kCr C (4 * k + n) day (4 * k + n - 1)) 3 k 2 (4 * k + n)) 3 k 3 (n + 1)
theorem kBI_ch (rw : kRW V X) (I : kBI V C X) {k n x : Int} (k0 : 0 ≤ k) (k1 : k < X 9 0 7) (hn : X 59 0 k = n) (h4 : n < 4) : kBI (kVr V (4 * k + n)) (kCc C k n x) (f135 X k x) := by
  have B7 := rw.i7
  have lead := fun a b a0 a1 => f135_lead rw I.2.2.2.1 (k := k) (x := x) (a := a) (b := b) k0 k1 (by omega) a0 a1
  obtain ⟨o1, o2, o3, o4⟩ := f135_o (X := X) (k := k) (x := x)
  rw [hn] at o1 o2 o3
  obtain ⟨⟨i0, i32, i10, i3, i4, i8, i23, i20, i6, i33⟩, ⟨K1, K2, K3, K4, K5, K6, K7⟩, F, B, ⟨p0, p1, p2, p3⟩, M⟩ := I
  have hr := B.2.2.2 k k0 k1
  generalize f135 X k x = Y at *
  have y9 : Y 9 = X 9 := o4 9 (by decide) (by decide) (by decide)
  have cf : ∀ f, f ≠ 3 → f ≠ 6 → f ≠ 20 → f ≠ 21 → f ≠ 22 → kCc C k n x f = C f := by
    intro f a b c' d' e
    unfold kCc
    rw [kmu_ff a, kmu_ff a]
    funext i j
    unfold kCr
    rw [if_neg (fun w => b w.1), if_neg (fun w => by omega)]
  have cr : ∀ f i, f = 6 ∨ f = 20 ∨ f = 21 ∨ f = 22 → i ≠ 4 * k + n → kCc C k n x f i = C f i := by
    intro f i hf hi
    unfold kCc
    rw [kmu_ff (by omega), kmu_ff (by omega)]
    funext j
    unfold kCr
    rw [if_neg (fun w => hi w.2), if_neg (fun w => hi w.2)]
  have c6 : kCc C k n x 6 (4 * k + n) 0 = x ∧ kCc C k n x 6 (4 * k + n) 1 = 4 * k + n - 1 ∧ kCc C k n x 6 (4 * k + n) 5 = 0 := by
    unfold kCc
    rw [kmu_ff (by decide), kmu_ff (by decide)]
    unfold kCr
    simp
  have c3 : ∀ i j, ¬ (i = k ∧ (j = 2 ∨ j = 3)) → kCc C k n x 3 i j = C 3 i j := by
    intro i j hne
    have e : kCr C (4 * k + n) x (4 * k + n - 1) 3 i j = C 3 i j := by
      unfold kCr
      rw [if_neg (fun w => absurd w.1 (by decide)), if_neg (fun w => by omega)]
    unfold kCc
    by_cases e1 : i = k
    · rw [kmu_j (by omega), kmu_j (by omega), e]
    · rw [kmu_i e1, kmu_i e1, e]
  have c32 : kCc C k n x 3 k 2 = 4 * k + n := by unfold kCc; rw [kmu_j (by decide), kmu_eq]
  have c33 : kCc C k n x 3 k 3 = n + 1 := by unfold kCc; rw [kmu_eq]
  generalize kCc C k n x = C1 at *
  have c10 := cf 10 (by decide) (by decide) (by decide) (by decide) (by decide)
  have c33' := cf 33 (by decide) (by decide) (by decide) (by decide) (by decide)
  have vv : ∀ f q, V f q → kVr V (4 * k + n) f q := fun f q z => Or.inl z
  have vn : ∀ f q, f ≠ 6 → f ≠ 20 → f ≠ 21 → f ≠ 22 → kVr V (4 * k + n) f q → V f q := by
    intro f q a b c' d' z
    rcases z with z | z
    · exact z
    · omega
  have x3 : ∀ i, C1 3 i 3 = Y 59 0 i ∨ ¬ (0 ≤ i ∧ i < X 9 0 7) := by
    intro i
    by_cases z : 0 ≤ i ∧ i < X 9 0 7
    · left
      rw [o1]
      by_cases e : i = k
      · rw [e, if_pos rfl, c33]
      · rw [if_neg e, c3 i 3 (by omega)]
        exact (K3 i z.1 z.2).2.2.2.2.2
    · exact Or.inr z
  refine ⟨⟨fun i z => i0 i (vn _ _ (by decide) (by decide) (by decide) (by decide) z), fun i z => i32 i (vn _ _ (by decide) (by decide) (by decide) (by decide) z), fun i z => i10 i (vn _ _ (by decide) (by decide) (by decide) (by decide) z), fun i z => ?_, fun i z => ?_, fun i z => ?_, fun f i hf z => ?_, fun f i hf z => ?_, fun i z => ?_, fun i z => ?_⟩, ⟨?_, ?_, fun k' b0 b1 => ?_, fun k' q b0 b1 q0 q1 => ?_, fun k' q p b0 b1 q0 q1 r0 r1 => ?_, fun q b0 b1 => ?_, fun a b0 b1 => ?_⟩, ?_, ?_, ?_, fun m b0 b1 => ?_⟩
  · rw [c10]; exact i3 i (vn _ _ (by decide) (by decide) (by decide) (by decide) z)
  · rw [c10]; exact i4 i (vn _ _ (by decide) (by decide) (by decide) (by decide) z)
  · rw [c10]; exact i8 i (vn _ _ (by decide) (by decide) (by decide) (by decide) z)
  · exact vv _ _ (i23 f i hf (vn _ _ (by omega) (by omega) (by omega) (by omega) z))
  · rcases z with z | z
    · exact vv _ _ (i20 f i hf z)
    · exact Or.inr ⟨by omega, z.2⟩
  · rw [c10]
    rcases z with z | z
    · rcases i6 i z with ⟨k', q, b0, b1, b2, b3, b4⟩ | w
      · left
        refine ⟨k', q, b0, b1, b2, ?_, b4⟩
        by_cases e : k' = k
        · rw [e, c33]
          have := (K3 k k0 k1).2.2.2.2.2
          rw [e] at b3
          omega
        · rw [c3 k' 3 (by omega)]; exact b3
      · exact Or.inr w
    · left
      exact ⟨k, n, k0, by omega, by omega, by rw [c33]; omega, z.2⟩
  · rw [c10]; exact i33 i (vn _ _ (by decide) (by decide) (by decide) (by decide) z)
  · obtain ⟨l1, l2, l3, l4, l5, l6⟩ := K1
    refine ⟨by rw [c10]; exact l1, by rw [c10]; exact l2, by rw [c10]; exact l3, by rw [c10]; exact l4, fun w => ?_, fun j a b => ?_⟩
    · rw [c10] at w ⊢; exact vv _ _ (l5 w)
    · rw [c10] at a b ⊢; rw [c33']; exact l6 j a b
  · rw [c10, y9]; exact K2
  · rw [y9] at b1
    obtain ⟨z1, z2, z3, z4, z5, z6⟩ := K3 k' b0 b1
    rw [c10, c33', o4 58 (by decide) (by decide) (by decide), o1, c3 k' 0 (by omega), c3 k' 1 (by omega)]
    refine ⟨vv _ _ z1, z2, z3, z4, ?_, ?_⟩
    · by_cases e : k' = k
      · rw [e, c32, if_pos rfl]; omega
      · rw [c3 k' 2 (by omega), if_neg e]; exact z5
    · by_cases e : k' = k
      · rw [e, c33, if_pos rfl]
      · rw [c3 k' 3 (by omega), if_neg e]; exact z6
  · rw [y9] at b1
    rw [o1] at q1
    rw [o2, o3]
    have B59 := rw.a59 (j := k') b0 (by omega)
    by_cases e : 4 * k' + q = 4 * k + n
    · have ek : k' = k := by
        by_cases w : k' = k
        · exact w
        · rw [if_neg w] at q1; omega
      have eq : q = n := by omega
      rw [if_pos e, if_pos e, e, c6.1, c6.2.1, c6.2.2]
      exact ⟨⟨Or.inr ⟨by omega, rfl⟩, Or.inr ⟨by omega, rfl⟩, Or.inr ⟨by omega, rfl⟩, Or.inr ⟨by omega, rfl⟩⟩, rfl, by rw [if_neg (by omega)], rfl⟩
    · rw [if_neg e, if_neg e, cr 6 _ (by omega) e]
      have q1' : q < X 59 0 k' := by
        by_cases w : k' = k
        · rw [if_pos w] at q1; rw [w, hn]; rw [w] at e; omega
        · rw [if_neg w] at q1; exact q1
      obtain ⟨⟨z1, z2, z3, z4⟩, z5, z6, z7⟩ := K4 k' q b0 b1 q0 q1'
      exact ⟨⟨vv _ _ z1, vv _ _ z2, vv _ _ z3, vv _ _ z4⟩, z5, z6, z7⟩
  · rw [y9] at b1
    rw [o1] at q1
    rw [o3] at r1
    by_cases e : 4 * k' + q = 4 * k + n
    · rw [if_pos e] at r1; omega
    · rw [if_neg e] at r1
      have q1' : q < X 59 0 k' := by
        by_cases w : k' = k
        · rw [if_pos w] at q1; rw [w, hn]; rw [w] at e; omega
        · rw [if_neg w] at q1; exact q1
      rw [cr 20 _ (by omega) e, cr 21 _ (by omega) e, cr 22 _ (by omega) e, o4 62 (by decide) (by decide) (by decide), o4 63 (by decide) (by decide) (by decide), o4 64 (by decide) (by decide) (by decide)]
      exact K5 k' q p b0 b1 q0 q1' r0 r1
  · rw [cf 32 (by decide) (by decide) (by decide) (by decide) (by decide), o4 56 (by decide) (by decide) (by decide)]
    exact K6 q b0 b1
  · rw [cf 25 (by decide) (by decide) (by decide) (by decide) (by decide)]
    obtain ⟨z1, z2, z3⟩ := K7 a b0 b1
    exact ⟨z1, z2, fun h h0 h1 => by rw [lead a h b0 b1]; exact z3 h h0 h1⟩
  · exact kRF_fr F (fun f q hf z => vv _ _ z) (fun q hq z => vv _ _ z) (fun f hf => cf f (by omega) (by omega) (by omega) (by omega) (by omega)) (fun f q hf hq => cr f q hf (by omega)) (fun q hq => by rw [c10]) (fun q hq => by rw [c33']) (by rw [y9]) (by rw [y9]) (fun f hf => o4 f (by omega) (by omega) (by omega)) (fun m _ _ => by rw [o4 58 (by decide) (by decide) (by decide)])
  · obtain ⟨b1, b2, b3, b4⟩ := B
    unfold kBk
    rw [y9, o4 56 (by decide) (by decide) (by decide), o4 58 (by decide) (by decide) (by decide)]
    refine ⟨b1, b2, b3, fun k' c0 c1 => ?_⟩
    rw [o1]
    by_cases e : k' = k
    · rw [if_pos e]; omega
    · rw [if_neg e]; exact b4 k' c0 c1
  · unfold kCp3
    rw [c10, cf 0 (by decide) (by decide) (by decide) (by decide) (by decide)]
    exact ⟨p0, p1, p2, p3⟩
  · rw [y9] at b1
    rw [y9, o4 66 (by decide) (by decide) (by decide)]
    exact M m b0 b1
/-- addRecipe -/
theorem c81 (hA : kJ A V) (v : kLV V) (rw : kRW V X) (I : kBI V C X) {k n x : Int} (hd : 2 ≤ d) (hc : 4 ≤ c) (hl : 21 ≤ l) (k0 : 0 ≤ k) (k1 : k < X 9 0 7) (hn : X 59 0 k = n) (h4 : n < 4)
    (H : ∀ J' A', kJ A' (kVr V (4 * k + n)) → kExt V (kVr V (4 * k + n)) A A' → Q (.inl none) (kHp J' A' (kVr V (4 * k + n)) (kCc C k n x) R, c - 4, l - 21)) :
    ka_W (kp E) (d, (81, 0, [some (.ref (A 3 k)), some (iv x)], []), (kHp J A V C R, c, l)) Q := by
  have B7 := rw.i7
  obtain ⟨⟨i0, i32, i10, i3, i4, i8, i23, i20, i6, i33⟩, ⟨K1, K2, K3, K4, K5, K6, K7⟩, F, B, ⟨p0, p1, p2, p3⟩, M⟩ := I
  have hr := B.2.2.2 k k0 k1
  obtain ⟨x1, x2, x3, x4, x5, x6⟩ := K3 k k0 k1
  obtain ⟨F1, F2, F3, F4, F5, F6, F7, F8⟩ := F
  have B15 := rw.i15
  have h6 : ¬ V 6 (4 * k + n) := fun z => by
    rcases i6 _ z with ⟨k', q, b0, b1, b2, b3, b4⟩ | z
    · have h7 := (K3 k' b0 (by omega)).2.2.2.2.2
      have h8 := rw.a59 (j := k') b0 (by omega)
      have : k' = k := by omega
      rw [this] at h7
      rw [this] at b3 b4
      omega
    · omega
  have h20 : ¬ V 20 (4 * k + n) := fun z => h6 (i20 20 _ (by omega) z)
  have h21 : ¬ V 21 (4 * k + n) := fun z => h6 (i20 21 _ (by omega) z)
  have h22 : ¬ V 22 (4 * k + n) := fun z => h6 (i20 22 _ (by omega) z)
  have hp6 : knp V C R 6 (4 * k + n) := by
    refine knp_6 (fun i z w => ?_) (fun i z w => ?_) (fun i z w => ?_) (fun i z w => ?_)
    · rw [i0 i z] at w
      rcases p3 with y | y <;> omega
    · have hi := i3 i z
      have h7 := K3 i hi.1 (by omega)
      have h8 := rw.a59 (j := i) hi.1 (by omega)
      have h9 := B.2.2.2 i hi.1 (by omega)
      have : i = k := by omega
      rw [this] at h7 w
      omega
    · rcases i6 i z with ⟨k', q, b0, b1, b2, b3, rfl⟩ | z
      · have hq := (K3 k' b0 (by omega)).2.2.2.2.2
        have h8 := rw.a59 (j := k') b0 (by omega)
        have h9 := (K4 k' q b0 (by omega) b2 (by omega)).2.2.1
        rw [w] at h9
        split at h9
        · omega
        · have : k' = k := by omega
          rw [this] at hq b3 h9
          omega
      · have := (F5 (i - 100) (by omega) (by omega)).2.2.2.2.2.2.2.2.2.2.2.2.2
        have e : 100 + (i - 100) = i := by omega
        rw [e, w] at this
        omega
    · have := i4 i z
      omega
  have g2 : C 3 k 2 = 4 * k + n - 1 := by rw [x5, hn]
  have g2' : 0 ≤ C 3 k 2 := by omega
  simp (disch := first | assumption | (unfold kR; decide) | exact klc_R | (unfold kR; omega) | omega | (unfold kL; omega) | exact kcat_null | exact kcat_ref _ | exact kcat_iv _) only [r81_0, true_and, and_true, kk1_i, kk1_r, kk1_n, kk1_0, kcat_iv, kcat_ref, kcat_null, kisR_ref, kisR_null, ksz_nil, ksz_iv, ksz_ref, ksz_null, ksz_lv, kfit_int, kfit_long, kfit_obj, kfit_objN, kfit_arr, kfit_arrN, knarI, knarZ0, knarZ1, kret_v, kret_n, kret_x, Nat.reduceAdd, Nat.reduceLeDiff, reduceCtorEq, Int.reduceLE, Int.reduceLT, Int.reduceEq, ite_true, ite_false, true_or, or_true, false_implies, true_implies, not_true_eq_false, not_false_eq_true, and_self, eq_self, klc_lt, klc_ge, klc_le, klc_gt, klc_eq, kmu_eq, kmu_f, kmu_i, kmu_j]
  rw [r81_1]
  refine ⟨by omega, by omega, fun a ha0 => ?_⟩
  have ha := koff_of hA ha0
  have ta : ktg (kHp (ka_up J a (6, [iv 0, .null, .null, .null, .null, iv 0])) A V C R) a 6 := by rw [ktg_off ha, ktg_up]; trivial
  simp (disch := first | assumption | (unfold kR; decide) | exact klc_R | (unfold kR; omega) | omega | (unfold kL; omega) | exact kcat_null | exact kcat_ref _ | exact kcat_iv _) only [r81_4, r81_5, r81_6, r81_7, r81_10, ho_3_2 hA, hg_3_2 hA, hgn_3_2 hA, ht_6 hA, true_and, and_true, kk1_i, kk1_r, kk1_n, kk1_0, kcat_iv, kcat_ref, kcat_null, kisR_ref, kisR_null, ksz_nil, ksz_iv, ksz_ref, ksz_null, ksz_lv, kfit_int, kfit_long, kfit_obj, kfit_objN, kfit_arr, kfit_arrN, knarI, knarZ0, knarZ1, kret_v, kret_n, kret_x, Nat.reduceAdd, Nat.reduceLeDiff, reduceCtorEq, Int.reduceLE, Int.reduceLT, Int.reduceEq, ite_true, ite_false, true_or, or_true, false_implies, true_implies, not_true_eq_false, not_false_eq_true, and_self, eq_self, klc_lt, klc_ge, klc_le, klc_gt, klc_eq, kmu_eq, kmu_f, kmu_i, kmu_j, kHp_upo ha, ta, Nat.zero_le, show 1 ≤ d by omega]
  refine c100 hA (Or.inr ⟨_, rfl⟩) ha (by omega) (by omega) (by omega) (fun a1 a2 a3 oo1 oo2 oo3 m1 m2 n21 m3 n31 n32 j1 j2 j3 => ?_)
  obtain ⟨A1, y1, y2, y3, y4⟩ := krole_r (J := ka_up (ka_up (ka_up (ka_up J a (6, [iv x, .ref (A 6 (C 3 k 2)), .ref a1, .ref a2, .ref a3, iv 0])) a1 kz5) a2 kz5) a3 kz5) (C := C) (R := R) (i := 4 * k + n) (day := x) (e := 4 * k + n - 1) hA ha oo1 oo2 oo3 m1 m2 n21 m3 n31 n32 h6 h20 h21 h22 hp6 (by omega) (by
    rw [kup_atn (Ne.symm m3), kup_atn (Ne.symm m2), kup_atn (Ne.symm m1), kup_at, if_neg (by omega), g2]
    rfl) (by rw [kup_atn (Ne.symm n31), kup_atn (Ne.symm n21), kup_at]) (by rw [kup_atn (Ne.symm n32), kup_at]) (by rw [kup_at])
  rw [y4]
  generalize ka_up (ka_up (ka_up (ka_up J a (6, [iv x, .ref (A 6 (C 3 k 2)), .ref a1, .ref a2, .ref a3, iv 0])) a1 kz5) a2 kz5) a3 kz5 = J1
  have ex : kExt V (kVr V (4 * k + n)) A A1 := fun f q hf hv => ⟨Or.inl hv, y3 f q (fun w => by
    rcases w with ⟨w | w | w | w, rfl⟩
    · rw [w] at hv; exact h6 hv
    · rw [w] at hv; exact h20 hv
    · rw [w] at hv; exact h21 hv
    · rw [w] at hv; exact h22 hv)⟩
  have eA : A 3 k = A1 3 k := (ex 3 k (by decide) x1).2.symm
  have v3 : kVr V (4 * k + n) 3 k := Or.inl x1
  have := H J1 A1 y1 ex
  have e33 : kCr C (4 * k + n) x (4 * k + n - 1) 3 k 3 = n := by
    unfold kCr
    rw [if_neg (fun w => absurd w.1 (by decide)), if_neg (fun w => by omega), x6, hn]
  have i0' : 0 ≤ 4 * k + n := by omega
  rw [eA, ← y2]
  simp (disch := first | assumption | (unfold kR; decide) | exact klc_R | (unfold kR; omega) | omega | (unfold kL; omega) | exact kcat_null | exact kcat_ref _ | exact kcat_iv _) only [r81_13, r81_16, r81_17, r81_18, r81_21, r81_22, r81_23, r81_26, ho_3_2 y1 v3, hp_3_2 y1 v3, ho_3_3 y1 v3, hg_3_3 y1 v3, hp_3_3 y1 v3, true_and, and_true, kk1_i, kk1_r, kk1_n, kk1_0, kcat_iv, kcat_ref, kcat_null, kisR_ref, kisR_null, ksz_nil, ksz_iv, ksz_ref, ksz_null, ksz_lv, kfit_int, kfit_long, kfit_obj, kfit_objN, kfit_arr, kfit_arrN, knarI, knarZ0, knarZ1, kret_v, kret_n, kret_x, Nat.reduceAdd, Nat.reduceLeDiff, reduceCtorEq, Int.reduceLE, Int.reduceLT, Int.reduceEq, ite_true, ite_false, true_or, or_true, false_implies, true_implies, not_true_eq_false, not_false_eq_true, and_self, eq_self, klc_lt, klc_ge, klc_le, klc_gt, klc_eq, kmu_eq, kmu_f, kmu_i, kmu_j, e33]
  unfold kCc at this
  have ec : c - 1 - 1 - 1 - 1 = c - 4 := by omega
  have el : l - 6 - 5 - 5 - 5 = l - 21 := by omega
  rw [ec, el]
  exact this
end
