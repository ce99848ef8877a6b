/-! The reference: signs and numbers of a text. -/
section
variable {M : ka_M} {f : Nat} {i j x y : Int}
theorem kmu_mu : kmu (kmu M f i j x) f i j y = kmu M f i j y := by
  funext f' i' j'
  unfold kmu
  split <;> rfl
theorem kmu_self : kmu M f i j (M f i j) = M := by
  funext f' i' j'
  unfold kmu
  split
  · rename_i h
    obtain ⟨rfl, rfl, rfl⟩ := h
    rfl
  · rfl
end
def f142 (R : ka_M) : Int := if R 9 0 39 < R 9 0 3 then R 52 0 (R 9 0 39) else -1
def f144 (R : ka_M) (x : Int) : ka_M × Int := if f142 R = x then (kmu R 9 0 39 (R 9 0 39 + 1), 1) else (kmu R 9 0 40 (R 9 0 39), 0)
def kdg (R : ka_M) (a : Int) : Prop := a < R 9 0 3 ∧ 48 ≤ R 52 0 a ∧ R 52 0 a ≤ 57
/-- digits from place a on, the number begun at place b -/
noncomputable def kscan (R : ka_M) (b : Int) : Nat → Int → Int → Int × Int
  | 0, a, w => (a, w)
  | n + 1, a, w => @ite (Int × Int) (kdg R a ∧ ¬ (b < a ∧ R 52 0 b = 48)) (Classical.propDecidable _) (kscan R b n (a + 1) (if 1000 < w then w else 10 * w + R 52 0 a - 48)) (a, w)
noncomputable def f145 (R : ka_M) (lo hi : Int) : ka_M × Int :=
  let b := R 9 0 39
  let z := kscan R b (R 9 0 3 - b).toNat b 0
  let R1 := kmu (kmu R 9 0 42 b) 9 0 39 z.1
  if z.1 = b then (kmu R1 9 0 40 b, 0) else if lo ≤ z.2 ∧ z.2 ≤ hi then (kmu R1 9 0 41 z.2, 1) else (kmu (kmu R1 9 0 41 z.2) 9 0 40 b, 0)
theorem kscan_pos {R : ka_M} {b a w : Int} {n : Nat} (h : kdg R a ∧ ¬ (b < a ∧ R 52 0 b = 48)) : kscan R b (n + 1) a w = kscan R b n (a + 1) (if 1000 < w then w else 10 * w + R 52 0 a - 48) := if_pos h
theorem kscan_neg {R : ka_M} {b a w : Int} {n : Nat} (h : ¬ (kdg R a ∧ ¬ (b < a ∧ R 52 0 b = 48))) : kscan R b (n + 1) a w = (a, w) := if_neg h
theorem kscan_b {R : ka_M} {b : Int} : ∀ (n : Nat) (a w : Int), a ≤ R 9 0 3 → 0 ≤ w → w ≤ 20000 → a ≤ (kscan R b n a w).1 ∧ (kscan R b n a w).1 ≤ R 9 0 3 ∧ 0 ≤ (kscan R b n a w).2 ∧ (kscan R b n a w).2 ≤ 20000
  | 0, a, w, h, h0, h1 => ⟨Int.le_refl _, h, h0, h1⟩
  | n + 1, a, w, h, h0, h1 => by
    by_cases z : kdg R a ∧ ¬ (b < a ∧ R 52 0 b = 48)
    · rw [kscan_pos z]
      obtain ⟨⟨z1, z2, z3⟩, -⟩ := z
      have := kscan_b (R := R) (b := b) n (a + 1) (if 1000 < w then w else 10 * w + R 52 0 a - 48) (by omega) (by split <;> omega) (by split <;> omega)
      omega
    · rw [kscan_neg z]
      exact ⟨Int.le_refl _, h, h0, h1⟩
section
variable {E : Nat × Nat} {d c l : Nat} {s : ka_S} {Q : ka_Q} {J : ka_H} {A : ka_A} {V : ka_V} {C R : ka_M}
theorem j142 (hA : kJ A V) (v : kLV V) (r : kRW V R) : ka_W (kp E) (d, (142, 0, [some (.ref (A 9 0))], []), (kHp J A V C R, c, l)) Q ↔ Q (.inl (some (iv (f142 R)))) (kHp J A V C R, c, l) := by
  have B := r.i39
  have B2 := r.i3
  by_cases h : R 9 0 39 < R 9 0 3
  · simp (disch := first | assumption | (unfold kR; decide) | exact klc_R | (unfold kR; omega) | omega | (unfold kL; omega) | exact kcat_null | exact kcat_ref _ | exact kcat_iv _) only [r142_0, r142_1, r142_4, r142_5, r142_8, r142_11, r142_12, r142_15, r142_16, r142_19, r142_20, r142_23, r142_24, ho_9_39 hA v.l9, hg_9_39 hA v.l9, ho_9_3 hA v.l9, hg_9_3 hA v.l9, ho_9_2 hA v.l9, hg_9_2 hA v.l9, hoa_52 hA v.l52, hga_52 hA v.l52, true_and, and_true, kk1_i, kk1_r, kk1_n, kk1_0, kcat_iv, kcat_ref, kcat_null, kisR_ref, kisR_null, ksz_nil, ksz_iv, ksz_ref, ksz_null, ksz_lv, kfit_int, kfit_long, kfit_obj, kfit_objN, kfit_arr, kfit_arrN, knarI, knarZ0, knarZ1, kret_v, kret_n, kret_x, Nat.reduceAdd, Nat.reduceLeDiff, reduceCtorEq, Int.reduceLE, Int.reduceLT, Int.reduceEq, ite_true, ite_false, true_or, or_true, false_implies, true_implies, not_true_eq_false, not_false_eq_true, and_self, eq_self, klc_lt, klc_ge, klc_le, klc_gt, klc_eq, kmu_eq, kmu_f, kmu_i, kmu_j, show ¬ R 9 0 3 ≤ R 9 0 39 by omega, f142, h, if_true]
  · simp (disch := first | assumption | (unfold kR; decide) | exact klc_R | (unfold kR; omega) | omega | (unfold kL; omega) | exact kcat_null | exact kcat_ref _ | exact kcat_iv _) only [r142_0, r142_1, r142_4, r142_5, r142_8, r142_11, r142_12, r142_15, r142_16, r142_19, r142_20, r142_23, r142_24, ho_9_39 hA v.l9, hg_9_39 hA v.l9, ho_9_3 hA v.l9, hg_9_3 hA v.l9, ho_9_2 hA v.l9, hg_9_2 hA v.l9, hoa_52 hA v.l52, hga_52 hA v.l52, true_and, and_true, kk1_i, kk1_r, kk1_n, kk1_0, kcat_iv, kcat_ref, kcat_null, kisR_ref, kisR_null, ksz_nil, ksz_iv, ksz_ref, ksz_null, ksz_lv, kfit_int, kfit_long, kfit_obj, kfit_objN, kfit_arr, kfit_arrN, knarI, knarZ0, knarZ1, kret_v, kret_n, kret_x, Nat.reduceAdd, Nat.reduceLeDiff, reduceCtorEq, Int.reduceLE, Int.reduceLT, Int.reduceEq, ite_true, ite_false, true_or, or_true, false_implies, true_implies, not_true_eq_false, not_false_eq_true, and_self, eq_self, klc_lt, klc_ge, klc_le, klc_gt, klc_eq, kmu_eq, kmu_f, kmu_i, kmu_j, show R 9 0 3 ≤ R 9 0 39 by omega, f142, h, if_false]
theorem f142_b (r : kRW V R) : -1 ≤ f142 R ∧ f142 R ≤ 126 := by
  have B := r.i39
  have B2 := r.i3
  unfold f142
  split
  · have := r.a52 (j := R 9 0 39) (by omega) (by omega)
    omega
  · omega
theorem j143 (hA : kJ A V) (v : kLV V) {x : Int} : ka_W (kp E) (d, (143, 0, [some (.ref (A 9 0)), some (iv x)], []), (kHp J A V C R, c, l)) Q ↔ Q (.inl (some (iv 0))) (kHp J A V C (kmu R 9 0 40 x), c, l) := by
  simp (disch := first | assumption | (unfold kR; decide) | exact klc_R | (unfold kR; omega) | omega | (unfold kL; omega) | exact kcat_null | exact kcat_ref _ | exact kcat_iv _) only [r143_0, r143_1, r143_2, r143_5, r143_6, ho_9_40 hA v.l9, hp_9_40 hA v.l9, true_and, and_true, kk1_i, kk1_r, kk1_n, kk1_0, kcat_iv, kcat_ref, kcat_null, kisR_ref, kisR_null, ksz_nil, ksz_iv, ksz_ref, ksz_null, ksz_lv, kfit_int, kfit_long, kfit_obj, kfit_objN, kfit_arr, kfit_arrN, knarI, knarZ0, knarZ1, kret_v, kret_n, kret_x, Nat.reduceAdd, Nat.reduceLeDiff, reduceCtorEq, Int.reduceLE, Int.reduceLT, Int.reduceEq, ite_true, ite_false, true_or, or_true, false_implies, true_implies, not_true_eq_false, not_false_eq_true, and_self, eq_self, klc_lt, klc_ge, klc_le, klc_gt, klc_eq, kmu_eq, kmu_f, kmu_i, kmu_j]
theorem j144 (hA : kJ A V) (v : kLV V) (r : kRW V R) {x : Int} (hd : 1 ≤ d) (x0 : 0 ≤ x) (x1 : x ≤ 1000) : ka_W (kp E) (d, (144, 0, [some (.ref (A 9 0)), some (iv x)], []), (kHp J A V C R, c, l)) Q ↔ Q (.inl (some (iv (f144 R x).2))) (kHp J A V C (f144 R x).1, c, l) := by
  have B := r.i39
  have B3 := f142_b r
  by_cases h : f142 R = x
  · simp (disch := first | assumption | (unfold kR; decide) | exact klc_R | (unfold kR; omega) | omega | (unfold kL; omega) | exact kcat_null | exact kcat_ref _ | exact kcat_iv _) only [r144_0, r144_1, r144_4, r144_5, r144_8, r144_9, r144_10, r144_13, r144_16, r144_17, r144_18, r144_19, r144_22, r144_23, r144_24, r144_27, r144_28, ht_9 hA v.l9, ho_9_39 hA v.l9, hg_9_39 hA v.l9, hp_9_39 hA v.l9, true_and, and_true, kk1_i, kk1_r, kk1_n, kk1_0, kcat_iv, kcat_ref, kcat_null, kisR_ref, kisR_null, ksz_nil, ksz_iv, ksz_ref, ksz_null, ksz_lv, kfit_int, kfit_long, kfit_obj, kfit_objN, kfit_arr, kfit_arrN, knarI, knarZ0, knarZ1, kret_v, kret_n, kret_x, Nat.reduceAdd, Nat.reduceLeDiff, reduceCtorEq, Int.reduceLE, Int.reduceLT, Int.reduceEq, ite_true, ite_false, true_or, or_true, false_implies, true_implies, not_true_eq_false, not_false_eq_true, and_self, eq_self, klc_lt, klc_ge, klc_le, klc_gt, klc_eq, kmu_eq, kmu_f, kmu_i, kmu_j, j142 hA v r, hd, Nat.zero_le, h, f144, if_true]
  · simp (disch := first | assumption | (unfold kR; decide) | exact klc_R | (unfold kR; omega) | omega | (unfold kL; omega) | exact kcat_null | exact kcat_ref _ | exact kcat_iv _) only [r144_0, r144_1, r144_4, r144_5, r144_8, r144_9, r144_10, r144_13, r144_16, r144_17, r144_18, r144_19, r144_22, r144_23, r144_24, r144_27, r144_28, ht_9 hA v.l9, ho_9_39 hA v.l9, hg_9_39 hA v.l9, hp_9_39 hA v.l9, true_and, and_true, kk1_i, kk1_r, kk1_n, kk1_0, kcat_iv, kcat_ref, kcat_null, kisR_ref, kisR_null, ksz_nil, ksz_iv, ksz_ref, ksz_null, ksz_lv, kfit_int, kfit_long, kfit_obj, kfit_objN, kfit_arr, kfit_arrN, knarI, knarZ0, knarZ1, kret_v, kret_n, kret_x, Nat.reduceAdd, Nat.reduceLeDiff, reduceCtorEq, Int.reduceLE, Int.reduceLT, Int.reduceEq, ite_true, ite_false, true_or, or_true, false_implies, true_implies, not_true_eq_false, not_false_eq_true, and_self, eq_self, klc_lt, klc_ge, klc_le, klc_gt, klc_eq, kmu_eq, kmu_f, kmu_i, kmu_j, j142 hA v r, j143 hA v, hd, Nat.zero_le, h, f144, if_false]
theorem f144_lt {x : Int} (x0 : 0 ≤ x) (h : f142 R = x) : R 9 0 39 < R 9 0 3 := by
  unfold f142 at h
  split at h
  · assumption
  · omega
theorem f144_rw (r : kRW V R) {x : Int} (x0 : 0 ≤ x) : kRW V (f144 R x).1 := by
  have B := r.i39
  have B2 := r.i3
  unfold f144
  split
  · rename_i h
    have := f144_lt x0 h
    exact r.pi39 (by omega) (by omega)
  · exact r.pi40 B.1 B.2
theorem f145_rw (r : kRW V R) {lo hi : Int} (ha : R 9 0 39 ≤ R 9 0 3) : kRW V (f145 R lo hi).1 := by
  have B := r.i39
  have B2 := r.i3
  have z := kscan_b (R := R) (b := R 9 0 39) (R 9 0 3 - R 9 0 39).toNat (R 9 0 39) 0 ha (by omega) (by omega)
  have r1 := (r.pi42 B.1 B.2).pi39 (x := (kscan R (R 9 0 39) (R 9 0 3 - R 9 0 39).toNat (R 9 0 39) 0).1) (by omega) (by omega)
  unfold f145
  dsimp only
  split
  · exact r1.pi40 B.1 B.2
  · split
    · exact r1.pi41 z.2.2.1 z.2.2.2
    · exact (r1.pi41 z.2.2.1 z.2.2.2).pi40 B.1 B.2
theorem j145_l (hA : kJ A V) (v : kLV V) (r : kRW V R) {lo hi b : Int} (hd : 1 ≤ d) (b0 : 0 ≤ b) (b1 : b ≤ 1000) (T : Prop) :
    ∀ (n : Nat) (a w : Int), b ≤ a → a + n = R 9 0 3 → 0 ≤ w → w ≤ 20000 →
    (ka_W (kp E) (d, (145, 89, [some (.ref (A 9 0)), some (iv lo), some (iv hi), some (iv (kscan R b n a w).2)], []), (kHp J A V C (kmu (kmu R 9 0 42 b) 9 0 39 (kscan R b n a w).1), c, l)) Q ↔ T) →
    (ka_W (kp E) (d, (145, 10, [some (.ref (A 9 0)), some (iv lo), some (iv hi), some (iv w)], []), (kHp J A V C (kmu (kmu R 9 0 42 b) 9 0 39 a), c, l)) Q ↔ T)
  | n, a, w, ha, hn, w0, w1, H => by
    have B2 := r.i3
    have r1 : kRW V (kmu (kmu R 9 0 42 b) 9 0 39 a) := (r.pi42 (x := b) (by omega) (by omega)).pi39 (x := a) (by omega) (by omega)
    have B3 := f142_b r1
    have e142 : f142 (kmu (kmu R 9 0 42 b) 9 0 39 a) = if a < R 9 0 3 then R 52 0 a else -1 := by
      unfold f142
      rw [kmu_eq, kmu_j (by decide), kmu_j (by decide), kmu_f (by decide), kmu_f (by decide)]
    have hdig : (48 ≤ f142 (kmu (kmu R 9 0 42 b) 9 0 39 a) ∧ f142 (kmu (kmu R 9 0 42 b) 9 0 39 a) ≤ 57) ↔ kdg R a := by
      rw [e142]
      unfold kdg
      split
      · rename_i e; simp [e]
      · rename_i e; simp [e]
    by_cases z : kdg R a ∧ ¬ (b < a ∧ R 52 0 b = 48)
    · obtain ⟨⟨z1, z2, z3⟩, z4⟩ := z
      cases n with
      | zero => omega
      | succ n =>
        have z : kdg R a ∧ ¬ (b < a ∧ R 52 0 b = 48) := ⟨⟨z1, z2, z3⟩, z4⟩
        rw [kscan_pos z] at H
        have ih := j145_l hA v r hd b0 b1 T n (a + 1) (if 1000 < w then w else 10 * w + R 52 0 a - 48) (by omega) (by omega) (by split <;> omega) (by split <;> omega) H
        have e : f142 (kmu (kmu R 9 0 42 b) 9 0 39 a) = R 52 0 a := by rw [e142, if_pos z1]
        have B52 := r.a52 (j := b) (by omega) (by omega)
        rw [← ih, r145_10]
        by_cases g1 : 1000 < w
        · rw [if_pos g1]
          by_cases g2 : a ≤ b
          · simp (disch := first | assumption | (unfold kR; decide) | exact klc_R | (unfold kR; omega) | omega | (unfold kL; omega) | exact kcat_null | exact kcat_ref _ | exact kcat_iv _) only [r145_11, r145_14, r145_16, r145_18, r145_21, r145_24, r145_25, r145_28, r145_29, r145_32, r145_35, r145_36, r145_39, r145_40, r145_43, r145_44, r145_46, r145_49, r145_52, r145_53, r145_56, r145_59, r145_60, r145_63, r145_65, r145_66, r145_67, r145_68, r145_71, r145_72, r145_74, r145_75, r145_76, r145_77, r145_78, r145_81, r145_82, r145_83, r145_86, ht_9 hA v.l9, ho_9_39 hA v.l9, hg_9_39 hA v.l9, ho_9_42 hA v.l9, hg_9_42 hA v.l9, ho_9_2 hA v.l9, hg_9_2 hA v.l9, hoa_52 hA v.l52, hga_52 hA v.l52, hp_9_39 hA v.l9, true_and, and_true, kk1_i, kk1_r, kk1_n, kk1_0, kcat_iv, kcat_ref, kcat_null, kisR_ref, kisR_null, ksz_nil, ksz_iv, ksz_ref, ksz_null, ksz_lv, kfit_int, kfit_long, kfit_obj, kfit_objN, kfit_arr, kfit_arrN, knarI, knarZ0, knarZ1, kret_v, kret_n, kret_x, Nat.reduceAdd, Nat.reduceLeDiff, reduceCtorEq, Int.reduceLE, Int.reduceLT, Int.reduceEq, ite_true, ite_false, true_or, or_true, false_implies, true_implies, not_true_eq_false, not_false_eq_true, and_self, eq_self, klc_lt, klc_ge, klc_le, klc_gt, klc_eq, kmu_eq, kmu_f, kmu_i, kmu_j, j142 hA v r1, k119, hdig.mpr z.1, hd, Nat.zero_le, if_true, g1, g2, show ¬ w ≤ 1000 by omega, show ¬ ((1:Int) = 0) by decide, kmu_mu]
          · have g3 : ¬ R 52 0 b = 48 := fun y => z4 ⟨by omega, y⟩
            simp (disch := first | assumption | (unfold kR; decide) | exact klc_R | (unfold kR; omega) | omega | (unfold kL; omega) | exact kcat_null | exact kcat_ref _ | exact kcat_iv _) only [r145_11, r145_14, r145_16, r145_18, r145_21, r145_24, r145_25, r145_28, r145_29, r145_32, r145_35, r145_36, r145_39, r145_40, r145_43, r145_44, r145_46, r145_49, r145_52, r145_53, r145_56, r145_59, r145_60, r145_63, r145_65, r145_66, r145_67, r145_68, r145_71, r145_72, r145_74, r145_75, r145_76, r145_77, r145_78, r145_81, r145_82, r145_83, r145_86, ht_9 hA v.l9, ho_9_39 hA v.l9, hg_9_39 hA v.l9, ho_9_42 hA v.l9, hg_9_42 hA v.l9, ho_9_2 hA v.l9, hg_9_2 hA v.l9, hoa_52 hA v.l52, hga_52 hA v.l52, hp_9_39 hA v.l9, true_and, and_true, kk1_i, kk1_r, kk1_n, kk1_0, kcat_iv, kcat_ref, kcat_null, kisR_ref, kisR_null, ksz_nil, ksz_iv, ksz_ref, ksz_null, ksz_lv, kfit_int, kfit_long, kfit_obj, kfit_objN, kfit_arr, kfit_arrN, knarI, knarZ0, knarZ1, kret_v, kret_n, kret_x, Nat.reduceAdd, Nat.reduceLeDiff, reduceCtorEq, Int.reduceLE, Int.reduceLT, Int.reduceEq, ite_true, ite_false, true_or, or_true, false_implies, true_implies, not_true_eq_false, not_false_eq_true, and_self, eq_self, klc_lt, klc_ge, klc_le, klc_gt, klc_eq, kmu_eq, kmu_f, kmu_i, kmu_j, j142 hA v r1, k119, hdig.mpr z.1, hd, Nat.zero_le, if_true, g1, g2, g3, show ¬ w ≤ 1000 by omega, show ¬ ((1:Int) = 0) by decide, kmu_mu]
        · rw [if_neg g1]
          by_cases g2 : a ≤ b
          · simp (disch := first | assumption | (unfold kR; decide) | exact klc_R | (unfold kR; omega) | omega | (unfold kL; omega) | exact kcat_null | exact kcat_ref _ | exact kcat_iv _) only [r145_11, r145_14, r145_16, r145_18, r145_21, r145_24, r145_25, r145_28, r145_29, r145_32, r145_35, r145_36, r145_39, r145_40, r145_43, r145_44, r145_46, r145_49, r145_52, r145_53, r145_56, r145_59, r145_60, r145_63, r145_65, r145_66, r145_67, r145_68, r145_71, r145_72, r145_74, r145_75, r145_76, r145_77, r145_78, r145_81, r145_82, r145_83, r145_86, ht_9 hA v.l9, ho_9_39 hA v.l9, hg_9_39 hA v.l9, ho_9_42 hA v.l9, hg_9_42 hA v.l9, ho_9_2 hA v.l9, hg_9_2 hA v.l9, hoa_52 hA v.l52, hga_52 hA v.l52, hp_9_39 hA v.l9, true_and, and_true, kk1_i, kk1_r, kk1_n, kk1_0, kcat_iv, kcat_ref, kcat_null, kisR_ref, kisR_null, ksz_nil, ksz_iv, ksz_ref, ksz_null, ksz_lv, kfit_int, kfit_long, kfit_obj, kfit_objN, kfit_arr, kfit_arrN, knarI, knarZ0, knarZ1, kret_v, kret_n, kret_x, Nat.reduceAdd, Nat.reduceLeDiff, reduceCtorEq, Int.reduceLE, Int.reduceLT, Int.reduceEq, ite_true, ite_false, true_or, or_true, false_implies, true_implies, not_true_eq_false, not_false_eq_true, and_self, eq_self, klc_lt, klc_ge, klc_le, klc_gt, klc_eq, kmu_eq, kmu_f, kmu_i, kmu_j, j142 hA v r1, k119, hdig.mpr z.1, hd, Nat.zero_le, if_true, g1, g2, show w ≤ 1000 by omega, show ¬ ((1:Int) = 0) by decide, kmu_mu, e, z2, z3]
          · have g3 : ¬ R 52 0 b = 48 := fun y => z4 ⟨by omega, y⟩
            simp (disch := first | assumption | (unfold kR; decide) | exact klc_R | (unfold kR; omega) | omega | (unfold kL; omega) | exact kcat_null | exact kcat_ref _ | exact kcat_iv _) only [r145_11, r145_14, r145_16, r145_18, r145_21, r145_24, r145_25, r145_28, r145_29, r145_32, r145_35, r145_36, r145_39, r145_40, r145_43, r145_44, r145_46, r145_49, r145_52, r145_53, r145_56, r145_59, r145_60, r145_63, r145_65, r145_66, r145_67, r145_68, r145_71, r145_72, r145_74, r145_75, r145_76, r145_77, r145_78, r145_81, r145_82, r145_83, r145_86, ht_9 hA v.l9, ho_9_39 hA v.l9, hg_9_39 hA v.l9, ho_9_42 hA v.l9, hg_9_42 hA v.l9, ho_9_2 hA v.l9, hg_9_2 hA v.l9, hoa_52 hA v.l52, hga_52 hA v.l52, hp_9_39 hA v.l9, true_and, and_true, kk1_i, kk1_r, kk1_n, kk1_0, kcat_iv, kcat_ref, kcat_null, kisR_ref, kisR_null, ksz_nil, ksz_iv, ksz_ref, ksz_null, ksz_lv, kfit_int, kfit_long, kfit_obj, kfit_objN, kfit_arr, kfit_arrN, knarI, knarZ0, knarZ1, kret_v, kret_n, kret_x, Nat.reduceAdd, Nat.reduceLeDiff, reduceCtorEq, Int.reduceLE, Int.reduceLT, Int.reduceEq, ite_true, ite_false, true_or, or_true, false_implies, true_implies, not_true_eq_false, not_false_eq_true, and_self, eq_self, klc_lt, klc_ge, klc_le, klc_gt, klc_eq, kmu_eq, kmu_f, kmu_i, kmu_j, j142 hA v r1, k119, hdig.mpr z.1, hd, Nat.zero_le, if_true, g1, g2, g3, show w ≤ 1000 by omega, show ¬ ((1:Int) = 0) by decide, kmu_mu, e, z2, z3]
    · have H' : (ka_W (kp E) (d, (145, 89, [some (.ref (A 9 0)), some (iv lo), some (iv hi), some (iv w)], []), (kHp J A V C (kmu (kmu R 9 0 42 b) 9 0 39 a), c, l)) Q ↔ T) := by
        cases n with
        | zero => exact H
        | succ n => rw [kscan_neg z] at H; exact H
      rw [← H']
      by_cases g1 : kdg R a
      · have g2 : b < a ∧ R 52 0 b = 48 := Classical.byContradiction (fun y => z ⟨g1, y⟩)
        have := g1.1
        simp (disch := first | assumption | (unfold kR; decide) | exact klc_R | (unfold kR; omega) | omega | (unfold kL; omega) | exact kcat_null | exact kcat_ref _ | exact kcat_iv _) only [r145_10, r145_11, r145_14, r145_16, r145_18, r145_21, r145_24, r145_25, r145_28, r145_29, r145_32, r145_35, r145_36, r145_39, r145_40, r145_43, r145_44, r145_46, r145_49, ht_9 hA v.l9, ho_9_39 hA v.l9, hg_9_39 hA v.l9, ho_9_42 hA v.l9, hg_9_42 hA v.l9, ho_9_2 hA v.l9, hg_9_2 hA v.l9, hoa_52 hA v.l52, hga_52 hA v.l52, true_and, and_true, kk1_i, kk1_r, kk1_n, kk1_0, kcat_iv, kcat_ref, kcat_null, kisR_ref, kisR_null, ksz_nil, ksz_iv, ksz_ref, ksz_null, ksz_lv, kfit_int, kfit_long, kfit_obj, kfit_objN, kfit_arr, kfit_arrN, knarI, knarZ0, knarZ1, kret_v, kret_n, kret_x, Nat.reduceAdd, Nat.reduceLeDiff, reduceCtorEq, Int.reduceLE, Int.reduceLT, Int.reduceEq, ite_true, ite_false, true_or, or_true, false_implies, true_implies, not_true_eq_false, not_false_eq_true, and_self, eq_self, klc_lt, klc_ge, klc_le, klc_gt, klc_eq, kmu_eq, kmu_f, kmu_i, kmu_j, j142 hA v r1, k119, hdig.mpr g1, hd, Nat.zero_le, if_true, show ¬ a ≤ b by omega, g2, show ¬ ((1:Int) = 0) by decide]
      · have g1' := mt hdig.mp g1
        simp (disch := first | assumption | (unfold kR; decide) | exact klc_R | (unfold kR; omega) | omega | (unfold kL; omega) | exact kcat_null | exact kcat_ref _ | exact kcat_iv _) only [r145_10, r145_11, r145_14, r145_16, r145_18, r145_21, ht_9 hA v.l9, true_and, and_true, kk1_i, kk1_r, kk1_n, kk1_0, kcat_iv, kcat_ref, kcat_null, kisR_ref, kisR_null, ksz_nil, ksz_iv, ksz_ref, ksz_null, ksz_lv, kfit_int, kfit_long, kfit_obj, kfit_objN, kfit_arr, kfit_arrN, knarI, knarZ0, knarZ1, kret_v, kret_n, kret_x, Nat.reduceAdd, Nat.reduceLeDiff, reduceCtorEq, Int.reduceLE, Int.reduceLT, Int.reduceEq, ite_true, ite_false, true_or, or_true, false_implies, true_implies, not_true_eq_false, not_false_eq_true, and_self, eq_self, klc_lt, klc_ge, klc_le, klc_gt, klc_eq, kmu_eq, kmu_f, kmu_i, kmu_j, j142 hA v r1, k119, g1', hd, Nat.zero_le, if_false]
theorem j145 (hA : kJ A V) (v : kLV V) (r : kRW V R) {lo hi : Int} (hd : 1 ≤ d) (ha : R 9 0 39 ≤ R 9 0 3) (l0 : kR lo) (l1 : kR hi) : ka_W (kp E) (d, (145, 0, [some (.ref (A 9 0)), some (iv lo), some (iv hi), none], []), (kHp J A V C R, c, l)) Q ↔ Q (.inl (some (iv (f145 R lo hi).2))) (kHp J A V C (f145 R lo hi).1, c, l) := by
  have B := r.i39
  have B2 := r.i3
  have z := kscan_b (R := R) (b := R 9 0 39) (R 9 0 3 - R 9 0 39).toNat (R 9 0 39) 0 ha (by omega) (by omega)
  have x := j145_l (E := E) (d := d) (c := c) (l := l) (Q := Q) (J := J) (C := C) hA v r (lo := lo) (hi := hi) (b := R 9 0 39) hd B.1 B.2 (Q (.inl (some (iv (f145 R lo hi).2))) (kHp J A V C (f145 R lo hi).1, c, l)) (R 9 0 3 - R 9 0 39).toNat (R 9 0 39) 0 (Int.le_refl _) (by omega) (by omega) (by omega)
  have e : kmu (kmu R 9 0 42 (R 9 0 39)) 9 0 39 (R 9 0 39) = kmu R 9 0 42 (R 9 0 39) := by
    have := kmu_self (M := kmu R 9 0 42 (R 9 0 39)) (f := 9) (i := 0) (j := 39)
    rwa [kmu_j (by decide)] at this
  rw [e] at x
  rw [← x]
  · simp (disch := first | assumption | (unfold kR; decide) | exact klc_R | (unfold kR; omega) | omega | (unfold kL; omega) | exact kcat_null | exact kcat_ref _ | exact kcat_iv _) only [r145_0, r145_1, r145_2, r145_5, r145_8, r145_9, ho_9_39 hA v.l9, hg_9_39 hA v.l9, ho_9_42 hA v.l9, hp_9_42 hA v.l9, true_and, and_true, kk1_i, kk1_r, kk1_n, kk1_0, kcat_iv, kcat_ref, kcat_null, kisR_ref, kisR_null, ksz_nil, ksz_iv, ksz_ref, ksz_null, ksz_lv, kfit_int, kfit_long, kfit_obj, kfit_objN, kfit_arr, kfit_arrN, knarI, knarZ0, knarZ1, kret_v, kret_n, kret_x, Nat.reduceAdd, Nat.reduceLeDiff, reduceCtorEq, Int.reduceLE, Int.reduceLT, Int.reduceEq, ite_true, ite_false, true_or, or_true, false_implies, true_implies, not_true_eq_false, not_false_eq_true, and_self, eq_self, klc_lt, klc_ge, klc_le, klc_gt, klc_eq, kmu_eq, kmu_f, kmu_i, kmu_j]
  · generalize hz : kscan R (R 9 0 39) (R 9 0 3 - R 9 0 39).toNat (R 9 0 39) 0 = zz at *
    by_cases h1 : zz.1 = R 9 0 39
    · simp only [f145, hz, h1, if_true]
      simp (disch := first | assumption | (unfold kR; decide) | exact klc_R | (unfold kR; omega) | omega | (unfold kL; omega) | exact kcat_null | exact kcat_ref _ | exact kcat_iv _) only [r145_89, r145_90, r145_93, r145_94, r145_97, r145_100, r145_101, r145_102, r145_105, r145_108, ho_9_39 hA v.l9, hg_9_39 hA v.l9, ho_9_42 hA v.l9, hg_9_42 hA v.l9, ht_9 hA v.l9, true_and, and_true, kk1_i, kk1_r, kk1_n, kk1_0, kcat_iv, kcat_ref, kcat_null, kisR_ref, kisR_null, ksz_nil, ksz_iv, ksz_ref, ksz_null, ksz_lv, kfit_int, kfit_long, kfit_obj, kfit_objN, kfit_arr, kfit_arrN, knarI, knarZ0, knarZ1, kret_v, kret_n, kret_x, Nat.reduceAdd, Nat.reduceLeDiff, reduceCtorEq, Int.reduceLE, Int.reduceLT, Int.reduceEq, ite_true, ite_false, true_or, or_true, false_implies, true_implies, not_true_eq_false, not_false_eq_true, and_self, eq_self, klc_lt, klc_ge, klc_le, klc_gt, klc_eq, kmu_eq, kmu_f, kmu_i, kmu_j, j143 hA v, hd, Nat.zero_le]
    · by_cases h2 : lo ≤ zz.2 ∧ zz.2 ≤ hi
      · simp only [f145, hz, h1, h2, if_true, if_false, and_self]
        simp (disch := first | assumption | (unfold kR; decide) | exact klc_R | (unfold kR; omega) | omega | (unfold kL; omega) | exact kcat_null | exact kcat_ref _ | exact kcat_iv _) only [r145_89, r145_90, r145_93, r145_94, r145_97, r145_100, r145_101, r145_102, r145_105, r145_108, r145_109, r145_110, r145_111, r145_114, r145_115, r145_116, r145_117, r145_120, r145_123, r145_124, r145_125, r145_128, r145_131, r145_134, r145_135, r145_138, r145_139, ho_9_39 hA v.l9, hg_9_39 hA v.l9, ho_9_42 hA v.l9, hg_9_42 hA v.l9, ht_9 hA v.l9, ho_9_41 hA v.l9, hp_9_41 hA v.l9, true_and, and_true, kk1_i, kk1_r, kk1_n, kk1_0, kcat_iv, kcat_ref, kcat_null, kisR_ref, kisR_null, ksz_nil, ksz_iv, ksz_ref, ksz_null, ksz_lv, kfit_int, kfit_long, kfit_obj, kfit_objN, kfit_arr, kfit_arrN, knarI, knarZ0, knarZ1, kret_v, kret_n, kret_x, Nat.reduceAdd, Nat.reduceLeDiff, reduceCtorEq, Int.reduceLE, Int.reduceLT, Int.reduceEq, ite_true, ite_false, true_or, or_true, false_implies, true_implies, not_true_eq_false, not_false_eq_true, and_self, eq_self, klc_lt, klc_ge, klc_le, klc_gt, klc_eq, kmu_eq, kmu_f, kmu_i, kmu_j, j143 hA v, hd, Nat.zero_le, h1, k119, h2, if_true, show ¬ ((1:Int) = 0) by decide]
      · simp only [f145, hz, h1, h2, if_true, if_false]
        simp (disch := first | assumption | (unfold kR; decide) | exact klc_R | (unfold kR; omega) | omega | (unfold kL; omega) | exact kcat_null | exact kcat_ref _ | exact kcat_iv _) only [r145_89, r145_90, r145_93, r145_94, r145_97, r145_100, r145_101, r145_102, r145_105, r145_108, r145_109, r145_110, r145_111, r145_114, r145_115, r145_116, r145_117, r145_120, r145_123, r145_124, r145_125, r145_128, r145_131, r145_134, r145_135, r145_138, r145_139, ho_9_39 hA v.l9, hg_9_39 hA v.l9, ho_9_42 hA v.l9, hg_9_42 hA v.l9, ht_9 hA v.l9, ho_9_41 hA v.l9, hp_9_41 hA v.l9, true_and, and_true, kk1_i, kk1_r, kk1_n, kk1_0, kcat_iv, kcat_ref, kcat_null, kisR_ref, kisR_null, ksz_nil, ksz_iv, ksz_ref, ksz_null, ksz_lv, kfit_int, kfit_long, kfit_obj, kfit_objN, kfit_arr, kfit_arrN, knarI, knarZ0, knarZ1, kret_v, kret_n, kret_x, Nat.reduceAdd, Nat.reduceLeDiff, reduceCtorEq, Int.reduceLE, Int.reduceLT, Int.reduceEq, ite_true, ite_false, true_or, or_true, false_implies, true_implies, not_true_eq_false, not_false_eq_true, and_self, eq_self, klc_lt, klc_ge, klc_le, klc_gt, klc_eq, kmu_eq, kmu_f, kmu_i, kmu_j, j143 hA v, hd, Nat.zero_le, h1, k119, h2, if_false]
end
