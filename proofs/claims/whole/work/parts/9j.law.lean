/-! The law: its cases. Printed by wip/whole/genl.py. -/
def ksc (xs : List Int32) (x : Int) : Int := (xs.getD x.toNat 0).toInt
/-- what the law goes on with behind a case -/
def kNx (E : Nat × Nat) (d b : Nat) (xs : List Int32) (V : ka_V) (A : ka_A) (t i : Int) (c l : Nat) (Q : ka_Q) : Prop :=
  ∀ J' A' V' C' R' c' l' x5 x6, kIv E A' V' C' R' (t + 1) → kHp J' A' V' C' R' b = some (4000, xs.map Value.int) → c ≤ c' + 121 → l ≤ l' + 2786 →
  ka_W (kp E) (d, (0, 1338, [some (.ref b), some (.ref (A' 0 0)), some (.ref (A' 9 0)), some (.ref (A' 36 0)), some (iv i), x5, x6], []), (kHp J' A' V' C' R', c', l')) Q
section
variable {h : ka_H} {b : Nat} {xs : List Int32} {x : Int}
theorem ksc_r : kR (ksc xs x) := by
  unfold ksc kR
  have h1 := Int32.toInt_lt (xs.getD x.toNat 0)
  have h2 := Int32.le_toInt (xs.getD x.toNat 0)
  omega
theorem ksc_ok (hb : h b = some (4000, xs.map Value.int)) (h0 : 0 ≤ x) (h1 : x < xs.length) : kok h b 1000 x.toNat ∨ kok h b 4000 x.toNat := Or.inr ⟨_, hb, by rw [List.length_map]; omega⟩
theorem ksc_g (hb : h b = some (4000, xs.map Value.int)) (h0 : 0 ≤ x) (h1 : x < xs.length) : kg h b x.toNat = iv (ksc xs x) := by
  have hx : x.toNat < xs.length := by omega
  unfold kg ksc iv
  rw [hb, Int32.ofInt_toInt]
  simp [List.getD, hx]
theorem ksc_t (hb : h b = some (4000, xs.map Value.int)) : (∃ t, ktg h b t ∧ (1000 ≤ t ∧ t < 3000 ∨ t = 4000 ∨ t = 4001)) := ⟨4000, ⟨_, hb⟩, Or.inr (Or.inl rfl)⟩
theorem ksc_l (hb : h b = some (4000, xs.map Value.int)) : kln h b = xs.length := by
  unfold kln
  rw [hb]
  simp
theorem kand31 {x : Int} : 0 ≤ kand x 31 ∧ kand x 31 ≤ 31 := by
  unfold kand
  have e : ∀ y : Int32, 0 ≤ (y &&& 31).toInt ∧ (y &&& 31).toInt ≤ 31 := by
    intro y
    have h1 : (y &&& 31).toBitVec.toNat ≤ 31 := by
      rw [Int32.toBitVec_and, BitVec.toNat_and]
      exact Nat.and_le_right
    have h2 : (y &&& 31).toInt = ((y &&& 31).toBitVec.toNat : Int) := by
      show (y &&& 31).toBitVec.toInt = _
      rw [BitVec.toInt_eq_toNat_of_lt (by omega)]
    omega
  exact e _
end
section
variable {E : Nat × Nat} {d D yr c l b : Nat} {xs : List Int32} {s : ka_S} {h : ka_H} {Q : ka_Q} {J : ka_H} {A A' : ka_A} {V V' : ka_V} {C C' R R' X X' X'' Y Z : ka_M} {t i : Int} {x5 x6 : Option Value}
theorem w0 (I : kIv E A V C R t) (ht : t ≤ 600) (hb : kHp J A V C R b = some (4000, xs.map Value.int)) (i0 : 0 ≤ i) (i1 : i + 5 ≤ xs.length) (hln : xs.length ≤ 2560) (hd : 50 ≤ d) (hc : 121 ≤ c) (hl : 2786 ≤ l) (H : kNx E d b xs V A t i c l Q) :
    ka_W (kp E) (d, (0, 136, [some (.ref b), some (.ref (A 0 0)), some (.ref (A 9 0)), some (.ref (A 36 0)), some (iv i), x5, x6], []), (kHp J A V C R, c, l)) Q := by
  obtain ⟨hA, v, -⟩ := id I
  simp (disch := first | assumption | (unfold kR; decide) | exact klc_R | (unfold kR; omega) | omega | (unfold kL; omega) | exact kcat_null | exact kcat_ref _ | exact kcat_iv _) only [r0_136, r0_137, r0_138, r0_140, r0_141, r0_142, r0_143, ksc_ok hb, ksc_g hb, true_and, and_true, kk1_i, kk1_r, kk1_n, kk1_0, kcat_iv, kcat_ref, kcat_null, kisR_ref, kisR_null, ksz_nil, ksz_iv, ksz_ref, ksz_null, ksz_lv, kfit_int, kfit_long, kfit_obj, kfit_objN, kfit_arr, kfit_arrN, knarI, knarZ0, knarZ1, kret_v, kret_n, kret_x, Nat.reduceAdd, Nat.reduceLeDiff, reduceCtorEq, Int.reduceLE, Int.reduceLT, Int.reduceEq, ite_true, ite_false, true_or, or_true, false_implies, true_implies, not_true_eq_false, not_false_eq_true, and_self, eq_self, klc_lt, klc_ge, klc_le, klc_gt, klc_eq, kmu_eq, kmu_f, kmu_i, kmu_j, Nat.zero_le, show 1 ≤ d by omega]
  refine kkeep rfl hb ?_
  refine u1 I ht ksc_r (D := d - 1) (by omega) (by omega) hc hl (fun J' A' V' C' R' c' l' j1 j2 j3 j4 j5 hb1 => ?_)
  have hI := j1
  obtain ⟨hA', v', -, rw', -⟩ := hI
  have e0 := (j2 0 0 (by decide) (by decide) (by decide) (by decide) (by decide) (by decide) v.l0).2
  have e9 := (j2 9 0 (by decide) (by decide) (by decide) (by decide) (by decide) (by decide) v.l9).2
  have e36 := (j2 36 0 (by decide) (by decide) (by decide) (by decide) (by decide) (by decide) v.l36).2
  rw [← e36, ← e9, ← e0]
  have B0 := rw'.i0
  simp (disch := first | assumption | (unfold kR; decide) | exact klc_R | (unfold kR; omega) | omega | (unfold kL; omega) | exact kcat_null | exact kcat_ref _ | exact kcat_iv _) only [r0_146, r0_148, r0_149, r0_150, r0_152, r0_153, r0_154, r0_155, ht_9 hA' v'.l9, ksc_ok hb1, ksc_g hb1, true_and, and_true, kk1_i, kk1_r, kk1_n, kk1_0, kcat_iv, kcat_ref, kcat_null, kisR_ref, kisR_null, ksz_nil, ksz_iv, ksz_ref, ksz_null, ksz_lv, kfit_int, kfit_long, kfit_obj, kfit_objN, kfit_arr, kfit_arrN, knarI, knarZ0, knarZ1, kret_v, kret_n, kret_x, Nat.reduceAdd, Nat.reduceLeDiff, reduceCtorEq, Int.reduceLE, Int.reduceLT, Int.reduceEq, ite_true, ite_false, true_or, or_true, false_implies, true_implies, not_true_eq_false, not_false_eq_true, and_self, eq_self, klc_lt, klc_ge, klc_le, klc_gt, klc_eq, kmu_eq, kmu_f, kmu_i, kmu_j, Nat.zero_le, show 1 ≤ d by omega]
  refine kkeep rfl hb1 (j5 _ _ (fun hb2 => ?_))
  have := H J' A' V' C' R' c' l' (some (iv (R' 9 0 0))) x6 j1 hb2 j3 j4
  simp (disch := first | assumption | (unfold kR; decide) | exact klc_R | (unfold kR; omega) | omega | (unfold kL; omega) | exact kcat_null | exact kcat_ref _ | exact kcat_iv _) only [r0_158, r0_159, r0_162, r0_164, r0_167, r0_168, r0_169, ht_9 hA' v'.l9, j118 hA' v' rw', true_and, and_true, kk1_i, kk1_r, kk1_n, kk1_0, kcat_iv, kcat_ref, kcat_null, kisR_ref, kisR_null, ksz_nil, ksz_iv, ksz_ref, ksz_null, ksz_lv, kfit_int, kfit_long, kfit_obj, kfit_objN, kfit_arr, kfit_arrN, knarI, knarZ0, knarZ1, kret_v, kret_n, kret_x, Nat.reduceAdd, Nat.reduceLeDiff, reduceCtorEq, Int.reduceLE, Int.reduceLT, Int.reduceEq, ite_true, ite_false, true_or, or_true, false_implies, true_implies, not_true_eq_false, not_false_eq_true, and_self, eq_self, klc_lt, klc_ge, klc_le, klc_gt, klc_eq, kmu_eq, kmu_f, kmu_i, kmu_j, Nat.zero_le, show 1 ≤ d by omega]
  exact this
theorem w1 (I : kIv E A V C R t) (ht : t ≤ 600) (hb : kHp J A V C R b = some (4000, xs.map Value.int)) (i0 : 0 ≤ i) (i1 : i + 5 ≤ xs.length) (hln : xs.length ≤ 2560) (hd : 50 ≤ d) (hc : 121 ≤ c) (hl : 2786 ≤ l) (H : kNx E d b xs V A t i c l Q) :
    ka_W (kp E) (d, (0, 172, [some (.ref b), some (.ref (A 0 0)), some (.ref (A 9 0)), some (.ref (A 36 0)), some (iv i), x5, x6], []), (kHp J A V C R, c, l)) Q := by
  obtain ⟨hA, v, -⟩ := id I
  simp (disch := first | assumption | (unfold kR; decide) | exact klc_R | (unfold kR; omega) | omega | (unfold kL; omega) | exact kcat_null | exact kcat_ref _ | exact kcat_iv _) only [r0_172, r0_173, r0_174, ksc_ok hb, ksc_g hb, true_and, and_true, kk1_i, kk1_r, kk1_n, kk1_0, kcat_iv, kcat_ref, kcat_null, kisR_ref, kisR_null, ksz_nil, ksz_iv, ksz_ref, ksz_null, ksz_lv, kfit_int, kfit_long, kfit_obj, kfit_objN, kfit_arr, kfit_arrN, knarI, knarZ0, knarZ1, kret_v, kret_n, kret_x, Nat.reduceAdd, Nat.reduceLeDiff, reduceCtorEq, Int.reduceLE, Int.reduceLT, Int.reduceEq, ite_true, ite_false, true_or, or_true, false_implies, true_implies, not_true_eq_false, not_false_eq_true, and_self, eq_self, klc_lt, klc_ge, klc_le, klc_gt, klc_eq, kmu_eq, kmu_f, kmu_i, kmu_j, Nat.zero_le, show 1 ≤ d by omega]
  refine kkeep rfl hb ?_
  refine u2 I ht  (D := d - 1) (by omega) (by omega) hc hl (fun J' A' V' C' R' c' l' x' hx' j1 j2 j3 j4 j5 j6 hb1 => ?_)
  have hI := j1
  obtain ⟨hA', v', -, rw', -⟩ := hI
  have e0 := (j2 0 0 (by decide) (by decide) (by decide) (by decide) (by decide) (by decide) v.l0).2
  have e9 := (j2 9 0 (by decide) (by decide) (by decide) (by decide) (by decide) (by decide) v.l9).2
  have e36 := (j2 36 0 (by decide) (by decide) (by decide) (by decide) (by decide) (by decide) v.l36).2
  rw [← e36, ← e9, ← e0]
  have B0 := rw'.i0
  simp (disch := first | assumption | (unfold kR; decide) | exact klc_R | (unfold kR; omega) | omega | (unfold kL; omega) | exact kcat_null | exact kcat_ref _ | exact kcat_iv _) only [r0_177, r0_179, r0_180, ht_9 hA' v'.l9, ksc_ok hb1, ksc_g hb1, true_and, and_true, kk1_i, kk1_r, kk1_n, kk1_0, kcat_iv, kcat_ref, kcat_null, kisR_ref, kisR_null, ksz_nil, ksz_iv, ksz_ref, ksz_null, ksz_lv, kfit_int, kfit_long, kfit_obj, kfit_objN, kfit_arr, kfit_arrN, knarI, knarZ0, knarZ1, kret_v, kret_n, kret_x, Nat.reduceAdd, Nat.reduceLeDiff, reduceCtorEq, Int.reduceLE, Int.reduceLT, Int.reduceEq, ite_true, ite_false, true_or, or_true, false_implies, true_implies, not_true_eq_false, not_false_eq_true, and_self, eq_self, klc_lt, klc_ge, klc_le, klc_gt, klc_eq, kmu_eq, kmu_f, kmu_i, kmu_j, Nat.zero_le, show 1 ≤ d by omega]
  refine kkeep rfl hb1 (j5 _ _ (fun hb2 => ?_))
  have := H J' A' V' C' R' c' l' (some (iv (R' 9 0 0))) (some (iv x')) j1 hb2 j3 j4
  by_cases z : R' 9 0 0 = 0
  · have z6 := j6 z
    rw [z] at this
    have hL : kL x' := by unfold kL; unfold kR at hx'; omega
    simp (disch := first | assumption | (unfold kR; decide) | exact klc_R | (unfold kR; omega) | omega | (unfold kL; omega) | exact kcat_null | exact kcat_ref _ | exact kcat_iv _) only [r0_183, r0_185, r0_186, r0_189, r0_191, r0_194, r0_195, r0_196, r0_198, r0_201, r0_202, r0_203, r0_204, r0_206, r0_207, r0_208, r0_211, r0_212, r0_213, ht_9 hA' v'.l9, j118 hA' v' rw', hoa_36 hA' v'.l36, hga_36 hA' v'.l36, true_and, and_true, kk1_i, kk1_r, kk1_n, kk1_0, kcat_iv, kcat_ref, kcat_null, kisR_ref, kisR_null, ksz_nil, ksz_iv, ksz_ref, ksz_null, ksz_lv, kfit_int, kfit_long, kfit_obj, kfit_objN, kfit_arr, kfit_arrN, knarI, knarZ0, knarZ1, kret_v, kret_n, kret_x, Nat.reduceAdd, Nat.reduceLeDiff, reduceCtorEq, Int.reduceLE, Int.reduceLT, Int.reduceEq, ite_true, ite_false, true_or, or_true, false_implies, true_implies, not_true_eq_false, not_false_eq_true, and_self, eq_self, klc_lt, klc_ge, klc_le, klc_gt, klc_eq, kmu_eq, kmu_f, kmu_i, kmu_j, z, z6, Int.lt_irrefl, Nat.zero_le, show 1 ≤ d by omega]
    exact this
  · simp (disch := first | assumption | (unfold kR; decide) | exact klc_R | (unfold kR; omega) | omega | (unfold kL; omega) | exact kcat_null | exact kcat_ref _ | exact kcat_iv _) only [r0_183, r0_185, r0_186, r0_189, r0_191, r0_194, r0_195, r0_196, r0_198, r0_201, r0_202, r0_203, r0_204, r0_206, r0_207, r0_208, r0_211, r0_212, r0_213, ht_9 hA' v'.l9, j118 hA' v' rw', true_and, and_true, kk1_i, kk1_r, kk1_n, kk1_0, kcat_iv, kcat_ref, kcat_null, kisR_ref, kisR_null, ksz_nil, ksz_iv, ksz_ref, ksz_null, ksz_lv, kfit_int, kfit_long, kfit_obj, kfit_objN, kfit_arr, kfit_arrN, knarI, knarZ0, knarZ1, kret_v, kret_n, kret_x, Nat.reduceAdd, Nat.reduceLeDiff, reduceCtorEq, Int.reduceLE, Int.reduceLT, Int.reduceEq, ite_true, ite_false, true_or, or_true, false_implies, true_implies, not_true_eq_false, not_false_eq_true, and_self, eq_self, klc_lt, klc_ge, klc_le, klc_gt, klc_eq, kmu_eq, kmu_f, kmu_i, kmu_j, z, Nat.zero_le, show 1 ≤ d by omega]
    exact this
theorem w2 (I : kIv E A V C R t) (ht : t ≤ 600) (hb : kHp J A V C R b = some (4000, xs.map Value.int)) (i0 : 0 ≤ i) (i1 : i + 5 ≤ xs.length) (hln : xs.length ≤ 2560) (hd : 50 ≤ d) (hc : 121 ≤ c) (hl : 2786 ≤ l) (H : kNx E d b xs V A t i c l Q) :
    ka_W (kp E) (d, (0, 216, [some (.ref b), some (.ref (A 0 0)), some (.ref (A 9 0)), some (.ref (A 36 0)), some (iv i), x5, x6], []), (kHp J A V C R, c, l)) Q := by
  obtain ⟨hA, v, -⟩ := id I
  simp (disch := first | assumption | (unfold kR; decide) | exact klc_R | (unfold kR; omega) | omega | (unfold kL; omega) | exact kcat_null | exact kcat_ref _ | exact kcat_iv _) only [r0_216, r0_217, r0_218, r0_220, r0_221, r0_222, r0_223, r0_224, ksc_ok hb, ksc_g hb, true_and, and_true, kk1_i, kk1_r, kk1_n, kk1_0, kcat_iv, kcat_ref, kcat_null, kisR_ref, kisR_null, ksz_nil, ksz_iv, ksz_ref, ksz_null, ksz_lv, kfit_int, kfit_long, kfit_obj, kfit_objN, kfit_arr, kfit_arrN, knarI, knarZ0, knarZ1, kret_v, kret_n, kret_x, Nat.reduceAdd, Nat.reduceLeDiff, reduceCtorEq, Int.reduceLE, Int.reduceLT, Int.reduceEq, ite_true, ite_false, true_or, or_true, false_implies, true_implies, not_true_eq_false, not_false_eq_true, and_self, eq_self, klc_lt, klc_ge, klc_le, klc_gt, klc_eq, kmu_eq, kmu_f, kmu_i, kmu_j, Nat.zero_le, show 1 ≤ d by omega]
  refine kkeep rfl hb ?_
  refine u3 I ht ksc_r (D := d - 1) (by omega) (by omega) hc hl (fun J' A' V' C' R' c' l' x' hx' j1 j2 j3 j4 j5 j6 hb1 => ?_)
  have hI := j1
  obtain ⟨hA', v', -, rw', -⟩ := hI
  have e0 := (j2 0 0 (by decide) (by decide) (by decide) (by decide) (by decide) (by decide) v.l0).2
  have e9 := (j2 9 0 (by decide) (by decide) (by decide) (by decide) (by decide) (by decide) v.l9).2
  have e36 := (j2 36 0 (by decide) (by decide) (by decide) (by decide) (by decide) (by decide) v.l36).2
  rw [← e36, ← e9, ← e0]
  have B0 := rw'.i0
  simp (disch := first | assumption | (unfold kR; decide) | exact klc_R | (unfold kR; omega) | omega | (unfold kL; omega) | exact kcat_null | exact kcat_ref _ | exact kcat_iv _) only [r0_227, r0_229, r0_230, r0_231, r0_233, r0_234, r0_235, r0_236, ht_9 hA' v'.l9, ksc_ok hb1, ksc_g hb1, true_and, and_true, kk1_i, kk1_r, kk1_n, kk1_0, kcat_iv, kcat_ref, kcat_null, kisR_ref, kisR_null, ksz_nil, ksz_iv, ksz_ref, ksz_null, ksz_lv, kfit_int, kfit_long, kfit_obj, kfit_objN, kfit_arr, kfit_arrN, knarI, knarZ0, knarZ1, kret_v, kret_n, kret_x, Nat.reduceAdd, Nat.reduceLeDiff, reduceCtorEq, Int.reduceLE, Int.reduceLT, Int.reduceEq, ite_true, ite_false, true_or, or_true, false_implies, true_implies, not_true_eq_false, not_false_eq_true, and_self, eq_self, klc_lt, klc_ge, klc_le, klc_gt, klc_eq, kmu_eq, kmu_f, kmu_i, kmu_j, Nat.zero_le, show 1 ≤ d by omega]
  refine kkeep rfl hb1 (j5 _ _ (fun hb2 => ?_))
  have := H J' A' V' C' R' c' l' (some (iv (R' 9 0 0))) (some (iv x')) j1 hb2 j3 j4
  by_cases z : R' 9 0 0 = 0
  · have z6 := j6 z
    rw [z] at this
    have hL : kL x' := by unfold kL; unfold kR at hx'; omega
    simp (disch := first | assumption | (unfold kR; decide) | exact klc_R | (unfold kR; omega) | omega | (unfold kL; omega) | exact kcat_null | exact kcat_ref _ | exact kcat_iv _) only [r0_239, r0_241, r0_242, r0_245, r0_247, r0_250, r0_251, r0_252, r0_254, r0_257, r0_258, r0_259, r0_260, r0_262, r0_263, r0_264, r0_267, r0_268, r0_269, ht_9 hA' v'.l9, j118 hA' v' rw', hoa_36 hA' v'.l36, hga_36 hA' v'.l36, true_and, and_true, kk1_i, kk1_r, kk1_n, kk1_0, kcat_iv, kcat_ref, kcat_null, kisR_ref, kisR_null, ksz_nil, ksz_iv, ksz_ref, ksz_null, ksz_lv, kfit_int, kfit_long, kfit_obj, kfit_objN, kfit_arr, kfit_arrN, knarI, knarZ0, knarZ1, kret_v, kret_n, kret_x, Nat.reduceAdd, Nat.reduceLeDiff, reduceCtorEq, Int.reduceLE, Int.reduceLT, Int.reduceEq, ite_true, ite_false, true_or, or_true, false_implies, true_implies, not_true_eq_false, not_false_eq_true, and_self, eq_self, klc_lt, klc_ge, klc_le, klc_gt, klc_eq, kmu_eq, kmu_f, kmu_i, kmu_j, z, z6, Int.lt_irrefl, Nat.zero_le, show 1 ≤ d by omega]
    exact this
  · simp (disch := first | assumption | (unfold kR; decide) | exact klc_R | (unfold kR; omega) | omega | (unfold kL; omega) | exact kcat_null | exact kcat_ref _ | exact kcat_iv _) only [r0_239, r0_241, r0_242, r0_245, r0_247, r0_250, r0_251, r0_252, r0_254, r0_257, r0_258, r0_259, r0_260, r0_262, r0_263, r0_264, r0_267, r0_268, r0_269, ht_9 hA' v'.l9, j118 hA' v' rw', true_and, and_true, kk1_i, kk1_r, kk1_n, kk1_0, kcat_iv, kcat_ref, kcat_null, kisR_ref, kisR_null, ksz_nil, ksz_iv, ksz_ref, ksz_null, ksz_lv, kfit_int, kfit_long, kfit_obj, kfit_objN, kfit_arr, kfit_arrN, knarI, knarZ0, knarZ1, kret_v, kret_n, kret_x, Nat.reduceAdd, Nat.reduceLeDiff, reduceCtorEq, Int.reduceLE, Int.reduceLT, Int.reduceEq, ite_true, ite_false, true_or, or_true, false_implies, true_implies, not_true_eq_false, not_false_eq_true, and_self, eq_self, klc_lt, klc_ge, klc_le, klc_gt, klc_eq, kmu_eq, kmu_f, kmu_i, kmu_j, z, Nat.zero_le, show 1 ≤ d by omega]
    exact this
theorem w3 (I : kIv E A V C R t) (ht : t ≤ 600) (hb : kHp J A V C R b = some (4000, xs.map Value.int)) (i0 : 0 ≤ i) (i1 : i + 5 ≤ xs.length) (hln : xs.length ≤ 2560) (hd : 50 ≤ d) (hc : 121 ≤ c) (hl : 2786 ≤ l) (H : kNx E d b xs V A t i c l Q) :
    ka_W (kp E) (d, (0, 272, [some (.ref b), some (.ref (A 0 0)), some (.ref (A 9 0)), some (.ref (A 36 0)), some (iv i), x5, x6], []), (kHp J A V C R, c, l)) Q := by
  obtain ⟨hA, v, -⟩ := id I
  have hz := ksc_r (xs := xs) (x := i + 4)
  by_cases zb : ksc xs (i + 4) = 0
  · simp (disch := first | assumption | (unfold kR; decide) | exact klc_R | (unfold kR; omega) | omega | (unfold kL; omega) | exact kcat_null | exact kcat_ref _ | exact kcat_iv _) only [r0_272, r0_273, r0_274, r0_276, r0_277, r0_278, r0_279, r0_280, r0_282, r0_283, r0_284, r0_285, r0_286, r0_288, r0_289, r0_290, r0_291, r0_292, r0_294, r0_295, r0_296, r0_297, r0_300, r0_301, r0_304, r0_305, r0_306, ksc_ok hb, ksc_g hb, true_and, and_true, kk1_i, kk1_r, kk1_n, kk1_0, kcat_iv, kcat_ref, kcat_null, kisR_ref, kisR_null, ksz_nil, ksz_iv, ksz_ref, ksz_null, ksz_lv, kfit_int, kfit_long, kfit_obj, kfit_objN, kfit_arr, kfit_arrN, knarI, knarZ0, knarZ1, kret_v, kret_n, kret_x, Nat.reduceAdd, Nat.reduceLeDiff, reduceCtorEq, Int.reduceLE, Int.reduceLT, Int.reduceEq, ite_true, ite_false, true_or, or_true, false_implies, true_implies, not_true_eq_false, not_false_eq_true, and_self, eq_self, klc_lt, klc_ge, klc_le, klc_gt, klc_eq, kmu_eq, kmu_f, kmu_i, kmu_j, Nat.zero_le, show 1 ≤ d by omega, zb]
    refine kkeep rfl hb ?_
    refine u4 I ht ksc_r ksc_r ksc_r (Or.inl rfl) (D := d - 1) (by omega) (by omega) hc hl (fun J' A' V' C' R' c' l' x' hx' j1 j2 j3 j4 j5 j6 hb1 => ?_)
    have hI := j1
    obtain ⟨hA', v', -, rw', -⟩ := hI
    have e0 := (j2 0 0 (by decide) (by decide) (by decide) (by decide) (by decide) (by decide) v.l0).2
    have e9 := (j2 9 0 (by decide) (by decide) (by decide) (by decide) (by decide) (by decide) v.l9).2
    have e36 := (j2 36 0 (by decide) (by decide) (by decide) (by decide) (by decide) (by decide) v.l36).2
    rw [← e36, ← e9, ← e0]
    have B0 := rw'.i0
    simp (disch := first | assumption | (unfold kR; decide) | exact klc_R | (unfold kR; omega) | omega | (unfold kL; omega) | exact kcat_null | exact kcat_ref _ | exact kcat_iv _) only [r0_309, r0_311, r0_312, r0_313, r0_315, r0_316, r0_317, r0_318, r0_319, r0_321, r0_322, r0_323, r0_324, r0_325, r0_327, r0_328, r0_329, r0_330, r0_331, r0_333, r0_334, r0_335, r0_336, r0_339, r0_340, r0_343, r0_344, ht_9 hA' v'.l9, ksc_ok hb1, ksc_g hb1, true_and, and_true, kk1_i, kk1_r, kk1_n, kk1_0, kcat_iv, kcat_ref, kcat_null, kisR_ref, kisR_null, ksz_nil, ksz_iv, ksz_ref, ksz_null, ksz_lv, kfit_int, kfit_long, kfit_obj, kfit_objN, kfit_arr, kfit_arrN, knarI, knarZ0, knarZ1, kret_v, kret_n, kret_x, Nat.reduceAdd, Nat.reduceLeDiff, reduceCtorEq, Int.reduceLE, Int.reduceLT, Int.reduceEq, ite_true, ite_false, true_or, or_true, false_implies, true_implies, not_true_eq_false, not_false_eq_true, and_self, eq_self, klc_lt, klc_ge, klc_le, klc_gt, klc_eq, kmu_eq, kmu_f, kmu_i, kmu_j, Nat.zero_le, show 1 ≤ d by omega, zb]
    refine kkeep rfl hb1 (j5 _ _ (fun hb2 => ?_))
    have := H J' A' V' C' R' c' l' (some (iv (R' 9 0 0))) (some (iv x')) j1 hb2 j3 j4
    by_cases z : R' 9 0 0 = 0
    · have z6 := j6 z
      rw [z] at this
      have hL : kL x' := by unfold kL; unfold kR at hx'; omega
      simp (disch := first | assumption | (unfold kR; decide) | exact klc_R | (unfold kR; omega) | omega | (unfold kL; omega) | exact kcat_null | exact kcat_ref _ | exact kcat_iv _) only [r0_347, r0_349, r0_350, r0_353, r0_355, r0_358, r0_359, r0_360, r0_362, r0_365, r0_366, r0_367, r0_368, r0_370, r0_371, r0_372, r0_375, r0_376, r0_377, ht_9 hA' v'.l9, j118 hA' v' rw', hoa_36 hA' v'.l36, hga_36 hA' v'.l36, true_and, and_true, kk1_i, kk1_r, kk1_n, kk1_0, kcat_iv, kcat_ref, kcat_null, kisR_ref, kisR_null, ksz_nil, ksz_iv, ksz_ref, ksz_null, ksz_lv, kfit_int, kfit_long, kfit_obj, kfit_objN, kfit_arr, kfit_arrN, knarI, knarZ0, knarZ1, kret_v, kret_n, kret_x, Nat.reduceAdd, Nat.reduceLeDiff, reduceCtorEq, Int.reduceLE, Int.reduceLT, Int.reduceEq, ite_true, ite_false, true_or, or_true, false_implies, true_implies, not_true_eq_false, not_false_eq_true, and_self, eq_self, klc_lt, klc_ge, klc_le, klc_gt, klc_eq, kmu_eq, kmu_f, kmu_i, kmu_j, z, z6, Int.lt_irrefl, Nat.zero_le, show 1 ≤ d by omega]
      exact this
    · simp (disch := first | assumption | (unfold kR; decide) | exact klc_R | (unfold kR; omega) | omega | (unfold kL; omega) | exact kcat_null | exact kcat_ref _ | exact kcat_iv _) only [r0_347, r0_349, r0_350, r0_353, r0_355, r0_358, r0_359, r0_360, r0_362, r0_365, r0_366, r0_367, r0_368, r0_370, r0_371, r0_372, r0_375, r0_376, r0_377, ht_9 hA' v'.l9, j118 hA' v' rw', true_and, and_true, kk1_i, kk1_r, kk1_n, kk1_0, kcat_iv, kcat_ref, kcat_null, kisR_ref, kisR_null, ksz_nil, ksz_iv, ksz_ref, ksz_null, ksz_lv, kfit_int, kfit_long, kfit_obj, kfit_objN, kfit_arr, kfit_arrN, knarI, knarZ0, knarZ1, kret_v, kret_n, kret_x, Nat.reduceAdd, Nat.reduceLeDiff, reduceCtorEq, Int.reduceLE, Int.reduceLT, Int.reduceEq, ite_true, ite_false, true_or, or_true, false_implies, true_implies, not_true_eq_false, not_false_eq_true, and_self, eq_self, klc_lt, klc_ge, klc_le, klc_gt, klc_eq, kmu_eq, kmu_f, kmu_i, kmu_j, z, Nat.zero_le, show 1 ≤ d by omega]
      exact this
  · simp (disch := first | assumption | (unfold kR; decide) | exact klc_R | (unfold kR; omega) | omega | (unfold kL; omega) | exact kcat_null | exact kcat_ref _ | exact kcat_iv _) only [r0_272, r0_273, r0_274, r0_276, r0_277, r0_278, r0_279, r0_280, r0_282, r0_283, r0_284, r0_285, r0_286, r0_288, r0_289, r0_290, r0_291, r0_292, r0_294, r0_295, r0_296, r0_297, r0_300, r0_301, r0_304, r0_305, r0_306, ksc_ok hb, ksc_g hb, true_and, and_true, kk1_i, kk1_r, kk1_n, kk1_0, kcat_iv, kcat_ref, kcat_null, kisR_ref, kisR_null, ksz_nil, ksz_iv, ksz_ref, ksz_null, ksz_lv, kfit_int, kfit_long, kfit_obj, kfit_objN, kfit_arr, kfit_arrN, knarI, knarZ0, knarZ1, kret_v, kret_n, kret_x, Nat.reduceAdd, Nat.reduceLeDiff, reduceCtorEq, Int.reduceLE, Int.reduceLT, Int.reduceEq, ite_true, ite_false, true_or, or_true, false_implies, true_implies, not_true_eq_false, not_false_eq_true, and_self, eq_self, klc_lt, klc_ge, klc_le, klc_gt, klc_eq, kmu_eq, kmu_f, kmu_i, kmu_j, Nat.zero_le, show 1 ≤ d by omega, zb]
    refine kkeep rfl hb ?_
    refine u4 I ht ksc_r ksc_r ksc_r (Or.inr rfl) (D := d - 1) (by omega) (by omega) hc hl (fun J' A' V' C' R' c' l' x' hx' j1 j2 j3 j4 j5 j6 hb1 => ?_)
    have hI := j1
    obtain ⟨hA', v', -, rw', -⟩ := hI
    have e0 := (j2 0 0 (by decide) (by decide) (by decide) (by decide) (by decide) (by decide) v.l0).2
    have e9 := (j2 9 0 (by decide) (by decide) (by decide) (by decide) (by decide) (by decide) v.l9).2
    have e36 := (j2 36 0 (by decide) (by decide) (by decide) (by decide) (by decide) (by decide) v.l36).2
    rw [← e36, ← e9, ← e0]
    have B0 := rw'.i0
    simp (disch := first | assumption | (unfold kR; decide) | exact klc_R | (unfold kR; omega) | omega | (unfold kL; omega) | exact kcat_null | exact kcat_ref _ | exact kcat_iv _) only [r0_309, r0_311, r0_312, r0_313, r0_315, r0_316, r0_317, r0_318, r0_319, r0_321, r0_322, r0_323, r0_324, r0_325, r0_327, r0_328, r0_329, r0_330, r0_331, r0_333, r0_334, r0_335, r0_336, r0_339, r0_340, r0_343, r0_344, ht_9 hA' v'.l9, ksc_ok hb1, ksc_g hb1, true_and, and_true, kk1_i, kk1_r, kk1_n, kk1_0, kcat_iv, kcat_ref, kcat_null, kisR_ref, kisR_null, ksz_nil, ksz_iv, ksz_ref, ksz_null, ksz_lv, kfit_int, kfit_long, kfit_obj, kfit_objN, kfit_arr, kfit_arrN, knarI, knarZ0, knarZ1, kret_v, kret_n, kret_x, Nat.reduceAdd, Nat.reduceLeDiff, reduceCtorEq, Int.reduceLE, Int.reduceLT, Int.reduceEq, ite_true, ite_false, true_or, or_true, false_implies, true_implies, not_true_eq_false, not_false_eq_true, and_self, eq_self, klc_lt, klc_ge, klc_le, klc_gt, klc_eq, kmu_eq, kmu_f, kmu_i, kmu_j, Nat.zero_le, show 1 ≤ d by omega, zb]
    refine kkeep rfl hb1 (j5 _ _ (fun hb2 => ?_))
    have := H J' A' V' C' R' c' l' (some (iv (R' 9 0 0))) (some (iv x')) j1 hb2 j3 j4
    by_cases z : R' 9 0 0 = 0
    · have z6 := j6 z
      rw [z] at this
      have hL : kL x' := by unfold kL; unfold kR at hx'; omega
      simp (disch := first | assumption | (unfold kR; decide) | exact klc_R | (unfold kR; omega) | omega | (unfold kL; omega) | exact kcat_null | exact kcat_ref _ | exact kcat_iv _) only [r0_347, r0_349, r0_350, r0_353, r0_355, r0_358, r0_359, r0_360, r0_362, r0_365, r0_366, r0_367, r0_368, r0_370, r0_371, r0_372, r0_375, r0_376, r0_377, ht_9 hA' v'.l9, j118 hA' v' rw', hoa_36 hA' v'.l36, hga_36 hA' v'.l36, true_and, and_true, kk1_i, kk1_r, kk1_n, kk1_0, kcat_iv, kcat_ref, kcat_null, kisR_ref, kisR_null, ksz_nil, ksz_iv, ksz_ref, ksz_null, ksz_lv, kfit_int, kfit_long, kfit_obj, kfit_objN, kfit_arr, kfit_arrN, knarI, knarZ0, knarZ1, kret_v, kret_n, kret_x, Nat.reduceAdd, Nat.reduceLeDiff, reduceCtorEq, Int.reduceLE, Int.reduceLT, Int.reduceEq, ite_true, ite_false, true_or, or_true, false_implies, true_implies, not_true_eq_false, not_false_eq_true, and_self, eq_self, klc_lt, klc_ge, klc_le, klc_gt, klc_eq, kmu_eq, kmu_f, kmu_i, kmu_j, z, z6, Int.lt_irrefl, Nat.zero_le, show 1 ≤ d by omega]
      exact this
    · simp (disch := first | assumption | (unfold kR; decide) | exact klc_R | (unfold kR; omega) | omega | (unfold kL; omega) | exact kcat_null | exact kcat_ref _ | exact kcat_iv _) only [r0_347, r0_349, r0_350, r0_353, r0_355, r0_358, r0_359, r0_360, r0_362, r0_365, r0_366, r0_367, r0_368, r0_370, r0_371, r0_372, r0_375, r0_376, r0_377, ht_9 hA' v'.l9, j118 hA' v' rw', true_and, and_true, kk1_i, kk1_r, kk1_n, kk1_0, kcat_iv, kcat_ref, kcat_null, kisR_ref, kisR_null, ksz_nil, ksz_iv, ksz_ref, ksz_null, ksz_lv, kfit_int, kfit_long, kfit_obj, kfit_objN, kfit_arr, kfit_arrN, knarI, knarZ0, knarZ1, kret_v, kret_n, kret_x, Nat.reduceAdd, Nat.reduceLeDiff, reduceCtorEq, Int.reduceLE, Int.reduceLT, Int.reduceEq, ite_true, ite_false, true_or, or_true, false_implies, true_implies, not_true_eq_false, not_false_eq_true, and_self, eq_self, klc_lt, klc_ge, klc_le, klc_gt, klc_eq, kmu_eq, kmu_f, kmu_i, kmu_j, z, Nat.zero_le, show 1 ≤ d by omega]
      exact this
theorem w4 (I : kIv E A V C R t) (ht : t ≤ 600) (hb : kHp J A V C R b = some (4000, xs.map Value.int)) (i0 : 0 ≤ i) (i1 : i + 5 ≤ xs.length) (hln : xs.length ≤ 2560) (hd : 50 ≤ d) (hc : 121 ≤ c) (hl : 2786 ≤ l) (H : kNx E d b xs V A t i c l Q) :
    ka_W (kp E) (d, (0, 380, [some (.ref b), some (.ref (A 0 0)), some (.ref (A 9 0)), some (.ref (A 36 0)), some (iv i), x5, x6], []), (kHp J A V C R, c, l)) Q := by
  obtain ⟨hA, v, -⟩ := id I
  simp (disch := first | assumption | (unfold kR; decide) | exact klc_R | (unfold kR; omega) | omega | (unfold kL; omega) | exact kcat_null | exact kcat_ref _ | exact kcat_iv _) only [r0_380, r0_381, r0_382, r0_384, r0_385, r0_386, r0_387, ht_0 hA v.l0, ksc_ok hb, ksc_g hb, true_and, and_true, kk1_i, kk1_r, kk1_n, kk1_0, kcat_iv, kcat_ref, kcat_null, kisR_ref, kisR_null, ksz_nil, ksz_iv, ksz_ref, ksz_null, ksz_lv, kfit_int, kfit_long, kfit_obj, kfit_objN, kfit_arr, kfit_arrN, knarI, knarZ0, knarZ1, kret_v, kret_n, kret_x, Nat.reduceAdd, Nat.reduceLeDiff, reduceCtorEq, Int.reduceLE, Int.reduceLT, Int.reduceEq, ite_true, ite_false, true_or, or_true, false_implies, true_implies, not_true_eq_false, not_false_eq_true, and_self, eq_self, klc_lt, klc_ge, klc_le, klc_gt, klc_eq, kmu_eq, kmu_f, kmu_i, kmu_j, Nat.zero_le, show 1 ≤ d by omega]
  refine kkeep rfl hb ?_
  refine t25 I ksc_r (D := d - 1) (by omega) (by omega) (fun J' A' V' C' R' c' l' o b' j1 j2 j3 j4 j5 j6 j7 hb1 => ?_)
  rcases j7 with ⟨w, -⟩ | ⟨-, x', rfl, hx'⟩
  · exact absurd w (by decide)
  rcases j6 with ⟨rfl, e0⟩ | ⟨e, he, -⟩
  rotate_left
  · cases he
  have hI := j1
  obtain ⟨hA', v', -, rw', -⟩ := hI
  have e9 := (j2 9 0 (by decide) (by decide) (by decide) (by decide) (by decide) (by decide) v.l9).2
  have e36 := (j2 36 0 (by decide) (by decide) (by decide) (by decide) (by decide) (by decide) v.l36).2
  rw [← e36, ← e9]
  have e00 := (j2 0 0 (by decide) (by decide) (by decide) (by decide) (by decide) (by decide) v.l0).2
  rw [← e00]
  simp (disch := first | assumption | (unfold kR; decide) | exact klc_R | (unfold kR; omega) | omega | (unfold kL; omega) | exact kcat_null | exact kcat_ref _ | exact kcat_iv _) only [r0_390, r0_391, r0_392, r0_394, r0_395, r0_396, r0_397, ht_9 hA' v'.l9, ksc_ok hb1, ksc_g hb1, true_and, and_true, kk1_i, kk1_r, kk1_n, kk1_0, kcat_iv, kcat_ref, kcat_null, kisR_ref, kisR_null, ksz_nil, ksz_iv, ksz_ref, ksz_null, ksz_lv, kfit_int, kfit_long, kfit_obj, kfit_objN, kfit_arr, kfit_arrN, knarI, knarZ0, knarZ1, kret_v, kret_n, kret_x, Nat.reduceAdd, Nat.reduceLeDiff, reduceCtorEq, Int.reduceLE, Int.reduceLT, Int.reduceEq, ite_true, ite_false, true_or, or_true, false_implies, true_implies, not_true_eq_false, not_false_eq_true, and_self, eq_self, klc_lt, klc_ge, klc_le, klc_gt, klc_eq, kmu_eq, kmu_f, kmu_i, kmu_j, Nat.zero_le, show 1 ≤ d by omega]
  refine kkeep rfl hb1 (j5 _ _ (fun hb2 => ?_))
  have := H J' A' V' C' R' c' l' x5 x6 j1 hb2 j3 j4
  simp (disch := first | assumption | (unfold kR; decide) | exact klc_R | (unfold kR; omega) | omega | (unfold kL; omega) | exact kcat_null | exact kcat_ref _ | exact kcat_iv _) only [r0_400, r0_403, r0_404, true_and, and_true, kk1_i, kk1_r, kk1_n, kk1_0, kcat_iv, kcat_ref, kcat_null, kisR_ref, kisR_null, ksz_nil, ksz_iv, ksz_ref, ksz_null, ksz_lv, kfit_int, kfit_long, kfit_obj, kfit_objN, kfit_arr, kfit_arrN, knarI, knarZ0, knarZ1, kret_v, kret_n, kret_x, Nat.reduceAdd, Nat.reduceLeDiff, reduceCtorEq, Int.reduceLE, Int.reduceLT, Int.reduceEq, ite_true, ite_false, true_or, or_true, false_implies, true_implies, not_true_eq_false, not_false_eq_true, and_self, eq_self, klc_lt, klc_ge, klc_le, klc_gt, klc_eq, kmu_eq, kmu_f, kmu_i, kmu_j]
  exact this
theorem w5 (I : kIv E A V C R t) (ht : t ≤ 600) (hb : kHp J A V C R b = some (4000, xs.map Value.int)) (i0 : 0 ≤ i) (i1 : i + 5 ≤ xs.length) (hln : xs.length ≤ 2560) (hd : 50 ≤ d) (hc : 121 ≤ c) (hl : 2786 ≤ l) (H : kNx E d b xs V A t i c l Q) :
    ka_W (kp E) (d, (0, 405, [some (.ref b), some (.ref (A 0 0)), some (.ref (A 9 0)), some (.ref (A 36 0)), some (iv i), x5, x6], []), (kHp J A V C R, c, l)) Q := by
  obtain ⟨hA, v, -⟩ := id I
  simp (disch := first | assumption | (unfold kR; decide) | exact klc_R | (unfold kR; omega) | omega | (unfold kL; omega) | exact kcat_null | exact kcat_ref _ | exact kcat_iv _) only [r0_405, r0_406, r0_407, r0_409, r0_410, r0_411, r0_412, r0_413, r0_415, r0_416, r0_417, r0_418, r0_419, ksc_ok hb, ksc_g hb, true_and, and_true, kk1_i, kk1_r, kk1_n, kk1_0, kcat_iv, kcat_ref, kcat_null, kisR_ref, kisR_null, ksz_nil, ksz_iv, ksz_ref, ksz_null, ksz_lv, kfit_int, kfit_long, kfit_obj, kfit_objN, kfit_arr, kfit_arrN, knarI, knarZ0, knarZ1, kret_v, kret_n, kret_x, Nat.reduceAdd, Nat.reduceLeDiff, reduceCtorEq, Int.reduceLE, Int.reduceLT, Int.reduceEq, ite_true, ite_false, true_or, or_true, false_implies, true_implies, not_true_eq_false, not_false_eq_true, and_self, eq_self, klc_lt, klc_ge, klc_le, klc_gt, klc_eq, kmu_eq, kmu_f, kmu_i, kmu_j, Nat.zero_le, show 1 ≤ d by omega]
  refine kkeep rfl hb ?_
  refine u5 I ht ksc_r ksc_r (D := d - 1) (by omega) (by omega) hc hl (fun J' A' V' C' R' c' l' x' hx' j1 j2 j3 j4 j5 j6 hb1 => ?_)
  have hI := j1
  obtain ⟨hA', v', -, rw', -⟩ := hI
  have e0 := (j2 0 0 (by decide) (by decide) (by decide) (by decide) (by decide) (by decide) v.l0).2
  have e9 := (j2 9 0 (by decide) (by decide) (by decide) (by decide) (by decide) (by decide) v.l9).2
  have e36 := (j2 36 0 (by decide) (by decide) (by decide) (by decide) (by decide) (by decide) v.l36).2
  rw [← e36, ← e9, ← e0]
  have B0 := rw'.i0
  simp (disch := first | assumption | (unfold kR; decide) | exact klc_R | (unfold kR; omega) | omega | (unfold kL; omega) | exact kcat_null | exact kcat_ref _ | exact kcat_iv _) only [r0_422, r0_424, r0_425, r0_426, r0_428, r0_429, r0_430, r0_431, r0_432, r0_434, r0_435, r0_436, r0_437, ht_9 hA' v'.l9, ksc_ok hb1, ksc_g hb1, true_and, and_true, kk1_i, kk1_r, kk1_n, kk1_0, kcat_iv, kcat_ref, kcat_null, kisR_ref, kisR_null, ksz_nil, ksz_iv, ksz_ref, ksz_null, ksz_lv, kfit_int, kfit_long, kfit_obj, kfit_objN, kfit_arr, kfit_arrN, knarI, knarZ0, knarZ1, kret_v, kret_n, kret_x, Nat.reduceAdd, Nat.reduceLeDiff, reduceCtorEq, Int.reduceLE, Int.reduceLT, Int.reduceEq, ite_true, ite_false, true_or, or_true, false_implies, true_implies, not_true_eq_false, not_false_eq_true, and_self, eq_self, klc_lt, klc_ge, klc_le, klc_gt, klc_eq, kmu_eq, kmu_f, kmu_i, kmu_j, Nat.zero_le, show 1 ≤ d by omega]
  refine kkeep rfl hb1 (j5 _ _ (fun hb2 => ?_))
  have := H J' A' V' C' R' c' l' (some (iv (R' 9 0 0))) (some (iv x')) j1 hb2 j3 j4
  by_cases z : R' 9 0 0 = 0
  · have z6 := j6 z
    rw [z] at this
    have hL : kL x' := by unfold kL; unfold kR at hx'; omega
    simp (disch := first | assumption | (unfold kR; decide) | exact klc_R | (unfold kR; omega) | omega | (unfold kL; omega) | exact kcat_null | exact kcat_ref _ | exact kcat_iv _) only [r0_440, r0_442, r0_443, r0_446, r0_448, r0_451, r0_452, r0_453, r0_455, r0_458, r0_459, r0_460, r0_461, r0_463, r0_464, r0_465, r0_468, r0_469, r0_470, ht_9 hA' v'.l9, j118 hA' v' rw', hoa_36 hA' v'.l36, hga_36 hA' v'.l36, true_and, and_true, kk1_i, kk1_r, kk1_n, kk1_0, kcat_iv, kcat_ref, kcat_null, kisR_ref, kisR_null, ksz_nil, ksz_iv, ksz_ref, ksz_null, ksz_lv, kfit_int, kfit_long, kfit_obj, kfit_objN, kfit_arr, kfit_arrN, knarI, knarZ0, knarZ1, kret_v, kret_n, kret_x, Nat.reduceAdd, Nat.reduceLeDiff, reduceCtorEq, Int.reduceLE, Int.reduceLT, Int.reduceEq, ite_true, ite_false, true_or, or_true, false_implies, true_implies, not_true_eq_false, not_false_eq_true, and_self, eq_self, klc_lt, klc_ge, klc_le, klc_gt, klc_eq, kmu_eq, kmu_f, kmu_i, kmu_j, z, z6, Int.lt_irrefl, Nat.zero_le, show 1 ≤ d by omega]
    exact this
  · simp (disch := first | assumption | (unfold kR; decide) | exact klc_R | (unfold kR; omega) | omega | (unfold kL; omega) | exact kcat_null | exact kcat_ref _ | exact kcat_iv _) only [r0_440, r0_442, r0_443, r0_446, r0_448, r0_451, r0_452, r0_453, r0_455, r0_458, r0_459, r0_460, r0_461, r0_463, r0_464, r0_465, r0_468, r0_469, r0_470, ht_9 hA' v'.l9, j118 hA' v' rw', true_and, and_true, kk1_i, kk1_r, kk1_n, kk1_0, kcat_iv, kcat_ref, kcat_null, kisR_ref, kisR_null, ksz_nil, ksz_iv, ksz_ref, ksz_null, ksz_lv, kfit_int, kfit_long, kfit_obj, kfit_objN, kfit_arr, kfit_arrN, knarI, knarZ0, knarZ1, kret_v, kret_n, kret_x, Nat.reduceAdd, Nat.reduceLeDiff, reduceCtorEq, Int.reduceLE, Int.reduceLT, Int.reduceEq, ite_true, ite_false, true_or, or_true, false_implies, true_implies, not_true_eq_false, not_false_eq_true, and_self, eq_self, klc_lt, klc_ge, klc_le, klc_gt, klc_eq, kmu_eq, kmu_f, kmu_i, kmu_j, z, Nat.zero_le, show 1 ≤ d by omega]
    exact this
theorem w6 (I : kIv E A V C R t) (ht : t ≤ 600) (hb : kHp J A V C R b = some (4000, xs.map Value.int)) (i0 : 0 ≤ i) (i1 : i + 5 ≤ xs.length) (hln : xs.length ≤ 2560) (hd : 50 ≤ d) (hc : 121 ≤ c) (hl : 2786 ≤ l) (H : kNx E d b xs V A t i c l Q) :
    ka_W (kp E) (d, (0, 473, [some (.ref b), some (.ref (A 0 0)), some (.ref (A 9 0)), some (.ref (A 36 0)), some (iv i), x5, x6], []), (kHp J A V C R, c, l)) Q := by
  obtain ⟨hA, v, -⟩ := id I
  simp (disch := first | assumption | (unfold kR; decide) | exact klc_R | (unfold kR; omega) | omega | (unfold kL; omega) | exact kcat_null | exact kcat_ref _ | exact kcat_iv _) only [r0_473, r0_474, r0_475, r0_477, r0_478, r0_479, r0_480, ksc_ok hb, ksc_g hb, true_and, and_true, kk1_i, kk1_r, kk1_n, kk1_0, kcat_iv, kcat_ref, kcat_null, kisR_ref, kisR_null, ksz_nil, ksz_iv, ksz_ref, ksz_null, ksz_lv, kfit_int, kfit_long, kfit_obj, kfit_objN, kfit_arr, kfit_arrN, knarI, knarZ0, knarZ1, kret_v, kret_n, kret_x, Nat.reduceAdd, Nat.reduceLeDiff, reduceCtorEq, Int.reduceLE, Int.reduceLT, Int.reduceEq, ite_true, ite_false, true_or, or_true, false_implies, true_implies, not_true_eq_false, not_false_eq_true, and_self, eq_self, klc_lt, klc_ge, klc_le, klc_gt, klc_eq, kmu_eq, kmu_f, kmu_i, kmu_j, Nat.zero_le, show 1 ≤ d by omega]
  refine kkeep rfl hb ?_
  refine u6 I ht ksc_r (D := d - 1) (by omega) (by omega) hc hl (fun J' A' V' C' R' c' l' j1 j2 j3 j4 j5 hb1 => ?_)
  have hI := j1
  obtain ⟨hA', v', -, rw', -⟩ := hI
  have e0 := (j2 0 0 (by decide) (by decide) (by decide) (by decide) (by decide) (by decide) v.l0).2
  have e9 := (j2 9 0 (by decide) (by decide) (by decide) (by decide) (by decide) (by decide) v.l9).2
  have e36 := (j2 36 0 (by decide) (by decide) (by decide) (by decide) (by decide) (by decide) v.l36).2
  rw [← e36, ← e9, ← e0]
  have B0 := rw'.i0
  simp (disch := first | assumption | (unfold kR; decide) | exact klc_R | (unfold kR; omega) | omega | (unfold kL; omega) | exact kcat_null | exact kcat_ref _ | exact kcat_iv _) only [r0_483, r0_485, r0_486, r0_487, r0_489, r0_490, r0_491, r0_492, ht_9 hA' v'.l9, ksc_ok hb1, ksc_g hb1, true_and, and_true, kk1_i, kk1_r, kk1_n, kk1_0, kcat_iv, kcat_ref, kcat_null, kisR_ref, kisR_null, ksz_nil, ksz_iv, ksz_ref, ksz_null, ksz_lv, kfit_int, kfit_long, kfit_obj, kfit_objN, kfit_arr, kfit_arrN, knarI, knarZ0, knarZ1, kret_v, kret_n, kret_x, Nat.reduceAdd, Nat.reduceLeDiff, reduceCtorEq, Int.reduceLE, Int.reduceLT, Int.reduceEq, ite_true, ite_false, true_or, or_true, false_implies, true_implies, not_true_eq_false, not_false_eq_true, and_self, eq_self, klc_lt, klc_ge, klc_le, klc_gt, klc_eq, kmu_eq, kmu_f, kmu_i, kmu_j, Nat.zero_le, show 1 ≤ d by omega]
  refine kkeep rfl hb1 (j5 _ _ (fun hb2 => ?_))
  have := H J' A' V' C' R' c' l' (some (iv (R' 9 0 0))) x6 j1 hb2 j3 j4
  simp (disch := first | assumption | (unfold kR; decide) | exact klc_R | (unfold kR; omega) | omega | (unfold kL; omega) | exact kcat_null | exact kcat_ref _ | exact kcat_iv _) only [r0_495, r0_496, r0_499, r0_501, r0_504, r0_505, r0_506, ht_9 hA' v'.l9, j118 hA' v' rw', true_and, and_true, kk1_i, kk1_r, kk1_n, kk1_0, kcat_iv, kcat_ref, kcat_null, kisR_ref, kisR_null, ksz_nil, ksz_iv, ksz_ref, ksz_null, ksz_lv, kfit_int, kfit_long, kfit_obj, kfit_objN, kfit_arr, kfit_arrN, knarI, knarZ0, knarZ1, kret_v, kret_n, kret_x, Nat.reduceAdd, Nat.reduceLeDiff, reduceCtorEq, Int.reduceLE, Int.reduceLT, Int.reduceEq, ite_true, ite_false, true_or, or_true, false_implies, true_implies, not_true_eq_false, not_false_eq_true, and_self, eq_self, klc_lt, klc_ge, klc_le, klc_gt, klc_eq, kmu_eq, kmu_f, kmu_i, kmu_j, Nat.zero_le, show 1 ≤ d by omega]
  exact this
theorem w7 (I : kIv E A V C R t) (ht : t ≤ 600) (hb : kHp J A V C R b = some (4000, xs.map Value.int)) (i0 : 0 ≤ i) (i1 : i + 5 ≤ xs.length) (hln : xs.length ≤ 2560) (hd : 50 ≤ d) (hc : 121 ≤ c) (hl : 2786 ≤ l) (H : kNx E d b xs V A t i c l Q) :
    ka_W (kp E) (d, (0, 509, [some (.ref b), some (.ref (A 0 0)), some (.ref (A 9 0)), some (.ref (A 36 0)), some (iv i), x5, x6], []), (kHp J A V C R, c, l)) Q := by
  obtain ⟨hA, v, -⟩ := id I
  simp (disch := first | assumption | (unfold kR; decide) | exact klc_R | (unfold kR; omega) | omega | (unfold kL; omega) | exact kcat_null | exact kcat_ref _ | exact kcat_iv _) only [r0_509, r0_510, r0_511, r0_513, r0_514, r0_515, r0_516, r0_517, r0_519, r0_520, r0_521, r0_522, ksc_ok hb, ksc_g hb, true_and, and_true, kk1_i, kk1_r, kk1_n, kk1_0, kcat_iv, kcat_ref, kcat_null, kisR_ref, kisR_null, ksz_nil, ksz_iv, ksz_ref, ksz_null, ksz_lv, kfit_int, kfit_long, kfit_obj, kfit_objN, kfit_arr, kfit_arrN, knarI, knarZ0, knarZ1, kret_v, kret_n, kret_x, Nat.reduceAdd, Nat.reduceLeDiff, reduceCtorEq, Int.reduceLE, Int.reduceLT, Int.reduceEq, ite_true, ite_false, true_or, or_true, false_implies, true_implies, not_true_eq_false, not_false_eq_true, and_self, eq_self, klc_lt, klc_ge, klc_le, klc_gt, klc_eq, kmu_eq, kmu_f, kmu_i, kmu_j, Nat.zero_le, show 1 ≤ d by omega]
  refine kkeep rfl hb ?_
  refine u7 I ht ksc_r ksc_r (D := d - 1) (by omega) (by omega) hc hl (fun J' A' V' C' R' c' l' j1 j2 j3 j4 j5 hb1 => ?_)
  have hI := j1
  obtain ⟨hA', v', -, rw', -⟩ := hI
  have e0 := (j2 0 0 (by decide) (by decide) (by decide) (by decide) (by decide) (by decide) v.l0).2
  have e9 := (j2 9 0 (by decide) (by decide) (by decide) (by decide) (by decide) (by decide) v.l9).2
  have e36 := (j2 36 0 (by decide) (by decide) (by decide) (by decide) (by decide) (by decide) v.l36).2
  rw [← e36, ← e9, ← e0]
  have B0 := rw'.i0
  simp (disch := first | assumption | (unfold kR; decide) | exact klc_R | (unfold kR; omega) | omega | (unfold kL; omega) | exact kcat_null | exact kcat_ref _ | exact kcat_iv _) only [r0_525, r0_527, r0_528, r0_529, r0_531, r0_532, r0_533, r0_534, r0_535, r0_537, r0_538, r0_539, r0_540, ht_9 hA' v'.l9, ksc_ok hb1, ksc_g hb1, true_and, and_true, kk1_i, kk1_r, kk1_n, kk1_0, kcat_iv, kcat_ref, kcat_null, kisR_ref, kisR_null, ksz_nil, ksz_iv, ksz_ref, ksz_null, ksz_lv, kfit_int, kfit_long, kfit_obj, kfit_objN, kfit_arr, kfit_arrN, knarI, knarZ0, knarZ1, kret_v, kret_n, kret_x, Nat.reduceAdd, Nat.reduceLeDiff, reduceCtorEq, Int.reduceLE, Int.reduceLT, Int.reduceEq, ite_true, ite_false, true_or, or_true, false_implies, true_implies, not_true_eq_false, not_false_eq_true, and_self, eq_self, klc_lt, klc_ge, klc_le, klc_gt, klc_eq, kmu_eq, kmu_f, kmu_i, kmu_j, Nat.zero_le, show 1 ≤ d by omega]
  refine kkeep rfl hb1 (j5 _ _ (fun hb2 => ?_))
  have := H J' A' V' C' R' c' l' (some (iv (R' 9 0 0))) x6 j1 hb2 j3 j4
  simp (disch := first | assumption | (unfold kR; decide) | exact klc_R | (unfold kR; omega) | omega | (unfold kL; omega) | exact kcat_null | exact kcat_ref _ | exact kcat_iv _) only [r0_543, r0_544, r0_547, r0_549, r0_552, r0_553, r0_554, ht_9 hA' v'.l9, j118 hA' v' rw', true_and, and_true, kk1_i, kk1_r, kk1_n, kk1_0, kcat_iv, kcat_ref, kcat_null, kisR_ref, kisR_null, ksz_nil, ksz_iv, ksz_ref, ksz_null, ksz_lv, kfit_int, kfit_long, kfit_obj, kfit_objN, kfit_arr, kfit_arrN, knarI, knarZ0, knarZ1, kret_v, kret_n, kret_x, Nat.reduceAdd, Nat.reduceLeDiff, reduceCtorEq, Int.reduceLE, Int.reduceLT, Int.reduceEq, ite_true, ite_false, true_or, or_true, false_implies, true_implies, not_true_eq_false, not_false_eq_true, and_self, eq_self, klc_lt, klc_ge, klc_le, klc_gt, klc_eq, kmu_eq, kmu_f, kmu_i, kmu_j, Nat.zero_le, show 1 ≤ d by omega]
  exact this
theorem w8 (I : kIv E A V C R t) (ht : t ≤ 600) (hb : kHp J A V C R b = some (4000, xs.map Value.int)) (i0 : 0 ≤ i) (i1 : i + 5 ≤ xs.length) (hln : xs.length ≤ 2560) (hd : 50 ≤ d) (hc : 121 ≤ c) (hl : 2786 ≤ l) (H : kNx E d b xs V A t i c l Q) :
    ka_W (kp E) (d, (0, 557, [some (.ref b), some (.ref (A 0 0)), some (.ref (A 9 0)), some (.ref (A 36 0)), some (iv i), x5, x6], []), (kHp J A V C R, c, l)) Q := by
  obtain ⟨hA, v, -⟩ := id I
  simp (disch := first | assumption | (unfold kR; decide) | exact klc_R | (unfold kR; omega) | omega | (unfold kL; omega) | exact kcat_null | exact kcat_ref _ | exact kcat_iv _) only [r0_557, r0_558, r0_559, r0_561, r0_562, r0_563, r0_564, r0_565, ksc_ok hb, ksc_g hb, true_and, and_true, kk1_i, kk1_r, kk1_n, kk1_0, kcat_iv, kcat_ref, kcat_null, kisR_ref, kisR_null, ksz_nil, ksz_iv, ksz_ref, ksz_null, ksz_lv, kfit_int, kfit_long, kfit_obj, kfit_objN, kfit_arr, kfit_arrN, knarI, knarZ0, knarZ1, kret_v, kret_n, kret_x, Nat.reduceAdd, Nat.reduceLeDiff, reduceCtorEq, Int.reduceLE, Int.reduceLT, Int.reduceEq, ite_true, ite_false, true_or, or_true, false_implies, true_implies, not_true_eq_false, not_false_eq_true, and_self, eq_self, klc_lt, klc_ge, klc_le, klc_gt, klc_eq, kmu_eq, kmu_f, kmu_i, kmu_j, Nat.zero_le, show 1 ≤ d by omega]
  refine kkeep rfl hb ?_
  refine u8 I ht ksc_r (D := d - 1) (by omega) (by omega) hc hl (fun J' A' V' C' R' c' l' x' hx' j1 j2 j3 j4 j5 j6 hb1 => ?_)
  have hI := j1
  obtain ⟨hA', v', -, rw', -⟩ := hI
  have e0 := (j2 0 0 (by decide) (by decide) (by decide) (by decide) (by decide) (by decide) v.l0).2
  have e9 := (j2 9 0 (by decide) (by decide) (by decide) (by decide) (by decide) (by decide) v.l9).2
  have e36 := (j2 36 0 (by decide) (by decide) (by decide) (by decide) (by decide) (by decide) v.l36).2
  rw [← e36, ← e9, ← e0]
  have B0 := rw'.i0
  simp (disch := first | assumption | (unfold kR; decide) | exact klc_R | (unfold kR; omega) | omega | (unfold kL; omega) | exact kcat_null | exact kcat_ref _ | exact kcat_iv _) only [r0_568, r0_570, r0_571, r0_572, r0_574, r0_575, r0_576, r0_577, ht_9 hA' v'.l9, ksc_ok hb1, ksc_g hb1, true_and, and_true, kk1_i, kk1_r, kk1_n, kk1_0, kcat_iv, kcat_ref, kcat_null, kisR_ref, kisR_null, ksz_nil, ksz_iv, ksz_ref, ksz_null, ksz_lv, kfit_int, kfit_long, kfit_obj, kfit_objN, kfit_arr, kfit_arrN, knarI, knarZ0, knarZ1, kret_v, kret_n, kret_x, Nat.reduceAdd, Nat.reduceLeDiff, reduceCtorEq, Int.reduceLE, Int.reduceLT, Int.reduceEq, ite_true, ite_false, true_or, or_true, false_implies, true_implies, not_true_eq_false, not_false_eq_true, and_self, eq_self, klc_lt, klc_ge, klc_le, klc_gt, klc_eq, kmu_eq, kmu_f, kmu_i, kmu_j, Nat.zero_le, show 1 ≤ d by omega]
  refine kkeep rfl hb1 (j5 _ _ (fun hb2 => ?_))
  have := H J' A' V' C' R' c' l' (some (iv (R' 9 0 0))) (some (iv x')) j1 hb2 j3 j4
  by_cases z : R' 9 0 0 = 0
  · have z6 := j6 z
    rw [z] at this
    have hL : kL x' := by unfold kL; unfold kR at hx'; omega
    simp (disch := first | assumption | (unfold kR; decide) | exact klc_R | (unfold kR; omega) | omega | (unfold kL; omega) | exact kcat_null | exact kcat_ref _ | exact kcat_iv _) only [r0_580, r0_582, r0_583, r0_586, r0_588, r0_591, r0_592, r0_593, r0_595, r0_598, r0_599, r0_600, r0_601, r0_603, r0_604, r0_605, r0_608, r0_609, r0_610, ht_9 hA' v'.l9, j118 hA' v' rw', hoa_36 hA' v'.l36, hga_36 hA' v'.l36, true_and, and_true, kk1_i, kk1_r, kk1_n, kk1_0, kcat_iv, kcat_ref, kcat_null, kisR_ref, kisR_null, ksz_nil, ksz_iv, ksz_ref, ksz_null, ksz_lv, kfit_int, kfit_long, kfit_obj, kfit_objN, kfit_arr, kfit_arrN, knarI, knarZ0, knarZ1, kret_v, kret_n, kret_x, Nat.reduceAdd, Nat.reduceLeDiff, reduceCtorEq, Int.reduceLE, Int.reduceLT, Int.reduceEq, ite_true, ite_false, true_or, or_true, false_implies, true_implies, not_true_eq_false, not_false_eq_true, and_self, eq_self, klc_lt, klc_ge, klc_le, klc_gt, klc_eq, kmu_eq, kmu_f, kmu_i, kmu_j, z, z6, Int.lt_irrefl, Nat.zero_le, show 1 ≤ d by omega]
    exact this
  · simp (disch := first | assumption | (unfold kR; decide) | exact klc_R | (unfold kR; omega) | omega | (unfold kL; omega) | exact kcat_null | exact kcat_ref _ | exact kcat_iv _) only [r0_580, r0_582, r0_583, r0_586, r0_588, r0_591, r0_592, r0_593, r0_595, r0_598, r0_599, r0_600, r0_601, r0_603, r0_604, r0_605, r0_608, r0_609, r0_610, ht_9 hA' v'.l9, j118 hA' v' rw', true_and, and_true, kk1_i, kk1_r, kk1_n, kk1_0, kcat_iv, kcat_ref, kcat_null, kisR_ref, kisR_null, ksz_nil, ksz_iv, ksz_ref, ksz_null, ksz_lv, kfit_int, kfit_long, kfit_obj, kfit_objN, kfit_arr, kfit_arrN, knarI, knarZ0, knarZ1, kret_v, kret_n, kret_x, Nat.reduceAdd, Nat.reduceLeDiff, reduceCtorEq, Int.reduceLE, Int.reduceLT, Int.reduceEq, ite_true, ite_false, true_or, or_true, false_implies, true_implies, not_true_eq_false, not_false_eq_true, and_self, eq_self, klc_lt, klc_ge, klc_le, klc_gt, klc_eq, kmu_eq, kmu_f, kmu_i, kmu_j, z, Nat.zero_le, show 1 ≤ d by omega]
    exact this
theorem w9 (I : kIv E A V C R t) (ht : t ≤ 600) (hb : kHp J A V C R b = some (4000, xs.map Value.int)) (i0 : 0 ≤ i) (i1 : i + 5 ≤ xs.length) (hln : xs.length ≤ 2560) (hd : 50 ≤ d) (hc : 121 ≤ c) (hl : 2786 ≤ l) (H : kNx E d b xs V A t i c l Q) :
    ka_W (kp E) (d, (0, 613, [some (.ref b), some (.ref (A 0 0)), some (.ref (A 9 0)), some (.ref (A 36 0)), some (iv i), x5, x6], []), (kHp J A V C R, c, l)) Q := by
  obtain ⟨hA, v, -⟩ := id I
  simp (disch := first | assumption | (unfold kR; decide) | exact klc_R | (unfold kR; omega) | omega | (unfold kL; omega) | exact kcat_null | exact kcat_ref _ | exact kcat_iv _) only [r0_613, r0_614, r0_615, r0_617, r0_618, r0_619, r0_620, r0_621, r0_623, r0_624, r0_625, r0_626, r0_627, ksc_ok hb, ksc_g hb, true_and, and_true, kk1_i, kk1_r, kk1_n, kk1_0, kcat_iv, kcat_ref, kcat_null, kisR_ref, kisR_null, ksz_nil, ksz_iv, ksz_ref, ksz_null, ksz_lv, kfit_int, kfit_long, kfit_obj, kfit_objN, kfit_arr, kfit_arrN, knarI, knarZ0, knarZ1, kret_v, kret_n, kret_x, Nat.reduceAdd, Nat.reduceLeDiff, reduceCtorEq, Int.reduceLE, Int.reduceLT, Int.reduceEq, ite_true, ite_false, true_or, or_true, false_implies, true_implies, not_true_eq_false, not_false_eq_true, and_self, eq_self, klc_lt, klc_ge, klc_le, klc_gt, klc_eq, kmu_eq, kmu_f, kmu_i, kmu_j, Nat.zero_le, show 1 ≤ d by omega]
  refine kkeep rfl hb ?_
  refine u9 I ht ksc_r ksc_r (D := d - 1) (by omega) (by omega) hc hl (fun J' A' V' C' R' c' l' x' hx' j1 j2 j3 j4 j5 j6 hb1 => ?_)
  have hI := j1
  obtain ⟨hA', v', -, rw', -⟩ := hI
  have e0 := (j2 0 0 (by decide) (by decide) (by decide) (by decide) (by decide) (by decide) v.l0).2
  have e9 := (j2 9 0 (by decide) (by decide) (by decide) (by decide) (by decide) (by decide) v.l9).2
  have e36 := (j2 36 0 (by decide) (by decide) (by decide) (by decide) (by decide) (by decide) v.l36).2
  rw [← e36, ← e9, ← e0]
  have B0 := rw'.i0
  simp (disch := first | assumption | (unfold kR; decide) | exact klc_R | (unfold kR; omega) | omega | (unfold kL; omega) | exact kcat_null | exact kcat_ref _ | exact kcat_iv _) only [r0_630, r0_632, r0_633, r0_634, r0_636, r0_637, r0_638, r0_639, r0_640, r0_642, r0_643, r0_644, r0_645, ht_9 hA' v'.l9, ksc_ok hb1, ksc_g hb1, true_and, and_true, kk1_i, kk1_r, kk1_n, kk1_0, kcat_iv, kcat_ref, kcat_null, kisR_ref, kisR_null, ksz_nil, ksz_iv, ksz_ref, ksz_null, ksz_lv, kfit_int, kfit_long, kfit_obj, kfit_objN, kfit_arr, kfit_arrN, knarI, knarZ0, knarZ1, kret_v, kret_n, kret_x, Nat.reduceAdd, Nat.reduceLeDiff, reduceCtorEq, Int.reduceLE, Int.reduceLT, Int.reduceEq, ite_true, ite_false, true_or, or_true, false_implies, true_implies, not_true_eq_false, not_false_eq_true, and_self, eq_self, klc_lt, klc_ge, klc_le, klc_gt, klc_eq, kmu_eq, kmu_f, kmu_i, kmu_j, Nat.zero_le, show 1 ≤ d by omega]
  refine kkeep rfl hb1 (j5 _ _ (fun hb2 => ?_))
  have := H J' A' V' C' R' c' l' (some (iv (R' 9 0 0))) (some (iv x')) j1 hb2 j3 j4
  by_cases z : R' 9 0 0 = 0
  · have z6 := j6 z
    rw [z] at this
    have hL : kL x' := by unfold kL; unfold kR at hx'; omega
    simp (disch := first | assumption | (unfold kR; decide) | exact klc_R | (unfold kR; omega) | omega | (unfold kL; omega) | exact kcat_null | exact kcat_ref _ | exact kcat_iv _) only [r0_648, r0_650, r0_651, r0_654, r0_656, r0_659, r0_660, r0_661, r0_663, r0_666, r0_667, r0_668, r0_669, r0_671, r0_672, r0_673, r0_676, r0_677, r0_678, ht_9 hA' v'.l9, j118 hA' v' rw', hoa_36 hA' v'.l36, hga_36 hA' v'.l36, true_and, and_true, kk1_i, kk1_r, kk1_n, kk1_0, kcat_iv, kcat_ref, kcat_null, kisR_ref, kisR_null, ksz_nil, ksz_iv, ksz_ref, ksz_null, ksz_lv, kfit_int, kfit_long, kfit_obj, kfit_objN, kfit_arr, kfit_arrN, knarI, knarZ0, knarZ1, kret_v, kret_n, kret_x, Nat.reduceAdd, Nat.reduceLeDiff, reduceCtorEq, Int.reduceLE, Int.reduceLT, Int.reduceEq, ite_true, ite_false, true_or, or_true, false_implies, true_implies, not_true_eq_false, not_false_eq_true, and_self, eq_self, klc_lt, klc_ge, klc_le, klc_gt, klc_eq, kmu_eq, kmu_f, kmu_i, kmu_j, z, z6, Int.lt_irrefl, Nat.zero_le, show 1 ≤ d by omega]
    exact this
  · simp (disch := first | assumption | (unfold kR; decide) | exact klc_R | (unfold kR; omega) | omega | (unfold kL; omega) | exact kcat_null | exact kcat_ref _ | exact kcat_iv _) only [r0_648, r0_650, r0_651, r0_654, r0_656, r0_659, r0_660, r0_661, r0_663, r0_666, r0_667, r0_668, r0_669, r0_671, r0_672, r0_673, r0_676, r0_677, r0_678, ht_9 hA' v'.l9, j118 hA' v' rw', true_and, and_true, kk1_i, kk1_r, kk1_n, kk1_0, kcat_iv, kcat_ref, kcat_null, kisR_ref, kisR_null, ksz_nil, ksz_iv, ksz_ref, ksz_null, ksz_lv, kfit_int, kfit_long, kfit_obj, kfit_objN, kfit_arr, kfit_arrN, knarI, knarZ0, knarZ1, kret_v, kret_n, kret_x, Nat.reduceAdd, Nat.reduceLeDiff, reduceCtorEq, Int.reduceLE, Int.reduceLT, Int.reduceEq, ite_true, ite_false, true_or, or_true, false_implies, true_implies, not_true_eq_false, not_false_eq_true, and_self, eq_self, klc_lt, klc_ge, klc_le, klc_gt, klc_eq, kmu_eq, kmu_f, kmu_i, kmu_j, z, Nat.zero_le, show 1 ≤ d by omega]
    exact this
theorem w10 (I : kIv E A V C R t) (ht : t ≤ 600) (hb : kHp J A V C R b = some (4000, xs.map Value.int)) (i0 : 0 ≤ i) (i1 : i + 5 ≤ xs.length) (hln : xs.length ≤ 2560) (hd : 50 ≤ d) (hc : 121 ≤ c) (hl : 2786 ≤ l) (H : kNx E d b xs V A t i c l Q) :
    ka_W (kp E) (d, (0, 681, [some (.ref b), some (.ref (A 0 0)), some (.ref (A 9 0)), some (.ref (A 36 0)), some (iv i), x5, x6], []), (kHp J A V C R, c, l)) Q := by
  obtain ⟨hA, v, -⟩ := id I
  simp (disch := first | assumption | (unfold kR; decide) | exact klc_R | (unfold kR; omega) | omega | (unfold kL; omega) | exact kcat_null | exact kcat_ref _ | exact kcat_iv _) only [r0_681, r0_682, r0_683, r0_685, r0_686, r0_687, r0_688, r0_689, r0_691, r0_692, r0_693, r0_694, r0_695, ksc_ok hb, ksc_g hb, true_and, and_true, kk1_i, kk1_r, kk1_n, kk1_0, kcat_iv, kcat_ref, kcat_null, kisR_ref, kisR_null, ksz_nil, ksz_iv, ksz_ref, ksz_null, ksz_lv, kfit_int, kfit_long, kfit_obj, kfit_objN, kfit_arr, kfit_arrN, knarI, knarZ0, knarZ1, kret_v, kret_n, kret_x, Nat.reduceAdd, Nat.reduceLeDiff, reduceCtorEq, Int.reduceLE, Int.reduceLT, Int.reduceEq, ite_true, ite_false, true_or, or_true, false_implies, true_implies, not_true_eq_false, not_false_eq_true, and_self, eq_self, klc_lt, klc_ge, klc_le, klc_gt, klc_eq, kmu_eq, kmu_f, kmu_i, kmu_j, Nat.zero_le, show 1 ≤ d by omega]
  refine kkeep rfl hb ?_
  refine u10 I ht ksc_r ksc_r (D := d - 1) (by omega) (by omega) hc hl (fun J' A' V' C' R' c' l' x' hx' j1 j2 j3 j4 j5 j6 hb1 => ?_)
  have hI := j1
  obtain ⟨hA', v', -, rw', -⟩ := hI
  have e0 := (j2 0 0 (by decide) (by decide) (by decide) (by decide) (by decide) (by decide) v.l0).2
  have e9 := (j2 9 0 (by decide) (by decide) (by decide) (by decide) (by decide) (by decide) v.l9).2
  have e36 := (j2 36 0 (by decide) (by decide) (by decide) (by decide) (by decide) (by decide) v.l36).2
  rw [← e36, ← e9, ← e0]
  have B0 := rw'.i0
  simp (disch := first | assumption | (unfold kR; decide) | exact klc_R | (unfold kR; omega) | omega | (unfold kL; omega) | exact kcat_null | exact kcat_ref _ | exact kcat_iv _) only [r0_698, r0_700, r0_701, r0_702, r0_704, r0_705, r0_706, r0_707, r0_708, r0_710, r0_711, r0_712, r0_713, ht_9 hA' v'.l9, ksc_ok hb1, ksc_g hb1, true_and, and_true, kk1_i, kk1_r, kk1_n, kk1_0, kcat_iv, kcat_ref, kcat_null, kisR_ref, kisR_null, ksz_nil, ksz_iv, ksz_ref, ksz_null, ksz_lv, kfit_int, kfit_long, kfit_obj, kfit_objN, kfit_arr, kfit_arrN, knarI, knarZ0, knarZ1, kret_v, kret_n, kret_x, Nat.reduceAdd, Nat.reduceLeDiff, reduceCtorEq, Int.reduceLE, Int.reduceLT, Int.reduceEq, ite_true, ite_false, true_or, or_true, false_implies, true_implies, not_true_eq_false, not_false_eq_true, and_self, eq_self, klc_lt, klc_ge, klc_le, klc_gt, klc_eq, kmu_eq, kmu_f, kmu_i, kmu_j, Nat.zero_le, show 1 ≤ d by omega]
  refine kkeep rfl hb1 (j5 _ _ (fun hb2 => ?_))
  have := H J' A' V' C' R' c' l' (some (iv (R' 9 0 0))) (some (iv x')) j1 hb2 j3 j4
  by_cases z : R' 9 0 0 = 0
  · have z6 := j6 z
    rw [z] at this
    have hL : kL x' := by unfold kL; unfold kR at hx'; omega
    simp (disch := first | assumption | (unfold kR; decide) | exact klc_R | (unfold kR; omega) | omega | (unfold kL; omega) | exact kcat_null | exact kcat_ref _ | exact kcat_iv _) only [r0_716, r0_718, r0_719, r0_722, r0_724, r0_727, r0_728, r0_729, r0_731, r0_734, r0_735, r0_736, r0_737, r0_739, r0_740, r0_741, r0_744, r0_745, r0_746, ht_9 hA' v'.l9, j118 hA' v' rw', hoa_36 hA' v'.l36, hga_36 hA' v'.l36, true_and, and_true, kk1_i, kk1_r, kk1_n, kk1_0, kcat_iv, kcat_ref, kcat_null, kisR_ref, kisR_null, ksz_nil, ksz_iv, ksz_ref, ksz_null, ksz_lv, kfit_int, kfit_long, kfit_obj, kfit_objN, kfit_arr, kfit_arrN, knarI, knarZ0, knarZ1, kret_v, kret_n, kret_x, Nat.reduceAdd, Nat.reduceLeDiff, reduceCtorEq, Int.reduceLE, Int.reduceLT, Int.reduceEq, ite_true, ite_false, true_or, or_true, false_implies, true_implies, not_true_eq_false, not_false_eq_true, and_self, eq_self, klc_lt, klc_ge, klc_le, klc_gt, klc_eq, kmu_eq, kmu_f, kmu_i, kmu_j, z, z6, Int.lt_irrefl, Nat.zero_le, show 1 ≤ d by omega]
    exact this
  · simp (disch := first | assumption | (unfold kR; decide) | exact klc_R | (unfold kR; omega) | omega | (unfold kL; omega) | exact kcat_null | exact kcat_ref _ | exact kcat_iv _) only [r0_716, r0_718, r0_719, r0_722, r0_724, r0_727, r0_728, r0_729, r0_731, r0_734, r0_735, r0_736, r0_737, r0_739, r0_740, r0_741, r0_744, r0_745, r0_746, ht_9 hA' v'.l9, j118 hA' v' rw', true_and, and_true, kk1_i, kk1_r, kk1_n, kk1_0, kcat_iv, kcat_ref, kcat_null, kisR_ref, kisR_null, ksz_nil, ksz_iv, ksz_ref, ksz_null, ksz_lv, kfit_int, kfit_long, kfit_obj, kfit_objN, kfit_arr, kfit_arrN, knarI, knarZ0, knarZ1, kret_v, kret_n, kret_x, Nat.reduceAdd, Nat.reduceLeDiff, reduceCtorEq, Int.reduceLE, Int.reduceLT, Int.reduceEq, ite_true, ite_false, true_or, or_true, false_implies, true_implies, not_true_eq_false, not_false_eq_true, and_self, eq_self, klc_lt, klc_ge, klc_le, klc_gt, klc_eq, kmu_eq, kmu_f, kmu_i, kmu_j, z, Nat.zero_le, show 1 ≤ d by omega]
    exact this
theorem w11 (I : kIv E A V C R t) (ht : t ≤ 600) (hb : kHp J A V C R b = some (4000, xs.map Value.int)) (i0 : 0 ≤ i) (i1 : i + 5 ≤ xs.length) (hln : xs.length ≤ 2560) (hd : 50 ≤ d) (hc : 121 ≤ c) (hl : 2786 ≤ l) (H : kNx E d b xs V A t i c l Q) :
    ka_W (kp E) (d, (0, 749, [some (.ref b), some (.ref (A 0 0)), some (.ref (A 9 0)), some (.ref (A 36 0)), some (iv i), x5, x6], []), (kHp J A V C R, c, l)) Q := by
  obtain ⟨hA, v, -⟩ := id I
  simp (disch := first | assumption | (unfold kR; decide) | exact klc_R | (unfold kR; omega) | omega | (unfold kL; omega) | exact kcat_null | exact kcat_ref _ | exact kcat_iv _) only [r0_749, r0_750, r0_751, r0_753, r0_754, r0_755, r0_756, r0_757, r0_759, r0_760, r0_761, r0_762, ksc_ok hb, ksc_g hb, true_and, and_true, kk1_i, kk1_r, kk1_n, kk1_0, kcat_iv, kcat_ref, kcat_null, kisR_ref, kisR_null, ksz_nil, ksz_iv, ksz_ref, ksz_null, ksz_lv, kfit_int, kfit_long, kfit_obj, kfit_objN, kfit_arr, kfit_arrN, knarI, knarZ0, knarZ1, kret_v, kret_n, kret_x, Nat.reduceAdd, Nat.reduceLeDiff, reduceCtorEq, Int.reduceLE, Int.reduceLT, Int.reduceEq, ite_true, ite_false, true_or, or_true, false_implies, true_implies, not_true_eq_false, not_false_eq_true, and_self, eq_self, klc_lt, klc_ge, klc_le, klc_gt, klc_eq, kmu_eq, kmu_f, kmu_i, kmu_j, Nat.zero_le, show 1 ≤ d by omega]
  refine kkeep rfl hb ?_
  refine u11 I ht ksc_r ksc_r (D := d - 1) (by omega) (by omega) hc hl (fun J' A' V' C' R' c' l' j1 j2 j3 j4 j5 hb1 => ?_)
  have hI := j1
  obtain ⟨hA', v', -, rw', -⟩ := hI
  have e0 := (j2 0 0 (by decide) (by decide) (by decide) (by decide) (by decide) (by decide) v.l0).2
  have e9 := (j2 9 0 (by decide) (by decide) (by decide) (by decide) (by decide) (by decide) v.l9).2
  have e36 := (j2 36 0 (by decide) (by decide) (by decide) (by decide) (by decide) (by decide) v.l36).2
  rw [← e36, ← e9, ← e0]
  have B0 := rw'.i0
  simp (disch := first | assumption | (unfold kR; decide) | exact klc_R | (unfold kR; omega) | omega | (unfold kL; omega) | exact kcat_null | exact kcat_ref _ | exact kcat_iv _) only [r0_765, r0_767, r0_768, r0_769, r0_771, r0_772, r0_773, r0_774, r0_775, r0_777, r0_778, r0_779, r0_780, ht_9 hA' v'.l9, ksc_ok hb1, ksc_g hb1, true_and, and_true, kk1_i, kk1_r, kk1_n, kk1_0, kcat_iv, kcat_ref, kcat_null, kisR_ref, kisR_null, ksz_nil, ksz_iv, ksz_ref, ksz_null, ksz_lv, kfit_int, kfit_long, kfit_obj, kfit_objN, kfit_arr, kfit_arrN, knarI, knarZ0, knarZ1, kret_v, kret_n, kret_x, Nat.reduceAdd, Nat.reduceLeDiff, reduceCtorEq, Int.reduceLE, Int.reduceLT, Int.reduceEq, ite_true, ite_false, true_or, or_true, false_implies, true_implies, not_true_eq_false, not_false_eq_true, and_self, eq_self, klc_lt, klc_ge, klc_le, klc_gt, klc_eq, kmu_eq, kmu_f, kmu_i, kmu_j, Nat.zero_le, show 1 ≤ d by omega]
  refine kkeep rfl hb1 (j5 _ _ (fun hb2 => ?_))
  have := H J' A' V' C' R' c' l' (some (iv (R' 9 0 0))) x6 j1 hb2 j3 j4
  simp (disch := first | assumption | (unfold kR; decide) | exact klc_R | (unfold kR; omega) | omega | (unfold kL; omega) | exact kcat_null | exact kcat_ref _ | exact kcat_iv _) only [r0_783, r0_784, r0_787, r0_789, r0_792, r0_793, r0_794, ht_9 hA' v'.l9, j118 hA' v' rw', true_and, and_true, kk1_i, kk1_r, kk1_n, kk1_0, kcat_iv, kcat_ref, kcat_null, kisR_ref, kisR_null, ksz_nil, ksz_iv, ksz_ref, ksz_null, ksz_lv, kfit_int, kfit_long, kfit_obj, kfit_objN, kfit_arr, kfit_arrN, knarI, knarZ0, knarZ1, kret_v, kret_n, kret_x, Nat.reduceAdd, Nat.reduceLeDiff, reduceCtorEq, Int.reduceLE, Int.reduceLT, Int.reduceEq, ite_true, ite_false, true_or, or_true, false_implies, true_implies, not_true_eq_false, not_false_eq_true, and_self, eq_self, klc_lt, klc_ge, klc_le, klc_gt, klc_eq, kmu_eq, kmu_f, kmu_i, kmu_j, Nat.zero_le, show 1 ≤ d by omega]
  exact this
theorem w12 (I : kIv E A V C R t) (ht : t ≤ 600) (hb : kHp J A V C R b = some (4000, xs.map Value.int)) (i0 : 0 ≤ i) (i1 : i + 5 ≤ xs.length) (hln : xs.length ≤ 2560) (hd : 50 ≤ d) (hc : 121 ≤ c) (hl : 2786 ≤ l) (H : kNx E d b xs V A t i c l Q) :
    ka_W (kp E) (d, (0, 797, [some (.ref b), some (.ref (A 0 0)), some (.ref (A 9 0)), some (.ref (A 36 0)), some (iv i), x5, x6], []), (kHp J A V C R, c, l)) Q := by
  obtain ⟨hA, v, -⟩ := id I
  have hz := ksc_r (xs := xs) (x := i + 3)
  by_cases zb : ksc xs (i + 3) = 0
  · simp (disch := first | assumption | (unfold kR; decide) | exact klc_R | (unfold kR; omega) | omega | (unfold kL; omega) | exact kcat_null | exact kcat_ref _ | exact kcat_iv _) only [r0_797, r0_798, r0_799, r0_801, r0_802, r0_803, r0_804, r0_805, r0_807, r0_808, r0_809, r0_810, r0_811, r0_813, r0_814, r0_815, r0_816, r0_819, r0_820, r0_823, r0_824, r0_825, ksc_ok hb, ksc_g hb, true_and, and_true, kk1_i, kk1_r, kk1_n, kk1_0, kcat_iv, kcat_ref, kcat_null, kisR_ref, kisR_null, ksz_nil, ksz_iv, ksz_ref, ksz_null, ksz_lv, kfit_int, kfit_long, kfit_obj, kfit_objN, kfit_arr, kfit_arrN, knarI, knarZ0, knarZ1, kret_v, kret_n, kret_x, Nat.reduceAdd, Nat.reduceLeDiff, reduceCtorEq, Int.reduceLE, Int.reduceLT, Int.reduceEq, ite_true, ite_false, true_or, or_true, false_implies, true_implies, not_true_eq_false, not_false_eq_true, and_self, eq_self, klc_lt, klc_ge, klc_le, klc_gt, klc_eq, kmu_eq, kmu_f, kmu_i, kmu_j, Nat.zero_le, show 1 ≤ d by omega, zb]
    refine kkeep rfl hb ?_
    refine u12 I ht ksc_r ksc_r (Or.inl rfl) (D := d - 1) (by omega) (by omega) hc hl (fun J' A' V' C' R' c' l' x' hx' j1 j2 j3 j4 j5 j6 hb1 => ?_)
    have hI := j1
    obtain ⟨hA', v', -, rw', -⟩ := hI
    have e0 := (j2 0 0 (by decide) (by decide) (by decide) (by decide) (by decide) (by decide) v.l0).2
    have e9 := (j2 9 0 (by decide) (by decide) (by decide) (by decide) (by decide) (by decide) v.l9).2
    have e36 := (j2 36 0 (by decide) (by decide) (by decide) (by decide) (by decide) (by decide) v.l36).2
    rw [← e36, ← e9, ← e0]
    have B0 := rw'.i0
    simp (disch := first | assumption | (unfold kR; decide) | exact klc_R | (unfold kR; omega) | omega | (unfold kL; omega) | exact kcat_null | exact kcat_ref _ | exact kcat_iv _) only [r0_828, r0_830, r0_831, r0_832, r0_834, r0_835, r0_836, r0_837, r0_838, r0_840, r0_841, r0_842, r0_843, r0_844, r0_846, r0_847, r0_848, r0_849, r0_852, r0_853, r0_856, r0_857, ht_9 hA' v'.l9, ksc_ok hb1, ksc_g hb1, true_and, and_true, kk1_i, kk1_r, kk1_n, kk1_0, kcat_iv, kcat_ref, kcat_null, kisR_ref, kisR_null, ksz_nil, ksz_iv, ksz_ref, ksz_null, ksz_lv, kfit_int, kfit_long, kfit_obj, kfit_objN, kfit_arr, kfit_arrN, knarI, knarZ0, knarZ1, kret_v, kret_n, kret_x, Nat.reduceAdd, Nat.reduceLeDiff, reduceCtorEq, Int.reduceLE, Int.reduceLT, Int.reduceEq, ite_true, ite_false, true_or, or_true, false_implies, true_implies, not_true_eq_false, not_false_eq_true, and_self, eq_self, klc_lt, klc_ge, klc_le, klc_gt, klc_eq, kmu_eq, kmu_f, kmu_i, kmu_j, Nat.zero_le, show 1 ≤ d by omega, zb]
    refine kkeep rfl hb1 (j5 _ _ (fun hb2 => ?_))
    have := H J' A' V' C' R' c' l' (some (iv (R' 9 0 0))) (some (iv x')) j1 hb2 j3 j4
    by_cases z : R' 9 0 0 = 0
    · have z6 := j6 z
      rw [z] at this
      have hL : kL x' := by unfold kL; unfold kR at hx'; omega
      simp (disch := first | assumption | (unfold kR; decide) | exact klc_R | (unfold kR; omega) | omega | (unfold kL; omega) | exact kcat_null | exact kcat_ref _ | exact kcat_iv _) only [r0_860, r0_862, r0_863, r0_866, r0_868, r0_871, r0_872, r0_873, r0_875, r0_878, r0_879, r0_880, r0_881, r0_883, r0_884, r0_885, r0_888, r0_889, r0_890, ht_9 hA' v'.l9, j118 hA' v' rw', hoa_36 hA' v'.l36, hga_36 hA' v'.l36, true_and, and_true, kk1_i, kk1_r, kk1_n, kk1_0, kcat_iv, kcat_ref, kcat_null, kisR_ref, kisR_null, ksz_nil, ksz_iv, ksz_ref, ksz_null, ksz_lv, kfit_int, kfit_long, kfit_obj, kfit_objN, kfit_arr, kfit_arrN, knarI, knarZ0, knarZ1, kret_v, kret_n, kret_x, Nat.reduceAdd, Nat.reduceLeDiff, reduceCtorEq, Int.reduceLE, Int.reduceLT, Int.reduceEq, ite_true, ite_false, true_or, or_true, false_implies, true_implies, not_true_eq_false, not_false_eq_true, and_self, eq_self, klc_lt, klc_ge, klc_le, klc_gt, klc_eq, kmu_eq, kmu_f, kmu_i, kmu_j, z, z6, Int.lt_irrefl, Nat.zero_le, show 1 ≤ d by omega]
      exact this
    · simp (disch := first | assumption | (unfold kR; decide) | exact klc_R | (unfold kR; omega) | omega | (unfold kL; omega) | exact kcat_null | exact kcat_ref _ | exact kcat_iv _) only [r0_860, r0_862, r0_863, r0_866, r0_868, r0_871, r0_872, r0_873, r0_875, r0_878, r0_879, r0_880, r0_881, r0_883, r0_884, r0_885, r0_888, r0_889, r0_890, ht_9 hA' v'.l9, j118 hA' v' rw', true_and, and_true, kk1_i, kk1_r, kk1_n, kk1_0, kcat_iv, kcat_ref, kcat_null, kisR_ref, kisR_null, ksz_nil, ksz_iv, ksz_ref, ksz_null, ksz_lv, kfit_int, kfit_long, kfit_obj, kfit_objN, kfit_arr, kfit_arrN, knarI, knarZ0, knarZ1, kret_v, kret_n, kret_x, Nat.reduceAdd, Nat.reduceLeDiff, reduceCtorEq, Int.reduceLE, Int.reduceLT, Int.reduceEq, ite_true, ite_false, true_or, or_true, false_implies, true_implies, not_true_eq_false, not_false_eq_true, and_self, eq_self, klc_lt, klc_ge, klc_le, klc_gt, klc_eq, kmu_eq, kmu_f, kmu_i, kmu_j, z, Nat.zero_le, show 1 ≤ d by omega]
      exact this
  · simp (disch := first | assumption | (unfold kR; decide) | exact klc_R | (unfold kR; omega) | omega | (unfold kL; omega) | exact kcat_null | exact kcat_ref _ | exact kcat_iv _) only [r0_797, r0_798, r0_799, r0_801, r0_802, r0_803, r0_804, r0_805, r0_807, r0_808, r0_809, r0_810, r0_811, r0_813, r0_814, r0_815, r0_816, r0_819, r0_820, r0_823, r0_824, r0_825, ksc_ok hb, ksc_g hb, true_and, and_true, kk1_i, kk1_r, kk1_n, kk1_0, kcat_iv, kcat_ref, kcat_null, kisR_ref, kisR_null, ksz_nil, ksz_iv, ksz_ref, ksz_null, ksz_lv, kfit_int, kfit_long, kfit_obj, kfit_objN, kfit_arr, kfit_arrN, knarI, knarZ0, knarZ1, kret_v, kret_n, kret_x, Nat.reduceAdd, Nat.reduceLeDiff, reduceCtorEq, Int.reduceLE, Int.reduceLT, Int.reduceEq, ite_true, ite_false, true_or, or_true, false_implies, true_implies, not_true_eq_false, not_false_eq_true, and_self, eq_self, klc_lt, klc_ge, klc_le, klc_gt, klc_eq, kmu_eq, kmu_f, kmu_i, kmu_j, Nat.zero_le, show 1 ≤ d by omega, zb]
    refine kkeep rfl hb ?_
    refine u12 I ht ksc_r ksc_r (Or.inr rfl) (D := d - 1) (by omega) (by omega) hc hl (fun J' A' V' C' R' c' l' x' hx' j1 j2 j3 j4 j5 j6 hb1 => ?_)
    have hI := j1
    obtain ⟨hA', v', -, rw', -⟩ := hI
    have e0 := (j2 0 0 (by decide) (by decide) (by decide) (by decide) (by decide) (by decide) v.l0).2
    have e9 := (j2 9 0 (by decide) (by decide) (by decide) (by decide) (by decide) (by decide) v.l9).2
    have e36 := (j2 36 0 (by decide) (by decide) (by decide) (by decide) (by decide) (by decide) v.l36).2
    rw [← e36, ← e9, ← e0]
    have B0 := rw'.i0
    simp (disch := first | assumption | (unfold kR; decide) | exact klc_R | (unfold kR; omega) | omega | (unfold kL; omega) | exact kcat_null | exact kcat_ref _ | exact kcat_iv _) only [r0_828, r0_830, r0_831, r0_832, r0_834, r0_835, r0_836, r0_837, r0_838, r0_840, r0_841, r0_842, r0_843, r0_844, r0_846, r0_847, r0_848, r0_849, r0_852, r0_853, r0_856, r0_857, ht_9 hA' v'.l9, ksc_ok hb1, ksc_g hb1, true_and, and_true, kk1_i, kk1_r, kk1_n, kk1_0, kcat_iv, kcat_ref, kcat_null, kisR_ref, kisR_null, ksz_nil, ksz_iv, ksz_ref, ksz_null, ksz_lv, kfit_int, kfit_long, kfit_obj, kfit_objN, kfit_arr, kfit_arrN, knarI, knarZ0, knarZ1, kret_v, kret_n, kret_x, Nat.reduceAdd, Nat.reduceLeDiff, reduceCtorEq, Int.reduceLE, Int.reduceLT, Int.reduceEq, ite_true, ite_false, true_or, or_true, false_implies, true_implies, not_true_eq_false, not_false_eq_true, and_self, eq_self, klc_lt, klc_ge, klc_le, klc_gt, klc_eq, kmu_eq, kmu_f, kmu_i, kmu_j, Nat.zero_le, show 1 ≤ d by omega, zb]
    refine kkeep rfl hb1 (j5 _ _ (fun hb2 => ?_))
    have := H J' A' V' C' R' c' l' (some (iv (R' 9 0 0))) (some (iv x')) j1 hb2 j3 j4
    by_cases z : R' 9 0 0 = 0
    · have z6 := j6 z
      rw [z] at this
      have hL : kL x' := by unfold kL; unfold kR at hx'; omega
      simp (disch := first | assumption | (unfold kR; decide) | exact klc_R | (unfold kR; omega) | omega | (unfold kL; omega) | exact kcat_null | exact kcat_ref _ | exact kcat_iv _) only [r0_860, r0_862, r0_863, r0_866, r0_868, r0_871, r0_872, r0_873, r0_875, r0_878, r0_879, r0_880, r0_881, r0_883, r0_884, r0_885, r0_888, r0_889, r0_890, ht_9 hA' v'.l9, j118 hA' v' rw', hoa_36 hA' v'.l36, hga_36 hA' v'.l36, true_and, and_true, kk1_i, kk1_r, kk1_n, kk1_0, kcat_iv, kcat_ref, kcat_null, kisR_ref, kisR_null, ksz_nil, ksz_iv, ksz_ref, ksz_null, ksz_lv, kfit_int, kfit_long, kfit_obj, kfit_objN, kfit_arr, kfit_arrN, knarI, knarZ0, knarZ1, kret_v, kret_n, kret_x, Nat.reduceAdd, Nat.reduceLeDiff, reduceCtorEq, Int.reduceLE, Int.reduceLT, Int.reduceEq, ite_true, ite_false, true_or, or_true, false_implies, true_implies, not_true_eq_false, not_false_eq_true, and_self, eq_self, klc_lt, klc_ge, klc_le, klc_gt, klc_eq, kmu_eq, kmu_f, kmu_i, kmu_j, z, z6, Int.lt_irrefl, Nat.zero_le, show 1 ≤ d by omega]
      exact this
    · simp (disch := first | assumption | (unfold kR; decide) | exact klc_R | (unfold kR; omega) | omega | (unfold kL; omega) | exact kcat_null | exact kcat_ref _ | exact kcat_iv _) only [r0_860, r0_862, r0_863, r0_866, r0_868, r0_871, r0_872, r0_873, r0_875, r0_878, r0_879, r0_880, r0_881, r0_883, r0_884, r0_885, r0_888, r0_889, r0_890, ht_9 hA' v'.l9, j118 hA' v' rw', true_and, and_true, kk1_i, kk1_r, kk1_n, kk1_0, kcat_iv, kcat_ref, kcat_null, kisR_ref, kisR_null, ksz_nil, ksz_iv, ksz_ref, ksz_null, ksz_lv, kfit_int, kfit_long, kfit_obj, kfit_objN, kfit_arr, kfit_arrN, knarI, knarZ0, knarZ1, kret_v, kret_n, kret_x, Nat.reduceAdd, Nat.reduceLeDiff, reduceCtorEq, Int.reduceLE, Int.reduceLT, Int.reduceEq, ite_true, ite_false, true_or, or_true, false_implies, true_implies, not_true_eq_false, not_false_eq_true, and_self, eq_self, klc_lt, klc_ge, klc_le, klc_gt, klc_eq, kmu_eq, kmu_f, kmu_i, kmu_j, z, Nat.zero_le, show 1 ≤ d by omega]
      exact this
theorem w13 (I : kIv E A V C R t) (ht : t ≤ 600) (hb : kHp J A V C R b = some (4000, xs.map Value.int)) (i0 : 0 ≤ i) (i1 : i + 5 ≤ xs.length) (hln : xs.length ≤ 2560) (hd : 50 ≤ d) (hc : 121 ≤ c) (hl : 2786 ≤ l) (H : kNx E d b xs V A t i c l Q) :
    ka_W (kp E) (d, (0, 893, [some (.ref b), some (.ref (A 0 0)), some (.ref (A 9 0)), some (.ref (A 36 0)), some (iv i), x5, x6], []), (kHp J A V C R, c, l)) Q := by
  obtain ⟨hA, v, -⟩ := id I
  simp (disch := first | assumption | (unfold kR; decide) | exact klc_R | (unfold kR; omega) | omega | (unfold kL; omega) | exact kcat_null | exact kcat_ref _ | exact kcat_iv _) only [r0_893, r0_894, r0_895, r0_897, r0_898, r0_899, r0_900, r0_901, ksc_ok hb, ksc_g hb, true_and, and_true, kk1_i, kk1_r, kk1_n, kk1_0, kcat_iv, kcat_ref, kcat_null, kisR_ref, kisR_null, ksz_nil, ksz_iv, ksz_ref, ksz_null, ksz_lv, kfit_int, kfit_long, kfit_obj, kfit_objN, kfit_arr, kfit_arrN, knarI, knarZ0, knarZ1, kret_v, kret_n, kret_x, Nat.reduceAdd, Nat.reduceLeDiff, reduceCtorEq, Int.reduceLE, Int.reduceLT, Int.reduceEq, ite_true, ite_false, true_or, or_true, false_implies, true_implies, not_true_eq_false, not_false_eq_true, and_self, eq_self, klc_lt, klc_ge, klc_le, klc_gt, klc_eq, kmu_eq, kmu_f, kmu_i, kmu_j, Nat.zero_le, show 1 ≤ d by omega]
  refine kkeep rfl hb ?_
  refine u13 I ht ksc_r (D := d - 1) (by omega) (by omega) hc hl (fun J' A' V' C' R' c' l' x' hx' j1 j2 j3 j4 j5 j6 hb1 => ?_)
  have hI := j1
  obtain ⟨hA', v', -, rw', -⟩ := hI
  have e0 := (j2 0 0 (by decide) (by decide) (by decide) (by decide) (by decide) (by decide) v.l0).2
  have e9 := (j2 9 0 (by decide) (by decide) (by decide) (by decide) (by decide) (by decide) v.l9).2
  have e36 := (j2 36 0 (by decide) (by decide) (by decide) (by decide) (by decide) (by decide) v.l36).2
  rw [← e36, ← e9, ← e0]
  have B0 := rw'.i0
  simp (disch := first | assumption | (unfold kR; decide) | exact klc_R | (unfold kR; omega) | omega | (unfold kL; omega) | exact kcat_null | exact kcat_ref _ | exact kcat_iv _) only [r0_904, r0_906, r0_907, r0_908, r0_910, r0_911, r0_912, r0_913, ht_9 hA' v'.l9, ksc_ok hb1, ksc_g hb1, true_and, and_true, kk1_i, kk1_r, kk1_n, kk1_0, kcat_iv, kcat_ref, kcat_null, kisR_ref, kisR_null, ksz_nil, ksz_iv, ksz_ref, ksz_null, ksz_lv, kfit_int, kfit_long, kfit_obj, kfit_objN, kfit_arr, kfit_arrN, knarI, knarZ0, knarZ1, kret_v, kret_n, kret_x, Nat.reduceAdd, Nat.reduceLeDiff, reduceCtorEq, Int.reduceLE, Int.reduceLT, Int.reduceEq, ite_true, ite_false, true_or, or_true, false_implies, true_implies, not_true_eq_false, not_false_eq_true, and_self, eq_self, klc_lt, klc_ge, klc_le, klc_gt, klc_eq, kmu_eq, kmu_f, kmu_i, kmu_j, Nat.zero_le, show 1 ≤ d by omega]
  refine kkeep rfl hb1 (j5 _ _ (fun hb2 => ?_))
  have := H J' A' V' C' R' c' l' (some (iv (R' 9 0 0))) (some (iv x')) j1 hb2 j3 j4
  by_cases z : R' 9 0 0 = 0
  · have z6 := j6 z
    rw [z] at this
    have hL : kL x' := by unfold kL; unfold kR at hx'; omega
    simp (disch := first | assumption | (unfold kR; decide) | exact klc_R | (unfold kR; omega) | omega | (unfold kL; omega) | exact kcat_null | exact kcat_ref _ | exact kcat_iv _) only [r0_916, r0_918, r0_919, r0_922, r0_924, r0_927, r0_928, r0_929, r0_931, r0_934, r0_935, r0_936, r0_937, r0_939, r0_940, r0_941, r0_944, r0_945, r0_946, ht_9 hA' v'.l9, j118 hA' v' rw', hoa_36 hA' v'.l36, hga_36 hA' v'.l36, true_and, and_true, kk1_i, kk1_r, kk1_n, kk1_0, kcat_iv, kcat_ref, kcat_null, kisR_ref, kisR_null, ksz_nil, ksz_iv, ksz_ref, ksz_null, ksz_lv, kfit_int, kfit_long, kfit_obj, kfit_objN, kfit_arr, kfit_arrN, knarI, knarZ0, knarZ1, kret_v, kret_n, kret_x, Nat.reduceAdd, Nat.reduceLeDiff, reduceCtorEq, Int.reduceLE, Int.reduceLT, Int.reduceEq, ite_true, ite_false, true_or, or_true, false_implies, true_implies, not_true_eq_false, not_false_eq_true, and_self, eq_self, klc_lt, klc_ge, klc_le, klc_gt, klc_eq, kmu_eq, kmu_f, kmu_i, kmu_j, z, z6, Int.lt_irrefl, Nat.zero_le, show 1 ≤ d by omega]
    exact this
  · simp (disch := first | assumption | (unfold kR; decide) | exact klc_R | (unfold kR; omega) | omega | (unfold kL; omega) | exact kcat_null | exact kcat_ref _ | exact kcat_iv _) only [r0_916, r0_918, r0_919, r0_922, r0_924, r0_927, r0_928, r0_929, r0_931, r0_934, r0_935, r0_936, r0_937, r0_939, r0_940, r0_941, r0_944, r0_945, r0_946, ht_9 hA' v'.l9, j118 hA' v' rw', true_and, and_true, kk1_i, kk1_r, kk1_n, kk1_0, kcat_iv, kcat_ref, kcat_null, kisR_ref, kisR_null, ksz_nil, ksz_iv, ksz_ref, ksz_null, ksz_lv, kfit_int, kfit_long, kfit_obj, kfit_objN, kfit_arr, kfit_arrN, knarI, knarZ0, knarZ1, kret_v, kret_n, kret_x, Nat.reduceAdd, Nat.reduceLeDiff, reduceCtorEq, Int.reduceLE, Int.reduceLT, Int.reduceEq, ite_true, ite_false, true_or, or_true, false_implies, true_implies, not_true_eq_false, not_false_eq_true, and_self, eq_self, klc_lt, klc_ge, klc_le, klc_gt, klc_eq, kmu_eq, kmu_f, kmu_i, kmu_j, z, Nat.zero_le, show 1 ≤ d by omega]
    exact this
theorem w14 (I : kIv E A V C R t) (ht : t ≤ 600) (hb : kHp J A V C R b = some (4000, xs.map Value.int)) (i0 : 0 ≤ i) (i1 : i + 5 ≤ xs.length) (hln : xs.length ≤ 2560) (hd : 50 ≤ d) (hc : 121 ≤ c) (hl : 2786 ≤ l) (H : kNx E d b xs V A t i c l Q) :
    ka_W (kp E) (d, (0, 949, [some (.ref b), some (.ref (A 0 0)), some (.ref (A 9 0)), some (.ref (A 36 0)), some (iv i), x5, x6], []), (kHp J A V C R, c, l)) Q := by
  obtain ⟨hA, v, -⟩ := id I
  simp (disch := first | assumption | (unfold kR; decide) | exact klc_R | (unfold kR; omega) | omega | (unfold kL; omega) | exact kcat_null | exact kcat_ref _ | exact kcat_iv _) only [r0_949, r0_950, r0_951, r0_953, r0_954, r0_955, r0_956, ksc_ok hb, ksc_g hb, true_and, and_true, kk1_i, kk1_r, kk1_n, kk1_0, kcat_iv, kcat_ref, kcat_null, kisR_ref, kisR_null, ksz_nil, ksz_iv, ksz_ref, ksz_null, ksz_lv, kfit_int, kfit_long, kfit_obj, kfit_objN, kfit_arr, kfit_arrN, knarI, knarZ0, knarZ1, kret_v, kret_n, kret_x, Nat.reduceAdd, Nat.reduceLeDiff, reduceCtorEq, Int.reduceLE, Int.reduceLT, Int.reduceEq, ite_true, ite_false, true_or, or_true, false_implies, true_implies, not_true_eq_false, not_false_eq_true, and_self, eq_self, klc_lt, klc_ge, klc_le, klc_gt, klc_eq, kmu_eq, kmu_f, kmu_i, kmu_j, Nat.zero_le, show 1 ≤ d by omega]
  refine kkeep rfl hb ?_
  refine u14 I ht ksc_r (D := d - 1) (by omega) (by omega) hc hl (fun J' A' V' C' R' c' l' j1 j2 j3 j4 j5 hb1 => ?_)
  have hI := j1
  obtain ⟨hA', v', -, rw', -⟩ := hI
  have e0 := (j2 0 0 (by decide) (by decide) (by decide) (by decide) (by decide) (by decide) v.l0).2
  have e9 := (j2 9 0 (by decide) (by decide) (by decide) (by decide) (by decide) (by decide) v.l9).2
  have e36 := (j2 36 0 (by decide) (by decide) (by decide) (by decide) (by decide) (by decide) v.l36).2
  rw [← e36, ← e9, ← e0]
  have B0 := rw'.i0
  simp (disch := first | assumption | (unfold kR; decide) | exact klc_R | (unfold kR; omega) | omega | (unfold kL; omega) | exact kcat_null | exact kcat_ref _ | exact kcat_iv _) only [r0_959, r0_961, r0_962, r0_963, r0_965, r0_966, r0_967, r0_968, ht_9 hA' v'.l9, ksc_ok hb1, ksc_g hb1, true_and, and_true, kk1_i, kk1_r, kk1_n, kk1_0, kcat_iv, kcat_ref, kcat_null, kisR_ref, kisR_null, ksz_nil, ksz_iv, ksz_ref, ksz_null, ksz_lv, kfit_int, kfit_long, kfit_obj, kfit_objN, kfit_arr, kfit_arrN, knarI, knarZ0, knarZ1, kret_v, kret_n, kret_x, Nat.reduceAdd, Nat.reduceLeDiff, reduceCtorEq, Int.reduceLE, Int.reduceLT, Int.reduceEq, ite_true, ite_false, true_or, or_true, false_implies, true_implies, not_true_eq_false, not_false_eq_true, and_self, eq_self, klc_lt, klc_ge, klc_le, klc_gt, klc_eq, kmu_eq, kmu_f, kmu_i, kmu_j, Nat.zero_le, show 1 ≤ d by omega]
  refine kkeep rfl hb1 (j5 _ _ (fun hb2 => ?_))
  have := H J' A' V' C' R' c' l' (some (iv (R' 9 0 0))) x6 j1 hb2 j3 j4
  simp (disch := first | assumption | (unfold kR; decide) | exact klc_R | (unfold kR; omega) | omega | (unfold kL; omega) | exact kcat_null | exact kcat_ref _ | exact kcat_iv _) only [r0_971, r0_972, r0_975, r0_977, r0_980, r0_981, r0_982, ht_9 hA' v'.l9, j118 hA' v' rw', true_and, and_true, kk1_i, kk1_r, kk1_n, kk1_0, kcat_iv, kcat_ref, kcat_null, kisR_ref, kisR_null, ksz_nil, ksz_iv, ksz_ref, ksz_null, ksz_lv, kfit_int, kfit_long, kfit_obj, kfit_objN, kfit_arr, kfit_arrN, knarI, knarZ0, knarZ1, kret_v, kret_n, kret_x, Nat.reduceAdd, Nat.reduceLeDiff, reduceCtorEq, Int.reduceLE, Int.reduceLT, Int.reduceEq, ite_true, ite_false, true_or, or_true, false_implies, true_implies, not_true_eq_false, not_false_eq_true, and_self, eq_self, klc_lt, klc_ge, klc_le, klc_gt, klc_eq, kmu_eq, kmu_f, kmu_i, kmu_j, Nat.zero_le, show 1 ≤ d by omega]
  exact this
theorem w15 (I : kIv E A V C R t) (ht : t ≤ 600) (hb : kHp J A V C R b = some (4000, xs.map Value.int)) (i0 : 0 ≤ i) (i1 : i + 5 ≤ xs.length) (hln : xs.length ≤ 2560) (hd : 50 ≤ d) (hc : 121 ≤ c) (hl : 2786 ≤ l) (H : kNx E d b xs V A t i c l Q) :
    ka_W (kp E) (d, (0, 985, [some (.ref b), some (.ref (A 0 0)), some (.ref (A 9 0)), some (.ref (A 36 0)), some (iv i), x5, x6], []), (kHp J A V C R, c, l)) Q := by
  obtain ⟨hA, v, -⟩ := id I
  simp (disch := first | assumption | (unfold kR; decide) | exact klc_R | (unfold kR; omega) | omega | (unfold kL; omega) | exact kcat_null | exact kcat_ref _ | exact kcat_iv _) only [r0_985, r0_986, r0_987, r0_989, r0_990, r0_991, r0_992, r0_993, ksc_ok hb, ksc_g hb, true_and, and_true, kk1_i, kk1_r, kk1_n, kk1_0, kcat_iv, kcat_ref, kcat_null, kisR_ref, kisR_null, ksz_nil, ksz_iv, ksz_ref, ksz_null, ksz_lv, kfit_int, kfit_long, kfit_obj, kfit_objN, kfit_arr, kfit_arrN, knarI, knarZ0, knarZ1, kret_v, kret_n, kret_x, Nat.reduceAdd, Nat.reduceLeDiff, reduceCtorEq, Int.reduceLE, Int.reduceLT, Int.reduceEq, ite_true, ite_false, true_or, or_true, false_implies, true_implies, not_true_eq_false, not_false_eq_true, and_self, eq_self, klc_lt, klc_ge, klc_le, klc_gt, klc_eq, kmu_eq, kmu_f, kmu_i, kmu_j, Nat.zero_le, show 1 ≤ d by omega]
  refine kkeep rfl hb ?_
  refine u15 I ht ksc_r (D := d - 1) (by omega) (by omega) hc hl (fun J' A' V' C' R' c' l' x' hx' j1 j2 j3 j4 j5 j6 hb1 => ?_)
  have hI := j1
  obtain ⟨hA', v', -, rw', -⟩ := hI
  have e0 := (j2 0 0 (by decide) (by decide) (by decide) (by decide) (by decide) (by decide) v.l0).2
  have e9 := (j2 9 0 (by decide) (by decide) (by decide) (by decide) (by decide) (by decide) v.l9).2
  have e36 := (j2 36 0 (by decide) (by decide) (by decide) (by decide) (by decide) (by decide) v.l36).2
  rw [← e36, ← e9, ← e0]
  have B0 := rw'.i0
  simp (disch := first | assumption | (unfold kR; decide) | exact klc_R | (unfold kR; omega) | omega | (unfold kL; omega) | exact kcat_null | exact kcat_ref _ | exact kcat_iv _) only [r0_996, r0_998, r0_999, r0_1000, r0_1002, r0_1003, r0_1004, r0_1005, ht_9 hA' v'.l9, ksc_ok hb1, ksc_g hb1, true_and, and_true, kk1_i, kk1_r, kk1_n, kk1_0, kcat_iv, kcat_ref, kcat_null, kisR_ref, kisR_null, ksz_nil, ksz_iv, ksz_ref, ksz_null, ksz_lv, kfit_int, kfit_long, kfit_obj, kfit_objN, kfit_arr, kfit_arrN, knarI, knarZ0, knarZ1, kret_v, kret_n, kret_x, Nat.reduceAdd, Nat.reduceLeDiff, reduceCtorEq, Int.reduceLE, Int.reduceLT, Int.reduceEq, ite_true, ite_false, true_or, or_true, false_implies, true_implies, not_true_eq_false, not_false_eq_true, and_self, eq_self, klc_lt, klc_ge, klc_le, klc_gt, klc_eq, kmu_eq, kmu_f, kmu_i, kmu_j, Nat.zero_le, show 1 ≤ d by omega]
  refine kkeep rfl hb1 (j5 _ _ (fun hb2 => ?_))
  have := H J' A' V' C' R' c' l' (some (iv (R' 9 0 0))) (some (iv x')) j1 hb2 j3 j4
  by_cases z : R' 9 0 0 = 0
  · have z6 := j6 z
    rw [z] at this
    have hL : kL x' := by unfold kL; unfold kR at hx'; omega
    simp (disch := first | assumption | (unfold kR; decide) | exact klc_R | (unfold kR; omega) | omega | (unfold kL; omega) | exact kcat_null | exact kcat_ref _ | exact kcat_iv _) only [r0_1008, r0_1010, r0_1011, r0_1014, r0_1016, r0_1019, r0_1020, r0_1021, r0_1023, r0_1026, r0_1027, r0_1028, r0_1029, r0_1031, r0_1032, r0_1033, r0_1036, r0_1037, r0_1038, ht_9 hA' v'.l9, j118 hA' v' rw', hoa_36 hA' v'.l36, hga_36 hA' v'.l36, true_and, and_true, kk1_i, kk1_r, kk1_n, kk1_0, kcat_iv, kcat_ref, kcat_null, kisR_ref, kisR_null, ksz_nil, ksz_iv, ksz_ref, ksz_null, ksz_lv, kfit_int, kfit_long, kfit_obj, kfit_objN, kfit_arr, kfit_arrN, knarI, knarZ0, knarZ1, kret_v, kret_n, kret_x, Nat.reduceAdd, Nat.reduceLeDiff, reduceCtorEq, Int.reduceLE, Int.reduceLT, Int.reduceEq, ite_true, ite_false, true_or, or_true, false_implies, true_implies, not_true_eq_false, not_false_eq_true, and_self, eq_self, klc_lt, klc_ge, klc_le, klc_gt, klc_eq, kmu_eq, kmu_f, kmu_i, kmu_j, z, z6, Int.lt_irrefl, Nat.zero_le, show 1 ≤ d by omega]
    exact this
  · simp (disch := first | assumption | (unfold kR; decide) | exact klc_R | (unfold kR; omega) | omega | (unfold kL; omega) | exact kcat_null | exact kcat_ref _ | exact kcat_iv _) only [r0_1008, r0_1010, r0_1011, r0_1014, r0_1016, r0_1019, r0_1020, r0_1021, r0_1023, r0_1026, r0_1027, r0_1028, r0_1029, r0_1031, r0_1032, r0_1033, r0_1036, r0_1037, r0_1038, ht_9 hA' v'.l9, j118 hA' v' rw', true_and, and_true, kk1_i, kk1_r, kk1_n, kk1_0, kcat_iv, kcat_ref, kcat_null, kisR_ref, kisR_null, ksz_nil, ksz_iv, ksz_ref, ksz_null, ksz_lv, kfit_int, kfit_long, kfit_obj, kfit_objN, kfit_arr, kfit_arrN, knarI, knarZ0, knarZ1, kret_v, kret_n, kret_x, Nat.reduceAdd, Nat.reduceLeDiff, reduceCtorEq, Int.reduceLE, Int.reduceLT, Int.reduceEq, ite_true, ite_false, true_or, or_true, false_implies, true_implies, not_true_eq_false, not_false_eq_true, and_self, eq_self, klc_lt, klc_ge, klc_le, klc_gt, klc_eq, kmu_eq, kmu_f, kmu_i, kmu_j, z, Nat.zero_le, show 1 ≤ d by omega]
    exact this
theorem w16 (I : kIv E A V C R t) (ht : t ≤ 600) (hb : kHp J A V C R b = some (4000, xs.map Value.int)) (i0 : 0 ≤ i) (i1 : i + 5 ≤ xs.length) (hln : xs.length ≤ 2560) (hd : 50 ≤ d) (hc : 121 ≤ c) (hl : 2786 ≤ l) (H : kNx E d b xs V A t i c l Q) :
    ka_W (kp E) (d, (0, 1041, [some (.ref b), some (.ref (A 0 0)), some (.ref (A 9 0)), some (.ref (A 36 0)), some (iv i), x5, x6], []), (kHp J A V C R, c, l)) Q := by
  obtain ⟨hA, v, -⟩ := id I
  simp (disch := first | assumption | (unfold kR; decide) | exact klc_R | (unfold kR; omega) | omega | (unfold kL; omega) | exact kcat_null | exact kcat_ref _ | exact kcat_iv _) only [r0_1041, r0_1042, r0_1043, r0_1045, r0_1046, r0_1047, r0_1048, r0_1049, r0_1051, r0_1052, r0_1053, r0_1054, r0_1055, ksc_ok hb, ksc_g hb, true_and, and_true, kk1_i, kk1_r, kk1_n, kk1_0, kcat_iv, kcat_ref, kcat_null, kisR_ref, kisR_null, ksz_nil, ksz_iv, ksz_ref, ksz_null, ksz_lv, kfit_int, kfit_long, kfit_obj, kfit_objN, kfit_arr, kfit_arrN, knarI, knarZ0, knarZ1, kret_v, kret_n, kret_x, Nat.reduceAdd, Nat.reduceLeDiff, reduceCtorEq, Int.reduceLE, Int.reduceLT, Int.reduceEq, ite_true, ite_false, true_or, or_true, false_implies, true_implies, not_true_eq_false, not_false_eq_true, and_self, eq_self, klc_lt, klc_ge, klc_le, klc_gt, klc_eq, kmu_eq, kmu_f, kmu_i, kmu_j, Nat.zero_le, show 1 ≤ d by omega]
  refine kkeep rfl hb ?_
  refine u16 I ht ksc_r ksc_r (D := d - 1) (by omega) (by omega) hc hl (fun J' A' V' C' R' c' l' x' hx' j1 j2 j3 j4 j5 j6 hb1 => ?_)
  have hI := j1
  obtain ⟨hA', v', -, rw', -⟩ := hI
  have e0 := (j2 0 0 (by decide) (by decide) (by decide) (by decide) (by decide) (by decide) v.l0).2
  have e9 := (j2 9 0 (by decide) (by decide) (by decide) (by decide) (by decide) (by decide) v.l9).2
  have e36 := (j2 36 0 (by decide) (by decide) (by decide) (by decide) (by decide) (by decide) v.l36).2
  rw [← e36, ← e9, ← e0]
  have B0 := rw'.i0
  simp (disch := first | assumption | (unfold kR; decide) | exact klc_R | (unfold kR; omega) | omega | (unfold kL; omega) | exact kcat_null | exact kcat_ref _ | exact kcat_iv _) only [r0_1058, r0_1060, r0_1061, r0_1062, r0_1064, r0_1065, r0_1066, r0_1067, r0_1068, r0_1070, r0_1071, r0_1072, r0_1073, ht_9 hA' v'.l9, ksc_ok hb1, ksc_g hb1, true_and, and_true, kk1_i, kk1_r, kk1_n, kk1_0, kcat_iv, kcat_ref, kcat_null, kisR_ref, kisR_null, ksz_nil, ksz_iv, ksz_ref, ksz_null, ksz_lv, kfit_int, kfit_long, kfit_obj, kfit_objN, kfit_arr, kfit_arrN, knarI, knarZ0, knarZ1, kret_v, kret_n, kret_x, Nat.reduceAdd, Nat.reduceLeDiff, reduceCtorEq, Int.reduceLE, Int.reduceLT, Int.reduceEq, ite_true, ite_false, true_or, or_true, false_implies, true_implies, not_true_eq_false, not_false_eq_true, and_self, eq_self, klc_lt, klc_ge, klc_le, klc_gt, klc_eq, kmu_eq, kmu_f, kmu_i, kmu_j, Nat.zero_le, show 1 ≤ d by omega]
  refine kkeep rfl hb1 (j5 _ _ (fun hb2 => ?_))
  have := H J' A' V' C' R' c' l' (some (iv (R' 9 0 0))) (some (iv x')) j1 hb2 j3 j4
  by_cases z : R' 9 0 0 = 0
  · have z6 := j6 z
    rw [z] at this
    have hL : kL x' := by unfold kL; unfold kR at hx'; omega
    simp (disch := first | assumption | (unfold kR; decide) | exact klc_R | (unfold kR; omega) | omega | (unfold kL; omega) | exact kcat_null | exact kcat_ref _ | exact kcat_iv _) only [r0_1076, r0_1078, r0_1079, r0_1082, r0_1084, r0_1087, r0_1088, r0_1089, r0_1091, r0_1094, r0_1095, r0_1096, r0_1097, r0_1099, r0_1100, r0_1101, r0_1104, r0_1105, r0_1106, ht_9 hA' v'.l9, j118 hA' v' rw', hoa_36 hA' v'.l36, hga_36 hA' v'.l36, true_and, and_true, kk1_i, kk1_r, kk1_n, kk1_0, kcat_iv, kcat_ref, kcat_null, kisR_ref, kisR_null, ksz_nil, ksz_iv, ksz_ref, ksz_null, ksz_lv, kfit_int, kfit_long, kfit_obj, kfit_objN, kfit_arr, kfit_arrN, knarI, knarZ0, knarZ1, kret_v, kret_n, kret_x, Nat.reduceAdd, Nat.reduceLeDiff, reduceCtorEq, Int.reduceLE, Int.reduceLT, Int.reduceEq, ite_true, ite_false, true_or, or_true, false_implies, true_implies, not_true_eq_false, not_false_eq_true, and_self, eq_self, klc_lt, klc_ge, klc_le, klc_gt, klc_eq, kmu_eq, kmu_f, kmu_i, kmu_j, z, z6, Int.lt_irrefl, Nat.zero_le, show 1 ≤ d by omega]
    exact this
  · simp (disch := first | assumption | (unfold kR; decide) | exact klc_R | (unfold kR; omega) | omega | (unfold kL; omega) | exact kcat_null | exact kcat_ref _ | exact kcat_iv _) only [r0_1076, r0_1078, r0_1079, r0_1082, r0_1084, r0_1087, r0_1088, r0_1089, r0_1091, r0_1094, r0_1095, r0_1096, r0_1097, r0_1099, r0_1100, r0_1101, r0_1104, r0_1105, r0_1106, ht_9 hA' v'.l9, j118 hA' v' rw', true_and, and_true, kk1_i, kk1_r, kk1_n, kk1_0, kcat_iv, kcat_ref, kcat_null, kisR_ref, kisR_null, ksz_nil, ksz_iv, ksz_ref, ksz_null, ksz_lv, kfit_int, kfit_long, kfit_obj, kfit_objN, kfit_arr, kfit_arrN, knarI, knarZ0, knarZ1, kret_v, kret_n, kret_x, Nat.reduceAdd, Nat.reduceLeDiff, reduceCtorEq, Int.reduceLE, Int.reduceLT, Int.reduceEq, ite_true, ite_false, true_or, or_true, false_implies, true_implies, not_true_eq_false, not_false_eq_true, and_self, eq_self, klc_lt, klc_ge, klc_le, klc_gt, klc_eq, kmu_eq, kmu_f, kmu_i, kmu_j, z, Nat.zero_le, show 1 ≤ d by omega]
    exact this
theorem w17 (I : kIv E A V C R t) (ht : t ≤ 600) (hb : kHp J A V C R b = some (4000, xs.map Value.int)) (i0 : 0 ≤ i) (i1 : i + 5 ≤ xs.length) (hln : xs.length ≤ 2560) (hd : 50 ≤ d) (hc : 121 ≤ c) (hl : 2786 ≤ l) (H : kNx E d b xs V A t i c l Q) :
    ka_W (kp E) (d, (0, 1109, [some (.ref b), some (.ref (A 0 0)), some (.ref (A 9 0)), some (.ref (A 36 0)), some (iv i), x5, x6], []), (kHp J A V C R, c, l)) Q := by
  obtain ⟨hA, v, -⟩ := id I
  simp (disch := first | assumption | (unfold kR; decide) | exact klc_R | (unfold kR; omega) | omega | (unfold kL; omega) | exact kcat_null | exact kcat_ref _ | exact kcat_iv _) only [r0_1109, r0_1110, r0_1111, r0_1113, r0_1114, r0_1115, r0_1116, r0_1117, r0_1119, r0_1120, r0_1121, r0_1122, r0_1123, ksc_ok hb, ksc_g hb, true_and, and_true, kk1_i, kk1_r, kk1_n, kk1_0, kcat_iv, kcat_ref, kcat_null, kisR_ref, kisR_null, ksz_nil, ksz_iv, ksz_ref, ksz_null, ksz_lv, kfit_int, kfit_long, kfit_obj, kfit_objN, kfit_arr, kfit_arrN, knarI, knarZ0, knarZ1, kret_v, kret_n, kret_x, Nat.reduceAdd, Nat.reduceLeDiff, reduceCtorEq, Int.reduceLE, Int.reduceLT, Int.reduceEq, ite_true, ite_false, true_or, or_true, false_implies, true_implies, not_true_eq_false, not_false_eq_true, and_self, eq_self, klc_lt, klc_ge, klc_le, klc_gt, klc_eq, kmu_eq, kmu_f, kmu_i, kmu_j, Nat.zero_le, show 1 ≤ d by omega]
  refine kkeep rfl hb ?_
  refine u17 I ht ksc_r ksc_r (D := d - 1) (by omega) (by omega) hc hl (fun J' A' V' C' R' c' l' x' hx' j1 j2 j3 j4 j5 j6 hb1 => ?_)
  have hI := j1
  obtain ⟨hA', v', -, rw', -⟩ := hI
  have e0 := (j2 0 0 (by decide) (by decide) (by decide) (by decide) (by decide) (by decide) v.l0).2
  have e9 := (j2 9 0 (by decide) (by decide) (by decide) (by decide) (by decide) (by decide) v.l9).2
  have e36 := (j2 36 0 (by decide) (by decide) (by decide) (by decide) (by decide) (by decide) v.l36).2
  rw [← e36, ← e9, ← e0]
  have B0 := rw'.i0
  simp (disch := first | assumption | (unfold kR; decide) | exact klc_R | (unfold kR; omega) | omega | (unfold kL; omega) | exact kcat_null | exact kcat_ref _ | exact kcat_iv _) only [r0_1126, r0_1128, r0_1129, r0_1130, r0_1132, r0_1133, r0_1134, r0_1135, r0_1136, r0_1138, r0_1139, r0_1140, r0_1141, ht_9 hA' v'.l9, ksc_ok hb1, ksc_g hb1, true_and, and_true, kk1_i, kk1_r, kk1_n, kk1_0, kcat_iv, kcat_ref, kcat_null, kisR_ref, kisR_null, ksz_nil, ksz_iv, ksz_ref, ksz_null, ksz_lv, kfit_int, kfit_long, kfit_obj, kfit_objN, kfit_arr, kfit_arrN, knarI, knarZ0, knarZ1, kret_v, kret_n, kret_x, Nat.reduceAdd, Nat.reduceLeDiff, reduceCtorEq, Int.reduceLE, Int.reduceLT, Int.reduceEq, ite_true, ite_false, true_or, or_true, false_implies, true_implies, not_true_eq_false, not_false_eq_true, and_self, eq_self, klc_lt, klc_ge, klc_le, klc_gt, klc_eq, kmu_eq, kmu_f, kmu_i, kmu_j, Nat.zero_le, show 1 ≤ d by omega]
  refine kkeep rfl hb1 (j5 _ _ (fun hb2 => ?_))
  have := H J' A' V' C' R' c' l' (some (iv (R' 9 0 0))) (some (iv x')) j1 hb2 j3 j4
  by_cases z : R' 9 0 0 = 0
  · have z6 := j6 z
    rw [z] at this
    have hL : kL x' := by unfold kL; unfold kR at hx'; omega
    simp (disch := first | assumption | (unfold kR; decide) | exact klc_R | (unfold kR; omega) | omega | (unfold kL; omega) | exact kcat_null | exact kcat_ref _ | exact kcat_iv _) only [r0_1144, r0_1146, r0_1147, r0_1150, r0_1152, r0_1155, r0_1156, r0_1157, r0_1159, r0_1162, r0_1163, r0_1164, r0_1165, r0_1167, r0_1168, r0_1169, r0_1172, r0_1173, r0_1174, ht_9 hA' v'.l9, j118 hA' v' rw', hoa_36 hA' v'.l36, hga_36 hA' v'.l36, true_and, and_true, kk1_i, kk1_r, kk1_n, kk1_0, kcat_iv, kcat_ref, kcat_null, kisR_ref, kisR_null, ksz_nil, ksz_iv, ksz_ref, ksz_null, ksz_lv, kfit_int, kfit_long, kfit_obj, kfit_objN, kfit_arr, kfit_arrN, knarI, knarZ0, knarZ1, kret_v, kret_n, kret_x, Nat.reduceAdd, Nat.reduceLeDiff, reduceCtorEq, Int.reduceLE, Int.reduceLT, Int.reduceEq, ite_true, ite_false, true_or, or_true, false_implies, true_implies, not_true_eq_false, not_false_eq_true, and_self, eq_self, klc_lt, klc_ge, klc_le, klc_gt, klc_eq, kmu_eq, kmu_f, kmu_i, kmu_j, z, z6, Int.lt_irrefl, Nat.zero_le, show 1 ≤ d by omega]
    exact this
  · simp (disch := first | assumption | (unfold kR; decide) | exact klc_R | (unfold kR; omega) | omega | (unfold kL; omega) | exact kcat_null | exact kcat_ref _ | exact kcat_iv _) only [r0_1144, r0_1146, r0_1147, r0_1150, r0_1152, r0_1155, r0_1156, r0_1157, r0_1159, r0_1162, r0_1163, r0_1164, r0_1165, r0_1167, r0_1168, r0_1169, r0_1172, r0_1173, r0_1174, ht_9 hA' v'.l9, j118 hA' v' rw', true_and, and_true, kk1_i, kk1_r, kk1_n, kk1_0, kcat_iv, kcat_ref, kcat_null, kisR_ref, kisR_null, ksz_nil, ksz_iv, ksz_ref, ksz_null, ksz_lv, kfit_int, kfit_long, kfit_obj, kfit_objN, kfit_arr, kfit_arrN, knarI, knarZ0, knarZ1, kret_v, kret_n, kret_x, Nat.reduceAdd, Nat.reduceLeDiff, reduceCtorEq, Int.reduceLE, Int.reduceLT, Int.reduceEq, ite_true, ite_false, true_or, or_true, false_implies, true_implies, not_true_eq_false, not_false_eq_true, and_self, eq_self, klc_lt, klc_ge, klc_le, klc_gt, klc_eq, kmu_eq, kmu_f, kmu_i, kmu_j, z, Nat.zero_le, show 1 ≤ d by omega]
    exact this
theorem w18 (I : kIv E A V C R t) (ht : t ≤ 600) (hb : kHp J A V C R b = some (4000, xs.map Value.int)) (i0 : 0 ≤ i) (i1 : i + 5 ≤ xs.length) (hln : xs.length ≤ 2560) (hd : 50 ≤ d) (hc : 121 ≤ c) (hl : 2786 ≤ l) (H : kNx E d b xs V A t i c l Q) :
    ka_W (kp E) (d, (0, 1177, [some (.ref b), some (.ref (A 0 0)), some (.ref (A 9 0)), some (.ref (A 36 0)), some (iv i), x5, x6], []), (kHp J A V C R, c, l)) Q := by
  obtain ⟨hA, v, -⟩ := id I
  simp (disch := first | assumption | (unfold kR; decide) | exact klc_R | (unfold kR; omega) | omega | (unfold kL; omega) | exact kcat_null | exact kcat_ref _ | exact kcat_iv _) only [r0_1177, r0_1178, r0_1179, r0_1181, r0_1182, r0_1183, r0_1184, r0_1185, r0_1187, r0_1188, r0_1189, r0_1190, r0_1191, ksc_ok hb, ksc_g hb, true_and, and_true, kk1_i, kk1_r, kk1_n, kk1_0, kcat_iv, kcat_ref, kcat_null, kisR_ref, kisR_null, ksz_nil, ksz_iv, ksz_ref, ksz_null, ksz_lv, kfit_int, kfit_long, kfit_obj, kfit_objN, kfit_arr, kfit_arrN, knarI, knarZ0, knarZ1, kret_v, kret_n, kret_x, Nat.reduceAdd, Nat.reduceLeDiff, reduceCtorEq, Int.reduceLE, Int.reduceLT, Int.reduceEq, ite_true, ite_false, true_or, or_true, false_implies, true_implies, not_true_eq_false, not_false_eq_true, and_self, eq_self, klc_lt, klc_ge, klc_le, klc_gt, klc_eq, kmu_eq, kmu_f, kmu_i, kmu_j, Nat.zero_le, show 1 ≤ d by omega]
  refine kkeep rfl hb ?_
  refine u18 I ht ksc_r ksc_r (D := d - 1) (by omega) (by omega) hc hl (fun J' A' V' C' R' c' l' x' hx' j1 j2 j3 j4 j5 j6 hb1 => ?_)
  have hI := j1
  obtain ⟨hA', v', -, rw', -⟩ := hI
  have e0 := (j2 0 0 (by decide) (by decide) (by decide) (by decide) (by decide) (by decide) v.l0).2
  have e9 := (j2 9 0 (by decide) (by decide) (by decide) (by decide) (by decide) (by decide) v.l9).2
  have e36 := (j2 36 0 (by decide) (by decide) (by decide) (by decide) (by decide) (by decide) v.l36).2
  rw [← e36, ← e9, ← e0]
  have B0 := rw'.i0
  simp (disch := first | assumption | (unfold kR; decide) | exact klc_R | (unfold kR; omega) | omega | (unfold kL; omega) | exact kcat_null | exact kcat_ref _ | exact kcat_iv _) only [r0_1194, r0_1196, r0_1197, r0_1198, r0_1200, r0_1201, r0_1202, r0_1203, r0_1204, r0_1206, r0_1207, r0_1208, r0_1209, ht_9 hA' v'.l9, ksc_ok hb1, ksc_g hb1, true_and, and_true, kk1_i, kk1_r, kk1_n, kk1_0, kcat_iv, kcat_ref, kcat_null, kisR_ref, kisR_null, ksz_nil, ksz_iv, ksz_ref, ksz_null, ksz_lv, kfit_int, kfit_long, kfit_obj, kfit_objN, kfit_arr, kfit_arrN, knarI, knarZ0, knarZ1, kret_v, kret_n, kret_x, Nat.reduceAdd, Nat.reduceLeDiff, reduceCtorEq, Int.reduceLE, Int.reduceLT, Int.reduceEq, ite_true, ite_false, true_or, or_true, false_implies, true_implies, not_true_eq_false, not_false_eq_true, and_self, eq_self, klc_lt, klc_ge, klc_le, klc_gt, klc_eq, kmu_eq, kmu_f, kmu_i, kmu_j, Nat.zero_le, show 1 ≤ d by omega]
  refine kkeep rfl hb1 (j5 _ _ (fun hb2 => ?_))
  have := H J' A' V' C' R' c' l' (some (iv (R' 9 0 0))) (some (iv x')) j1 hb2 j3 j4
  by_cases z : R' 9 0 0 = 0
  · have z6 := j6 z
    rw [z] at this
    have hL : kL x' := by unfold kL; unfold kR at hx'; omega
    simp (disch := first | assumption | (unfold kR; decide) | exact klc_R | (unfold kR; omega) | omega | (unfold kL; omega) | exact kcat_null | exact kcat_ref _ | exact kcat_iv _) only [r0_1212, r0_1214, r0_1215, r0_1218, r0_1220, r0_1223, r0_1224, r0_1225, r0_1227, r0_1230, r0_1231, r0_1232, r0_1233, r0_1235, r0_1236, r0_1237, r0_1240, r0_1241, r0_1242, ht_9 hA' v'.l9, j118 hA' v' rw', hoa_36 hA' v'.l36, hga_36 hA' v'.l36, true_and, and_true, kk1_i, kk1_r, kk1_n, kk1_0, kcat_iv, kcat_ref, kcat_null, kisR_ref, kisR_null, ksz_nil, ksz_iv, ksz_ref, ksz_null, ksz_lv, kfit_int, kfit_long, kfit_obj, kfit_objN, kfit_arr, kfit_arrN, knarI, knarZ0, knarZ1, kret_v, kret_n, kret_x, Nat.reduceAdd, Nat.reduceLeDiff, reduceCtorEq, Int.reduceLE, Int.reduceLT, Int.reduceEq, ite_true, ite_false, true_or, or_true, false_implies, true_implies, not_true_eq_false, not_false_eq_true, and_self, eq_self, klc_lt, klc_ge, klc_le, klc_gt, klc_eq, kmu_eq, kmu_f, kmu_i, kmu_j, z, z6, Int.lt_irrefl, Nat.zero_le, show 1 ≤ d by omega]
    exact this
  · simp (disch := first | assumption | (unfold kR; decide) | exact klc_R | (unfold kR; omega) | omega | (unfold kL; omega) | exact kcat_null | exact kcat_ref _ | exact kcat_iv _) only [r0_1212, r0_1214, r0_1215, r0_1218, r0_1220, r0_1223, r0_1224, r0_1225, r0_1227, r0_1230, r0_1231, r0_1232, r0_1233, r0_1235, r0_1236, r0_1237, r0_1240, r0_1241, r0_1242, ht_9 hA' v'.l9, j118 hA' v' rw', true_and, and_true, kk1_i, kk1_r, kk1_n, kk1_0, kcat_iv, kcat_ref, kcat_null, kisR_ref, kisR_null, ksz_nil, ksz_iv, ksz_ref, ksz_null, ksz_lv, kfit_int, kfit_long, kfit_obj, kfit_objN, kfit_arr, kfit_arrN, knarI, knarZ0, knarZ1, kret_v, kret_n, kret_x, Nat.reduceAdd, Nat.reduceLeDiff, reduceCtorEq, Int.reduceLE, Int.reduceLT, Int.reduceEq, ite_true, ite_false, true_or, or_true, false_implies, true_implies, not_true_eq_false, not_false_eq_true, and_self, eq_self, klc_lt, klc_ge, klc_le, klc_gt, klc_eq, kmu_eq, kmu_f, kmu_i, kmu_j, z, Nat.zero_le, show 1 ≤ d by omega]
    exact this
theorem w19 (I : kIv E A V C R t) (ht : t ≤ 600) (hb : kHp J A V C R b = some (4000, xs.map Value.int)) (i0 : 0 ≤ i) (i1 : i + 5 ≤ xs.length) (hln : xs.length ≤ 2560) (hd : 50 ≤ d) (hc : 121 ≤ c) (hl : 2786 ≤ l) (H : kNx E d b xs V A t i c l Q) :
    ka_W (kp E) (d, (0, 1245, [some (.ref b), some (.ref (A 0 0)), some (.ref (A 9 0)), some (.ref (A 36 0)), some (iv i), x5, x6], []), (kHp J A V C R, c, l)) Q := by
  obtain ⟨hA, v, -⟩ := id I
  simp (disch := first | assumption | (unfold kR; decide) | exact klc_R | (unfold kR; omega) | omega | (unfold kL; omega) | exact kcat_null | exact kcat_ref _ | exact kcat_iv _) only [r0_1245, r0_1246, r0_1247, r0_1249, r0_1250, r0_1251, r0_1252, r0_1253, r0_1255, r0_1256, r0_1257, r0_1258, r0_1259, ksc_ok hb, ksc_g hb, true_and, and_true, kk1_i, kk1_r, kk1_n, kk1_0, kcat_iv, kcat_ref, kcat_null, kisR_ref, kisR_null, ksz_nil, ksz_iv, ksz_ref, ksz_null, ksz_lv, kfit_int, kfit_long, kfit_obj, kfit_objN, kfit_arr, kfit_arrN, knarI, knarZ0, knarZ1, kret_v, kret_n, kret_x, Nat.reduceAdd, Nat.reduceLeDiff, reduceCtorEq, Int.reduceLE, Int.reduceLT, Int.reduceEq, ite_true, ite_false, true_or, or_true, false_implies, true_implies, not_true_eq_false, not_false_eq_true, and_self, eq_self, klc_lt, klc_ge, klc_le, klc_gt, klc_eq, kmu_eq, kmu_f, kmu_i, kmu_j, Nat.zero_le, show 1 ≤ d by omega]
  refine kkeep rfl hb ?_
  refine u19 I ht ksc_r ksc_r (D := d - 1) (by omega) (by omega) hc hl (fun J' A' V' C' R' c' l' x' hx' j1 j2 j3 j4 j5 j6 hb1 => ?_)
  have hI := j1
  obtain ⟨hA', v', -, rw', -⟩ := hI
  have e0 := (j2 0 0 (by decide) (by decide) (by decide) (by decide) (by decide) (by decide) v.l0).2
  have e9 := (j2 9 0 (by decide) (by decide) (by decide) (by decide) (by decide) (by decide) v.l9).2
  have e36 := (j2 36 0 (by decide) (by decide) (by decide) (by decide) (by decide) (by decide) v.l36).2
  rw [← e36, ← e9, ← e0]
  have B0 := rw'.i0
  simp (disch := first | assumption | (unfold kR; decide) | exact klc_R | (unfold kR; omega) | omega | (unfold kL; omega) | exact kcat_null | exact kcat_ref _ | exact kcat_iv _) only [r0_1262, r0_1264, r0_1265, r0_1266, r0_1268, r0_1269, r0_1270, r0_1271, r0_1272, r0_1274, r0_1275, r0_1276, r0_1277, ht_9 hA' v'.l9, ksc_ok hb1, ksc_g hb1, true_and, and_true, kk1_i, kk1_r, kk1_n, kk1_0, kcat_iv, kcat_ref, kcat_null, kisR_ref, kisR_null, ksz_nil, ksz_iv, ksz_ref, ksz_null, ksz_lv, kfit_int, kfit_long, kfit_obj, kfit_objN, kfit_arr, kfit_arrN, knarI, knarZ0, knarZ1, kret_v, kret_n, kret_x, Nat.reduceAdd, Nat.reduceLeDiff, reduceCtorEq, Int.reduceLE, Int.reduceLT, Int.reduceEq, ite_true, ite_false, true_or, or_true, false_implies, true_implies, not_true_eq_false, not_false_eq_true, and_self, eq_self, klc_lt, klc_ge, klc_le, klc_gt, klc_eq, kmu_eq, kmu_f, kmu_i, kmu_j, Nat.zero_le, show 1 ≤ d by omega]
  refine kkeep rfl hb1 (j5 _ _ (fun hb2 => ?_))
  have := H J' A' V' C' R' c' l' (some (iv (R' 9 0 0))) (some (iv x')) j1 hb2 j3 j4
  by_cases z : R' 9 0 0 = 0
  · have z6 := j6 z
    rw [z] at this
    have hL : kL x' := by unfold kL; unfold kR at hx'; omega
    simp (disch := first | assumption | (unfold kR; decide) | exact klc_R | (unfold kR; omega) | omega | (unfold kL; omega) | exact kcat_null | exact kcat_ref _ | exact kcat_iv _) only [r0_1280, r0_1282, r0_1283, r0_1286, r0_1288, r0_1291, r0_1292, r0_1293, r0_1295, r0_1298, r0_1299, r0_1300, r0_1301, r0_1303, r0_1304, r0_1305, r0_1308, r0_1309, r0_1310, ht_9 hA' v'.l9, j118 hA' v' rw', hoa_36 hA' v'.l36, hga_36 hA' v'.l36, true_and, and_true, kk1_i, kk1_r, kk1_n, kk1_0, kcat_iv, kcat_ref, kcat_null, kisR_ref, kisR_null, ksz_nil, ksz_iv, ksz_ref, ksz_null, ksz_lv, kfit_int, kfit_long, kfit_obj, kfit_objN, kfit_arr, kfit_arrN, knarI, knarZ0, knarZ1, kret_v, kret_n, kret_x, Nat.reduceAdd, Nat.reduceLeDiff, reduceCtorEq, Int.reduceLE, Int.reduceLT, Int.reduceEq, ite_true, ite_false, true_or, or_true, false_implies, true_implies, not_true_eq_false, not_false_eq_true, and_self, eq_self, klc_lt, klc_ge, klc_le, klc_gt, klc_eq, kmu_eq, kmu_f, kmu_i, kmu_j, z, z6, Int.lt_irrefl, Nat.zero_le, show 1 ≤ d by omega]
    exact this
  · simp (disch := first | assumption | (unfold kR; decide) | exact klc_R | (unfold kR; omega) | omega | (unfold kL; omega) | exact kcat_null | exact kcat_ref _ | exact kcat_iv _) only [r0_1280, r0_1282, r0_1283, r0_1286, r0_1288, r0_1291, r0_1292, r0_1293, r0_1295, r0_1298, r0_1299, r0_1300, r0_1301, r0_1303, r0_1304, r0_1305, r0_1308, r0_1309, r0_1310, ht_9 hA' v'.l9, j118 hA' v' rw', true_and, and_true, kk1_i, kk1_r, kk1_n, kk1_0, kcat_iv, kcat_ref, kcat_null, kisR_ref, kisR_null, ksz_nil, ksz_iv, ksz_ref, ksz_null, ksz_lv, kfit_int, kfit_long, kfit_obj, kfit_objN, kfit_arr, kfit_arrN, knarI, knarZ0, knarZ1, kret_v, kret_n, kret_x, Nat.reduceAdd, Nat.reduceLeDiff, reduceCtorEq, Int.reduceLE, Int.reduceLT, Int.reduceEq, ite_true, ite_false, true_or, or_true, false_implies, true_implies, not_true_eq_false, not_false_eq_true, and_self, eq_self, klc_lt, klc_ge, klc_le, klc_gt, klc_eq, kmu_eq, kmu_f, kmu_i, kmu_j, z, Nat.zero_le, show 1 ≤ d by omega]
    exact this
theorem w20 (I : kIv E A V C R t) (ht : t ≤ 600) (hb : kHp J A V C R b = some (4000, xs.map Value.int)) (i0 : 0 ≤ i) (i1 : i + 5 ≤ xs.length) (hln : xs.length ≤ 2560) (hd : 50 ≤ d) (hc : 121 ≤ c) (hl : 2786 ≤ l) (H : kNx E d b xs V A t i c l Q) :
    ka_W (kp E) (d, (0, 1313, [some (.ref b), some (.ref (A 0 0)), some (.ref (A 9 0)), some (.ref (A 36 0)), some (iv i), x5, x6], []), (kHp J A V C R, c, l)) Q := by
  obtain ⟨hA, v, -⟩ := id I
  simp (disch := first | assumption | (unfold kR; decide) | exact klc_R | (unfold kR; omega) | omega | (unfold kL; omega) | exact kcat_null | exact kcat_ref _ | exact kcat_iv _) only [r0_1313, r0_1314, r0_1315, r0_1317, r0_1318, r0_1319, r0_1320, ht_0 hA v.l0, ksc_ok hb, ksc_g hb, true_and, and_true, kk1_i, kk1_r, kk1_n, kk1_0, kcat_iv, kcat_ref, kcat_null, kisR_ref, kisR_null, ksz_nil, ksz_iv, ksz_ref, ksz_null, ksz_lv, kfit_int, kfit_long, kfit_obj, kfit_objN, kfit_arr, kfit_arrN, knarI, knarZ0, knarZ1, kret_v, kret_n, kret_x, Nat.reduceAdd, Nat.reduceLeDiff, reduceCtorEq, Int.reduceLE, Int.reduceLT, Int.reduceEq, ite_true, ite_false, true_or, or_true, false_implies, true_implies, not_true_eq_false, not_false_eq_true, and_self, eq_self, klc_lt, klc_ge, klc_le, klc_gt, klc_eq, kmu_eq, kmu_f, kmu_i, kmu_j, Nat.zero_le, show 1 ≤ d by omega]
  refine kkeep rfl hb ?_
  refine t41 I ksc_r (D := d - 1) (by omega) (by omega) (fun J' A' V' C' R' c' l' o b' j1 j2 j3 j4 j5 j6 j7 hb1 => ?_)
  rcases j7 with ⟨w, -⟩ | ⟨-, x', rfl, hx'⟩
  · exact absurd w (by decide)
  rcases j6 with ⟨rfl, e0⟩ | ⟨e, he, -⟩
  rotate_left
  · cases he
  have hI := j1
  obtain ⟨hA', v', -, rw', -⟩ := hI
  have e9 := (j2 9 0 (by decide) (by decide) (by decide) (by decide) (by decide) (by decide) v.l9).2
  have e36 := (j2 36 0 (by decide) (by decide) (by decide) (by decide) (by decide) (by decide) v.l36).2
  rw [← e36, ← e9]
  have e00 := (j2 0 0 (by decide) (by decide) (by decide) (by decide) (by decide) (by decide) v.l0).2
  rw [← e00]
  simp (disch := first | assumption | (unfold kR; decide) | exact klc_R | (unfold kR; omega) | omega | (unfold kL; omega) | exact kcat_null | exact kcat_ref _ | exact kcat_iv _) only [r0_1323, r0_1324, r0_1325, r0_1327, r0_1328, r0_1329, r0_1330, ht_9 hA' v'.l9, ksc_ok hb1, ksc_g hb1, true_and, and_true, kk1_i, kk1_r, kk1_n, kk1_0, kcat_iv, kcat_ref, kcat_null, kisR_ref, kisR_null, ksz_nil, ksz_iv, ksz_ref, ksz_null, ksz_lv, kfit_int, kfit_long, kfit_obj, kfit_objN, kfit_arr, kfit_arrN, knarI, knarZ0, knarZ1, kret_v, kret_n, kret_x, Nat.reduceAdd, Nat.reduceLeDiff, reduceCtorEq, Int.reduceLE, Int.reduceLT, Int.reduceEq, ite_true, ite_false, true_or, or_true, false_implies, true_implies, not_true_eq_false, not_false_eq_true, and_self, eq_self, klc_lt, klc_ge, klc_le, klc_gt, klc_eq, kmu_eq, kmu_f, kmu_i, kmu_j, Nat.zero_le, show 1 ≤ d by omega]
  refine kkeep rfl hb1 (j5 _ _ (fun hb2 => ?_))
  have := H J' A' V' C' R' c' l' x5 x6 j1 hb2 j3 j4
  simp (disch := first | assumption | (unfold kR; decide) | exact klc_R | (unfold kR; omega) | omega | (unfold kL; omega) | exact kcat_null | exact kcat_ref _ | exact kcat_iv _) only [r0_1333, r0_1336, r0_1337, true_and, and_true, kk1_i, kk1_r, kk1_n, kk1_0, kcat_iv, kcat_ref, kcat_null, kisR_ref, kisR_null, ksz_nil, ksz_iv, ksz_ref, ksz_null, ksz_lv, kfit_int, kfit_long, kfit_obj, kfit_objN, kfit_arr, kfit_arrN, knarI, knarZ0, knarZ1, kret_v, kret_n, kret_x, Nat.reduceAdd, Nat.reduceLeDiff, reduceCtorEq, Int.reduceLE, Int.reduceLT, Int.reduceEq, ite_true, ite_false, true_or, or_true, false_implies, true_implies, not_true_eq_false, not_false_eq_true, and_self, eq_self, klc_lt, klc_ge, klc_le, klc_gt, klc_eq, kmu_eq, kmu_f, kmu_i, kmu_j]
  exact this
/-- the loop -/
theorem wloop (hln : xs.length ≤ 2560) (hd : 50 ≤ d) : ∀ (n : Nat) (t : Int) (J : ka_H) (A : ka_A) (V : ka_V) (C R : ka_M) (c l : Nat) (x5 x6 : Option Value), 0 ≤ t → 5 * t ≤ xs.length → kIv E A V C R t → kHp J A V C R b = some (4000, xs.map Value.int) → (xs.length : Int) < 5 * t + 5 * n + 5 → 121 * n ≤ c → 2786 * n ≤ l →
    ka_W (kp E) (d, (0, 23, [some (.ref b), some (.ref (A 0 0)), some (.ref (A 9 0)), some (.ref (A 36 0)), some (iv (5 * t)), x5, x6], []), (kHp J A V C R, c, l)) (fun o _ => o = .inl (some (.int 1)))
  | n, t, J, A, V, C, R, c, l, x5, x6, t0, t1, I, hb, hn, hc, hl => by
    by_cases e : (xs.length : Int) - 5 < 5 * t
    · simp (disch := first | assumption | (unfold kR; decide) | exact klc_R | (unfold kR; omega) | omega | (unfold kL; omega) | exact kcat_null | exact kcat_ref _ | exact kcat_iv _) only [r0_23, r0_25, r0_26, r0_27, r0_28, r0_29, r0_1344, r0_1345, ksc_t hb, ksc_l hb, true_and, and_true, kk1_i, kk1_r, kk1_n, kk1_0, kcat_iv, kcat_ref, kcat_null, kisR_ref, kisR_null, ksz_nil, ksz_iv, ksz_ref, ksz_null, ksz_lv, kfit_int, kfit_long, kfit_obj, kfit_objN, kfit_arr, kfit_arrN, knarI, knarZ0, knarZ1, kret_v, kret_n, kret_x, Nat.reduceAdd, Nat.reduceLeDiff, reduceCtorEq, Int.reduceLE, Int.reduceLT, Int.reduceEq, ite_true, ite_false, true_or, or_true, false_implies, true_implies, not_true_eq_false, not_false_eq_true, and_self, eq_self, klc_lt, klc_ge, klc_le, klc_gt, klc_eq, kmu_eq, kmu_f, kmu_i, kmu_j, e]
      rfl
    · have ih : ∀ m, n = m + 1 → kNx E d b xs V A t (5 * t) c l (fun o _ => o = .inl (some (.int 1))) := by
        intro m hm J' A' V' C' R' c' l' y5 y6 j1 j2 j3 j4
        have := wloop hln hd m (t + 1) J' A' V' C' R' c' l' y5 y6 (by omega) (by omega) j1 j2 (by omega) (by omega) (by omega)
        have e5 : 5 * (t + 1) = 5 * t + 5 := by omega
        rw [e5] at this
        simp (disch := first | assumption | (unfold kR; decide) | exact klc_R | (unfold kR; omega) | omega | (unfold kL; omega) | exact kcat_null | exact kcat_ref _ | exact kcat_iv _) only [r0_1338, r0_1341, true_and, and_true, kk1_i, kk1_r, kk1_n, kk1_0, kcat_iv, kcat_ref, kcat_null, kisR_ref, kisR_null, ksz_nil, ksz_iv, ksz_ref, ksz_null, ksz_lv, kfit_int, kfit_long, kfit_obj, kfit_objN, kfit_arr, kfit_arrN, knarI, knarZ0, knarZ1, kret_v, kret_n, kret_x, Nat.reduceAdd, Nat.reduceLeDiff, reduceCtorEq, Int.reduceLE, Int.reduceLT, Int.reduceEq, ite_true, ite_false, true_or, or_true, false_implies, true_implies, not_true_eq_false, not_false_eq_true, and_self, eq_self, klc_lt, klc_ge, klc_le, klc_gt, klc_eq, kmu_eq, kmu_f, kmu_i, kmu_j]
        exact this
      obtain ⟨m, hm⟩ : ∃ m, n = m + 1 := ⟨n - 1, by omega⟩
      have H := ih m hm
      have k31 := kand31 (x := ksc xs (5 * t))
      have hc1 : 121 ≤ c := by omega
      have hl1 : 2786 ≤ l := by omega
      have i1 : 5 * t + 5 ≤ xs.length := by omega
      simp (disch := first | assumption | (unfold kR; decide) | exact klc_R | (unfold kR; omega) | omega | (unfold kL; omega) | exact kcat_null | exact kcat_ref _ | exact kcat_iv _) only [r0_23, r0_25, r0_26, r0_27, r0_28, r0_29, r0_32, r0_33, r0_35, r0_36, r0_38, ksc_t hb, ksc_l hb, ksc_ok hb, ksc_g hb, true_and, and_true, kk1_i, kk1_r, kk1_n, kk1_0, kcat_iv, kcat_ref, kcat_null, kisR_ref, kisR_null, ksz_nil, ksz_iv, ksz_ref, ksz_null, ksz_lv, kfit_int, kfit_long, kfit_obj, kfit_objN, kfit_arr, kfit_arrN, knarI, knarZ0, knarZ1, kret_v, kret_n, kret_x, Nat.reduceAdd, Nat.reduceLeDiff, reduceCtorEq, Int.reduceLE, Int.reduceLT, Int.reduceEq, ite_true, ite_false, true_or, or_true, false_implies, true_implies, not_true_eq_false, not_false_eq_true, and_self, eq_self, klc_lt, klc_ge, klc_le, klc_gt, klc_eq, kmu_eq, kmu_f, kmu_i, kmu_j, e]
      generalize hk : kand (ksc xs (5 * t)) 31 = k at k31
      by_cases k20 : 20 < k
      · rw [r0_39 (by unfold kR; omega) (Or.inr k20)]
        exact H J A V C R c l x5 x6 (kIv_t I (by omega)) hb (by omega) (by omega)
      · have kk : k = 0 ∨ k = 1 ∨ k = 2 ∨ k = 3 ∨ k = 4 ∨ k = 5 ∨ k = 6 ∨ k = 7 ∨ k = 8 ∨ k = 9 ∨ k = 10 ∨ k = 11 ∨ k = 12 ∨ k = 13 ∨ k = 14 ∨ k = 15 ∨ k = 16 ∨ k = 17 ∨ k = 18 ∨ k = 19 ∨ k = 20 := by omega
        rcases kk with rfl | rfl | rfl | rfl | rfl | rfl | rfl | rfl | rfl | rfl | rfl | rfl | rfl | rfl | rfl | rfl | rfl | rfl | rfl | rfl | rfl
        · rw [r0_39_0]
          exact w0 I (by omega) hb (by omega) i1 hln hd hc1 hl1 H
        · rw [r0_39_1]
          exact w1 I (by omega) hb (by omega) i1 hln hd hc1 hl1 H
        · rw [r0_39_2]
          exact w2 I (by omega) hb (by omega) i1 hln hd hc1 hl1 H
        · rw [r0_39_3]
          exact w3 I (by omega) hb (by omega) i1 hln hd hc1 hl1 H
        · rw [r0_39_4]
          exact w4 I (by omega) hb (by omega) i1 hln hd hc1 hl1 H
        · rw [r0_39_5]
          exact w5 I (by omega) hb (by omega) i1 hln hd hc1 hl1 H
        · rw [r0_39_6]
          exact w6 I (by omega) hb (by omega) i1 hln hd hc1 hl1 H
        · rw [r0_39_7]
          exact w7 I (by omega) hb (by omega) i1 hln hd hc1 hl1 H
        · rw [r0_39_8]
          exact w8 I (by omega) hb (by omega) i1 hln hd hc1 hl1 H
        · rw [r0_39_9]
          exact w9 I (by omega) hb (by omega) i1 hln hd hc1 hl1 H
        · rw [r0_39_10]
          exact w10 I (by omega) hb (by omega) i1 hln hd hc1 hl1 H
        · rw [r0_39_11]
          exact w11 I (by omega) hb (by omega) i1 hln hd hc1 hl1 H
        · rw [r0_39_12]
          exact w12 I (by omega) hb (by omega) i1 hln hd hc1 hl1 H
        · rw [r0_39_13]
          exact w13 I (by omega) hb (by omega) i1 hln hd hc1 hl1 H
        · rw [r0_39_14]
          exact w14 I (by omega) hb (by omega) i1 hln hd hc1 hl1 H
        · rw [r0_39_15]
          exact w15 I (by omega) hb (by omega) i1 hln hd hc1 hl1 H
        · rw [r0_39_16]
          exact w16 I (by omega) hb (by omega) i1 hln hd hc1 hl1 H
        · rw [r0_39_17]
          exact w17 I (by omega) hb (by omega) i1 hln hd hc1 hl1 H
        · rw [r0_39_18]
          exact w18 I (by omega) hb (by omega) i1 hln hd hc1 hl1 H
        · rw [r0_39_19]
          exact w19 I (by omega) hb (by omega) i1 hln hd hc1 hl1 H
        · rw [r0_39_20]
          exact w20 I (by omega) hb (by omega) i1 hln hd hc1 hl1 H
termination_by n => n
end
