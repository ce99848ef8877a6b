/-! The law, from its start. Printed by wip/whole/genz.py. -/
theorem kCs.tail {h : ka_H} {p : Nat × ka_E} {L : List (Nat × ka_E)} (K : kCs h (p :: L)) : kCs h L := ⟨fun q hq => K.1 q (List.mem_cons_of_mem _ hq), by
  have := K.2
  rw [List.map_cons, List.nodup_cons] at this
  exact this.2⟩
theorem kz_law : kz_goal := by
  intro E b xs hn hb
  have K0 : kCs (kz_h b E.1 xs) ((b, (4000, xs.map Value.int)) :: (E.1, (4001, [])) :: []) := by
    refine ⟨fun p hp => ?_, ?_⟩
    · rcases List.mem_cons.mp hp with rfl | hp
      · exact if_pos rfl
      · rcases List.mem_cons.mp hp with rfl | hp
        · show (if E.1 = b then _ else _) = _
          rw [if_neg (fun z => hb z.symm), if_pos rfl]
        · cases hp
    · rw [List.map_cons, List.nodup_cons]
      refine ⟨fun z => ?_, ?_⟩
      · rcases List.mem_cons.mp z with z | z
        · exact hb z
        · cases z
      · exact List.nodup_cons.mpr ⟨List.not_mem_nil, List.nodup_nil⟩
  have en : ka_ent [Value.ref b] 7 = [some (.ref b), none, none, none, none, none, none] := rfl
  rw [en]
  simp (disch := first | assumption | (unfold kR; decide) | exact klc_R | (unfold kR; omega) | omega | (unfold kL; omega) | exact kcat_null | exact kcat_ref _ | exact kcat_iv _) only [r0_0, true_and, and_true, kk1_i, kk1_r, kk1_n, kk1_0, kcat_iv, kcat_ref, kcat_null, kisR_ref, kisR_null, ksz_nil, ksz_iv, ksz_ref, ksz_null, ksz_lv, kfit_int, kfit_long, kfit_obj, kfit_objN, kfit_arr, kfit_arrN, knarI, knarZ0, knarZ1, kret_v, kret_n, kret_x, Nat.reduceAdd, Nat.reduceLeDiff, reduceCtorEq, Int.reduceLE, Int.reduceLT, Int.reduceEq, ite_true, ite_false, true_or, or_true, false_implies, true_implies, not_true_eq_false, not_false_eq_true, and_self, eq_self, klc_lt, klc_ge, klc_le, klc_gt, klc_eq, kmu_eq, kmu_f, kmu_i, kmu_j]
  refine fun kr n0 => ?_
  have K1 := K0.new (e := (0, [.null, .null, .null, .null, .null, .null, iv 0])) n0
  simp (disch := first | assumption | (unfold kR; decide) | exact klc_R | (unfold kR; omega) | omega | (unfold kL; omega) | exact kcat_null | exact kcat_ref _ | exact kcat_iv _) only [r0_3, r0_4, true_and, and_true, kk1_i, kk1_r, kk1_n, kk1_0, kcat_iv, kcat_ref, kcat_null, kisR_ref, kisR_null, ksz_nil, ksz_iv, ksz_ref, ksz_null, ksz_lv, kfit_int, kfit_long, kfit_obj, kfit_objN, kfit_arr, kfit_arrN, knarI, knarZ0, knarZ1, kret_v, kret_n, kret_x, Nat.reduceAdd, Nat.reduceLeDiff, reduceCtorEq, Int.reduceLE, Int.reduceLT, Int.reduceEq, ite_true, ite_false, true_or, or_true, false_implies, true_implies, not_true_eq_false, not_false_eq_true, and_self, eq_self, klc_lt, klc_ge, klc_le, klc_gt, klc_eq, kmu_eq, kmu_f, kmu_i, kmu_j, K1.tg, Nat.zero_le]
  refine m20 K1 (by decide) (by decide) (by decide) (fun bk l0 g32 g25 g26 rd g31 rg g27 fl l1 l2 g28 g29 g30 h1 c1 z1 K2 e1 f1 => ?_)
  simp (disch := first | assumption | (unfold kR; decide) | exact klc_R | (unfold kR; omega) | omega | (unfold kL; omega) | exact kcat_null | exact kcat_ref _ | exact kcat_iv _) only [r0_7, r0_8, true_and, and_true, kk1_i, kk1_r, kk1_n, kk1_0, kcat_iv, kcat_ref, kcat_null, kisR_ref, kisR_null, ksz_nil, ksz_iv, ksz_ref, ksz_null, ksz_lv, kfit_int, kfit_long, kfit_obj, kfit_objN, kfit_arr, kfit_arrN, knarI, knarZ0, knarZ1, kret_v, kret_n, kret_x, Nat.reduceAdd, Nat.reduceLeDiff, reduceCtorEq, Int.reduceLE, Int.reduceLT, Int.reduceEq, ite_true, ite_false, true_or, or_true, false_implies, true_implies, not_true_eq_false, not_false_eq_true, and_self, eq_self, klc_lt, klc_ge, klc_le, klc_gt, klc_eq, kmu_eq, kmu_f, kmu_i, kmu_j]
  refine ⟨by omega, by omega, fun mo n1 => ?_⟩
  have K3 := K2.new (e := (9, (iv 0 :: iv 0 :: .null :: iv 0 :: .null :: .null :: .null :: iv 0 :: .null :: .null :: .null :: .null :: .null :: .null :: .null :: iv 0 :: .null :: .null :: .null :: .null :: .null :: .null :: .null :: .null :: .null :: .null :: iv 0 :: .null :: .null :: .null :: .null :: .null :: iv 0 :: .null :: .null :: .null :: iv 0 :: .null :: .null :: iv 0 :: iv 0 :: iv 0 :: iv 0 :: []))) n1
  simp (disch := first | assumption | (unfold kR; decide) | exact klc_R | (unfold kR; omega) | omega | (unfold kL; omega) | exact kcat_null | exact kcat_ref _ | exact kcat_iv _) only [r0_11, r0_12, true_and, and_true, kk1_i, kk1_r, kk1_n, kk1_0, kcat_iv, kcat_ref, kcat_null, kisR_ref, kisR_null, ksz_nil, ksz_iv, ksz_ref, ksz_null, ksz_lv, kfit_int, kfit_long, kfit_obj, kfit_objN, kfit_arr, kfit_arrN, knarI, knarZ0, knarZ1, kret_v, kret_n, kret_x, Nat.reduceAdd, Nat.reduceLeDiff, reduceCtorEq, Int.reduceLE, Int.reduceLT, Int.reduceEq, ite_true, ite_false, true_or, or_true, false_implies, true_implies, not_true_eq_false, not_false_eq_true, and_self, eq_self, klc_lt, klc_ge, klc_le, klc_gt, klc_eq, kmu_eq, kmu_f, kmu_i, kmu_j, K3.tg, Nat.zero_le]
  refine m117 K3 (by decide) (by omega) (by omega) (fun g52 g54 g55 g56 g58 g59 g60 g61 g62 g63 g64 g66 g67 g68 g69 g70 g71 g72 g73 g74 g75 g77 g78 g79 g80 g81 g83 g84 g85 g87 g88 h2 c2 z2 K4 e2 f2 => ?_)
  simp (disch := first | assumption | (unfold kR; decide) | exact klc_R | (unfold kR; omega) | omega | (unfold kL; omega) | exact kcat_null | exact kcat_ref _ | exact kcat_iv _) only [r0_15, r0_16, r0_17, true_and, and_true, kk1_i, kk1_r, kk1_n, kk1_0, kcat_iv, kcat_ref, kcat_null, kisR_ref, kisR_null, ksz_nil, ksz_iv, ksz_ref, ksz_null, ksz_lv, kfit_int, kfit_long, kfit_obj, kfit_objN, kfit_arr, kfit_arrN, knarI, knarZ0, knarZ1, kret_v, kret_n, kret_x, Nat.reduceAdd, Nat.reduceLeDiff, reduceCtorEq, Int.reduceLE, Int.reduceLT, Int.reduceEq, ite_true, ite_false, true_or, or_true, false_implies, true_implies, not_true_eq_false, not_false_eq_true, and_self, eq_self, klc_lt, klc_ge, klc_le, klc_gt, klc_eq, kmu_eq, kmu_f, kmu_i, kmu_j]
  refine ⟨by omega, by show 1 ≤ z2; omega, fun ou n2 => ?_⟩
  have K5 := K4.new (e := (1001, List.replicate 1 (lv 0))) n2
  have K6 := K5.perm (List.perm_middle (l₁ := (_ :: _ :: _ :: _ :: _ :: _ :: _ :: _ :: _ :: _ :: _ :: _ :: _ :: _ :: _ :: _ :: _ :: _ :: _ :: _ :: _ :: _ :: _ :: _ :: _ :: _ :: _ :: _ :: _ :: _ :: _ :: _ :: _ :: _ :: _ :: _ :: _ :: _ :: _ :: _ :: _ :: _ :: _ :: _ :: _ :: _ :: _ :: _ :: _ :: [])))
  have Kb := K6.1 (b, (4000, xs.map Value.int)) List.mem_cons_self
  obtain ⟨A, I, eh, a0, a9, a36⟩ := kst K6.tail
  simp (disch := first | assumption | (unfold kR; decide) | exact klc_R | (unfold kR; omega) | omega | (unfold kL; omega) | exact kcat_null | exact kcat_ref _ | exact kcat_iv _) only [r0_19, r0_20, r0_21, true_and, and_true, kk1_i, kk1_r, kk1_n, kk1_0, kcat_iv, kcat_ref, kcat_null, kisR_ref, kisR_null, ksz_nil, ksz_iv, ksz_ref, ksz_null, ksz_lv, kfit_int, kfit_long, kfit_obj, kfit_objN, kfit_arr, kfit_arrN, knarI, knarZ0, knarZ1, kret_v, kret_n, kret_x, Nat.reduceAdd, Nat.reduceLeDiff, reduceCtorEq, Int.reduceLE, Int.reduceLT, Int.reduceEq, ite_true, ite_false, true_or, or_true, false_implies, true_implies, not_true_eq_false, not_false_eq_true, and_self, eq_self, klc_lt, klc_ge, klc_le, klc_gt, klc_eq, kmu_eq, kmu_f, kmu_i, kmu_j]
  have := wloop (b := b) (E := E) (d := 1000) hn (by decide) 512 0 _ A kV0 kC0 kR0 (c2 - 1) (z2 - 1) none none (by decide) (by omega) I (by rw [eh]; exact Kb) (by omega) (by omega) (by omega)
  rw [eh, a0, a9, a36] at this
  exact this
