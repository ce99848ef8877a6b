/-! The reader: a line. -/
def kFrl (C C' : ka_M) : Prop := ∀ f, f ≠ 5 → f ≠ 26 → f ≠ 25 → f ≠ 6 → f ≠ 20 → f ≠ 21 → f ≠ 22 → f ≠ 3 → f ≠ 32 → f ≠ 10 → f ≠ 33 → C' f = C f
theorem kFrl_rfl {C : ka_M} : kFrl C C := fun _ _ _ _ _ _ _ _ _ _ _ _ => rfl
theorem kFrl.trans {C C' C'' : ka_M} (h : kFrl C C') (h' : kFrl C' C'') : kFrl C C'' := fun f a b c d e a1 a2 a3 a4 a5 a6 => (h' f a b c d e a1 a2 a3 a4 a5 a6).trans (h f a b c d e a1 a2 a3 a4 a5 a6)
theorem kFrl_5 {C C' : ka_M} (h : ∀ f, f ≠ 5 → C' f = C f) : kFrl C C' := fun f a _ _ _ _ _ _ _ _ _ _ => h f a
section
variable {E : Nat × Nat} {d c l : Nat} {s : ka_S} {h : ka_H} {Q : ka_Q} {J : ka_H} {A A' : ka_A} {V V' : ka_V} {C C' R X X' : ka_M}
theorem c92_l (hA : kJ A V) (v : kLV V) {k st g : Int} (hd : 5 ≤ d) (k0 : 0 ≤ k) (hst : kR st) :
    ∀ (m : Nat) (n : Int) (C X : ka_M), kRW V X → kRe C X → kBI V C X → k < X 9 0 7 → 1 ≤ n → n + m = 5 → X 59 0 k = 1 → X 61 0 (4 * k) = n → X 9 0 39 ≤ X 9 0 3 →
    (∀ C', kRe C' (kpl k m X).1 → kBI V C' (kpl k m X).1 → kFrl C C' → ((kpl k m X).2 = 0 → C' 5 0 3 = (kpl k m X).1 9 0 40) → (¬ (kpl k m X).2 = 0 → C' 5 0 3 = C 5 0 3) → Q (.inl (some (iv (kpl k m X).2))) (kHp J A V C' R, c, l)) →
    ka_W (kp E) (d, (92, 73, [some (.ref (A 5 0)), some (.ref (A 1 0)), some (iv st), some (iv g), some (.ref (A 3 k)), some (iv 1), some (iv n)], []), (kHp J A V C R, c, l)) Q
  | m, n, C, X, rw, r, I, k1, n1, hn, h59, h61, ha, H => by
    have n10 : ¬ (1:Int) = 0 := by decide
    have hb : 4 * k + X 59 0 k - 1 = 4 * k := by omega
    have q97 := fun {Q} => c97e (E := E) (d := d - 1) (c := c) (l := l) (Q := Q) (J := J) (R := R) hA v rw r
    have B142 := f142_b rw
    have fin : kpl k m X = f144 X 10 → (n < 5 → ¬ f142 X = 32) → ka_W (kp E) (d, (92, 73, [some (.ref (A 5 0)), some (.ref (A 1 0)), some (iv st), some (iv g), some (.ref (A 3 k)), some (iv 1), some (iv n)], []), (kHp J A V C R, c, l)) Q := by
      intro e hz
      rw [e] at H
      have w : ka_W (kp E) (d, (92, 108, [some (.ref (A 5 0)), some (.ref (A 1 0)), some (iv st), some (iv g), some (.ref (A 3 k)), some (iv 1), some (iv n)], []), (kHp J A V C R, c, l)) Q := by
        simp (disch := first | assumption | (unfold kR; decide) | exact klc_R | (unfold kR; omega) | omega | (unfold kL; omega) | exact kcat_null | exact kcat_ref _ | exact kcat_iv _) only [r92_108, r92_110, r92_113, r92_114, r92_116, ht_5 hA v.l5, true_and, and_true, kk1_i, kk1_r, kk1_n, kk1_0, kcat_iv, kcat_ref, kcat_null, kisR_ref, kisR_null, ksz_nil, ksz_iv, ksz_ref, ksz_null, ksz_lv, kfit_int, kfit_long, kfit_obj, kfit_objN, kfit_arr, kfit_arrN, knarI, knarZ0, knarZ1, kret_v, kret_n, kret_x, Nat.reduceAdd, Nat.reduceLeDiff, reduceCtorEq, Int.reduceLE, Int.reduceLT, Int.reduceEq, ite_true, ite_false, true_or, or_true, false_implies, true_implies, not_true_eq_false, not_false_eq_true, and_self, eq_self, klc_lt, klc_ge, klc_le, klc_gt, klc_eq, kmu_eq, kmu_f, kmu_i, kmu_j, n10, Nat.zero_le, show 1 ≤ d by omega]
        refine c98e hA v rw r (by omega) (by omega) (by omega) (fun C1 a1 a2 a3 a4 => ?_)
        have p1 := f144_ps (R := X) (x := 10)
        have z1 := f144_01 (R := X) (x := 10)
        generalize f144 X 10 = Z1 at *
        have := H C1 a1 (I.ps a2 p1) (kFrl_5 a2) a3 a4
        rcases z1 with z1 | z1
        · rw [z1] at this ⊢
          simp (disch := first | assumption | (unfold kR; decide) | exact klc_R | (unfold kR; omega) | omega | (unfold kL; omega) | exact kcat_null | exact kcat_ref _ | exact kcat_iv _) only [r92_119, r92_122, r92_123, r92_126, r92_127, true_and, and_true, kk1_i, kk1_r, kk1_n, kk1_0, kcat_iv, kcat_ref, kcat_null, kisR_ref, kisR_null, ksz_nil, ksz_iv, ksz_ref, ksz_null, ksz_lv, kfit_int, kfit_long, kfit_obj, kfit_objN, kfit_arr, kfit_arrN, knarI, knarZ0, knarZ1, kret_v, kret_n, kret_x, Nat.reduceAdd, Nat.reduceLeDiff, reduceCtorEq, Int.reduceLE, Int.reduceLT, Int.reduceEq, ite_true, ite_false, true_or, or_true, false_implies, true_implies, not_true_eq_false, not_false_eq_true, and_self, eq_self, klc_lt, klc_ge, klc_le, klc_gt, klc_eq, kmu_eq, kmu_f, kmu_i, kmu_j]
          exact this
        · rw [z1] at this ⊢
          simp (disch := first | assumption | (unfold kR; decide) | exact klc_R | (unfold kR; omega) | omega | (unfold kL; omega) | exact kcat_null | exact kcat_ref _ | exact kcat_iv _) only [r92_119, r92_122, r92_123, r92_126, r92_127, true_and, and_true, kk1_i, kk1_r, kk1_n, kk1_0, kcat_iv, kcat_ref, kcat_null, kisR_ref, kisR_null, ksz_nil, ksz_iv, ksz_ref, ksz_null, ksz_lv, kfit_int, kfit_long, kfit_obj, kfit_objN, kfit_arr, kfit_arrN, knarI, knarZ0, knarZ1, kret_v, kret_n, kret_x, Nat.reduceAdd, Nat.reduceLeDiff, reduceCtorEq, Int.reduceLE, Int.reduceLT, Int.reduceEq, ite_true, ite_false, true_or, or_true, false_implies, true_implies, not_true_eq_false, not_false_eq_true, and_self, eq_self, klc_lt, klc_ge, klc_le, klc_gt, klc_eq, kmu_eq, kmu_f, kmu_i, kmu_j, n10]
          exact this
      by_cases e5 : 5 ≤ n
      · simp (disch := first | assumption | (unfold kR; decide) | exact klc_R | (unfold kR; omega) | omega | (unfold kL; omega) | exact kcat_null | exact kcat_ref _ | exact kcat_iv _) only [r92_73, r92_75, r92_76, true_and, and_true, kk1_i, kk1_r, kk1_n, kk1_0, kcat_iv, kcat_ref, kcat_null, kisR_ref, kisR_null, ksz_nil, ksz_iv, ksz_ref, ksz_null, ksz_lv, kfit_int, kfit_long, kfit_obj, kfit_objN, kfit_arr, kfit_arrN, knarI, knarZ0, knarZ1, kret_v, kret_n, kret_x, Nat.reduceAdd, Nat.reduceLeDiff, reduceCtorEq, Int.reduceLE, Int.reduceLT, Int.reduceEq, ite_true, ite_false, true_or, or_true, false_implies, true_implies, not_true_eq_false, not_false_eq_true, and_self, eq_self, klc_lt, klc_ge, klc_le, klc_gt, klc_eq, kmu_eq, kmu_f, kmu_i, kmu_j, e5]
        exact w
      · simp (disch := first | assumption | (unfold kR; decide) | exact klc_R | (unfold kR; omega) | omega | (unfold kL; omega) | exact kcat_null | exact kcat_ref _ | exact kcat_iv _) only [r92_73, r92_75, r92_76, r92_79, r92_81, r92_84, r92_85, r92_88, r92_90, ht_5 hA v.l5, true_and, and_true, kk1_i, kk1_r, kk1_n, kk1_0, kcat_iv, kcat_ref, kcat_null, kisR_ref, kisR_null, ksz_nil, ksz_iv, ksz_ref, ksz_null, ksz_lv, kfit_int, kfit_long, kfit_obj, kfit_objN, kfit_arr, kfit_arrN, knarI, knarZ0, knarZ1, kret_v, kret_n, kret_x, Nat.reduceAdd, Nat.reduceLeDiff, reduceCtorEq, Int.reduceLE, Int.reduceLT, Int.reduceEq, ite_true, ite_false, true_or, or_true, false_implies, true_implies, not_true_eq_false, not_false_eq_true, and_self, eq_self, klc_lt, klc_ge, klc_le, klc_gt, klc_eq, kmu_eq, kmu_f, kmu_i, kmu_j, e5, n10, q97, hz (by omega), Nat.zero_le, show 1 ≤ d by omega]
        exact w
    by_cases h1 : f142 X = 32
    · cases m with
      | zero => exact fin rfl (fun w => by omega)
      | succ m =>
        simp only [kpl, if_pos h1] at H
        rw [r92_73]
        simp (disch := first | assumption | (unfold kR; decide) | exact klc_R | (unfold kR; omega) | omega | (unfold kL; omega) | exact kcat_null | exact kcat_ref _ | exact kcat_iv _) only [r92_75, r92_76, r92_79, r92_81, r92_84, r92_85, r92_88, r92_90, r92_93, r92_94, r92_95, r92_97, ht_5 hA v.l5, true_and, and_true, kk1_i, kk1_r, kk1_n, kk1_0, kcat_iv, kcat_ref, kcat_null, kisR_ref, kisR_null, ksz_nil, ksz_iv, ksz_ref, ksz_null, ksz_lv, kfit_int, kfit_long, kfit_obj, kfit_objN, kfit_arr, kfit_arrN, knarI, knarZ0, knarZ1, kret_v, kret_n, kret_x, Nat.reduceAdd, Nat.reduceLeDiff, reduceCtorEq, Int.reduceLE, Int.reduceLT, Int.reduceEq, ite_true, ite_false, true_or, or_true, false_implies, true_implies, not_true_eq_false, not_false_eq_true, and_self, eq_self, klc_lt, klc_ge, klc_le, klc_gt, klc_eq, kmu_eq, kmu_f, kmu_i, kmu_j, n10, q97, h1, show ¬ 5 ≤ n by omega, Nat.zero_le, show 1 ≤ d by omega]
        obtain ⟨o1, o2, o3, o4, o5, o6⟩ := f146_o rw (k := k) k0 (by have := rw.i7; omega) (by omega) (by rw [hb]; omega) ha
        rw [hb] at o6
        have e59 := o2.1 59 (by decide) (by decide) (by decide) (by decide) (by decide) (by decide)
        have e7 := o2.2.1 7 (by decide) (by decide) (by decide) (by decide)
        refine c93 hA v rw r I (k := k) (by omega) k0 k1 (by rw [hb]; omega) ha (fun C1 a1 a2 a3 a4 a5 => ?_)
        have fr : kFrl C C1 := fun f b1 b2 b3 b4 b5 b6 b7 _ _ _ _ => a3 f b1 b2 b3 b4 b5 b6 b7
        generalize f146 X k = Z at *
        by_cases h2 : Z.2 = 0
        · rw [kth_0 h2] at H
          have := H C1 a1 a2 fr (fun _ => a4 h2) (fun w => absurd rfl w)
          rw [h2]
          by_cases e5 : 5 ≤ n + 1
          · simp (disch := first | assumption | (unfold kR; decide) | exact klc_R | (unfold kR; omega) | omega | (unfold kL; omega) | exact kcat_null | exact kcat_ref _ | exact kcat_iv _) only [r92_73, r92_75, r92_76, r92_100, r92_102, r92_105, true_and, and_true, kk1_i, kk1_r, kk1_n, kk1_0, kcat_iv, kcat_ref, kcat_null, kisR_ref, kisR_null, ksz_nil, ksz_iv, ksz_ref, ksz_null, ksz_lv, kfit_int, kfit_long, kfit_obj, kfit_objN, kfit_arr, kfit_arrN, knarI, knarZ0, knarZ1, kret_v, kret_n, kret_x, Nat.reduceAdd, Nat.reduceLeDiff, reduceCtorEq, Int.reduceLE, Int.reduceLT, Int.reduceEq, ite_true, ite_false, true_or, or_true, false_implies, true_implies, not_true_eq_false, not_false_eq_true, and_self, eq_self, klc_lt, klc_ge, klc_le, klc_gt, klc_eq, kmu_eq, kmu_f, kmu_i, kmu_j]
            simp (disch := first | assumption | (unfold kR; decide) | exact klc_R | (unfold kR; omega) | omega | (unfold kL; omega) | exact kcat_null | exact kcat_ref _ | exact kcat_iv _) only [r92_73, r92_75, r92_76, r92_108, r92_110, r92_113, r92_114, r92_116, r92_119, r92_122, r92_123, r92_126, r92_127, ht_5 hA v.l5, true_and, and_true, kk1_i, kk1_r, kk1_n, kk1_0, kcat_iv, kcat_ref, kcat_null, kisR_ref, kisR_null, ksz_nil, ksz_iv, ksz_ref, ksz_null, ksz_lv, kfit_int, kfit_long, kfit_obj, kfit_objN, kfit_arr, kfit_arrN, knarI, knarZ0, knarZ1, kret_v, kret_n, kret_x, Nat.reduceAdd, Nat.reduceLeDiff, reduceCtorEq, Int.reduceLE, Int.reduceLT, Int.reduceEq, ite_true, ite_false, true_or, or_true, false_implies, true_implies, not_true_eq_false, not_false_eq_true, and_self, eq_self, klc_lt, klc_ge, klc_le, klc_gt, klc_eq, kmu_eq, kmu_f, kmu_i, kmu_j, e5]
            exact this
          · simp (disch := first | assumption | (unfold kR; decide) | exact klc_R | (unfold kR; omega) | omega | (unfold kL; omega) | exact kcat_null | exact kcat_ref _ | exact kcat_iv _) only [r92_100, r92_102, r92_105, true_and, and_true, kk1_i, kk1_r, kk1_n, kk1_0, kcat_iv, kcat_ref, kcat_null, kisR_ref, kisR_null, ksz_nil, ksz_iv, ksz_ref, ksz_null, ksz_lv, kfit_int, kfit_long, kfit_obj, kfit_objN, kfit_arr, kfit_arrN, knarI, knarZ0, knarZ1, kret_v, kret_n, kret_x, Nat.reduceAdd, Nat.reduceLeDiff, reduceCtorEq, Int.reduceLE, Int.reduceLT, Int.reduceEq, ite_true, ite_false, true_or, or_true, false_implies, true_implies, not_true_eq_false, not_false_eq_true, and_self, eq_self, klc_lt, klc_ge, klc_le, klc_gt, klc_eq, kmu_eq, kmu_f, kmu_i, kmu_j]
            simp (disch := first | assumption | (unfold kR; decide) | exact klc_R | (unfold kR; omega) | omega | (unfold kL; omega) | exact kcat_null | exact kcat_ref _ | exact kcat_iv _) only [r92_73, r92_75, r92_76, r92_79, r92_81, r92_108, r92_110, r92_113, r92_114, r92_116, r92_119, r92_122, r92_123, r92_126, r92_127, ht_5 hA v.l5, true_and, and_true, kk1_i, kk1_r, kk1_n, kk1_0, kcat_iv, kcat_ref, kcat_null, kisR_ref, kisR_null, ksz_nil, ksz_iv, ksz_ref, ksz_null, ksz_lv, kfit_int, kfit_long, kfit_obj, kfit_objN, kfit_arr, kfit_arrN, knarI, knarZ0, knarZ1, kret_v, kret_n, kret_x, Nat.reduceAdd, Nat.reduceLeDiff, reduceCtorEq, Int.reduceLE, Int.reduceLT, Int.reduceEq, ite_true, ite_false, true_or, or_true, false_implies, true_implies, not_true_eq_false, not_false_eq_true, and_self, eq_self, klc_lt, klc_ge, klc_le, klc_gt, klc_eq, kmu_eq, kmu_f, kmu_i, kmu_j, e5]
            exact this
        · have e1 : Z.2 = 1 := o5.resolve_left h2
          rw [kth_1 h2] at H
          have ih := c92_l (st := st) (g := g) hA v hd k0 hst m (n + 1) C1 Z.1 o1 a1 a2 (by omega) (by omega) (by omega) (by rw [e59]; exact h59) (by rw [o6 e1]; omega) o4 (fun C' b1 b2 b3 b4 b5 => H C' b1 b2 (fr.trans b3) b4 (fun w => (b5 w).trans (a5 h2)))
          rw [e1]
          simp (disch := first | assumption | (unfold kR; decide) | exact klc_R | (unfold kR; omega) | omega | (unfold kL; omega) | exact kcat_null | exact kcat_ref _ | exact kcat_iv _) only [r92_100, r92_102, r92_105, true_and, and_true, kk1_i, kk1_r, kk1_n, kk1_0, kcat_iv, kcat_ref, kcat_null, kisR_ref, kisR_null, ksz_nil, ksz_iv, ksz_ref, ksz_null, ksz_lv, kfit_int, kfit_long, kfit_obj, kfit_objN, kfit_arr, kfit_arrN, knarI, knarZ0, knarZ1, kret_v, kret_n, kret_x, Nat.reduceAdd, Nat.reduceLeDiff, reduceCtorEq, Int.reduceLE, Int.reduceLT, Int.reduceEq, ite_true, ite_false, true_or, or_true, false_implies, true_implies, not_true_eq_false, not_false_eq_true, and_self, eq_self, klc_lt, klc_ge, klc_le, klc_gt, klc_eq, kmu_eq, kmu_f, kmu_i, kmu_j]
          exact ih
    · refine fin ?_ (fun _ => h1)
      cases m with
      | zero => rfl
      | succ m => simp only [kpl, if_neg h1]
/-- readLine -/
theorem c92 (hA : kJ A V) (v : kLV V) (hE : A 34 0 = E.1) (rw : kRW V X) (r : kRe C X) (I : kBI V C X) (hd : 8 ≤ d) (ha : X 9 0 39 ≤ X 9 0 3) (hc : 120 ≤ (c:Int) + 6 * X 9 0 7) (hl : 2780 ≤ (l:Int) + 139 * X 9 0 7)
    (H : ∀ J' A' V' C' c' l', kJ A' V' → kExt V V' A A' → kRe C' (f147 X).1 → kBI V' C' (f147 X).1 → kFrl C C' → ((f147 X).2 = 0 → C' 5 0 3 = (f147 X).1 9 0 40) → (¬ (f147 X).2 = 0 → C' 5 0 3 = C 5 0 3) → (c:Int) + 6 * X 9 0 7 ≤ (c':Nat) + 6 * (f147 X).1 9 0 7 → (l:Int) + 139 * X 9 0 7 ≤ (l':Nat) + 139 * (f147 X).1 9 0 7 → Q (.inl (some (iv (f147 X).2))) (kHp J' A' V' C' R, c', l')) :
    ka_W (kp E) (d, (92, 0, [some (.ref (A 5 0)), some (.ref (A 1 0)), none, none, none, none, none], []), (kHp J A V C R, c, l)) Q := by
  have n10 : ¬ (1:Int) = 0 := by decide
  unfold f147 at H
  simp (disch := first | assumption | (unfold kR; decide) | exact klc_R | (unfold kR; omega) | omega | (unfold kL; omega) | exact kcat_null | exact kcat_ref _ | exact kcat_iv _) only [r92_0, r92_1, r92_3, ht_5 hA v.l5, true_and, and_true, kk1_i, kk1_r, kk1_n, kk1_0, kcat_iv, kcat_ref, kcat_null, kisR_ref, kisR_null, ksz_nil, ksz_iv, ksz_ref, ksz_null, ksz_lv, kfit_int, kfit_long, kfit_obj, kfit_objN, kfit_arr, kfit_arrN, knarI, knarZ0, knarZ1, kret_v, kret_n, kret_x, Nat.reduceAdd, Nat.reduceLeDiff, reduceCtorEq, Int.reduceLE, Int.reduceLT, Int.reduceEq, ite_true, ite_false, true_or, or_true, false_implies, true_implies, not_true_eq_false, not_false_eq_true, and_self, eq_self, klc_lt, klc_ge, klc_le, klc_gt, klc_eq, kmu_eq, kmu_f, kmu_i, kmu_j, Nat.zero_le, show 1 ≤ d by omega]
  refine c98e hA v rw r (by omega) (by omega) (by omega) (fun C1 a1 a2 a3 a4 => ?_)
  have p1 := f144_ps (R := X) (x := 75)
  have rw1 := f144_rw rw (x := 75) (by omega)
  have at1 := f144_at (R := X) (x := 75) (by omega) ha
  have z1 := f144_01 (R := X) (x := 75)
  generalize f144 X 75 = Z1 at *
  have I1 := I.ps a2 p1
  have s1 := p1.2 7 (by decide) (by decide) (by decide) (by decide)
  by_cases h1 : Z1.2 = 0
  · rw [kth_0 h1] at H
    have := H J A V C1 c l hA kExt_rfl a1 I1 (kFrl_5 a2) (fun _ => a3 h1) (fun w => absurd rfl w) (by dsimp only; omega) (by dsimp only; omega)
    rw [h1]
    simp (disch := first | assumption | (unfold kR; decide) | exact klc_R | (unfold kR; omega) | omega | (unfold kL; omega) | exact kcat_null | exact kcat_ref _ | exact kcat_iv _) only [r92_6, r92_9, r92_10, r92_12, r92_15, r92_18, r92_19, ht_5 hA v.l5, true_and, and_true, kk1_i, kk1_r, kk1_n, kk1_0, kcat_iv, kcat_ref, kcat_null, kisR_ref, kisR_null, ksz_nil, ksz_iv, ksz_ref, ksz_null, ksz_lv, kfit_int, kfit_long, kfit_obj, kfit_objN, kfit_arr, kfit_arrN, knarI, knarZ0, knarZ1, kret_v, kret_n, kret_x, Nat.reduceAdd, Nat.reduceLeDiff, reduceCtorEq, Int.reduceLE, Int.reduceLT, Int.reduceEq, ite_true, ite_false, true_or, or_true, false_implies, true_implies, not_true_eq_false, not_false_eq_true, and_self, eq_self, klc_lt, klc_ge, klc_le, klc_gt, klc_eq, kmu_eq, kmu_f, kmu_i, kmu_j]
    exact this
  rw [kth_1 h1] at H
  rw [z1.resolve_left h1]
  clear z1
  simp (disch := first | assumption | (unfold kR; decide) | exact klc_R | (unfold kR; omega) | omega | (unfold kL; omega) | exact kcat_null | exact kcat_ref _ | exact kcat_iv _) only [r92_6, r92_9, r92_10, r92_12, ht_5 hA v.l5, true_and, and_true, kk1_i, kk1_r, kk1_n, kk1_0, kcat_iv, kcat_ref, kcat_null, kisR_ref, kisR_null, ksz_nil, ksz_iv, ksz_ref, ksz_null, ksz_lv, kfit_int, kfit_long, kfit_obj, kfit_objN, kfit_arr, kfit_arrN, knarI, knarZ0, knarZ1, kret_v, kret_n, kret_x, Nat.reduceAdd, Nat.reduceLeDiff, reduceCtorEq, Int.reduceLE, Int.reduceLT, Int.reduceEq, ite_true, ite_false, true_or, or_true, false_implies, true_implies, not_true_eq_false, not_false_eq_true, and_self, eq_self, klc_lt, klc_ge, klc_le, klc_gt, klc_eq, kmu_eq, kmu_f, kmu_i, kmu_j, n10, Nat.zero_le, show 1 ≤ d by omega]
  refine c98e hA v rw1 a1 (by omega) (by omega) (by omega) (fun C2 b1 b2 b3 b4 => ?_)
  have p2 := f144_ps (R := Z1.1) (x := 32)
  have rw2 := f144_rw rw1 (x := 32) (by omega)
  have at2 := f144_at (R := Z1.1) (x := 32) (by omega) at1.1
  have z2 := f144_01 (R := Z1.1) (x := 32)
  generalize f144 Z1.1 32 = Z2 at *
  have I2 := I1.ps b2 p2
  have s2 := p2.2 7 (by decide) (by decide) (by decide) (by decide)
  have f2 : ∀ f, f ≠ 5 → C2 f = C f := fun f z => (b2 f z).trans (a2 f z)
  by_cases h2 : Z2.2 = 0
  · rw [kth_0 h2] at H
    have := H J A V C2 c l hA kExt_rfl b1 I2 (kFrl_5 f2) (fun _ => b3 h2) (fun w => absurd rfl w) (by dsimp only; omega) (by dsimp only; omega)
    rw [h2]
    simp (disch := first | assumption | (unfold kR; decide) | exact klc_R | (unfold kR; omega) | omega | (unfold kL; omega) | exact kcat_null | exact kcat_ref _ | exact kcat_iv _) only [r92_15, r92_18, r92_19, true_and, and_true, kk1_i, kk1_r, kk1_n, kk1_0, kcat_iv, kcat_ref, kcat_null, kisR_ref, kisR_null, ksz_nil, ksz_iv, ksz_ref, ksz_null, ksz_lv, kfit_int, kfit_long, kfit_obj, kfit_objN, kfit_arr, kfit_arrN, knarI, knarZ0, knarZ1, kret_v, kret_n, kret_x, Nat.reduceAdd, Nat.reduceLeDiff, reduceCtorEq, Int.reduceLE, Int.reduceLT, Int.reduceEq, ite_true, ite_false, true_or, or_true, false_implies, true_implies, not_true_eq_false, not_false_eq_true, and_self, eq_self, klc_lt, klc_ge, klc_le, klc_gt, klc_eq, kmu_eq, kmu_f, kmu_i, kmu_j]
    exact this
  rw [kth_1 h2] at H
  rw [z2.resolve_left h2]
  clear z2
  have w2 : C2 5 0 3 = C 5 0 3 := (b4 h2).trans (a4 h1)
  have g2 := b1.2.1
  have B39 := rw2.i39
  simp (disch := first | assumption | (unfold kR; decide) | exact klc_R | (unfold kR; omega) | omega | (unfold kL; omega) | exact kcat_null | exact kcat_ref _ | exact kcat_iv _) only [r92_15, r92_18, r92_19, r92_20, r92_21, r92_24, r92_25, r92_26, r92_27, r92_29, ho_5_2 hA v.l5, hg_5_2 hA v.l5, ht_5 hA v.l5, true_and, and_true, kk1_i, kk1_r, kk1_n, kk1_0, kcat_iv, kcat_ref, kcat_null, kisR_ref, kisR_null, ksz_nil, ksz_iv, ksz_ref, ksz_null, ksz_lv, kfit_int, kfit_long, kfit_obj, kfit_objN, kfit_arr, kfit_arrN, knarI, knarZ0, knarZ1, kret_v, kret_n, kret_x, Nat.reduceAdd, Nat.reduceLeDiff, reduceCtorEq, Int.reduceLE, Int.reduceLT, Int.reduceEq, ite_true, ite_false, true_or, or_true, false_implies, true_implies, not_true_eq_false, not_false_eq_true, and_self, eq_self, klc_lt, klc_ge, klc_le, klc_gt, klc_eq, kmu_eq, kmu_f, kmu_i, kmu_j, n10, g2, Nat.zero_le, show 1 ≤ d by omega]
  refine c95 hA v rw2 b1 (by omega) at2.1 (by omega) (by omega) (by omega) (by omega) (fun C3 g c1 c2 c3 c4 => ?_)
  have p3 := f145_ps (R := Z2.1) (lo := 0) (hi := 19)
  have i3 := f145_in (R := Z2.1) (lo := 0) (hi := 19)
  have rw3 := f145_rw rw2 (lo := 0) (hi := 19) at2.1
  have at3 := f145_at (R := Z2.1) (lo := 0) (hi := 19) at2.1
  have e42 := f145_42 (X := Z2.1) (lo := 0) (hi := 19)
  generalize f145 Z2.1 0 19 = Z3 at *
  have I3 := I2.ps c2 p3
  have s3 := p3.2 7 (by decide) (by decide) (by decide) (by decide)
  have f3 : ∀ f, f ≠ 5 → C3 f = C f := fun f z => (c2 f z).trans (f2 f z)
  by_cases h3 : Z3.2 = 0
  · rw [kth_0 h3] at H
    obtain ⟨y1, y2⟩ := c3 h3
    have := H J A V C3 c l hA kExt_rfl c1 I3 (kFrl_5 f3) (fun _ => y2) (fun w => absurd rfl w) (by dsimp only; omega) (by dsimp only; omega)
    rw [y1]
    simp (disch := first | assumption | (unfold kR; decide) | exact klc_R | (unfold kR; omega) | omega | (unfold kL; omega) | exact kcat_null | exact kcat_ref _ | exact kcat_iv _) only [r92_32, r92_33, r92_34, r92_35, r92_38, r92_39, true_and, and_true, kk1_i, kk1_r, kk1_n, kk1_0, kcat_iv, kcat_ref, kcat_null, kisR_ref, kisR_null, ksz_nil, ksz_iv, ksz_ref, ksz_null, ksz_lv, kfit_int, kfit_long, kfit_obj, kfit_objN, kfit_arr, kfit_arrN, knarI, knarZ0, knarZ1, kret_v, kret_n, kret_x, Nat.reduceAdd, Nat.reduceLeDiff, reduceCtorEq, Int.reduceLE, Int.reduceLT, Int.reduceEq, ite_true, ite_false, true_or, or_true, false_implies, true_implies, not_true_eq_false, not_false_eq_true, and_self, eq_self, klc_lt, klc_ge, klc_le, klc_gt, klc_eq, kmu_eq, kmu_f, kmu_i, kmu_j]
    exact this
  rw [kth_1 h3] at H
  obtain ⟨y1, y2⟩ := c4 h3
  obtain ⟨g0, g1⟩ := i3 h3
  rw [← y1] at H g0 g1
  have w3 : C3 5 0 3 = C 5 0 3 := y2.trans w2
  have e32 : C3 32 0 g = Z3.1 56 0 g := I3.2.1.2.2.2.2.2.1 g g0 (by omega)
  have B56 := rw3.a56 (j := g) g0 (by omega)
  by_cases h4 : Z3.1 56 0 g = -1
  · rw [if_pos h4] at H
    have hk := I3.2.2.2.1.free g0 (by omega) h4
    have B7 := rw3.i7
    simp (disch := first | assumption | (unfold kR; decide) | exact klc_R | (unfold kR; omega) | omega | (unfold kL; omega) | exact kcat_null | exact kcat_ref _ | exact kcat_iv _) only [r92_32, r92_33, r92_34, r92_35, r92_38, r92_39, r92_40, r92_41, r92_42, r92_45, r92_48, r92_49, r92_50, r92_53, r92_54, r92_55, r92_56, ht_1 hA v.l1, ht_5 hA v.l5, true_and, and_true, kk1_i, kk1_r, kk1_n, kk1_0, kcat_iv, kcat_ref, kcat_null, kisR_ref, kisR_null, ksz_nil, ksz_iv, ksz_ref, ksz_null, ksz_lv, kfit_int, kfit_long, kfit_obj, kfit_objN, kfit_arr, kfit_arrN, knarI, knarZ0, knarZ1, kret_v, kret_n, kret_x, Nat.reduceAdd, Nat.reduceLeDiff, reduceCtorEq, Int.reduceLE, Int.reduceLT, Int.reduceEq, ite_true, ite_false, true_or, or_true, false_implies, true_implies, not_true_eq_false, not_false_eq_true, and_self, eq_self, klc_lt, klc_ge, klc_le, klc_gt, klc_eq, kmu_eq, kmu_f, kmu_i, kmu_j, c54 hA v, e32, h4, show ¬ (0:Int) ≤ -1 by decide, show ¬ g = -1 by omega, Nat.zero_le, show 1 ≤ d by omega]
    refine c56 hA v hE rw3 I3 g0 (by omega) h4 hk (by omega) (by omega) (by omega) (fun J4 A4 V4 C4 c' l' d1 d2 d3 d4 d5 d6 d7 => ?_)
    have v4 := d2.lv v
    have rw4 := d2.rw (f123_rw rw3 g0 (by omega) hk)
    have e59 : f123 Z3.1 g 59 0 (Z3.1 9 0 7) = 1 := f123_59
    have e61 : f123 Z3.1 g 61 0 (4 * Z3.1 9 0 7) = 0 := f123_61
    have e39 : f123 Z3.1 g 9 0 39 = Z3.1 9 0 39 := f123_9 (by decide)
    have e3 : f123 Z3.1 g 9 0 3 = Z3.1 9 0 3 := f123_9 (by decide)
    have e7 : f123 Z3.1 g 9 0 7 = Z3.1 9 0 7 + 1 := f123_7
    have e52 : f123 Z3.1 g 52 = Z3.1 52 := f123_o.2.2.2.2.2.2.2 52 (by decide) (by decide) (by decide) (by decide) (by decide) (by decide)
    have r4 : kRe C4 (f123 Z3.1 g) := c1.q (d5 5 (by decide) (by decide) (by decide) (by decide) (by decide) (by decide) (by decide) (by decide)) (d5 31 (by decide) (by decide) (by decide) (by decide) (by decide) (by decide) (by decide) (by decide)) e3 e39 e52
    have w4 : C4 5 0 3 = C 5 0 3 := by rw [d5 5 (by decide) (by decide) (by decide) (by decide) (by decide) (by decide) (by decide) (by decide)]; exact w3
    have fr4 : kFrl C C4 := fun f b1 b2 b3 b4 b5 b6 b7 b8 b9 b10 b11 => (d5 f b8 b4 b5 b6 b7 b9 b10 b11).trans (f3 f b1)
    generalize f123 Z3.1 g = Y at *
    generalize Z3.1 9 0 7 = k at *
    have hb : 4 * k + Y 59 0 k - 1 = 4 * k := by omega
    obtain ⟨o1, o2, o3, o4, o5, o6⟩ := f146_o rw4 (k := k) B7.1 hk (by omega) (by rw [hb]; omega) (by omega)
    rw [hb] at o6
    have f59 := o2.1 59 (by decide) (by decide) (by decide) (by decide) (by decide) (by decide)
    have s5 := o2.2.1 7 (by decide) (by decide) (by decide) (by decide)
    have eA5 : A 5 0 = A4 5 0 := (d2 5 0 (by decide) v.l5).2.symm
    have eA1 : A 1 0 = A4 1 0 := (d2 1 0 (by decide) v.l1).2.symm
    rw [eA5, eA1]
    simp (disch := first | assumption | (unfold kR; decide) | exact klc_R | (unfold kR; omega) | omega | (unfold kL; omega) | exact kcat_null | exact kcat_ref _ | exact kcat_iv _) only [r92_59, r92_61, r92_62, r92_63, r92_65, ht_5 d1 v4.l5, true_and, and_true, kk1_i, kk1_r, kk1_n, kk1_0, kcat_iv, kcat_ref, kcat_null, kisR_ref, kisR_null, ksz_nil, ksz_iv, ksz_ref, ksz_null, ksz_lv, kfit_int, kfit_long, kfit_obj, kfit_objN, kfit_arr, kfit_arrN, knarI, knarZ0, knarZ1, kret_v, kret_n, kret_x, Nat.reduceAdd, Nat.reduceLeDiff, reduceCtorEq, Int.reduceLE, Int.reduceLT, Int.reduceEq, ite_true, ite_false, true_or, or_true, false_implies, true_implies, not_true_eq_false, not_false_eq_true, and_self, eq_self, klc_lt, klc_ge, klc_le, klc_gt, klc_eq, kmu_eq, kmu_f, kmu_i, kmu_j, Nat.zero_le, show 1 ≤ d by omega]
    refine c93 d1 v4 rw4 r4 d3 (k := k) (by omega) B7.1 (by omega) (by rw [hb]; omega) (by omega) (fun C5 x1 x2 x3 x4 x5 => ?_)
    have fr5 : kFrl C C5 := fr4.trans (fun f b1 b2 b3 b4 b5 b6 b7 _ _ _ _ => x3 f b1 b2 b3 b4 b5 b6 b7)
    generalize f146 Y k = Z5 at *
    by_cases h5 : Z5.2 = 0
    · rw [kth_0 h5] at H
      have := H J4 A4 V4 C5 c' l' d1 d2 x1 x2 fr5 (fun _ => x4 h5) (fun w => absurd rfl w) (by dsimp only; omega) (by dsimp only; omega)
      rw [h5]
      simp (disch := first | assumption | (unfold kR; decide) | exact klc_R | (unfold kR; omega) | omega | (unfold kL; omega) | exact kcat_null | exact kcat_ref _ | exact kcat_iv _) only [r92_68, r92_70, r92_71, r92_73, r92_75, r92_76, r92_79, r92_81, r92_108, r92_110, r92_113, r92_114, r92_116, r92_119, r92_122, r92_123, r92_126, r92_127, ht_5 hA v.l5, true_and, and_true, kk1_i, kk1_r, kk1_n, kk1_0, kcat_iv, kcat_ref, kcat_null, kisR_ref, kisR_null, ksz_nil, ksz_iv, ksz_ref, ksz_null, ksz_lv, kfit_int, kfit_long, kfit_obj, kfit_objN, kfit_arr, kfit_arrN, knarI, knarZ0, knarZ1, kret_v, kret_n, kret_x, Nat.reduceAdd, Nat.reduceLeDiff, reduceCtorEq, Int.reduceLE, Int.reduceLT, Int.reduceEq, ite_true, ite_false, true_or, or_true, false_implies, true_implies, not_true_eq_false, not_false_eq_true, and_self, eq_self, klc_lt, klc_ge, klc_le, klc_gt, klc_eq, kmu_eq, kmu_f, kmu_i, kmu_j, show ¬ (5:Int) ≤ 1 by decide]
      exact this
    · rw [kth_1 h5] at H
      obtain ⟨i1, i2, i3, i4, i5⟩ := kpl_o B7.1 hk 4 1 Z5.1 o1 (by omega) (by rw [f59]; exact e59) (by rw [o6 (o5.resolve_left h5)]; omega) o4
      have s6 := i2.2.1 7 (by decide) (by decide) (by decide) (by decide)
      rw [o5.resolve_left h5]
      have e5 := o6 (o5.resolve_left h5)
      clear o5 i5
      simp (disch := first | assumption | (unfold kR; decide) | exact klc_R | (unfold kR; omega) | omega | (unfold kL; omega) | exact kcat_null | exact kcat_ref _ | exact kcat_iv _) only [r92_68, r92_70, r92_71, true_and, and_true, kk1_i, kk1_r, kk1_n, kk1_0, kcat_iv, kcat_ref, kcat_null, kisR_ref, kisR_null, ksz_nil, ksz_iv, ksz_ref, ksz_null, ksz_lv, kfit_int, kfit_long, kfit_obj, kfit_objN, kfit_arr, kfit_arrN, knarI, knarZ0, knarZ1, kret_v, kret_n, kret_x, Nat.reduceAdd, Nat.reduceLeDiff, reduceCtorEq, Int.reduceLE, Int.reduceLT, Int.reduceEq, ite_true, ite_false, true_or, or_true, false_implies, true_implies, not_true_eq_false, not_false_eq_true, and_self, eq_self, klc_lt, klc_ge, klc_le, klc_gt, klc_eq, kmu_eq, kmu_f, kmu_i, kmu_j]
      exact c92_l d1 v4 (by omega) B7.1 (by unfold kR; omega) 4 1 C5 Z5.1 o1 x1 x2 (by omega) (by omega) (by omega) (by rw [f59]; exact e59) (by rw [e5]; omega) o4 (fun C6 y1 y2 y3 y4 y5 => H J4 A4 V4 C6 c' l' d1 d2 y1 y2 (fr5.trans y3) y4 (fun w => (y5 w).trans ((x5 h5).trans w4)) (by omega) (by omega))
  · rw [if_neg h4] at H
    have := H J A V (kmu C3 5 0 3 (Z2.1 9 0 39)) c l hA kExt_rfl (by rw [e42]; exact c1.f5) (I3.ps (fun f hf => kmu_ff hf) (kPS_rfl.mu (by omega))) (kFrl_5 (fun f hf => (kmu_ff hf).trans (f3 f hf))) (fun _ => by dsimp only; rw [kmu_eq, kmu_eq, e42]) (fun w => absurd rfl w) (by dsimp only; rw [kmu_j (by decide)]; omega) (by dsimp only; rw [kmu_j (by decide)]; omega)
    simp (disch := first | assumption | (unfold kR; decide) | exact klc_R | (unfold kR; omega) | omega | (unfold kL; omega) | exact kcat_null | exact kcat_ref _ | exact kcat_iv _) only [r92_32, r92_33, r92_34, r92_35, r92_38, r92_39, r92_40, r92_41, r92_42, r92_45, r92_48, r92_49, r92_50, r92_53, ht_1 hA v.l1, ht_5 hA v.l5, true_and, and_true, kk1_i, kk1_r, kk1_n, kk1_0, kcat_iv, kcat_ref, kcat_null, kisR_ref, kisR_null, ksz_nil, ksz_iv, ksz_ref, ksz_null, ksz_lv, kfit_int, kfit_long, kfit_obj, kfit_objN, kfit_arr, kfit_arrN, knarI, knarZ0, knarZ1, kret_v, kret_n, kret_x, Nat.reduceAdd, Nat.reduceLeDiff, reduceCtorEq, Int.reduceLE, Int.reduceLT, Int.reduceEq, ite_true, ite_false, true_or, or_true, false_implies, true_implies, not_true_eq_false, not_false_eq_true, and_self, eq_self, klc_lt, klc_ge, klc_le, klc_gt, klc_eq, kmu_eq, kmu_f, kmu_i, kmu_j, c54 hA v, c99 hA v, e32, n10, show (0:Int) ≤ Z3.1 56 0 g by omega, show ¬ g = -1 by omega, Nat.zero_le, show 1 ≤ d by omega]
    exact this
end
