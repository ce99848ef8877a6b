/-! The reader: a part. -/
section
variable {E : Nat × Nat} {d c l : Nat} {s : ka_S} {h : ka_H} {Q : ka_Q} {J : ka_H} {A A' : ka_A} {V V' : ka_V} {C C' R X X' : ka_M}
theorem c93 (hA : kJ A V) (v : kLV V) (rw : kRW V X) (r : kRe C X) (I : kBI V C X) {k : Int} (hd : 4 ≤ d) (k0 : 0 ≤ k) (k1 : k < X 9 0 7) (hp : X 61 0 (4 * k + X 59 0 k - 1) < 5) (ha : X 9 0 39 ≤ X 9 0 3)
    (H : ∀ C', kRe C' (f146 X k).1 → kBI V C' (f146 X k).1 → (∀ f, f ≠ 5 → f ≠ 26 → f ≠ 25 → f ≠ 6 → f ≠ 20 → f ≠ 21 → f ≠ 22 → C' f = C f) → ((f146 X k).2 = 0 → C' 5 0 3 = (f146 X k).1 9 0 40) → (¬ (f146 X k).2 = 0 → C' 5 0 3 = C 5 0 3) → Q (.inl (some (iv (f146 X k).2))) (kHp J A V C' R, c, l)) :
    ka_W (kp E) (d, (93, 0, [some (.ref (A 5 0)), some (.ref (A 1 0)), some (.ref (A 3 k)), none, none, none], []), (kHp J A V C R, c, l)) Q := by
  have n10 : ¬ (1:Int) = 0 := by decide
  rw [f146_g] at H
  simp (disch := first | assumption | (unfold kR; decide) | exact klc_R | (unfold kR; omega) | omega | (unfold kL; omega) | exact kcat_null | exact kcat_ref _ | exact kcat_iv _) only [r93_0, r93_1, r93_3, ht_5 hA v.l5, true_and, and_true, kk1_i, kk1_r, kk1_n, kk1_0, kcat_iv, kcat_ref, kcat_null, kisR_ref, kisR_null, ksz_nil, ksz_iv, ksz_ref, ksz_null, ksz_lv, kfit_int, kfit_long, kfit_obj, kfit_objN, kfit_arr, kfit_arrN, knarI, knarZ0, knarZ1, kret_v, kret_n, kret_x, Nat.reduceAdd, Nat.reduceLeDiff, reduceCtorEq, Int.reduceLE, Int.reduceLT, Int.reduceEq, ite_true, ite_false, true_or, or_true, false_implies, true_implies, not_true_eq_false, not_false_eq_true, and_self, eq_self, klc_lt, klc_ge, klc_le, klc_gt, klc_eq, kmu_eq, kmu_f, kmu_i, kmu_j, Nat.zero_le, show 1 ≤ d by omega]
  refine c98e hA v rw r (by omega) (by omega) (by omega) (fun C1 a1 a2 a3 a4 => ?_)
  have p1 := f144_ps (R := X) (x := 32)
  have rw1 := f144_rw rw (x := 32) (by omega)
  have at1 := f144_at (R := X) (x := 32) (by omega) ha
  have z1 := f144_01 (R := X) (x := 32)
  generalize f144 X 32 = Z1 at *
  have I1 := I.ps a2 p1
  have s1 := p1.2 7 (by decide) (by decide) (by decide) (by decide)
  by_cases h1 : Z1.2 = 0
  · rw [kth_0 h1] at H
    have := H C1 a1 I1 (fun f b _ _ _ _ _ _ => a2 f b) (fun _ => a3 h1) (fun w => absurd rfl w)
    simp (disch := first | assumption | (unfold kR; decide) | exact klc_R | (unfold kR; omega) | omega | (unfold kL; omega) | exact kcat_null | exact kcat_ref _ | exact kcat_iv _) only [r93_6, r93_9, r93_10, true_and, and_true, kk1_i, kk1_r, kk1_n, kk1_0, kcat_iv, kcat_ref, kcat_null, kisR_ref, kisR_null, ksz_nil, ksz_iv, ksz_ref, ksz_null, ksz_lv, kfit_int, kfit_long, kfit_obj, kfit_objN, kfit_arr, kfit_arrN, knarI, knarZ0, knarZ1, kret_v, kret_n, kret_x, Nat.reduceAdd, Nat.reduceLeDiff, reduceCtorEq, Int.reduceLE, Int.reduceLT, Int.reduceEq, ite_true, ite_false, true_or, or_true, false_implies, true_implies, not_true_eq_false, not_false_eq_true, and_self, eq_self, klc_lt, klc_ge, klc_le, klc_gt, klc_eq, kmu_eq, kmu_f, kmu_i, kmu_j, h1]
    exact this
  rw [kth_1 h1] at H
  have e1 := z1.resolve_left h1
  clear z1
  simp (disch := first | assumption | (unfold kR; decide) | exact klc_R | (unfold kR; omega) | omega | (unfold kL; omega) | exact kcat_null | exact kcat_ref _ | exact kcat_iv _) only [r93_6, r93_9, r93_10, r93_11, r93_12, r93_13, r93_15, ht_5 hA v.l5, true_and, and_true, kk1_i, kk1_r, kk1_n, kk1_0, kcat_iv, kcat_ref, kcat_null, kisR_ref, kisR_null, ksz_nil, ksz_iv, ksz_ref, ksz_null, ksz_lv, kfit_int, kfit_long, kfit_obj, kfit_objN, kfit_arr, kfit_arrN, knarI, knarZ0, knarZ1, kret_v, kret_n, kret_x, Nat.reduceAdd, Nat.reduceLeDiff, reduceCtorEq, Int.reduceLE, Int.reduceLT, Int.reduceEq, ite_true, ite_false, true_or, or_true, false_implies, true_implies, not_true_eq_false, not_false_eq_true, and_self, eq_self, klc_lt, klc_ge, klc_le, klc_gt, klc_eq, kmu_eq, kmu_f, kmu_i, kmu_j, e1, n10, Nat.zero_le, show 1 ≤ d by omega]
  refine c95 hA v rw1 a1 (by omega) at1.1 (by omega) (by omega) (by omega) (by omega) (fun C2 y b1 b2 b3 b4 => ?_)
  have p2 := f145_ps (R := Z1.1) (lo := 1) (hi := 9)
  have i2 := f145_in (R := Z1.1) (lo := 1) (hi := 9)
  have rw2 := f145_rw rw1 (lo := 1) (hi := 9) at1.1
  have at2 := f145_at (R := Z1.1) (lo := 1) (hi := 9) at1.1
  generalize f145 Z1.1 1 9 = Z2 at *
  have I2 := I1.ps b2 p2
  have s2 := p2.2 7 (by decide) (by decide) (by decide) (by decide)
  by_cases h2 : Z2.2 = 0
  · rw [kth_0 h2] at H
    obtain ⟨y1, y2⟩ := b3 h2
    have := H C2 b1 I2 (fun f z _ _ _ _ _ _ => (b2 f z).trans (a2 f z)) (fun _ => y2) (fun w => absurd rfl w)
    rw [y1]
    simp (disch := first | assumption | (unfold kR; decide) | exact klc_R | (unfold kR; omega) | omega | (unfold kL; omega) | exact kcat_null | exact kcat_ref _ | exact kcat_iv _) only [r93_18, r93_19, r93_20, r93_21, r93_24, r93_25, r93_27, r93_30, r93_33, r93_34, ht_5 hA v.l5, true_and, and_true, kk1_i, kk1_r, kk1_n, kk1_0, kcat_iv, kcat_ref, kcat_null, kisR_ref, kisR_null, ksz_nil, ksz_iv, ksz_ref, ksz_null, ksz_lv, kfit_int, kfit_long, kfit_obj, kfit_objN, kfit_arr, kfit_arrN, knarI, knarZ0, knarZ1, kret_v, kret_n, kret_x, Nat.reduceAdd, Nat.reduceLeDiff, reduceCtorEq, Int.reduceLE, Int.reduceLT, Int.reduceEq, ite_true, ite_false, true_or, or_true, false_implies, true_implies, not_true_eq_false, not_false_eq_true, and_self, eq_self, klc_lt, klc_ge, klc_le, klc_gt, klc_eq, kmu_eq, kmu_f, kmu_i, kmu_j]
    exact this
  rw [kth_1 h2] at H
  obtain ⟨y1, y2⟩ := b4 h2
  obtain ⟨v0, v1⟩ := i2 h2
  rw [← y1] at H v0 v1
  simp (disch := first | assumption | (unfold kR; decide) | exact klc_R | (unfold kR; omega) | omega | (unfold kL; omega) | exact kcat_null | exact kcat_ref _ | exact kcat_iv _) only [r93_18, r93_19, r93_20, r93_21, r93_24, r93_25, r93_27, ht_5 hA v.l5, true_and, and_true, kk1_i, kk1_r, kk1_n, kk1_0, kcat_iv, kcat_ref, kcat_null, kisR_ref, kisR_null, ksz_nil, ksz_iv, ksz_ref, ksz_null, ksz_lv, kfit_int, kfit_long, kfit_obj, kfit_objN, kfit_arr, kfit_arrN, knarI, knarZ0, knarZ1, kret_v, kret_n, kret_x, Nat.reduceAdd, Nat.reduceLeDiff, reduceCtorEq, Int.reduceLE, Int.reduceLT, Int.reduceEq, ite_true, ite_false, true_or, or_true, false_implies, true_implies, not_true_eq_false, not_false_eq_true, and_self, eq_self, klc_lt, klc_ge, klc_le, klc_gt, klc_eq, kmu_eq, kmu_f, kmu_i, kmu_j, show ¬ y = -1 by omega, Nat.zero_le, show 1 ≤ d by omega]
  refine c98e hA v rw2 b1 (by omega) (by omega) (by omega) (fun C3 c1 c2 c3 c4 => ?_)
  have p3 := f144_ps (R := Z2.1) (x := 42)
  have rw3 := f144_rw rw2 (x := 42) (by omega)
  have at3 := f144_at (R := Z2.1) (x := 42) (by omega) at2.1
  have z3 := f144_01 (R := Z2.1) (x := 42)
  generalize f144 Z2.1 42 = Z3 at *
  have I3 := I2.ps c2 p3
  have s3 := p3.2 7 (by decide) (by decide) (by decide) (by decide)
  have f3 : ∀ f, f ≠ 5 → C3 f = C f := fun f z => (c2 f z).trans ((b2 f z).trans (a2 f z))
  by_cases h3 : Z3.2 = 0
  · rw [kth_0 h3] at H
    have := H C3 c1 I3 (fun f z _ _ _ _ _ _ => f3 f z) (fun _ => c3 h3) (fun w => absurd rfl w)
    simp (disch := first | assumption | (unfold kR; decide) | exact klc_R | (unfold kR; omega) | omega | (unfold kL; omega) | exact kcat_null | exact kcat_ref _ | exact kcat_iv _) only [r93_30, r93_33, r93_34, true_and, and_true, kk1_i, kk1_r, kk1_n, kk1_0, kcat_iv, kcat_ref, kcat_null, kisR_ref, kisR_null, ksz_nil, ksz_iv, ksz_ref, ksz_null, ksz_lv, kfit_int, kfit_long, kfit_obj, kfit_objN, kfit_arr, kfit_arrN, knarI, knarZ0, knarZ1, kret_v, kret_n, kret_x, Nat.reduceAdd, Nat.reduceLeDiff, reduceCtorEq, Int.reduceLE, Int.reduceLT, Int.reduceEq, ite_true, ite_false, true_or, or_true, false_implies, true_implies, not_true_eq_false, not_false_eq_true, and_self, eq_self, klc_lt, klc_ge, klc_le, klc_gt, klc_eq, kmu_eq, kmu_f, kmu_i, kmu_j, h3]
    exact this
  rw [kth_1 h3] at H
  have e3 := z3.resolve_left h3
  clear z3
  have w3 : C3 5 0 3 = C 5 0 3 := (c4 h3).trans (y2.trans (a4 h1))
  have x59 : Z3.1 59 = X 59 := (p3.1 59 (by decide)).trans ((p2.1 59 (by decide)).trans (p1.1 59 (by decide)))
  have x61 : Z3.1 61 = X 61 := (p3.1 61 (by decide)).trans ((p2.1 61 (by decide)).trans (p1.1 61 (by decide)))
  simp (disch := first | assumption | (unfold kR; decide) | exact klc_R | (unfold kR; omega) | omega | (unfold kL; omega) | exact kcat_null | exact kcat_ref _ | exact kcat_iv _) only [r93_30, r93_35, r93_36, r93_37, r93_38, r93_39, ht_5 hA v.l5, true_and, and_true, kk1_i, kk1_r, kk1_n, kk1_0, kcat_iv, kcat_ref, kcat_null, kisR_ref, kisR_null, ksz_nil, ksz_iv, ksz_ref, ksz_null, ksz_lv, kfit_int, kfit_long, kfit_obj, kfit_objN, kfit_arr, kfit_arrN, knarI, knarZ0, knarZ1, kret_v, kret_n, kret_x, Nat.reduceAdd, Nat.reduceLeDiff, reduceCtorEq, Int.reduceLE, Int.reduceLT, Int.reduceEq, ite_true, ite_false, true_or, or_true, false_implies, true_implies, not_true_eq_false, not_false_eq_true, and_self, eq_self, klc_lt, klc_ge, klc_le, klc_gt, klc_eq, kmu_eq, kmu_f, kmu_i, kmu_j, e3, n10, Nat.zero_le, show 1 ≤ d by omega]
  refine c94 hA v rw3 c1 I3 (k := k) (nt := -1) (by omega) k0 (by omega) at3.1 (by omega) (by omega) (fun C4 g d1 d2 d3 d4 d5 d6 d7 d8 d9 => ?_)
  generalize g94 Z3.1 k (-1) = Z4 at *
  have f4 : ∀ f, f ≠ 5 → f ≠ 26 → C4 f = C f := fun f z w => (d7 f z w).trans (f3 f z)
  by_cases h4 : Z4.2 = 0
  · rw [kth_0 h4] at H
    obtain ⟨z1, z2⟩ := d8 h4
    have := H C4 d1 d2 (fun f z w _ _ _ _ _ => f4 f z w) (fun _ => z2) (fun w => absurd rfl w)
    rw [z1]
    simp (disch := first | assumption | (unfold kR; decide) | exact klc_R | (unfold kR; omega) | omega | (unfold kL; omega) | exact kcat_null | exact kcat_ref _ | exact kcat_iv _) only [r93_42, r93_44, r93_46, r93_47, r93_50, r93_51, true_and, and_true, kk1_i, kk1_r, kk1_n, kk1_0, kcat_iv, kcat_ref, kcat_null, kisR_ref, kisR_null, ksz_nil, ksz_iv, ksz_ref, ksz_null, ksz_lv, kfit_int, kfit_long, kfit_obj, kfit_objN, kfit_arr, kfit_arrN, knarI, knarZ0, knarZ1, kret_v, kret_n, kret_x, Nat.reduceAdd, Nat.reduceLeDiff, reduceCtorEq, Int.reduceLE, Int.reduceLT, Int.reduceEq, ite_true, ite_false, true_or, or_true, false_implies, true_implies, not_true_eq_false, not_false_eq_true, and_self, eq_self, klc_lt, klc_ge, klc_le, klc_gt, klc_eq, kmu_eq, kmu_f, kmu_i, kmu_j]
    exact this
  rw [kth_1 h4] at H
  obtain ⟨g1, g2, g3, g4⟩ := d9 h4
  have w4 : C4 5 0 3 = C 5 0 3 := g4.trans w3
  have k4 : k < Z4.1 9 0 7 := by rw [d4.2.1 7 (by decide) (by decide) (by decide) (by decide)]; omega
  obtain ⟨n1, n2, n3, n4, n5, n6, n7, n8, n9⟩ := d2.new d3 k0 k4
  have x59' : Z4.1 59 = X 59 := (d5 59 (by decide) (by decide)).trans x59
  have x61' : Z4.1 61 = X 61 := (d5 61 (by decide) (by decide)).trans x61
  have hp4 : Z4.1 61 0 (4 * k + Z4.1 59 0 k - 1) < 5 := by rw [x59', x61']; exact hp
  have B7 := d3.i7
  have B61 := d3.a61 (j := 4 * k + Z4.1 59 0 k - 1) (by omega) (by omega)
  have I5 := kBI_pt d3 d2 (k := k) (g := g) (n := y) k0 k4 hp4 g2 g3
  have rw5 := f130_rw d3 (k := k) (g := g) (n := y) g2 (by omega) (by omega) (by omega) k0 (by omega) n8 hp4
  have q57 := fun {Q} => c57 (E := E) (d := d - 1) (c := c) (l := l) (Q := Q) (J := J) (R := R) (g := g) (n := y) hA v (by omega) n1 n2 (by omega) n3 (by rw [n4]; exact B61.1) (by rw [n4]; exact hp4) (by rw [n5]; exact n6) (by rw [n5]; exact n7)
  have f5 : ∀ f, f ≠ 25 → f ≠ 6 → f ≠ 20 → f ≠ 21 → f ≠ 22 → (kmu (g101 C4 (4 * k + Z4.1 59 0 k - 1) g y) 25 0 (C4 3 k 1) (kor (C4 25 0 (C4 3 k 1)) (kshl 1 g))) f = C4 f := by
    intro f a b c' d' e
    unfold g101
    rw [kmu_ff a, kmu_ff b, kmu_ff e, kmu_ff d', kmu_ff c']
  have e9 : f130 Z4.1 k g y 9 = Z4.1 9 := f130_ps 9 (by decide) (by decide) (by decide) (by decide)
  have r5 : kRe (kmu (g101 C4 (4 * k + Z4.1 59 0 k - 1) g y) 25 0 (C4 3 k 1) (kor (C4 25 0 (C4 3 k 1)) (kshl 1 g))) (f130 Z4.1 k g y) := d1.q (f5 5 (by decide) (by decide) (by decide) (by decide) (by decide)) (f5 31 (by decide) (by decide) (by decide) (by decide) (by decide)) (by rw [e9]) (by rw [e9]) (f130_ps 52 (by decide) (by decide) (by decide) (by decide))
  unfold g93 at H
  rw [← g1] at H
  simp (disch := first | assumption | (unfold kR; decide) | exact klc_R | (unfold kR; omega) | omega | (unfold kL; omega) | exact kcat_null | exact kcat_ref _ | exact kcat_iv _) only [r93_42, r93_44, r93_46, r93_47, r93_50, r93_51, r93_52, r93_53, r93_54, r93_56, r93_57, ht_1 hA v.l1, true_and, and_true, kk1_i, kk1_r, kk1_n, kk1_0, kcat_iv, kcat_ref, kcat_null, kisR_ref, kisR_null, ksz_nil, ksz_iv, ksz_ref, ksz_null, ksz_lv, kfit_int, kfit_long, kfit_obj, kfit_objN, kfit_arr, kfit_arrN, knarI, knarZ0, knarZ1, kret_v, kret_n, kret_x, Nat.reduceAdd, Nat.reduceLeDiff, reduceCtorEq, Int.reduceLE, Int.reduceLT, Int.reduceEq, ite_true, ite_false, true_or, or_true, false_implies, true_implies, not_true_eq_false, not_false_eq_true, and_self, eq_self, klc_lt, klc_ge, klc_le, klc_gt, klc_eq, kmu_eq, kmu_f, kmu_i, kmu_j, q57, show ¬ g = -1 by omega, Nat.zero_le, show 1 ≤ d by omega]
  have o1 := (f130_o (X := Z4.1) (k := k) (g := g) (n := y)).1 (4 * k + Z4.1 59 0 k - 1)
  have o4 := (f130_o (X := Z4.1) (k := k) (g := g) (n := y)).2.2.2
  have o59 : f130 Z4.1 k g y 59 = Z4.1 59 := f130_ps 59 (by decide) (by decide) (by decide) (by decide)
  rw [if_pos rfl] at o1
  generalize (kmu (g101 C4 (4 * k + Z4.1 59 0 k - 1) g y) 25 0 (C4 3 k 1) (kor (C4 25 0 (C4 3 k 1)) (kshl 1 g))) = C5 at *
  have fr5 : ∀ f, f ≠ 5 → f ≠ 26 → f ≠ 25 → f ≠ 6 → f ≠ 20 → f ≠ 21 → f ≠ 22 → C5 f = C f := fun f a b c' d' e e' e'' => (f5 f c' d' e e' e'').trans (f4 f a b)
  have w5 : C5 5 0 3 = C 5 0 3 := by rw [f5 5 (by decide) (by decide) (by decide) (by decide) (by decide)]; exact w4
  generalize hY : f130 Z4.1 k g y = Y at *
  have q97 := fun {Q} => c97e (E := E) (d := d - 1) (c := c) (l := l) (Q := Q) (J := J) (R := R) hA v rw5 r5
  have B142 := f142_b rw5
  by_cases h5 : f142 Y = 47
  · rw [if_pos h5] at H
    have lt := f144_lt (R := Y) (x := 47) (by omega) h5
    have e39 : C5 5 0 2 = Z4.1 9 0 39 := by rw [r5.2.1, e9]
    have B3 := rw5.i3
    have B39 := rw5.i39
    have r6 : kRe (kmu C5 5 0 2 (Z4.1 9 0 39 + 1)) (kmu Y 9 0 39 (Z4.1 9 0 39 + 1)) := r5.at
    have rw6 : kRW V (kmu Y 9 0 39 (Z4.1 9 0 39 + 1)) := rw5.pi39 (by rw [← e9]; omega) (by rw [← e9]; omega)
    have I6 : kBI V (kmu C5 5 0 2 (Z4.1 9 0 39 + 1)) (kmu Y 9 0 39 (Z4.1 9 0 39 + 1)) := I5.ps (fun f hf => kmu_ff hf) (kPS_rfl.mu (by omega))
    have k6 : k < (kmu Y 9 0 39 (Z4.1 9 0 39 + 1)) 9 0 7 := by rw [kmu_j (by decide), e9]; exact k4
    simp (disch := first | assumption | (unfold kR; decide) | exact klc_R | (unfold kR; omega) | omega | (unfold kL; omega) | exact kcat_null | exact kcat_ref _ | exact kcat_iv _) only [r93_60, r93_61, r93_64, r93_66, r93_69, r93_70, r93_71, r93_72, r93_73, r93_76, r93_77, r93_78, r93_81, r93_82, r93_83, r93_84, r93_86, ht_5 hA v.l5, ho_5_2 hA v.l5, hg_5_2 hA v.l5, hp_5_2 hA v.l5, true_and, and_true, kk1_i, kk1_r, kk1_n, kk1_0, kcat_iv, kcat_ref, kcat_null, kisR_ref, kisR_null, ksz_nil, ksz_iv, ksz_ref, ksz_null, ksz_lv, kfit_int, kfit_long, kfit_obj, kfit_objN, kfit_arr, kfit_arrN, knarI, knarZ0, knarZ1, kret_v, kret_n, kret_x, Nat.reduceAdd, Nat.reduceLeDiff, reduceCtorEq, Int.reduceLE, Int.reduceLT, Int.reduceEq, ite_true, ite_false, true_or, or_true, false_implies, true_implies, not_true_eq_false, not_false_eq_true, and_self, eq_self, klc_lt, klc_ge, klc_le, klc_gt, klc_eq, kmu_eq, kmu_f, kmu_i, kmu_j, q97, h5, e39, Nat.zero_le, show 1 ≤ d by omega]
    refine c94 hA v rw6 r6 I6 (k := k) (nt := g) (by omega) k0 k6 (by rw [kmu_eq, kmu_j (by decide), ← e9]; omega) (by omega) g3 (fun C7 x d1' d2' d3' d4' d5' d6' d7' d8' d9' => ?_)
    generalize g94 (kmu Y 9 0 39 (Z4.1 9 0 39 + 1)) k g = Z7 at *
    have fr7 : ∀ f, f ≠ 5 → f ≠ 26 → f ≠ 25 → f ≠ 6 → f ≠ 20 → f ≠ 21 → f ≠ 22 → C7 f = C f := fun f a b c' d' e e' e'' => (d7' f a b).trans ((kmu_ff a).trans (fr5 f a b c' d' e e' e''))
    by_cases h7 : Z7.2 = 0
    · rw [kth_0 h7] at H
      obtain ⟨z1, z2⟩ := d8' h7
      have := H C7 d1' d2' fr7 (fun _ => z2) (fun w => absurd rfl w)
      rw [z1]
      simp (disch := first | assumption | (unfold kR; decide) | exact klc_R | (unfold kR; omega) | omega | (unfold kL; omega) | exact kcat_null | exact kcat_ref _ | exact kcat_iv _) only [r93_89, r93_91, r93_93, r93_94, r93_97, r93_98, true_and, and_true, kk1_i, kk1_r, kk1_n, kk1_0, kcat_iv, kcat_ref, kcat_null, kisR_ref, kisR_null, ksz_nil, ksz_iv, ksz_ref, ksz_null, ksz_lv, kfit_int, kfit_long, kfit_obj, kfit_objN, kfit_arr, kfit_arrN, knarI, knarZ0, knarZ1, kret_v, kret_n, kret_x, Nat.reduceAdd, Nat.reduceLeDiff, reduceCtorEq, Int.reduceLE, Int.reduceLT, Int.reduceEq, ite_true, ite_false, true_or, or_true, false_implies, true_implies, not_true_eq_false, not_false_eq_true, and_self, eq_self, klc_lt, klc_ge, klc_le, klc_gt, klc_eq, kmu_eq, kmu_f, kmu_i, kmu_j]
      exact this
    · rw [kth_1 h7] at H
      obtain ⟨u1, u2, u3, u4⟩ := d9' h7
      have k7 : k < Z7.1 9 0 7 := by rw [d4'.2.1 7 (by decide) (by decide) (by decide) (by decide)]; exact k6
      obtain ⟨m1, m2, m3, m4, m5, m6, m7, m8, m9⟩ := d2'.new d3' k0 k7
      have z59 : Z7.1 59 = Z4.1 59 := (d5' 59 (by decide) (by decide)).trans ((kmu_ff (by decide)).trans o59)
      have z61 : Z7.1 61 = Y 61 := (d5' 61 (by decide) (by decide)).trans (kmu_ff (by decide))
      have z64 : Z7.1 64 = Y 64 := (d5' 64 (by decide) (by decide)).trans (kmu_ff (by decide))
      have s7 : Z7.1 61 0 (4 * k + Z7.1 59 0 k - 1) = Z4.1 61 0 (4 * k + Z4.1 59 0 k - 1) + 1 := by rw [z59, z61]; exact o1
      have hi : Z7.1 64 0 (f131 Z7.1 k) = -1 := by
        unfold f131
        rw [s7, z59, z64, o4, if_pos (by omega)]
      have I8 := kBI_in d3' d2' (k := k) (g := x) k0 k7 (by rw [s7]; omega) hi u2 u3
      have q58 := fun {Q} => c58 (E := E) (d := d - 1) (c := c) (l := l) (Q := Q) (J := J) (R := R) (g := x) hA v (by omega) m1 m2 (by omega) m3 (by rw [m4, s7]; omega) (by rw [m4, s7]; omega) (by rw [m5]; exact m6) (by rw [m5]; exact m7)
      rw [← u1] at H
      have f8 : ∀ f, f ≠ 22 → f ≠ 25 → (kmu (kmu C7 22 (4 * k + Z7.1 59 0 k - 1) (C7 6 (4 * k + Z7.1 59 0 k - 1) 5 - 1) x) 25 0 (C7 3 k 1) (kor (C7 25 0 (C7 3 k 1)) (kshl 1 x))) f = C7 f := fun f a b => by rw [kmu_ff b, kmu_ff a]
      have w7 : C7 5 0 3 = C 5 0 3 := u4.trans ((kmu_j (by decide)).trans w5)
      have := H _ (d1'.q (X' := kmu Z7.1 64 0 (f131 Z7.1 k) x) (f8 5 (by decide) (by decide)) (f8 31 (by decide) (by decide)) (kmu_f (by decide)) (kmu_f (by decide)) (kmu_ff (by decide))) I8 (fun f a b c' d' e e' e'' => (f8 f e'' c').trans (fr7 f a b c' d' e e' e'')) (fun w => absurd w n10) (fun _ => by rw [f8 5 (by decide) (by decide)]; exact w7)
      simp (disch := first | assumption | (unfold kR; decide) | exact klc_R | (unfold kR; omega) | omega | (unfold kL; omega) | exact kcat_null | exact kcat_ref _ | exact kcat_iv _) only [r93_89, r93_91, r93_93, r93_94, r93_97, r93_98, r93_99, r93_100, r93_101, r93_103, r93_106, r93_107, ht_1 hA v.l1, true_and, and_true, kk1_i, kk1_r, kk1_n, kk1_0, kcat_iv, kcat_ref, kcat_null, kisR_ref, kisR_null, ksz_nil, ksz_iv, ksz_ref, ksz_null, ksz_lv, kfit_int, kfit_long, kfit_obj, kfit_objN, kfit_arr, kfit_arrN, knarI, knarZ0, knarZ1, kret_v, kret_n, kret_x, Nat.reduceAdd, Nat.reduceLeDiff, reduceCtorEq, Int.reduceLE, Int.reduceLT, Int.reduceEq, ite_true, ite_false, true_or, or_true, false_implies, true_implies, not_true_eq_false, not_false_eq_true, and_self, eq_self, klc_lt, klc_ge, klc_le, klc_gt, klc_eq, kmu_eq, kmu_f, kmu_i, kmu_j, q58, show ¬ x = -1 by omega, Nat.zero_le, show 1 ≤ d by omega]
      exact this
  · rw [if_neg h5] at H
    have := H C5 r5 I5 fr5 (fun w => absurd w n10) (fun _ => w5)
    simp (disch := first | assumption | (unfold kR; decide) | exact klc_R | (unfold kR; omega) | omega | (unfold kL; omega) | exact kcat_null | exact kcat_ref _ | exact kcat_iv _) only [r93_60, r93_61, r93_64, r93_66, r93_69, r93_70, ht_5 hA v.l5, true_and, and_true, kk1_i, kk1_r, kk1_n, kk1_0, kcat_iv, kcat_ref, kcat_null, kisR_ref, kisR_null, ksz_nil, ksz_iv, ksz_ref, ksz_null, ksz_lv, kfit_int, kfit_long, kfit_obj, kfit_objN, kfit_arr, kfit_arrN, knarI, knarZ0, knarZ1, kret_v, kret_n, kret_x, Nat.reduceAdd, Nat.reduceLeDiff, reduceCtorEq, Int.reduceLE, Int.reduceLT, Int.reduceEq, ite_true, ite_false, true_or, or_true, false_implies, true_implies, not_true_eq_false, not_false_eq_true, and_self, eq_self, klc_lt, klc_ge, klc_le, klc_gt, klc_eq, kmu_eq, kmu_f, kmu_i, kmu_j, q97, h5, Nat.zero_le, show 1 ≤ d by omega]
    exact this
end
