/-! The reference: read. -/
/-- line after line -/
noncomputable def krd : Nat → ka_M → ka_M × Int
  | 0, R => (R, 1)
  | n + 1, R => if R 9 0 39 < R 9 0 3 then kth (f147 R) (krd n) else (R, 1)
/-- the newest n kits go -/
def krb' : Nat → ka_M → ka_M
  | 0, R => R
  | n + 1, R => krb' n (kmu (kmu R 9 0 7 (R 9 0 7 - 1)) 56 0 (R 58 0 (R 9 0 7 - 1)) (-1))
noncomputable def f148 (R : ka_M) : ka_M × Int :=
  let X := krd (R 9 0 3).toNat (kmu R 9 0 39 0)
  let Y := kmu X.1 9 0 3 0
  if X.2 = 0 then (krb' (X.1 9 0 7 - R 9 0 7).toNat (kmu Y 9 0 0 0), -1 - X.1 9 0 40)
  else if 12 < X.1 9 0 7 then (krb' (X.1 9 0 7 - R 9 0 7).toNat (kmu Y 9 0 0 1), 0) else (kmu Y 9 0 0 0, X.1 9 0 7)
section
variable {E : Nat × Nat} {d c l : Nat} {s : ka_S} {Q : ka_Q} {J : ka_H} {A : ka_A} {V : ka_V} {C R : ka_M}
theorem j148_l (hA : kJ A V) (v : kLV V) {had : Int} (hd : 5 ≤ d) (T : Prop) :
    ∀ (n : Nat) (R : ka_M), kRW V R → kBk R → R 9 0 39 ≤ R 9 0 3 → R 9 0 3 ≤ R 9 0 39 + n → 
    kRW V (krd n R).1 ∧ kBk (krd n R).1 ∧ R 9 0 7 ≤ (krd n R).1 9 0 7 ∧ ((krd n R).2 = 0 ∨ (krd n R).2 = 1) ∧
    ((ka_W (kp E) (d, (148, 35, [some (.ref (A 9 0)), some (iv had), some (iv (krd n R).2)], []), (kHp J A V C (krd n R).1, c, l)) Q ↔ T) →
    (ka_W (kp E) (d, (148, 12, [some (.ref (A 9 0)), some (iv had), some (iv 1)], []), (kHp J A V C R, c, l)) Q ↔ T))
  | n, R, r, b, ha, hn => by
    have B3 := r.i3
    have B39 := r.i39
    by_cases h : R 9 0 39 < R 9 0 3
    · cases n with
      | zero => omega
      | succ n =>
        simp only [krd, if_pos h]
        obtain ⟨⟨o1, o2, o3, o4, o5, o6, o7⟩, -⟩ := j147 (E := E) (d := d) (c := c) (l := l) (Q := Q) (J := J) (C := C) hA v r b (by omega) ha
        have q1 := fun {Q} => (j147 (E := E) (d := d - 1) (c := c) (l := l) (Q := Q) (J := J) (C := C) hA v r b (by omega) ha).2
        generalize f147 R = X at *
        have B3' := o1.i3
        have B39' := o1.i39
        by_cases h1 : X.2 = 0
        · rw [kth_0 h1]
          dsimp only
          refine ⟨o1, o2, o5, Or.inl rfl, fun H => ?_⟩
          rw [← H, r148_12]
          simp (disch := first | assumption | (unfold kR; decide) | exact klc_R | (unfold kR; omega) | omega | (unfold kL; omega) | exact kcat_null | exact kcat_ref _ | exact kcat_iv _) only [r148_13, r148_16, r148_17, r148_20, r148_23, r148_24, r148_27, r148_28, r148_31, r148_32, ho_9_39 hA v.l9, hg_9_39 hA v.l9, ho_9_3 hA v.l9, hg_9_3 hA v.l9, ht_9 hA v.l9, true_and, and_true, kk1_i, kk1_r, kk1_n, kk1_0, kcat_iv, kcat_ref, kcat_null, kisR_ref, kisR_null, ksz_nil, ksz_iv, ksz_ref, ksz_null, ksz_lv, kfit_int, kfit_long, kfit_obj, kfit_objN, kfit_arr, kfit_arrN, knarI, knarZ0, knarZ1, kret_v, kret_n, kret_x, Nat.reduceAdd, Nat.reduceLeDiff, reduceCtorEq, Int.reduceLE, Int.reduceLT, Int.reduceEq, ite_true, ite_false, true_or, or_true, false_implies, true_implies, not_true_eq_false, not_false_eq_true, and_self, eq_self, klc_lt, klc_ge, klc_le, klc_gt, klc_eq, kmu_eq, kmu_f, kmu_i, kmu_j, q1, h1, Nat.zero_le, show 1 ≤ d by omega, show ¬ R 9 0 3 ≤ R 9 0 39 by omega, show ¬ ((1:Int) = 0) by decide]
          by_cases h2 : X.1 9 0 3 ≤ X.1 9 0 39
          · simp (disch := first | assumption | (unfold kR; decide) | exact klc_R | (unfold kR; omega) | omega | (unfold kL; omega) | exact kcat_null | exact kcat_ref _ | exact kcat_iv _) only [r148_12, r148_13, r148_16, r148_17, r148_20, ho_9_39 hA v.l9, hg_9_39 hA v.l9, ho_9_3 hA v.l9, hg_9_3 hA v.l9, true_and, and_true, kk1_i, kk1_r, kk1_n, kk1_0, kcat_iv, kcat_ref, kcat_null, kisR_ref, kisR_null, ksz_nil, ksz_iv, ksz_ref, ksz_null, ksz_lv, kfit_int, kfit_long, kfit_obj, kfit_objN, kfit_arr, kfit_arrN, knarI, knarZ0, knarZ1, kret_v, kret_n, kret_x, Nat.reduceAdd, Nat.reduceLeDiff, reduceCtorEq, Int.reduceLE, Int.reduceLT, Int.reduceEq, ite_true, ite_false, true_or, or_true, false_implies, true_implies, not_true_eq_false, not_false_eq_true, and_self, eq_self, klc_lt, klc_ge, klc_le, klc_gt, klc_eq, kmu_eq, kmu_f, kmu_i, kmu_j, h2]
          · simp (disch := first | assumption | (unfold kR; decide) | exact klc_R | (unfold kR; omega) | omega | (unfold kL; omega) | exact kcat_null | exact kcat_ref _ | exact kcat_iv _) only [r148_12, r148_13, r148_16, r148_17, r148_20, r148_23, r148_24, ho_9_39 hA v.l9, hg_9_39 hA v.l9, ho_9_3 hA v.l9, hg_9_3 hA v.l9, true_and, and_true, kk1_i, kk1_r, kk1_n, kk1_0, kcat_iv, kcat_ref, kcat_null, kisR_ref, kisR_null, ksz_nil, ksz_iv, ksz_ref, ksz_null, ksz_lv, kfit_int, kfit_long, kfit_obj, kfit_objN, kfit_arr, kfit_arrN, knarI, knarZ0, knarZ1, kret_v, kret_n, kret_x, Nat.reduceAdd, Nat.reduceLeDiff, reduceCtorEq, Int.reduceLE, Int.reduceLT, Int.reduceEq, ite_true, ite_false, true_or, or_true, false_implies, true_implies, not_true_eq_false, not_false_eq_true, and_self, eq_self, klc_lt, klc_ge, klc_le, klc_gt, klc_eq, kmu_eq, kmu_f, kmu_i, kmu_j, h2]
        · rw [kth_1 h1]
          have e1 : X.2 = 1 := by omega
          obtain ⟨i1, i2, i3, i4, i5⟩ := j148_l hA v hd T n X.1 o1 o2 o4 (by have := o7 e1; omega)
          refine ⟨i1, i2, by omega, i4, fun H => ?_⟩
          rw [← i5 H, r148_12]
          simp (disch := first | assumption | (unfold kR; decide) | exact klc_R | (unfold kR; omega) | omega | (unfold kL; omega) | exact kcat_null | exact kcat_ref _ | exact kcat_iv _) only [r148_13, r148_16, r148_17, r148_20, r148_23, r148_24, r148_27, r148_28, r148_31, r148_32, ho_9_39 hA v.l9, hg_9_39 hA v.l9, ho_9_3 hA v.l9, hg_9_3 hA v.l9, ht_9 hA v.l9, true_and, and_true, kk1_i, kk1_r, kk1_n, kk1_0, kcat_iv, kcat_ref, kcat_null, kisR_ref, kisR_null, ksz_nil, ksz_iv, ksz_ref, ksz_null, ksz_lv, kfit_int, kfit_long, kfit_obj, kfit_objN, kfit_arr, kfit_arrN, knarI, knarZ0, knarZ1, kret_v, kret_n, kret_x, Nat.reduceAdd, Nat.reduceLeDiff, reduceCtorEq, Int.reduceLE, Int.reduceLT, Int.reduceEq, ite_true, ite_false, true_or, or_true, false_implies, true_implies, not_true_eq_false, not_false_eq_true, and_self, eq_self, klc_lt, klc_ge, klc_le, klc_gt, klc_eq, kmu_eq, kmu_f, kmu_i, kmu_j, q1, e1, Nat.zero_le, show 1 ≤ d by omega, show ¬ R 9 0 3 ≤ R 9 0 39 by omega, show ¬ ((1:Int) = 0) by decide]
    · have e : krd n R = (R, 1) := by
        cases n with
        | zero => rfl
        | succ n => simp only [krd, if_neg h]
      rw [e]
      dsimp only
      refine ⟨r, b, Int.le_refl _, Or.inr rfl, fun H => ?_⟩
      rw [← H]
      simp (disch := first | assumption | (unfold kR; decide) | exact klc_R | (unfold kR; omega) | omega | (unfold kL; omega) | exact kcat_null | exact kcat_ref _ | exact kcat_iv _) only [r148_12, r148_13, r148_16, r148_17, r148_20, ho_9_39 hA v.l9, hg_9_39 hA v.l9, ho_9_3 hA v.l9, hg_9_3 hA v.l9, true_and, and_true, kk1_i, kk1_r, kk1_n, kk1_0, kcat_iv, kcat_ref, kcat_null, kisR_ref, kisR_null, ksz_nil, ksz_iv, ksz_ref, ksz_null, ksz_lv, kfit_int, kfit_long, kfit_obj, kfit_objN, kfit_arr, kfit_arrN, knarI, knarZ0, knarZ1, kret_v, kret_n, kret_x, Nat.reduceAdd, Nat.reduceLeDiff, reduceCtorEq, Int.reduceLE, Int.reduceLT, Int.reduceEq, ite_true, ite_false, true_or, or_true, false_implies, true_implies, not_true_eq_false, not_false_eq_true, and_self, eq_self, klc_lt, klc_ge, klc_le, klc_gt, klc_eq, kmu_eq, kmu_f, kmu_i, kmu_j, show R 9 0 3 ≤ R 9 0 39 by omega]
theorem kBk_back (r : kRW V R) (h : kBk R) (hk : 0 < R 9 0 7) : kRW V (kmu (kmu R 9 0 7 (R 9 0 7 - 1)) 56 0 (R 58 0 (R 9 0 7 - 1)) (-1)) ∧ kBk (kmu (kmu R 9 0 7 (R 9 0 7 - 1)) 56 0 (R 58 0 (R 9 0 7 - 1)) (-1)) := by
  have B := r.i7
  refine ⟨(r.pi7 (by omega) (by omega)).pa56 (by omega) (by omega), ?_⟩
  obtain ⟨h1, h2, h3, h4⟩ := h
  have G := r.a58 (j := R 9 0 7 - 1) (by omega) (by omega)
  have hg := h2 (R 9 0 7 - 1) (by omega) (by omega)
  generalize hgg : R 58 0 (R 9 0 7 - 1) = g at *
  have e7 : kmu (kmu R 9 0 7 (R 9 0 7 - 1)) 56 0 g (-1) 9 0 7 = R 9 0 7 - 1 := by rw [kmu_f (by decide), kmu_eq]
  have e58 : kmu (kmu R 9 0 7 (R 9 0 7 - 1)) 56 0 g (-1) 58 = R 58 := by rw [kmu_ff (by decide), kmu_ff (by decide)]
  have e59 : kmu (kmu R 9 0 7 (R 9 0 7 - 1)) 56 0 g (-1) 59 = R 59 := by rw [kmu_ff (by decide), kmu_ff (by decide)]
  have e56 : ∀ q, kmu (kmu R 9 0 7 (R 9 0 7 - 1)) 56 0 g (-1) 56 0 q = if q = g then -1 else R 56 0 q := by
    intro q
    by_cases e : q = g
    · subst e; rw [kmu_eq, if_pos rfl]
    · rw [kmu_j e, kmu_f (by decide), if_neg e]
  have hc := kcn_u (p := fun q => R 56 0 (q - 1) ≠ -1) (q := fun q => kmu (kmu R 9 0 7 (R 9 0 7 - 1)) 56 0 g (-1) 56 0 (q - 1) ≠ -1) (u := g + 1) 20 (by omega) (by omega) (fun j a b c => by
    show R 56 0 (j - 1) ≠ -1 ↔ kmu (kmu R 9 0 7 (R 9 0 7 - 1)) 56 0 g (-1) 56 0 (j - 1) ≠ -1
    rw [e56, if_neg (by omega)])
  have e : g + 1 - 1 = g := by omega
  rw [kb_f (show ¬ kmu (kmu R 9 0 7 (R 9 0 7 - 1)) 56 0 g (-1) 56 0 (g + 1 - 1) ≠ -1 by rw [e, e56, if_pos rfl]; simp), kb_t (show R 56 0 (g + 1 - 1) ≠ -1 by rw [e, hg]; omega)] at hc
  refine ⟨by rw [e7, hc, ← h1]; omega, fun k k0 k1 => ?_, fun q q0 q1 hq => ?_, fun k k0 k1 => ?_⟩
  · rw [e7] at k1
    rw [e58, e56]
    have := h2 k k0 (by omega)
    rw [if_neg (fun y => by rw [y, hg] at this; omega)]
    exact this
  · rw [e56] at hq ⊢
    rw [e7, e58]
    by_cases z : q = g
    · rw [if_pos z] at hq
      exact absurd rfl hq
    · rw [if_neg z] at hq ⊢
      obtain ⟨y1, y2, y3⟩ := h3 q q0 q1 hq
      refine ⟨y1, ?_, y3⟩
      by_cases y : R 56 0 q = R 9 0 7 - 1
      · rw [y] at y3
        exact absurd (y3.symm.trans hgg) z
      · omega
  · rw [e7] at k1
    rw [e59]
    exact h4 k k0 (by omega)
theorem j148_b (hA : kJ A V) (v : kLV V) {had g : Int} (h0 : 0 ≤ had) (hd : 5 ≤ d) :
    ∀ (n : Nat) (R : ka_M), kRW V R → kBk R → R 9 0 7 = had + n →
    kRW V (krb' n R) ∧ kBk (krb' n R) ∧ krb' n R 9 0 7 = had ∧ krb' n R 9 0 40 = R 9 0 40 ∧
    (ka_W (kp E) (d, (148, 78, [some (.ref (A 9 0)), some (iv had), some (iv g)], []), (kHp J A V C R, c, l)) Q ↔ ka_W (kp E) (d, (148, 114, [some (.ref (A 9 0)), some (iv had), some (iv g)], []), (kHp J A V C (krb' n R), c, l)) Q)
  | 0, R, r, b, hn => by
    have B := r.i7
    have e : R 9 0 7 = had := by omega
    refine ⟨r, b, e, rfl, ?_⟩
    unfold krb'
    simp (disch := first | assumption | (unfold kR; decide) | exact klc_R | (unfold kR; omega) | omega | (unfold kL; omega) | exact kcat_null | exact kcat_ref _ | exact kcat_iv _) only [r148_78, r148_79, r148_82, r148_83, ho_9_7 hA v.l9, hg_9_7 hA v.l9, true_and, and_true, kk1_i, kk1_r, kk1_n, kk1_0, kcat_iv, kcat_ref, kcat_null, kisR_ref, kisR_null, ksz_nil, ksz_iv, ksz_ref, ksz_null, ksz_lv, kfit_int, kfit_long, kfit_obj, kfit_objN, kfit_arr, kfit_arrN, knarI, knarZ0, knarZ1, kret_v, kret_n, kret_x, Nat.reduceAdd, Nat.reduceLeDiff, reduceCtorEq, Int.reduceLE, Int.reduceLT, Int.reduceEq, ite_true, ite_false, true_or, or_true, false_implies, true_implies, not_true_eq_false, not_false_eq_true, and_self, eq_self, klc_lt, klc_ge, klc_le, klc_gt, klc_eq, kmu_eq, kmu_f, kmu_i, kmu_j, e, Int.le_refl]
  | n + 1, R, r, b, hn => by
    have B := r.i7
    have G := r.a58 (j := R 9 0 7 - 1) (by omega) (by omega)
    obtain ⟨r1, b1⟩ := kBk_back r b (by omega)
    obtain ⟨i1, i2, i3, i4, i5⟩ := j148_b hA v (g := g) h0 hd n _ r1 b1 (by rw [kmu_f (by decide), kmu_eq]; omega)
    refine ⟨i1, i2, i3, i4.trans (by rw [kmu_f (by decide), kmu_j (by decide)]), ?_⟩
    unfold krb'
    rw [← i5, r148_78]
    simp (disch := first | assumption | (unfold kR; decide) | exact klc_R | (unfold kR; omega) | omega | (unfold kL; omega) | exact kcat_null | exact kcat_ref _ | exact kcat_iv _) only [r148_79, r148_82, r148_83, r148_86, r148_87, r148_88, r148_91, r148_92, r148_93, r148_96, r148_97, r148_100, r148_101, r148_104, r148_105, r148_108, r148_109, r148_110, r148_111, ho_9_7 hA v.l9, hg_9_7 hA v.l9, hp_9_7 hA v.l9, ho_9_6 hA v.l9, hg_9_6 hA v.l9, hoa_56 hA v.l56, hga_56 hA v.l56, hpa_56 hA v.l56, ho_9_8 hA v.l9, hg_9_8 hA v.l9, hoa_58 hA v.l58, hga_58 hA v.l58, hpa_58 hA v.l58, true_and, and_true, kk1_i, kk1_r, kk1_n, kk1_0, kcat_iv, kcat_ref, kcat_null, kisR_ref, kisR_null, ksz_nil, ksz_iv, ksz_ref, ksz_null, ksz_lv, kfit_int, kfit_long, kfit_obj, kfit_objN, kfit_arr, kfit_arrN, knarI, knarZ0, knarZ1, kret_v, kret_n, kret_x, Nat.reduceAdd, Nat.reduceLeDiff, reduceCtorEq, Int.reduceLE, Int.reduceLT, Int.reduceEq, ite_true, ite_false, true_or, or_true, false_implies, true_implies, not_true_eq_false, not_false_eq_true, and_self, eq_self, klc_lt, klc_ge, klc_le, klc_gt, klc_eq, kmu_eq, kmu_f, kmu_i, kmu_j, show ¬ R 9 0 7 ≤ had by omega]
theorem j148 (hA : kJ A V) (v : kLV V) (r : kRW V R) (b : kBk R) (hd : 5 ≤ d) :
    kRW V (f148 R).1 ∧ kBk (f148 R).1 ∧ (ka_W (kp E) (d, (148, 0, [some (.ref (A 9 0)), none, none], []), (kHp J A V C R, c, l)) Q ↔ Q (.inl (some (iv (f148 R).2))) (kHp J A V C (f148 R).1, c, l)) := by
  have B3 := r.i3
  have B7 := r.i7
  have r1 : kRW V (kmu R 9 0 39 0) := r.pi39 (by omega) (by omega)
  have b1 : kBk (kmu R 9 0 39 0) := (kPS_rfl.mu (by omega)).pk (k := 0) |>.bk b
  have L := fun T => j148_l (E := E) (d := d) (c := c) (l := l) (Q := Q) (J := J) (C := C) (had := R 9 0 7) hA v hd T (R 9 0 3).toNat (kmu R 9 0 39 0) r1 b1 (by rw [kmu_eq, kmu_j (by decide)]; omega) (by rw [kmu_eq, kmu_j (by decide)]; omega)
  unfold f148
  dsimp only
  generalize hX : krd (R 9 0 3).toNat (kmu R 9 0 39 0) = X at *
  obtain ⟨o1, o2, o3, o4, -⟩ := L True
  rw [kmu_j (by decide)] at o3
  have B7' := o1.i7
  have B40 := o1.i40
  have r2 : kRW V (kmu X.1 9 0 3 0) := o1.pi3 (by omega) (by omega)
  have b2 : ∀ x, kBk (kmu (kmu X.1 9 0 3 0) 9 0 0 x) := fun x => o2.c (by rw [kmu_ff (by decide), kmu_ff (by decide)]) (by rw [kmu_ff (by decide), kmu_ff (by decide)]) (by rw [kmu_ff (by decide), kmu_ff (by decide)]) (by rw [kmu_j (by decide), kmu_j (by decide)])
  have e0 : ∀ T, (ka_W (kp E) (d, (148, 12, [some (.ref (A 9 0)), some (iv (R 9 0 7)), some (iv 1)], []), (kHp J A V C (kmu R 9 0 39 0), c, l)) Q ↔ T) → (ka_W (kp E) (d, (148, 0, [some (.ref (A 9 0)), none, none], []), (kHp J A V C R, c, l)) Q ↔ T) := by
    intro T h
    rw [← h]
    simp (disch := first | assumption | (unfold kR; decide) | exact klc_R | (unfold kR; omega) | omega | (unfold kL; omega) | exact kcat_null | exact kcat_ref _ | exact kcat_iv _) only [r148_0, r148_1, r148_4, r148_5, r148_6, r148_7, r148_10, r148_11, ho_9_7 hA v.l9, hg_9_7 hA v.l9, ho_9_39 hA v.l9, hp_9_39 hA v.l9, true_and, and_true, kk1_i, kk1_r, kk1_n, kk1_0, kcat_iv, kcat_ref, kcat_null, kisR_ref, kisR_null, ksz_nil, ksz_iv, ksz_ref, ksz_null, ksz_lv, kfit_int, kfit_long, kfit_obj, kfit_objN, kfit_arr, kfit_arrN, knarI, knarZ0, knarZ1, kret_v, kret_n, kret_x, Nat.reduceAdd, Nat.reduceLeDiff, reduceCtorEq, Int.reduceLE, Int.reduceLT, Int.reduceEq, ite_true, ite_false, true_or, or_true, false_implies, true_implies, not_true_eq_false, not_false_eq_true, and_self, eq_self, klc_lt, klc_ge, klc_le, klc_gt, klc_eq, kmu_eq, kmu_f, kmu_i, kmu_j]
  by_cases h1 : X.2 = 0
  · rw [if_pos h1]
    have r3 : kRW V (kmu (kmu X.1 9 0 3 0) 9 0 0 0) := r2.pi0 (by omega) (by omega)
    obtain ⟨i1, i2, i3, i4, i5⟩ := j148_b (E := E) (d := d) (c := c) (l := l) (Q := Q) (J := J) (C := C) (had := R 9 0 7) (g := 0) hA v B7.1 hd (X.1 9 0 7 - R 9 0 7).toNat _ r3 (b2 0) (by rw [kmu_j (by decide), kmu_j (by decide)]; omega)
    rw [kmu_j (by decide), kmu_j (by decide)] at i4
    refine ⟨i1, i2, e0 _ ((L _).2.2.2.2 ?_)⟩
    simp (disch := first | assumption | (unfold kR; decide) | exact klc_R | (unfold kR; omega) | omega | (unfold kL; omega) | exact kcat_null | exact kcat_ref _ | exact kcat_iv _) only [r148_35, r148_36, r148_37, r148_40, r148_41, r148_42, r148_45, r148_46, r148_49, r148_51, r148_54, r148_55, r148_58, r148_59, r148_62, r148_63, ho_9_3 hA v.l9, hp_9_3 hA v.l9, ho_9_7 hA v.l9, hg_9_7 hA v.l9, ho_9_0 hA v.l9, hp_9_0 hA v.l9, true_and, and_true, kk1_i, kk1_r, kk1_n, kk1_0, kcat_iv, kcat_ref, kcat_null, kisR_ref, kisR_null, ksz_nil, ksz_iv, ksz_ref, ksz_null, ksz_lv, kfit_int, kfit_long, kfit_obj, kfit_objN, kfit_arr, kfit_arrN, knarI, knarZ0, knarZ1, kret_v, kret_n, kret_x, Nat.reduceAdd, Nat.reduceLeDiff, reduceCtorEq, Int.reduceLE, Int.reduceLT, Int.reduceEq, ite_true, ite_false, true_or, or_true, false_implies, true_implies, not_true_eq_false, not_false_eq_true, and_self, eq_self, klc_lt, klc_ge, klc_le, klc_gt, klc_eq, kmu_eq, kmu_f, kmu_i, kmu_j, h1, i5]
    simp (disch := first | assumption | (unfold kR; decide) | exact klc_R | (unfold kR; omega) | omega | (unfold kL; omega) | exact kcat_null | exact kcat_ref _ | exact kcat_iv _) only [r148_114, r148_115, r148_118, r148_119, r148_122, r148_123, r148_124, r148_127, r148_128, ho_9_40 hA v.l9, hg_9_40 hA v.l9, true_and, and_true, kk1_i, kk1_r, kk1_n, kk1_0, kcat_iv, kcat_ref, kcat_null, kisR_ref, kisR_null, ksz_nil, ksz_iv, ksz_ref, ksz_null, ksz_lv, kfit_int, kfit_long, kfit_obj, kfit_objN, kfit_arr, kfit_arrN, knarI, knarZ0, knarZ1, kret_v, kret_n, kret_x, Nat.reduceAdd, Nat.reduceLeDiff, reduceCtorEq, Int.reduceLE, Int.reduceLT, Int.reduceEq, ite_true, ite_false, true_or, or_true, false_implies, true_implies, not_true_eq_false, not_false_eq_true, and_self, eq_self, klc_lt, klc_ge, klc_le, klc_gt, klc_eq, kmu_eq, kmu_f, kmu_i, kmu_j, i4]
  · have h1' : X.2 = 1 := by omega
    rw [if_neg h1]
    by_cases h2 : 12 < X.1 9 0 7
    · rw [if_pos h2]
      have r3 : kRW V (kmu (kmu X.1 9 0 3 0) 9 0 0 1) := r2.pi0 (by omega) (by omega)
      obtain ⟨i1, i2, i3, i4, i5⟩ := j148_b (E := E) (d := d) (c := c) (l := l) (Q := Q) (J := J) (C := C) (had := R 9 0 7) (g := 1) hA v B7.1 hd (X.1 9 0 7 - R 9 0 7).toNat _ r3 (b2 1) (by rw [kmu_j (by decide), kmu_j (by decide)]; omega)
      refine ⟨i1, i2, e0 _ ((L _).2.2.2.2 ?_)⟩
      simp (disch := first | assumption | (unfold kR; decide) | exact klc_R | (unfold kR; omega) | omega | (unfold kL; omega) | exact kcat_null | exact kcat_ref _ | exact kcat_iv _) only [r148_35, r148_36, r148_37, r148_40, r148_41, r148_42, r148_45, r148_46, r148_49, r148_51, r148_54, r148_55, r148_58, r148_59, r148_62, r148_63, r148_66, r148_67, r148_70, ho_9_3 hA v.l9, hp_9_3 hA v.l9, ho_9_7 hA v.l9, hg_9_7 hA v.l9, ho_9_0 hA v.l9, hp_9_0 hA v.l9, hg_9_0 hA v.l9, true_and, and_true, kk1_i, kk1_r, kk1_n, kk1_0, kcat_iv, kcat_ref, kcat_null, kisR_ref, kisR_null, ksz_nil, ksz_iv, ksz_ref, ksz_null, ksz_lv, kfit_int, kfit_long, kfit_obj, kfit_objN, kfit_arr, kfit_arrN, knarI, knarZ0, knarZ1, kret_v, kret_n, kret_x, Nat.reduceAdd, Nat.reduceLeDiff, reduceCtorEq, Int.reduceLE, Int.reduceLT, Int.reduceEq, ite_true, ite_false, true_or, or_true, false_implies, true_implies, not_true_eq_false, not_false_eq_true, and_self, eq_self, klc_lt, klc_ge, klc_le, klc_gt, klc_eq, kmu_eq, kmu_f, kmu_i, kmu_j, h1', h2, i5, show ¬ X.1 9 0 7 ≤ 12 by omega, show ¬ ((1:Int) = 0) by decide]
      simp (disch := first | assumption | (unfold kR; decide) | exact klc_R | (unfold kR; omega) | omega | (unfold kL; omega) | exact kcat_null | exact kcat_ref _ | exact kcat_iv _) only [r148_114, r148_115, r148_118, r148_119, r148_122, r148_123, r148_124, r148_127, r148_128, ho_9_40 hA v.l9, hg_9_40 hA v.l9, true_and, and_true, kk1_i, kk1_r, kk1_n, kk1_0, kcat_iv, kcat_ref, kcat_null, kisR_ref, kisR_null, ksz_nil, ksz_iv, ksz_ref, ksz_null, ksz_lv, kfit_int, kfit_long, kfit_obj, kfit_objN, kfit_arr, kfit_arrN, knarI, knarZ0, knarZ1, kret_v, kret_n, kret_x, Nat.reduceAdd, Nat.reduceLeDiff, reduceCtorEq, Int.reduceLE, Int.reduceLT, Int.reduceEq, ite_true, ite_false, true_or, or_true, false_implies, true_implies, not_true_eq_false, not_false_eq_true, and_self, eq_self, klc_lt, klc_ge, klc_le, klc_gt, klc_eq, kmu_eq, kmu_f, kmu_i, kmu_j, show ¬ ((1:Int) = 0) by decide]
    · rw [if_neg h2]
      refine ⟨r2.pi0 (by omega) (by omega), b2 0, e0 _ ((L _).2.2.2.2 ?_)⟩
      simp (disch := first | assumption | (unfold kR; decide) | exact klc_R | (unfold kR; omega) | omega | (unfold kL; omega) | exact kcat_null | exact kcat_ref _ | exact kcat_iv _) only [r148_35, r148_36, r148_37, r148_40, r148_41, r148_42, r148_45, r148_46, r148_49, r148_51, r148_54, r148_55, r148_58, r148_59, r148_62, r148_63, r148_66, r148_67, r148_70, r148_73, r148_74, r148_77, ho_9_3 hA v.l9, hp_9_3 hA v.l9, ho_9_7 hA v.l9, hg_9_7 hA v.l9, ho_9_0 hA v.l9, hp_9_0 hA v.l9, hg_9_0 hA v.l9, true_and, and_true, kk1_i, kk1_r, kk1_n, kk1_0, kcat_iv, kcat_ref, kcat_null, kisR_ref, kisR_null, ksz_nil, ksz_iv, ksz_ref, ksz_null, ksz_lv, kfit_int, kfit_long, kfit_obj, kfit_objN, kfit_arr, kfit_arrN, knarI, knarZ0, knarZ1, kret_v, kret_n, kret_x, Nat.reduceAdd, Nat.reduceLeDiff, reduceCtorEq, Int.reduceLE, Int.reduceLT, Int.reduceEq, ite_true, ite_false, true_or, or_true, false_implies, true_implies, not_true_eq_false, not_false_eq_true, and_self, eq_self, klc_lt, klc_ge, klc_le, klc_gt, klc_eq, kmu_eq, kmu_f, kmu_i, kmu_j, h1', show X.1 9 0 7 ≤ 12 by omega, show ¬ ((1:Int) = 0) by decide]
end
