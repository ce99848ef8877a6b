/-! The reader: a text. -/
/-- what the reading of lines leaves alone, in the reference -/
def kRd (X X' : ka_M) : Prop := (∀ f, f ≠ 9 → f ≠ 56 → f ≠ 58 → f ≠ 59 → f ≠ 60 → f ≠ 61 → f ≠ 62 → f ≠ 63 → f ≠ 64 → f ≠ 87 → X' f = X f) ∧ (∀ j, j ≠ 7 → j ≠ 39 → j ≠ 40 → j ≠ 41 → j ≠ 42 → X' 9 0 j = X 9 0 j) ∧ X 9 0 7 ≤ X' 9 0 7
theorem kRd_rfl {X : ka_M} : kRd X X := ⟨fun _ _ _ _ _ _ _ _ _ _ _ => rfl, fun _ _ _ _ _ _ => rfl, Int.le_refl _⟩
theorem kRd.trans {X X' X'' : ka_M} (h : kRd X X') (h' : kRd X' X'') : kRd X X'' :=
  ⟨fun f a1 a2 a3 a4 a5 a6 a7 a8 a9 a10 => (h'.1 f a1 a2 a3 a4 a5 a6 a7 a8 a9 a10).trans (h.1 f a1 a2 a3 a4 a5 a6 a7 a8 a9 a10), fun j a1 a2 a3 a4 a5 => (h'.2.1 j a1 a2 a3 a4 a5).trans (h.2.1 j a1 a2 a3 a4 a5), Int.le_trans h.2.2 h'.2.2⟩
theorem kPS.rd {X X' : ka_M} (h : kPS X X') : kRd X X' := ⟨fun f a1 _ _ _ _ _ _ _ _ _ => h.1 f a1, fun j _ a b c d => h.2 j a b c d, by rw [h.2 7 (by decide) (by decide) (by decide) (by decide)]; exact Int.le_refl _⟩
theorem kPK.rd {X X' : ka_M} {k : Int} (h : kPK k X X') : kRd X X' := ⟨fun f a1 _ _ _ _ a6 a7 a8 a9 a10 => h.1 f a1 a6 a7 a8 a9 a10, fun j _ a b c d => h.2.1 j a b c d, by rw [h.2.1 7 (by decide) (by decide) (by decide) (by decide)]; exact Int.le_refl _⟩
section
variable {E : Nat × Nat} {d c l : Nat} {s : ka_S} {h : ka_H} {Q : ka_Q} {J : ka_H} {A A' : ka_A} {V V' : ka_V} {C C' R X X' : ka_M}
theorem f123_rd {g : Int} : kRd X (f123 X g) := by
  obtain ⟨o1, o2, o3, o4, o5, o6, o7, o8⟩ := f123_o (X := X) (g := g)
  exact ⟨fun f a1 a2 a3 a4 a5 a6 _ _ _ _ => o8 f a1 a2 a3 a4 a5 a6, fun j a _ _ _ _ => o2 j a, by omega⟩
theorem f147_rd (rw : kRW V X) (b : kBk X) (ha : X 9 0 39 ≤ X 9 0 3) : kRd X (f147 X).1 := by
  have p1 := f144_ps (R := X) (x := 75)
  have rw1 := f144_rw rw (x := 75) (by omega)
  have at1 := f144_at (R := X) (x := 75) (by omega) ha
  unfold f147
  generalize f144 X 75 = Z1 at *
  by_cases h1 : Z1.2 = 0
  · rw [kth_0 h1]; exact p1.rd
  rw [kth_1 h1]
  have p2 := p1.trans (f144_ps (R := Z1.1) (x := 32))
  have rw2 := f144_rw rw1 (x := 32) (by omega)
  have at2 := f144_at (R := Z1.1) (x := 32) (by omega) at1.1
  generalize f144 Z1.1 32 = Z2 at *
  by_cases h2 : Z2.2 = 0
  · rw [kth_0 h2]; exact p2.rd
  rw [kth_1 h2]
  have p3 := p2.trans (f145_ps (R := Z2.1) (lo := 0) (hi := 19))
  have i3 := f145_in (R := Z2.1) (lo := 0) (hi := 19)
  have rw3 := f145_rw rw2 (lo := 0) (hi := 19) at2.1
  have at3 := f145_at (R := Z2.1) (lo := 0) (hi := 19) at2.1
  generalize f145 Z2.1 0 19 = Z3 at *
  by_cases h3 : Z3.2 = 0
  · rw [kth_0 h3]; exact p3.rd
  rw [kth_1 h3]
  obtain ⟨g0, g1⟩ := i3 h3
  have b3 := p3.pk (k := 0) |>.bk b
  by_cases h4 : Z3.1 56 0 (Z3.1 9 0 41) = -1
  · rw [if_pos h4]
    have hk := b3.free g0 (by omega) h4
    have rw4 := f123_rw rw3 g0 (by omega) hk
    have p4 := p3.rd.trans (f123_rd (X := Z3.1) (g := Z3.1 9 0 41))
    have B7 := rw3.i7
    have e59 : f123 Z3.1 (Z3.1 9 0 41) 59 0 (Z3.1 9 0 7) = 1 := f123_59
    have e61 : f123 Z3.1 (Z3.1 9 0 41) 61 0 (4 * Z3.1 9 0 7) = 0 := f123_61
    have e39 : f123 Z3.1 (Z3.1 9 0 41) 9 0 39 = Z3.1 9 0 39 := f123_9 (by decide)
    have e3 : f123 Z3.1 (Z3.1 9 0 41) 9 0 3 = Z3.1 9 0 3 := f123_9 (by decide)
    generalize f123 Z3.1 (Z3.1 9 0 41) = Y at *
    generalize Z3.1 9 0 7 = k at *
    have hb : 4 * k + Y 59 0 k - 1 = 4 * k := by omega
    obtain ⟨o1, o2, o3, o4, o5, o6⟩ := f146_o rw4 (k := k) B7.1 hk (by omega) (by rw [hb]; omega) (by omega)
    rw [hb] at o6
    have f59 := o2.1 59 (by decide) (by decide) (by decide) (by decide) (by decide) (by decide)
    generalize f146 Y k = Z5 at *
    by_cases h5 : Z5.2 = 0
    · rw [kth_0 h5]; exact p4.trans o2.rd
    rw [kth_1 h5]
    have e5 := o6 (o5.resolve_left h5)
    clear o5
    obtain ⟨i1, i2, i3, i4, i5⟩ := kpl_o B7.1 hk 4 1 Z5.1 o1 (by omega) (by rw [f59]; exact e59) (by rw [e5]; omega) o4
    exact p4.trans (o2.rd.trans i2.rd)
  · rw [if_neg h4]
    exact p3.rd.trans (kPS_rfl.mu (by omega)).rd
theorem c91_l :
    ∀ (n : Nat) (ln : Int) (J : ka_H) (A : ka_A) (V : ka_V) (C X : ka_M) (c l : Nat), kJ A V → kLV V → A 34 0 = E.1 → kRW V X → kRe C X → kBI V C X → 9 ≤ d → X 9 0 39 ≤ X 9 0 3 → X 9 0 3 ≤ X 9 0 39 + n → 0 ≤ ln → ln ≤ X 9 0 39 → 120 ≤ (c:Int) + 6 * X 9 0 7 → 2780 ≤ (l:Int) + 139 * X 9 0 7 →
    (∀ J' A' V' C' c' l' rt ln', kJ A' V' → kExt V V' A A' → kRW V' (krd n X).1 → kRe C' (krd n X).1 → kBI V' C' (krd n X).1 → kFrl C C' → kRd X (krd n X).1 → ((krd n X).2 = 0 → C' 5 0 3 = (krd n X).1 9 0 40) → (¬ (krd n X).2 = 0 → C' 5 0 3 = C 5 0 3) → (c:Int) + 6 * X 9 0 7 ≤ (c':Nat) + 6 * (krd n X).1 9 0 7 → (l:Int) + 139 * X 9 0 7 ≤ (l':Nat) + 139 * (krd n X).1 9 0 7 → ka_W (kp E) (d, (91, 48, [some (.ref (A' 5 0)), some (.ref (A' 1 0)), some (iv rt), some (iv ln')], []), (kHp J' A' V' C' R, c', l')) Q) →
    ka_W (kp E) (d, (91, 14, [some (.ref (A 5 0)), some (.ref (A 1 0)), some (iv 1), some (iv ln)], []), (kHp J A V C R, c, l)) Q
  | n, ln, J, A, V, C, X, c, l, hA, v, hE, rw, r, I, hd, ha, hn, l0, l1, hc, hl, H => by
    have n10 : ¬ (1:Int) = 0 := by decide
    have B3 := rw.i3
    have B39 := rw.i39
    have r1 := r.1
    have r2 := r.2.1
    by_cases h1 : X 9 0 39 < X 9 0 3
    · cases n with
      | zero => omega
      | succ n =>
        simp only [krd, if_pos h1] at H
        rw [r91_14]
        simp (disch := first | assumption | (unfold kR; decide) | exact klc_R | (unfold kR; omega) | omega | (unfold kL; omega) | exact kcat_null | exact kcat_ref _ | exact kcat_iv _) only [r91_15, r91_18, r91_21, r91_22, r91_25, r91_26, r91_29, r91_30, r91_33, r91_36, r91_37, r91_38, ho_5_2 hA v.l5, hg_5_2 hA v.l5, ho_5_1 hA v.l5, hg_5_1 hA v.l5, ht_5 hA v.l5, true_and, and_true, kk1_i, kk1_r, kk1_n, kk1_0, kcat_iv, kcat_ref, kcat_null, kisR_ref, kisR_null, ksz_nil, ksz_iv, ksz_ref, ksz_null, ksz_lv, kfit_int, kfit_long, kfit_obj, kfit_objN, kfit_arr, kfit_arrN, knarI, knarZ0, knarZ1, kret_v, kret_n, kret_x, Nat.reduceAdd, Nat.reduceLeDiff, reduceCtorEq, Int.reduceLE, Int.reduceLT, Int.reduceEq, ite_true, ite_false, true_or, or_true, false_implies, true_implies, not_true_eq_false, not_false_eq_true, and_self, eq_self, klc_lt, klc_ge, klc_le, klc_gt, klc_eq, kmu_eq, kmu_f, kmu_i, kmu_j, n10, r1, r2, show ¬ (1000:Int) ≤ ln by omega, show ¬ X 9 0 3 ≤ X 9 0 39 by omega, Nat.zero_le, show 1 ≤ d by omega]
        obtain ⟨⟨o1, o2, o3, o4, o5, o6, o7⟩, -⟩ := j147 (E := E) (d := d) (c := c) (l := l) (Q := Q) (J := J) (C := C) hA v rw I.2.2.2.1 (by omega) ha
        have rd := f147_rd rw I.2.2.2.1 ha
        refine c92 hA v hE rw r I (by omega) ha hc hl (fun J1 A1 V1 C1 c1 l1' a1 a2 a3 a4 a5 a6 a7 a8 a9 => ?_)
        generalize f147 X = Z at *
        have eA5 : A 5 0 = A1 5 0 := (a2 5 0 (by decide) v.l5).2.symm
        have eA1 : A 1 0 = A1 1 0 := (a2 1 0 (by decide) v.l1).2.symm
        rw [eA5, eA1]
        by_cases h2 : Z.2 = 0
        · rw [kth_0 h2] at H
          have := H J1 A1 V1 C1 c1 l1' 0 (ln + 1) a1 a2 (a2.rw o1) a3 a4 a5 rd (fun _ => a6 h2) (fun w => absurd rfl w) a8 a9
          rw [h2]
          by_cases e : 1000 ≤ ln + 1
          · simp (disch := first | assumption | (unfold kR; decide) | exact klc_R | (unfold kR; omega) | omega | (unfold kL; omega) | exact kcat_null | exact kcat_ref _ | exact kcat_iv _) only [r91_41, r91_42, r91_45, true_and, and_true, kk1_i, kk1_r, kk1_n, kk1_0, kcat_iv, kcat_ref, kcat_null, kisR_ref, kisR_null, ksz_nil, ksz_iv, ksz_ref, ksz_null, ksz_lv, kfit_int, kfit_long, kfit_obj, kfit_objN, kfit_arr, kfit_arrN, knarI, knarZ0, knarZ1, kret_v, kret_n, kret_x, Nat.reduceAdd, Nat.reduceLeDiff, reduceCtorEq, Int.reduceLE, Int.reduceLT, Int.reduceEq, ite_true, ite_false, true_or, or_true, false_implies, true_implies, not_true_eq_false, not_false_eq_true, and_self, eq_self, klc_lt, klc_ge, klc_le, klc_gt, klc_eq, kmu_eq, kmu_f, kmu_i, kmu_j]
            simp (disch := first | assumption | (unfold kR; decide) | exact klc_R | (unfold kR; omega) | omega | (unfold kL; omega) | exact kcat_null | exact kcat_ref _ | exact kcat_iv _) only [r91_14, r91_15, r91_18, true_and, and_true, kk1_i, kk1_r, kk1_n, kk1_0, kcat_iv, kcat_ref, kcat_null, kisR_ref, kisR_null, ksz_nil, ksz_iv, ksz_ref, ksz_null, ksz_lv, kfit_int, kfit_long, kfit_obj, kfit_objN, kfit_arr, kfit_arrN, knarI, knarZ0, knarZ1, kret_v, kret_n, kret_x, Nat.reduceAdd, Nat.reduceLeDiff, reduceCtorEq, Int.reduceLE, Int.reduceLT, Int.reduceEq, ite_true, ite_false, true_or, or_true, false_implies, true_implies, not_true_eq_false, not_false_eq_true, and_self, eq_self, klc_lt, klc_ge, klc_le, klc_gt, klc_eq, kmu_eq, kmu_f, kmu_i, kmu_j, e]
            exact this
          · simp (disch := first | assumption | (unfold kR; decide) | exact klc_R | (unfold kR; omega) | omega | (unfold kL; omega) | exact kcat_null | exact kcat_ref _ | exact kcat_iv _) only [r91_41, r91_42, r91_45, true_and, and_true, kk1_i, kk1_r, kk1_n, kk1_0, kcat_iv, kcat_ref, kcat_null, kisR_ref, kisR_null, ksz_nil, ksz_iv, ksz_ref, ksz_null, ksz_lv, kfit_int, kfit_long, kfit_obj, kfit_objN, kfit_arr, kfit_arrN, knarI, knarZ0, knarZ1, kret_v, kret_n, kret_x, Nat.reduceAdd, Nat.reduceLeDiff, reduceCtorEq, Int.reduceLE, Int.reduceLT, Int.reduceEq, ite_true, ite_false, true_or, or_true, false_implies, true_implies, not_true_eq_false, not_false_eq_true, and_self, eq_self, klc_lt, klc_ge, klc_le, klc_gt, klc_eq, kmu_eq, kmu_f, kmu_i, kmu_j]
            simp (disch := first | assumption | (unfold kR; decide) | exact klc_R | (unfold kR; omega) | omega | (unfold kL; omega) | exact kcat_null | exact kcat_ref _ | exact kcat_iv _) only [r91_14, r91_15, r91_18, r91_21, r91_22, true_and, and_true, kk1_i, kk1_r, kk1_n, kk1_0, kcat_iv, kcat_ref, kcat_null, kisR_ref, kisR_null, ksz_nil, ksz_iv, ksz_ref, ksz_null, ksz_lv, kfit_int, kfit_long, kfit_obj, kfit_objN, kfit_arr, kfit_arrN, knarI, knarZ0, knarZ1, kret_v, kret_n, kret_x, Nat.reduceAdd, Nat.reduceLeDiff, reduceCtorEq, Int.reduceLE, Int.reduceLT, Int.reduceEq, ite_true, ite_false, true_or, or_true, false_implies, true_implies, not_true_eq_false, not_false_eq_true, and_self, eq_self, klc_lt, klc_ge, klc_le, klc_gt, klc_eq, kmu_eq, kmu_f, kmu_i, kmu_j, e]
            exact this
        · have e1 : Z.2 = 1 := o6.resolve_left h2
          rw [kth_1 h2] at H
          have up := o7 e1
          rw [e1]
          clear o6
          simp (disch := first | assumption | (unfold kR; decide) | exact klc_R | (unfold kR; omega) | omega | (unfold kL; omega) | exact kcat_null | exact kcat_ref _ | exact kcat_iv _) only [r91_41, r91_42, r91_45, true_and, and_true, kk1_i, kk1_r, kk1_n, kk1_0, kcat_iv, kcat_ref, kcat_null, kisR_ref, kisR_null, ksz_nil, ksz_iv, ksz_ref, ksz_null, ksz_lv, kfit_int, kfit_long, kfit_obj, kfit_objN, kfit_arr, kfit_arrN, knarI, knarZ0, knarZ1, kret_v, kret_n, kret_x, Nat.reduceAdd, Nat.reduceLeDiff, reduceCtorEq, Int.reduceLE, Int.reduceLT, Int.reduceEq, ite_true, ite_false, true_or, or_true, false_implies, true_implies, not_true_eq_false, not_false_eq_true, and_self, eq_self, klc_lt, klc_ge, klc_le, klc_gt, klc_eq, kmu_eq, kmu_f, kmu_i, kmu_j]
          exact c91_l n (ln + 1) J1 A1 V1 C1 Z.1 c1 l1' a1 (a2.lv v) (by rw [(a2 34 0 (by decide) v.l34).2]; exact hE) (a2.rw o1) a3 a4 hd o4 (by omega) (by omega) (by omega) (by omega) (by omega) (fun J' A' V' C' c' l' rt ln' b1 b2 b3 b4 b5 b6 b7 b8 b9 b10 b11 => H J' A' V' C' c' l' rt ln' b1 (a2.trans b2) b3 b4 b5 (a5.trans b6) (rd.trans b7) b8 (fun w => (b9 w).trans (a7 h2)) (by omega) (by omega))
    · have e : krd n X = (X, 1) := by
        cases n with
        | zero => rfl
        | succ n => simp only [krd, if_neg h1]
      rw [e] at H
      have := H J A V C c l 1 ln hA kExt_rfl rw r I kFrl_rfl kRd_rfl (fun w => absurd w n10) (fun _ => rfl) (Int.le_refl _) (Int.le_refl _)
      by_cases e5 : 1000 ≤ ln
      · simp (disch := first | assumption | (unfold kR; decide) | exact klc_R | (unfold kR; omega) | omega | (unfold kL; omega) | exact kcat_null | exact kcat_ref _ | exact kcat_iv _) only [r91_14, r91_15, r91_18, true_and, and_true, kk1_i, kk1_r, kk1_n, kk1_0, kcat_iv, kcat_ref, kcat_null, kisR_ref, kisR_null, ksz_nil, ksz_iv, ksz_ref, ksz_null, ksz_lv, kfit_int, kfit_long, kfit_obj, kfit_objN, kfit_arr, kfit_arrN, knarI, knarZ0, knarZ1, kret_v, kret_n, kret_x, Nat.reduceAdd, Nat.reduceLeDiff, reduceCtorEq, Int.reduceLE, Int.reduceLT, Int.reduceEq, ite_true, ite_false, true_or, or_true, false_implies, true_implies, not_true_eq_false, not_false_eq_true, and_self, eq_self, klc_lt, klc_ge, klc_le, klc_gt, klc_eq, kmu_eq, kmu_f, kmu_i, kmu_j, e5]
        exact this
      · simp (disch := first | assumption | (unfold kR; decide) | exact klc_R | (unfold kR; omega) | omega | (unfold kL; omega) | exact kcat_null | exact kcat_ref _ | exact kcat_iv _) only [r91_14, r91_15, r91_18, r91_21, r91_22, r91_25, r91_26, r91_29, r91_30, r91_33, ho_5_2 hA v.l5, hg_5_2 hA v.l5, ho_5_1 hA v.l5, hg_5_1 hA v.l5, true_and, and_true, kk1_i, kk1_r, kk1_n, kk1_0, kcat_iv, kcat_ref, kcat_null, kisR_ref, kisR_null, ksz_nil, ksz_iv, ksz_ref, ksz_null, ksz_lv, kfit_int, kfit_long, kfit_obj, kfit_objN, kfit_arr, kfit_arrN, knarI, knarZ0, knarZ1, kret_v, kret_n, kret_x, Nat.reduceAdd, Nat.reduceLeDiff, reduceCtorEq, Int.reduceLE, Int.reduceLT, Int.reduceEq, ite_true, ite_false, true_or, or_true, false_implies, true_implies, not_true_eq_false, not_false_eq_true, and_self, eq_self, klc_lt, klc_ge, klc_le, klc_gt, klc_eq, kmu_eq, kmu_f, kmu_i, kmu_j, e5, n10, r1, r2, show X 9 0 3 ≤ X 9 0 39 by omega]
        exact this
/-- readText -/
theorem c91 (hA : kJ A V) (v : kLV V) (hE : A 34 0 = E.1) (rw : kRW V X) (r1 : C 5 0 1 = X 9 0 3) (r3 : ∀ j, 0 ≤ j → j < X 9 0 3 → C 31 0 j = X 52 0 j) (I : kBI V C X) (hd : 9 ≤ d) (hc : 120 ≤ (c:Int) + 6 * X 9 0 7) (hl : 2780 ≤ (l:Int) + 139 * X 9 0 7)
    (H : ∀ J' A' V' C' c' l' y, kJ A' V' → kExt V V' A A' → kRW V' (krd (X 9 0 3).toNat (kmu X 9 0 39 0)).1 → kBI V' C' (krd (X 9 0 3).toNat (kmu X 9 0 39 0)).1 → kFrl C C' → C' 5 0 1 = 0 → kRd X (krd (X 9 0 3).toNat (kmu X 9 0 39 0)).1 → ((krd (X 9 0 3).toNat (kmu X 9 0 39 0)).2 = 0 → y = (krd (X 9 0 3).toNat (kmu X 9 0 39 0)).1 9 0 40) → (¬ (krd (X 9 0 3).toNat (kmu X 9 0 39 0)).2 = 0 → y = -1) → (c:Int) + 6 * X 9 0 7 ≤ (c':Nat) + 6 * (krd (X 9 0 3).toNat (kmu X 9 0 39 0)).1 9 0 7 → (l:Int) + 139 * X 9 0 7 ≤ (l':Nat) + 139 * (krd (X 9 0 3).toNat (kmu X 9 0 39 0)).1 9 0 7 → Q (.inl (some (iv y))) (kHp J' A' V' C' R, c', l')) :
    ka_W (kp E) (d, (91, 0, [some (.ref (A 5 0)), some (.ref (A 1 0)), none, none], []), (kHp J A V C R, c, l)) Q := by
  have B3 := rw.i3
  have rw1 : kRW V (kmu X 9 0 39 0) := rw.pi39 (by omega) (by omega)
  have r' : kRe (kmu (kmu C 5 0 2 0) 5 0 3 (-1)) (kmu X 9 0 39 0) := by
    refine ⟨by rw [kmu_j (by decide), kmu_j (by decide), kmu_j (by decide)]; exact r1, by rw [kmu_j (by decide), kmu_eq, kmu_eq], fun j a b => ?_⟩
    rw [kmu_j (by decide)] at b
    rw [kmu_f (by decide), kmu_f (by decide), kmu_f (by decide)]
    exact r3 j a b
  have f5 : ∀ f, f ≠ 5 → kmu (kmu C 5 0 2 0) 5 0 3 (-1) f = C f := fun f hf => by rw [kmu_ff hf, kmu_ff hf]
  have I1 : kBI V (kmu (kmu C 5 0 2 0) 5 0 3 (-1)) (kmu X 9 0 39 0) := I.ps f5 (kPS_rfl.mu (by omega))
  have e7 : kmu X 9 0 39 0 9 0 7 = X 9 0 7 := kmu_j (by decide)
  have e3 : kmu X 9 0 39 0 9 0 3 = X 9 0 3 := kmu_j (by decide)
  have rd : kRd X (kmu X 9 0 39 0) := (kPS_rfl.mu (by omega)).rd
  have e39 : kmu X 9 0 39 0 9 0 39 = 0 := kmu_eq
  have e53 : kmu (kmu C 5 0 2 0) 5 0 3 (-1) 5 0 3 = -1 := kmu_eq
  have z := c91_l (E := E) (d := d) (Q := Q) (R := R) (X 9 0 3).toNat 0 J A V (kmu (kmu C 5 0 2 0) 5 0 3 (-1)) (kmu X 9 0 39 0) c l hA v hE rw1 r' I1 hd (by omega) (by omega) (by omega) (by omega) (by rw [e7]; exact hc) (by rw [e7]; exact hl) (fun J' A' V' C' c' l' rt ln' b1 b2 b3 b4 b5 b6 b7 b8 b9 b10 b11 => by
    have v' := b2.lv v
    generalize krd (X 9 0 3).toNat (kmu X 9 0 39 0) = Z at *
    rw [e7] at b10 b11
    have := H J' A' V' (kmu C' 5 0 1 0) c' l' (C' 5 0 3) b1 b2 b3 (b5.ps (fun f hf => kmu_ff hf) kPS_rfl) ((kFrl_5 f5).trans (b6.trans (kFrl_5 (fun f hf => kmu_ff hf)))) kmu_eq (rd.trans b7) b8 (fun w => by rw [b9 w, e53]) b10 b11
    simp (disch := first | assumption | (unfold kR; decide) | exact klc_R | (unfold kR; omega) | omega | (unfold kL; omega) | exact kcat_null | exact kcat_ref _ | exact kcat_iv _) only [r91_48, r91_49, r91_50, r91_53, r91_54, r91_57, ho_5_1 b1 v'.l5, hp_5_1 b1 v'.l5, ho_5_3 b1 v'.l5, hg_5_3 b1 v'.l5, true_and, and_true, kk1_i, kk1_r, kk1_n, kk1_0, kcat_iv, kcat_ref, kcat_null, kisR_ref, kisR_null, ksz_nil, ksz_iv, ksz_ref, ksz_null, ksz_lv, kfit_int, kfit_long, kfit_obj, kfit_objN, kfit_arr, kfit_arrN, knarI, knarZ0, knarZ1, kret_v, kret_n, kret_x, Nat.reduceAdd, Nat.reduceLeDiff, reduceCtorEq, Int.reduceLE, Int.reduceLT, Int.reduceEq, ite_true, ite_false, true_or, or_true, false_implies, true_implies, not_true_eq_false, not_false_eq_true, and_self, eq_self, klc_lt, klc_ge, klc_le, klc_gt, klc_eq, kmu_eq, kmu_f, kmu_i, kmu_j]
    exact this)
  simp (disch := first | assumption | (unfold kR; decide) | exact klc_R | (unfold kR; omega) | omega | (unfold kL; omega) | exact kcat_null | exact kcat_ref _ | exact kcat_iv _) only [r91_0, r91_1, r91_2, r91_5, r91_6, r91_7, r91_10, r91_11, r91_12, r91_13, ho_5_2 hA v.l5, hp_5_2 hA v.l5, ho_5_3 hA v.l5, hp_5_3 hA v.l5, true_and, and_true, kk1_i, kk1_r, kk1_n, kk1_0, kcat_iv, kcat_ref, kcat_null, kisR_ref, kisR_null, ksz_nil, ksz_iv, ksz_ref, ksz_null, ksz_lv, kfit_int, kfit_long, kfit_obj, kfit_objN, kfit_arr, kfit_arrN, knarI, knarZ0, knarZ1, kret_v, kret_n, kret_x, Nat.reduceAdd, Nat.reduceLeDiff, reduceCtorEq, Int.reduceLE, Int.reduceLT, Int.reduceEq, ite_true, ite_false, true_or, or_true, false_implies, true_implies, not_true_eq_false, not_false_eq_true, and_self, eq_self, klc_lt, klc_ge, klc_le, klc_gt, klc_eq, kmu_eq, kmu_f, kmu_i, kmu_j]
  exact z
end
