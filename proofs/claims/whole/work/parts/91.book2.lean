/-! The book: the ring traced; parts told. -/
/-- the refused ring stands alike -/
def kRg (C Y : ka_M) : Prop := C 7 0 1 = Y 9 0 36 ∧ 0 ≤ Y 9 0 36 ∧ Y 9 0 36 ≤ 20 ∧ ∀ j, 0 ≤ j → j < Y 9 0 36 → C 27 0 j = Y 85 0 j
section
variable {E : Nat × Nat} {d c l : Nat} {s : ka_S} {h : ka_H} {Q : ka_Q} {J : ka_H} {A : ka_A} {V : ka_V} {C R X : ka_M}
theorem c107_l (hA : kJ A V) (v : kLV V) {k g' to : Int} (hd : 1 ≤ d) (t0 : 0 ≤ to) (t1 : to < 20) :
    ∀ (n : Nat) (g p : Int) (C Y : ka_M), kLd C X → kRg C Y → Y 9 0 36 = p → 0 ≤ g → g < 20 → 1 ≤ p → p + n ≤ 20 → kfars X to 20 g = n →
    (∀ C', (∀ f, f ≠ 7 → f ≠ 27 → C' f = C f) → kRg C' (krgM X (kfars X to 20) n p g Y) → Q (.inl none) (kHp J A V (kaf C' (kfars X to 20)) R, c, l)) →
    ka_W (kp E) (d, (107, 25, [some (.ref (A 7 0)), some (.ref (A 1 0)), some (.ref (A 3 k)), some (iv g'), some (iv g), some (iv (n : Int))], []), (kHp J A V (kaf C (kfars X to 20)) R, c, l)) Q
  | 0, g, p, C, Y, L, hR, hp, h0, h1, p0, p1, hn, H => by
    have := H C (fun _ _ _ => rfl) hR
    have e : ((0 : Nat) : Int) = 0 := rfl
    rw [e]
    simp (disch := first | assumption | (unfold kR; decide) | exact klc_R | (unfold kR; omega) | omega | (unfold kL; omega) | exact kcat_null | exact kcat_ref _ | exact kcat_iv _) only [r107_25, r107_27, r107_74, true_and, and_true, kk1_i, kk1_r, kk1_n, kk1_0, kcat_iv, kcat_ref, kcat_null, kisR_ref, kisR_null, ksz_nil, ksz_iv, ksz_ref, ksz_null, ksz_lv, kfit_int, kfit_long, kfit_obj, kfit_objN, kfit_arr, kfit_arrN, knarI, knarZ0, knarZ1, kret_v, kret_n, kret_x, Nat.reduceAdd, Nat.reduceLeDiff, reduceCtorEq, Int.reduceLE, Int.reduceLT, Int.reduceEq, ite_true, ite_false, true_or, or_true, false_implies, true_implies, not_true_eq_false, not_false_eq_true, and_self, eq_self, klc_lt, klc_ge, klc_le, klc_gt, klc_eq, kmu_eq, kmu_f, kmu_i, kmu_j]
    exact this
  | n + 1, g, p, C, Y, L, hR, hp, h0, h1, p0, p1, hn, H => by
    have e1 : ((n + 1 : Nat) : Int) = (n : Int) + 1 := by omega
    have hk := krg_nx (R := X) (to := to) (g := g) (n := n) (by rw [hn]; omega)
    obtain ⟨x0, x1, x2, x3⟩ := knx_spec 20 0 (by omega) hk
    have hrg : ∀ j : Int, 0 ≤ j → j < 20 → -1 ≤ kfars X to 20 j ∧ kfars X to 20 j ≤ 20 := fun j _ _ => kfars_rng 20 j
    have L1 : kLd (kmu (kmu C 27 0 p g) 7 0 1 (p + 1)) X := by
      unfold kLd
      rw [kmu_ff (by decide), kmu_ff (by decide)]
      exact L
    obtain ⟨R1, R2, R3, R4⟩ := hR
    have hR1 : kRg (kmu (kmu C 27 0 p g) 7 0 1 (p + 1)) (kmu (kmu Y 85 0 p g) 9 0 36 (p + 1)) := by
      refine ⟨by rw [kmu_eq, kmu_eq], by rw [kmu_eq]; omega, by rw [kmu_eq]; omega, fun j a b => ?_⟩
      rw [kmu_eq] at b
      rw [kmu_f (show (27:Nat) ≠ 7 by decide), kmu_f (show (85:Nat) ≠ 9 by decide)]
      by_cases e : j = p
      · rw [e, kmu_eq, kmu_eq]
      · rw [kmu_j e, kmu_j e]
        exact R4 j a (by omega)
    have ih := c107_l hA v (k := k) (g' := g') hd t0 t1 n (knx X (kfars X to 20) g 20 0) (p + 1) (kmu (kmu C 27 0 p g) 7 0 1 (p + 1)) (kmu (kmu Y 85 0 p g) 9 0 36 (p + 1)) L1 hR1 kmu_eq x0 x1 (by omega) (by omega) (by rw [x2, hn]; omega) (fun C' a b => H C' (fun f y1 y2 => (a f y1 y2).trans (by rw [kmu_ff y1, kmu_ff y2])) b)
    have nx := fun {Q} => c63 (E := E) (d := d - 1) (c := c) (l := l) (Q := Q) (J := J) (R := R) hA v L1 (φ := kfars X to 20) h0 h1 hrg hk
    have e7 : C 7 0 1 = p := by rw [R1, hp]
    rw [e1, r107_25]
    have e2 : (n : Int) + 1 + -1 = n := by omega
    simp (disch := first | assumption | (unfold kR; decide) | exact klc_R | (unfold kR; omega) | omega | (unfold kL; omega) | exact kcat_null | exact kcat_ref _ | exact kcat_iv _) only [r107_27, r107_30, r107_31, r107_34, r107_36, r107_39, r107_40, r107_43, r107_44, r107_47, r107_49, r107_50, r107_51, r107_52, r107_55, r107_56, r107_57, r107_60, r107_61, r107_63, r107_66, r107_68, r107_71, ho_7_1 hA v.l7, hg_7_1 hA v.l7, ho_7_0 hA v.l7, hg_7_0 hA v.l7, hoa_27 hA v.l27, hga_27 hA v.l27, hpa_27 hA v.l27, hp_7_1 hA v.l7, ht_1 hA v.l1, true_and, and_true, kk1_i, kk1_r, kk1_n, kk1_0, kcat_iv, kcat_ref, kcat_null, kisR_ref, kisR_null, ksz_nil, ksz_iv, ksz_ref, ksz_null, ksz_lv, kfit_int, kfit_long, kfit_obj, kfit_objN, kfit_arr, kfit_arrN, knarI, knarZ0, knarZ1, kret_v, kret_n, kret_x, Nat.reduceAdd, Nat.reduceLeDiff, reduceCtorEq, Int.reduceLE, Int.reduceLT, Int.reduceEq, ite_true, ite_false, true_or, or_true, false_implies, true_implies, not_true_eq_false, not_false_eq_true, and_self, eq_self, klc_lt, klc_ge, klc_le, klc_gt, klc_eq, kmu_eq, kmu_f, kmu_i, kmu_j, kaf_f, kaf_muf, e7, nx, show ¬ (n : Int) + 1 ≤ 0 by omega, show ¬ (20:Int) ≤ p by omega, Nat.zero_le, hd, e2]
    exact ih
/-- trace, where makesRing has measured -/
theorem c107 (hA : kJ A V) (v : kLV V) {k g to : Int} (hd : 1 ≤ d) (L : kLd C X) (hk : V 3 k) (e3 : C 3 k 1 = to) (t0 : 0 ≤ to) (t1 : to < 20) (h0 : 0 ≤ g) (h1 : g < 20) (hg : kfars X to 20 g ≠ -1)
    (H : ∀ C', (∀ f, f ≠ 7 → f ≠ 27 → C' f = C f) → kRg C' (krgM X (kfars X to 20) (kfars X to 20 g).toNat 1 g (kmu (kmu (f125 X to) 85 0 0 to) 9 0 36 1)) → Q (.inl none) (kHp J A V (kaf C' (kfars X to 20)) R, c, l)) :
    ka_W (kp E) (d, (107, 0, [some (.ref (A 7 0)), some (.ref (A 1 0)), some (.ref (A 3 k)), some (iv g), none, none], []), (kHp J A V (kaf C (kfars X to 20)) R, c, l)) Q := by
  have B := kfars_rng (R := X) (to := to) 20 g
  have B2 := kfars_19 (R := X) (to := to) h0 h1
  have L1 : kLd (kmu (kmu C 27 0 0 to) 7 0 1 1) X := by
    unfold kLd
    rw [kmu_ff (by decide), kmu_ff (by decide)]
    exact L
  have hR1 : kRg (kmu (kmu C 27 0 0 to) 7 0 1 1) (kmu (kmu (f125 X to) 85 0 0 to) 9 0 36 1) := by
    refine ⟨by rw [kmu_eq, kmu_eq], by rw [kmu_eq]; omega, by rw [kmu_eq]; omega, fun j a b => ?_⟩
    rw [kmu_eq] at b
    have e : j = 0 := by omega
    rw [e, kmu_f (show (27:Nat) ≠ 7 by decide), kmu_f (show (85:Nat) ≠ 9 by decide), kmu_eq, kmu_eq]
  have z := c107_l (E := E) (d := d) (c := c) (l := l) (Q := Q) (J := J) (R := R) hA v (k := k) (g' := g) hd t0 t1 (kfars X to 20 g).toNat g 1 (kmu (kmu C 27 0 0 to) 7 0 1 1) (kmu (kmu (f125 X to) 85 0 0 to) 9 0 36 1) L1 hR1 kmu_eq h0 h1 (by omega) (by omega) (by omega) (fun C' a b => H C' (fun f y1 y2 => (a f y1 y2).trans (by rw [kmu_ff y1, kmu_ff y2])) b)
  have e2 : (((kfars X to 20 g).toNat : Nat) : Int) = kfars X to 20 g := by omega
  rw [e2] at z
  simp (disch := first | assumption | (unfold kR; decide) | exact klc_R | (unfold kR; omega) | omega | (unfold kL; omega) | exact kcat_null | exact kcat_ref _ | exact kcat_iv _) only [r107_0, r107_1, r107_4, r107_5, r107_6, r107_9, r107_10, r107_11, r107_12, r107_15, r107_16, r107_18, r107_19, r107_20, r107_23, ho_7_0 hA v.l7, hg_7_0 hA v.l7, hoa_27 hA v.l27, hga_27 hA v.l27, hpa_27 hA v.l27, ho_3_1 hA, hg_3_1 hA, ho_7_1 hA v.l7, hp_7_1 hA v.l7, ht_1 hA v.l1, true_and, and_true, kk1_i, kk1_r, kk1_n, kk1_0, kcat_iv, kcat_ref, kcat_null, kisR_ref, kisR_null, ksz_nil, ksz_iv, ksz_ref, ksz_null, ksz_lv, kfit_int, kfit_long, kfit_obj, kfit_objN, kfit_arr, kfit_arrN, knarI, knarZ0, knarZ1, kret_v, kret_n, kret_x, Nat.reduceAdd, Nat.reduceLeDiff, reduceCtorEq, Int.reduceLE, Int.reduceLT, Int.reduceEq, ite_true, ite_false, true_or, or_true, false_implies, true_implies, not_true_eq_false, not_false_eq_true, and_self, eq_self, klc_lt, klc_ge, klc_le, klc_gt, klc_eq, kmu_eq, kmu_f, kmu_i, kmu_j, kaf_f, kaf_muf, e3, c62 hA v, kaf_g, Nat.zero_le, hd]
  exact z
/-- a book's method: a part -/
theorem c57 (hA : kJ A V) (v : kLV V) {k i g n : Int} (hd : 1 ≤ d) (hk : V 3 k) (hi : C 3 k 2 = i) (i0 : 0 ≤ i) (hr : kRc V C i) (s0 : 0 ≤ C 6 i 5) (s1 : C 6 i 5 < 5) (t0 : 0 ≤ C 3 k 1) (t1 : C 3 k 1 < 20) :
    ka_W (kp E) (d, (57, 0, [some (.ref (A 1 0)), some (.ref (A 3 k)), some (iv g), some (iv n)], []), (kHp J A V C R, c, l)) Q ↔ Q (.inl none) (kHp J A V (kmu (g101 C i g n) 25 0 (C 3 k 1) (kor (C 25 0 (C 3 k 1)) (kshl 1 g))) R, c, l) := by
  obtain ⟨r1, r2, r3, r4⟩ := hr
  have e3 : g101 C i g n 3 = C 3 := by unfold g101; rw [kmu_ff (by decide), kmu_ff (by decide), kmu_ff (by decide), kmu_ff (by decide)]
  have e25 : g101 C i g n 25 = C 25 := by unfold g101; rw [kmu_ff (by decide), kmu_ff (by decide), kmu_ff (by decide), kmu_ff (by decide)]
  simp (disch := first | assumption | (unfold kR; decide) | exact klc_R | (unfold kR; omega) | omega | (unfold kL; omega) | exact kcat_null | exact kcat_ref _ | exact kcat_iv _) only [r57_0, r57_1, r57_4, r57_5, r57_6, r57_9, r57_10, r57_13, r57_14, r57_17, r57_18, r57_19, r57_20, r57_21, r57_22, r57_23, r57_24, ho_3_2 hA, hg_3_2 hA, hgn_3_2 hA, ht_6 hA, ho_1_2 hA v.l1, hg_1_2 hA v.l1, hoa_25 hA v.l25, hga_25 hA v.l25, hpa_25 hA v.l25, ho_3_1 hA, hg_3_1 hA, true_and, and_true, kk1_i, kk1_r, kk1_n, kk1_0, kcat_iv, kcat_ref, kcat_null, kisR_ref, kisR_null, ksz_nil, ksz_iv, ksz_ref, ksz_null, ksz_lv, kfit_int, kfit_long, kfit_obj, kfit_objN, kfit_arr, kfit_arrN, knarI, knarZ0, knarZ1, kret_v, kret_n, kret_x, Nat.reduceAdd, Nat.reduceLeDiff, reduceCtorEq, Int.reduceLE, Int.reduceLT, Int.reduceEq, ite_true, ite_false, true_or, or_true, false_implies, true_implies, not_true_eq_false, not_false_eq_true, and_self, eq_self, klc_lt, klc_ge, klc_le, klc_gt, klc_eq, kmu_eq, kmu_f, kmu_i, kmu_j, hi, c101 hA r1 r2 r3 r4 s0 s1, e3, e25, Nat.zero_le, hd]
theorem c58 (hA : kJ A V) (v : kLV V) {k i g : Int} (hd : 1 ≤ d) (hk : V 3 k) (hi : C 3 k 2 = i) (i0 : 0 ≤ i) (hr : kRc V C i) (s0 : 1 ≤ C 6 i 5) (s1 : C 6 i 5 ≤ 5) (t0 : 0 ≤ C 3 k 1) (t1 : C 3 k 1 < 20) :
    ka_W (kp E) (d, (58, 0, [some (.ref (A 1 0)), some (.ref (A 3 k)), some (iv g)], []), (kHp J A V C R, c, l)) Q ↔ Q (.inl none) (kHp J A V (kmu (kmu C 22 i (C 6 i 5 - 1) g) 25 0 (C 3 k 1) (kor (C 25 0 (C 3 k 1)) (kshl 1 g))) R, c, l) := by
  obtain ⟨r1, r2, r3, r4⟩ := hr
  simp (disch := first | assumption | (unfold kR; decide) | exact klc_R | (unfold kR; omega) | omega | (unfold kL; omega) | exact kcat_null | exact kcat_ref _ | exact kcat_iv _) only [r58_0, r58_1, r58_4, r58_5, r58_8, r58_9, r58_12, r58_13, r58_16, r58_17, r58_18, r58_19, r58_20, r58_21, r58_22, r58_23, ho_3_2 hA, hg_3_2 hA, hgn_3_2 hA, ht_6 hA, ho_1_2 hA v.l1, hg_1_2 hA v.l1, hoa_25 hA v.l25, hga_25 hA v.l25, hpa_25 hA v.l25, ho_3_1 hA, hg_3_1 hA, true_and, and_true, kk1_i, kk1_r, kk1_n, kk1_0, kcat_iv, kcat_ref, kcat_null, kisR_ref, kisR_null, ksz_nil, ksz_iv, ksz_ref, ksz_null, ksz_lv, kfit_int, kfit_long, kfit_obj, kfit_objN, kfit_arr, kfit_arrN, knarI, knarZ0, knarZ1, kret_v, kret_n, kret_x, Nat.reduceAdd, Nat.reduceLeDiff, reduceCtorEq, Int.reduceLE, Int.reduceLT, Int.reduceEq, ite_true, ite_false, true_or, or_true, false_implies, true_implies, not_true_eq_false, not_false_eq_true, and_self, eq_self, klc_lt, klc_ge, klc_le, klc_gt, klc_eq, kmu_eq, kmu_f, kmu_i, kmu_j, hi, c102 hA r1 r4 s0 s1, Nat.zero_le, hd]
/-- all costs are forgotten -/
theorem c60 (hA : kJ A V) (v : kLV V) (hl : kLs V C 0) {n : Int} (hd : 3 ≤ d) (hn : C 10 0 1 = n) (n0 : 0 ≤ n) (n1 : n ≤ 20) (hk : ∀ k, 0 ≤ k → k < n → V 3 k ∧ C 33 (C 10 0 0) k = k)
    (H : ∀ C', (∀ f, f ≠ 3 → C' f = C f) → (∀ k j, j ≠ 4 → C' 3 k j = C 3 k j) → (∀ k, 0 ≤ k → k < n → C' 3 k 4 = -1) → Q (.inl none) (kHp J A V C' R, c, l)) :
    ka_W (kp E) (d, (60, 0, [some (.ref (A 1 0)), none], []), (kHp J A V C R, c, l)) Q := by
  have v100 : V 10 0 := v.2.1
  obtain ⟨w, w1, w2, w3, w4⟩ := kfor (n := n) (f := fun k Y => kmu Y 3 k 4 (-1)) (inv := fun k Y => 0 ≤ k ∧ (∀ f, f ≠ 3 → Y f = C f) ∧ (∀ k j, j ≠ 4 → Y 3 k j = C 3 k j) ∧ (∀ i, 0 ≤ i → i < k → Y 3 i 4 = -1)) (W := fun k Y => ka_W (kp E) (d, (60, 2, [some (.ref (A 1 0)), some (iv k)], []), (kHp J A V Y R, c, l)) Q) (fun k Y hk1 ⟨k0, y1, y2, y3⟩ => by
    refine ⟨⟨by omega, fun f hf => (kmu_ff hf).trans (y1 f hf), fun i j hj => by rw [kmu_j hj]; exact y2 i j hj, fun i a b => ?_⟩, ?_⟩
    · by_cases e : i = k
      · rw [e, kmu_eq]
      · rw [kmu_i e]; exact y3 i a (by omega)
    · obtain ⟨h1, h2⟩ := hk k k0 hk1
      have e10 : Y 10 = C 10 := y1 10 (by decide)
      have e33 : Y 33 = C 33 := y1 33 (by decide)
      have q182 := fun {Q} => c182_0 (E := E) (d := d - 1) (c := c) (l := l) (Q := Q) (J := J) (R := R) hA v (hl.c e10 e33) (x := k) (y := k) (by omega) k0 (by rw [e10, hn]; exact hk1) (by rw [e10, e33]; exact h2) k0
      have eY : Y 10 0 1 = n := by rw [e10, hn]
      rw [r60_2]
      simp (disch := first | assumption | (unfold kR; decide) | exact klc_R | (unfold kR; omega) | omega | (unfold kL; omega) | exact kcat_null | exact kcat_ref _ | exact kcat_iv _) only [r60_3, r60_4, r60_7, r60_10, r60_13, r60_14, r60_17, r60_18, r60_21, r60_24, r60_27, r60_30, r60_33, ho_1_0 hA v.l1, hg_1_0 hA v.l1, ht_10 hA, ht_3 hA, ho_3_4 hA, hp_3_4 hA, true_and, and_true, kk1_i, kk1_r, kk1_n, kk1_0, kcat_iv, kcat_ref, kcat_null, kisR_ref, kisR_null, ksz_nil, ksz_iv, ksz_ref, ksz_null, ksz_lv, kfit_int, kfit_long, kfit_obj, kfit_objN, kfit_arr, kfit_arrN, knarI, knarZ0, knarZ1, kret_v, kret_n, kret_x, Nat.reduceAdd, Nat.reduceLeDiff, reduceCtorEq, Int.reduceLE, Int.reduceLT, Int.reduceEq, ite_true, ite_false, true_or, or_true, false_implies, true_implies, not_true_eq_false, not_false_eq_true, and_self, eq_self, klc_lt, klc_ge, klc_le, klc_gt, klc_eq, kmu_eq, kmu_f, kmu_i, kmu_j, c180 hA v100, q182, eY, show ¬ n ≤ k by omega, Nat.zero_le, show 1 ≤ d by omega]) n.toNat 0 C (by omega) ⟨by omega, fun _ _ => rfl, fun _ _ _ => rfl, fun i a b => by omega⟩
  have := H _ w2 w3 w4
  generalize kfd (fun k Y => kmu Y 3 k 4 (-1)) n.toNat 0 C = Y at *
  have eY : Y 10 0 1 = n := by rw [w2 10 (by decide), hn]
  have w' := w.mpr (by
    rw [r60_2]
    simp (disch := first | assumption | (unfold kR; decide) | exact klc_R | (unfold kR; omega) | omega | (unfold kL; omega) | exact kcat_null | exact kcat_ref _ | exact kcat_iv _) only [r60_3, r60_4, r60_7, r60_10, r60_36, ho_1_0 hA v.l1, hg_1_0 hA v.l1, ht_10 hA, true_and, and_true, kk1_i, kk1_r, kk1_n, kk1_0, kcat_iv, kcat_ref, kcat_null, kisR_ref, kisR_null, ksz_nil, ksz_iv, ksz_ref, ksz_null, ksz_lv, kfit_int, kfit_long, kfit_obj, kfit_objN, kfit_arr, kfit_arrN, knarI, knarZ0, knarZ1, kret_v, kret_n, kret_x, Nat.reduceAdd, Nat.reduceLeDiff, reduceCtorEq, Int.reduceLE, Int.reduceLT, Int.reduceEq, ite_true, ite_false, true_or, or_true, false_implies, true_implies, not_true_eq_false, not_false_eq_true, and_self, eq_self, klc_lt, klc_ge, klc_le, klc_gt, klc_eq, kmu_eq, kmu_f, kmu_i, kmu_j, c180 hA v100, eY, Int.le_refl, Nat.zero_le, show 1 ≤ d by omega]
    exact this)
  simp (disch := first | assumption | (unfold kR; decide) | exact klc_R | (unfold kR; omega) | omega | (unfold kL; omega) | exact kcat_null | exact kcat_ref _ | exact kcat_iv _) only [r60_0, r60_1, true_and, and_true, kk1_i, kk1_r, kk1_n, kk1_0, kcat_iv, kcat_ref, kcat_null, kisR_ref, kisR_null, ksz_nil, ksz_iv, ksz_ref, ksz_null, ksz_lv, kfit_int, kfit_long, kfit_obj, kfit_objN, kfit_arr, kfit_arrN, knarI, knarZ0, knarZ1, kret_v, kret_n, kret_x, Nat.reduceAdd, Nat.reduceLeDiff, reduceCtorEq, Int.reduceLE, Int.reduceLT, Int.reduceEq, ite_true, ite_false, true_or, or_true, false_implies, true_implies, not_true_eq_false, not_false_eq_true, and_self, eq_self, klc_lt, klc_ge, klc_le, klc_gt, klc_eq, kmu_eq, kmu_f, kmu_i, kmu_j]
  exact w'
/-- what leads, with one part more -/
theorem f130_lead (rw : kRW V X) (bk : kBk X) {k g n a b : Int} (k0 : 0 ≤ k) (k1 : k < X 9 0 7) (hp : X 61 0 (4 * k + X 59 0 k - 1) < 5) (a0 : 0 ≤ a) (a1 : a < 20) (b0 : 0 ≤ b) :
    klead (f130 X k g n) a b ↔ klead X a b ∨ (X 56 0 a = k ∧ b = g) := by
  have B7 := rw.i7
  have B59 := rw.a59 (j := k) (by omega) (by omega)
  have hr := bk.2.2.2 k k0 k1
  have B61 := rw.a61 (j := 4 * k + X 59 0 k - 1) (by omega) (by omega)
  have e56 : f130 X k g n 56 = X 56 := f130_ps 56 (by decide) (by decide) (by decide) (by decide)
  have e59 : f130 X k g n 59 = X 59 := f130_ps 59 (by decide) (by decide) (by decide) (by decide)
  generalize hl : 4 * k + X 59 0 k - 1 = l at *
  have e61 : ∀ i, f130 X k g n 61 0 i = if i = l then X 61 0 l + 1 else X 61 0 i := by
    intro i
    unfold f130
    rw [hl]
    by_cases e : i = l
    · rw [e, kmu_eq, if_pos rfl]
    · rw [kmu_j e, kmu_f (by decide), kmu_f (by decide), kmu_f (by decide), if_neg e]
  have e62 : ∀ i, f130 X k g n 62 0 i = if i = 5 * l + X 61 0 l then g else X 62 0 i := by
    intro i
    unfold f130
    rw [hl, kmu_f (by decide), kmu_f (by decide), kmu_f (by decide)]
    by_cases e : i = 5 * l + X 61 0 l
    · rw [e, kmu_eq, if_pos rfl]
    · rw [kmu_j e, if_neg e]
  have e64 : ∀ i, f130 X k g n 64 0 i = if i = 5 * l + X 61 0 l then -1 else X 64 0 i := by
    intro i
    unfold f130
    rw [hl, kmu_f (by decide)]
    by_cases e : i = 5 * l + X 61 0 l
    · rw [e, kmu_eq, if_pos rfl]
    · rw [kmu_j e, kmu_f (by decide), kmu_f (by decide), if_neg e]
  have base : X 56 0 a ≠ -1 → 0 ≤ X 56 0 a ∧ X 56 0 a < 20 ∧ 0 ≤ X 59 0 (X 56 0 a) ∧ X 59 0 (X 56 0 a) ≤ 4 := by
    intro h
    have := bk.2.2.1 a a0 a1 h
    have := rw.a59 (j := X 56 0 a) (by omega) (by omega)
    omega
  unfold klead kPr kP
  rw [e56, e59]
  constructor
  · rintro ⟨h1, q, q0, q1, p, p0, p1, h2⟩
    have B := base h1
    have B61' := rw.a61 (j := 4 * X 56 0 a + q) (by omega) (by omega)
    rw [e61] at p1
    rw [e62, e64] at h2
    by_cases e : p = 5 * l + X 61 0 l
    · rw [if_pos e, if_pos e] at h2
      have hq : 4 * X 56 0 a + q = l := by
        by_cases e2 : 4 * X 56 0 a + q = l
        · exact e2
        · rw [if_neg e2] at p1
          omega
      exact Or.inr ⟨by omega, by omega⟩
    · rw [if_neg e, if_neg e] at h2
      refine Or.inl ⟨h1, q, q0, q1, p, p0, ?_, h2⟩
      by_cases e2 : 4 * X 56 0 a + q = l
      · rw [if_pos e2] at p1
        rw [e2] at p0 p1 ⊢
        omega
      · rw [if_neg e2] at p1
        exact p1
  · rintro (⟨h1, q, q0, q1, p, p0, p1, h2⟩ | ⟨h1, h2⟩)
    · have B := base h1
      have B61' := rw.a61 (j := 4 * X 56 0 a + q) (by omega) (by omega)
      have e : p ≠ 5 * l + X 61 0 l := by
        by_cases e2 : 4 * X 56 0 a + q = l
        · rw [e2] at p1; omega
        · omega
      refine ⟨h1, q, q0, q1, p, p0, ?_, ?_⟩
      · rw [e61]
        split
        · rename_i e; rw [e] at p1 ⊢; omega
        · exact p1
      · rw [e62, e64, if_neg e, if_neg e]
        exact h2
    · refine ⟨by omega, X 59 0 k - 1, by omega, by rw [h1]; omega, 5 * l + X 61 0 l, ?_, ?_, ?_⟩
      · rw [h1]; omega
      · rw [h1, e61, if_pos (by omega)]; omega
      · rw [e62, if_pos rfl]
        exact Or.inl h2.symm
/-- what leads, with a good instead -/
theorem f64_lead (rw : kRW V X) (bk : kBk X) {k g a b : Int} (k0 : 0 ≤ k) (k1 : k < X 9 0 7) (hp : 1 ≤ X 61 0 (4 * k + X 59 0 k - 1)) (hi : X 64 0 (f131 X k) = -1) (a0 : 0 ≤ a) (a1 : a < 20) (b0 : 0 ≤ b) :
    klead (kmu X 64 0 (f131 X k) g) a b ↔ klead X a b ∨ (X 56 0 a = k ∧ b = g) := by
  have B7 := rw.i7
  have B59 := rw.a59 (j := k) (by omega) (by omega)
  have hr := bk.2.2.2 k k0 k1
  have B61 := rw.a61 (j := 4 * k + X 59 0 k - 1) (by omega) (by omega)
  have hf : f131 X k = 5 * (4 * k + X 59 0 k - 1) + X 61 0 (4 * k + X 59 0 k - 1) - 1 := rfl
  generalize hl : 4 * k + X 59 0 k - 1 = l at *
  generalize f131 X k = w at *
  have e64 : ∀ i, kmu X 64 0 w g 64 0 i = if i = w then g else X 64 0 i := by
    intro i
    by_cases e : i = w
    · rw [e, kmu_eq, if_pos rfl]
    · rw [kmu_j e, if_neg e]
  have base : X 56 0 a ≠ -1 → 0 ≤ X 56 0 a ∧ X 56 0 a < 20 ∧ 0 ≤ X 59 0 (X 56 0 a) ∧ X 59 0 (X 56 0 a) ≤ 4 := by
    intro h
    have := bk.2.2.1 a a0 a1 h
    have := rw.a59 (j := X 56 0 a) (by omega) (by omega)
    omega
  unfold klead kPr kP
  rw [kmu_ff (show (56:Nat) ≠ 64 by decide), kmu_ff (show (59:Nat) ≠ 64 by decide), kmu_ff (show (61:Nat) ≠ 64 by decide), kmu_ff (show (62:Nat) ≠ 64 by decide)]
  constructor
  · rintro ⟨h1, q, q0, q1, p, p0, p1, h2⟩
    have B := base h1
    have B61' := rw.a61 (j := 4 * X 56 0 a + q) (by omega) (by omega)
    rw [e64] at h2
    by_cases e : p = w
    · rw [if_pos e] at h2
      rcases h2 with h2 | h2
      · exact Or.inl ⟨h1, q, q0, q1, p, p0, p1, Or.inl h2⟩
      · have hq : 4 * X 56 0 a + q = l := by omega
        exact Or.inr ⟨by omega, by omega⟩
    · rw [if_neg e] at h2
      exact Or.inl ⟨h1, q, q0, q1, p, p0, p1, h2⟩
  · rintro (⟨h1, q, q0, q1, p, p0, p1, h2⟩ | ⟨h1, h2⟩)
    · refine ⟨h1, q, q0, q1, p, p0, p1, ?_⟩
      rw [e64]
      by_cases e : p = w
      · rw [if_pos e]
        rcases h2 with h2 | h2
        · exact Or.inl h2
        · rw [e, hi] at h2
          omega
      · rw [if_neg e]; exact h2
    · refine ⟨by omega, X 59 0 k - 1, by omega, by rw [h1]; omega, w, ?_, ?_, ?_⟩
      · rw [h1]; omega
      · rw [h1]
        have : 4 * k + (X 59 0 k - 1) = l := by omega
        rw [this]; omega
      · rw [e64, if_pos rfl]
        exact Or.inr h2.symm
/-- one good more in a good's set -/
theorem kLd_add (rw : kRW V X) (bk : kBk X) {X' : ka_M} {k g : Int} (L : kLd C X) (k0 : 0 ≤ k) (k1 : k < X 9 0 7) (g0 : 0 ≤ g) (g1 : g < 20) (hl : ∀ a b, 0 ≤ a → a < 20 → 0 ≤ b → b < 20 → (klead X' a b ↔ klead X a b ∨ (X 56 0 a = k ∧ b = g))) {C' : ka_M} (hC : C' 25 = kmu C 25 0 (X 58 0 k) (kor (C 25 0 (X 58 0 k)) (kshl 1 g)) 25) : kLd C' X' := by
  intro a a0 a1
  have hto : ∀ a, 0 ≤ a → a < 20 → (X 56 0 a = k ↔ a = X 58 0 k) := by
    intro a a0 a1
    constructor
    · intro z
      have := bk.2.2.1 a a0 a1 (by omega)
      rw [z] at this
      exact this.2.2.symm
    · rintro rfl
      exact bk.2.1 k k0 k1
  obtain ⟨x0, x1, x2⟩ := L a a0 a1
  rw [hC]
  by_cases e : a = X 58 0 k
  · have o := kbit_or x0 x1 g0 g1
    rw [e, kmu_eq]
    rw [e] at o x2
    refine ⟨o.1, o.2.1, fun h h0 h1 => ?_⟩
    rw [hl _ h (by omega) (by omega) h0 h1, (hto _ (by omega) (by omega)).mpr rfl]
    unfold kbit at x2 ⊢
    rw [o.2.2 h h0 h1, x2 h h0 h1]
    simp
  · rw [kmu_j e]
    refine ⟨x0, x1, fun h h0 h1 => ?_⟩
    rw [hl a h a0 a1 h0 h1, x2 h h0 h1, hto a a0 a1]
    simp [e]
end
