/-! The floor: receive, useInstead, giveUp; who is first; sums. -/
section
variable {E : Nat × Nat} {d c l : Nat} {s : ka_S} {h : ka_H} {Q : ka_Q} {J : ka_H} {A : ka_A} {V : ka_V} {C R X : ka_M}
/-- only a few families change: what is left to say of kRF -/
theorem kRF_f {C' X' : ka_M} (F : kRF V C X) (c8 : C' 8 = C 8) (c10 : C' 10 = C 10) (c33 : C' 33 = C 33) (r9 : ∀ j, j = 15 ∨ j = 26 → X' 9 0 j = X 9 0 j) (r77 : X' 77 = X 77) (r78 : X' 78 = X 78) (r79 : X' 79 = X 79) (r80 : X' 80 = X 80) (r81 : X' 81 = X 81)
    (hm : ∀ m, 1 ≤ m → m ≤ X 9 0 15 → kRm V C X m → kRm V C' X' m) (hp : ∀ m p, 1 ≤ m → m ≤ X 9 0 15 → 0 ≤ p → p < X' 70 0 m → kRp C' X' m p) (hg : ∀ g, 0 ≤ g → g < 20 → C' 28 0 g = X' 55 0 g) (c29 : C' 29 = C 29) : kRF V C' X' := by
  obtain ⟨F1, F2, F3, F4, F5, F6, F7, F8⟩ := F
  refine ⟨F1.c c10 c33, F2.c c10 c33, by rw [c10, r9 15 (by omega)]; exact F3, by rw [c10, r9 26 (by omega)]; exact F4, fun m a b => ?_, fun m p a b a' b' => ?_, fun u a b => ?_, fun g a b => ⟨hg g a b, ?_⟩⟩
  · rw [r9 15 (by omega)] at b
    exact hm m a b (F5 m a b)
  · rw [r9 15 (by omega)] at b
    exact hp m p a b a' b'
  · rw [r9 26 (by omega)] at b
    exact (F7 u a b).c (by rw [c8]) c10 c33 r77 r79 (by rw [r78]) (by rw [r80]) (by rw [r81])
  · rw [c29, f149_c (R := X) (r9 26 (by omega)) r77 r78]
    exact (F8 g a b).2
/-- a part's numbers, where the families that they speak of are the same -/
theorem kRp.cc {C' X' : ka_M} {m p : Int} (h : kRp C X m p) (c20 : C' 20 = C 20) (c21 : C' 21 = C 21) (c22 : C' 22 = C 22) (c23 : C' 23 = C 23) (c24 : C' 24 = C 24) (r72 : X' 72 = X 72) (r73 : X' 73 = X 73) (r74 : X' 74 = X 74) (r68 : X' 68 = X 68) (r71 : X' 71 = X 71) (r75 : X' 75 = X 75) (r78 : X' 78 = X 78) (r80 : X' 80 = X 80) (r81 : X' 81 = X 81) (r26 : X' 9 0 26 = X 9 0 26) : kRp C' X' m p := by
  unfold kRp
  rw [c20, c21, c22, c23, c24, r72, r73, r74, r68, r71, r75, r78, khu_c (R := X) r26 r78 r80 r81]
  exact h
theorem kRF_55 (F : kRF V C X) {g a : Int} : kRF V (kmu C 28 0 g a) (kmu X 55 0 g a) := by
  have cc : ∀ f, f ≠ 28 → (kmu C 28 0 g a) f = C f := fun f h => kmu_ff h
  have rr : ∀ f, f ≠ 55 → (kmu X 55 0 g a) f = X f := fun f h => kmu_ff h
  refine kRF_f F (cc 8 (by decide)) (cc 10 (by decide)) (cc 33 (by decide)) (fun j _ => kmu_f (by decide)) (rr 77 (by decide)) (rr 78 (by decide)) (rr 79 (by decide)) (rr 80 (by decide)) (rr 81 (by decide)) (fun m a b h => h.c (cc 4 (by decide)) (cc 6 (by decide)) (cc 10 (by decide)) (cc 33 (by decide)) (rr 58 (by decide)) (rr 66 (by decide)) (rr 67 (by decide)) (rr 68 (by decide)) (rr 69 (by decide)) (rr 70 (by decide)) (rr 71 (by decide))) (fun m p a b a' b' => ?_) (fun g' a b => ?_) (cc 29 (by decide))
  · rw [rr 70 (by decide)] at b'
    exact (F.2.2.2.2.2.1 m p a b a' b').cc (cc 20 (by decide)) (cc 21 (by decide)) (cc 22 (by decide)) (cc 23 (by decide)) (cc 24 (by decide)) (rr 72 (by decide)) (rr 73 (by decide)) (rr 74 (by decide)) (rr 68 (by decide)) (rr 71 (by decide)) (rr 75 (by decide)) (rr 78 (by decide)) (rr 80 (by decide)) (rr 81 (by decide)) (kmu_f (by decide))
  · by_cases e : g' = g
    · rw [e, kmu_eq, kmu_eq]
    · rw [kmu_j e, kmu_j e]
      exact (F.2.2.2.2.2.2.2 g' a b).1
/-- receive -/
theorem c67 (hA : kJ A V) (v : kLV V) (rw : kRW V X) (F : kRF V C X) {g n : Int} (hd : 6 ≤ d) (g0 : 0 ≤ g) (g1 : g < 20) (n0 : 0 ≤ n) (n1 : n ≤ 1000) (hb : X 55 0 g ≤ 999000) (nd : kND X)
    (H : ∀ C', kFl C C' → kRF V C' (f155 X g n) → Q (.inl none) (kHp J A V C' R, c, l)) :
    ka_W (kp E) (d, (67, 0, [some (.ref (A 2 0)), some (iv g), some (iv n)], []), (kHp J A V C R, c, l)) Q := by
  have B := rw.a55 (j := g) g0 g1
  have G := (F.2.2.2.2.2.2.2 g g0 g1).1
  have F1 := kRF_55 F (g := g) (a := X 55 0 g + n)
  have r1 : kRW V (kmu X 55 0 g (X 55 0 g + n)) := rw.pa55 (by omega) (by omega)
  have n1 : kND (kmu X 55 0 g (X 55 0 g + n)) := nd.cg (fun j hj => kmu_f (by decide)) (kmu_ff (by decide)) (kmu_ff (by decide)) (kmu_ff (by decide)) (kmu_ff (by decide)) (kmu_ff (by decide)) (kmu_ff (by decide)) (kmu_ff (by decide))
  have z := c77 (E := E) (d := d - 1) (c := c) (l := l) (J := J) (R := R) (Q := kret E d 67 14 [some (.ref (A 2 0)), some (iv g), some (iv n)] [] Q) hA v r1 F1 n1 (by omega) (fun C' h1 h2 => by
    have := H C' (kFl.trans (kFl_rfl.mu (by omega)) h1) h2
    simp (disch := first | assumption | (unfold kR; decide) | exact klc_R | (unfold kR; omega) | omega | (unfold kL; omega) | exact kcat_null | exact kcat_ref _ | exact kcat_iv _) only [r67_14, true_and, and_true, kk1_i, kk1_r, kk1_n, kk1_0, kcat_iv, kcat_ref, kcat_null, kisR_ref, kisR_null, ksz_nil, ksz_iv, ksz_ref, ksz_null, ksz_lv, kfit_int, kfit_long, kfit_obj, kfit_objN, kfit_arr, kfit_arrN, knarI, knarZ0, knarZ1, kret_v, kret_n, kret_x, Nat.reduceAdd, Nat.reduceLeDiff, reduceCtorEq, Int.reduceLE, Int.reduceLT, Int.reduceEq, ite_true, ite_false, true_or, or_true, false_implies, true_implies, not_true_eq_false, not_false_eq_true, and_self, eq_self, klc_lt, klc_ge, klc_le, klc_gt, klc_eq, kmu_eq, kmu_f, kmu_i, kmu_j]
    exact this)
  simp (disch := first | assumption | (unfold kR; decide) | exact klc_R | (unfold kR; omega) | omega | (unfold kL; omega) | exact kcat_null | exact kcat_ref _ | exact kcat_iv _) only [r67_0, r67_1, r67_4, r67_5, r67_6, r67_7, r67_8, r67_9, r67_10, r67_11, ho_2_2 hA v.l2, hg_2_2 hA v.l2, hoa_28 hA v.l28, hga_28 hA v.l28, hpa_28 hA v.l28, ht_2 hA v.l2, true_and, and_true, kk1_i, kk1_r, kk1_n, kk1_0, kcat_iv, kcat_ref, kcat_null, kisR_ref, kisR_null, ksz_nil, ksz_iv, ksz_ref, ksz_null, ksz_lv, kfit_int, kfit_long, kfit_obj, kfit_objN, kfit_arr, kfit_arrN, knarI, knarZ0, knarZ1, kret_v, kret_n, kret_x, Nat.reduceAdd, Nat.reduceLeDiff, reduceCtorEq, Int.reduceLE, Int.reduceLT, Int.reduceEq, ite_true, ite_false, true_or, or_true, false_implies, true_implies, not_true_eq_false, not_false_eq_true, and_self, eq_self, klc_lt, klc_ge, klc_le, klc_gt, klc_eq, kmu_eq, kmu_f, kmu_i, kmu_j, G, Nat.zero_le, show 1 ≤ d by omega]
  exact z
/-- a making's standing changes from open -/
theorem kRF_68 (F : kRF V C X) {m x : Int} (m0 : 1 ≤ m) (hs : X 68 0 m = 0) (hx : x ≠ 0) : kRF V (kmu C 4 m 7 x) (kmu X 68 0 m x) := by
  have cc : ∀ f, f ≠ 4 → (kmu C 4 m 7 x) f = C f := fun f h => kmu_ff h
  have rr : ∀ f, f ≠ 68 → (kmu X 68 0 m x) f = X f := fun f h => kmu_ff h
  refine kRF_f F (cc 8 (by decide)) (cc 10 (by decide)) (cc 33 (by decide)) (fun j _ => kmu_f (by decide)) (rr 77 (by decide)) (rr 78 (by decide)) (rr 79 (by decide)) (rr 80 (by decide)) (rr 81 (by decide)) (fun m' a b h => ?_) (fun m' p a b a' b' => ?_) (fun g' a b => ?_) (cc 29 (by decide))
  · obtain ⟨M1, M2, M3, M4, M5, M6, M7, M8, M9, M10, M11, M12, M13, M14⟩ := h
    unfold kRm
    rw [cc 33 (by decide), cc 10 (by decide), cc 6 (by decide), rr 66 (by decide), rr 58 (by decide), rr 67 (by decide), rr 69 (by decide), rr 71 (by decide), rr 70 (by decide)]
    refine ⟨M1, M2, M3, M4, M5, ?_, ?_, ?_, ?_, ?_, ?_, ?_, M13, M14⟩
    · rw [kmu_j (by decide)]; exact M6
    · rw [kmu_j (by decide)]; exact M7
    · rw [kmu_j (by decide)]; exact M8
    · rw [kmu_j (by decide)]; exact M9
    · by_cases e : m' = m
      · rw [e, kmu_eq, kmu_eq]
      · rw [kmu_i e, kmu_j e]; exact M10
    · rw [kmu_j (by decide)]; exact M11
    · rw [kmu_j (by decide)]; exact M12
  · rw [rr 70 (by decide)] at b'
    obtain ⟨P1, P2, P3, P4, P5⟩ := F.2.2.2.2.2.1 m' p a b a' b'
    unfold kRp
    rw [cc 20 (by decide), cc 21 (by decide), cc 22 (by decide), cc 23 (by decide), cc 24 (by decide), rr 72 (by decide), rr 73 (by decide), rr 74 (by decide), rr 71 (by decide), rr 75 (by decide), rr 78 (by decide), khu_c (R := X) (kmu_f (by decide)) (rr 78 (by decide)) (rr 80 (by decide)) (rr 81 (by decide))]
    by_cases e : m' = m
    · rw [e, kmu_eq]
      rw [e] at P4 P5
      exact ⟨by rw [← e]; exact P1, by rw [← e]; exact P2, by rw [← e]; exact P3, fun z => absurd z hx, fun _ => P5 (fun z => by omega)⟩
    · rw [kmu_j e]
      exact ⟨P1, P2, P3, P4, P5⟩
  · rw [cc 28 (by decide), rr 55 (by decide)]
    exact (F.2.2.2.2.2.2.2 g' a b).1
theorem kU1.cc {X' : ka_M} (h : kU1 X) (h26 : X' 9 0 26 = X 9 0 26) (h15 : X' 9 0 15 = X 9 0 15) (h78 : X' 78 = X 78) (h80 : X' 80 = X 80) : kU1 X' := by
  unfold kU1
  rw [h26, h15, h78, h80]
  exact h
theorem kU1_154 (hU : kU1 X) {m p : Int} : kU1 (f154 X m p) := by
  unfold f154
  dsimp only
  refine kU1_lgs _ (hU.cc ?_ ?_ ?_ ?_)
  · rw [kmu_f (by decide), kmu_f (by decide)]
  · rw [kmu_f (by decide), kmu_f (by decide)]
  · rw [kmu_ff (by decide), kmu_ff (by decide)]
  · rw [kmu_ff (by decide), kmu_ff (by decide)]
theorem c73_l (hA : kJ A V) (v : kLV V) {m : Int} (hd : 6 ≤ d) :
    ∀ (n : Nat) (p : Int) (C X : ka_M), kRW V X → kRF V C X → kU1 X → 1 ≤ m → m ≤ X 9 0 15 → X 68 0 m = 2 → 0 ≤ p → p + n = X 70 0 m → (∀ g, 0 ≤ g → g < 20 → X 55 0 g ≤ 990000 + 9 * p) → kND (kfd (fun p R => f154 R m p) n p X) →
    (∀ C', kFl C C' → kRF V C' (f153 (kfd (fun p R => f154 R m p) n p X)) → Q (.inl none) (kHp J A V C' R, c, l)) →
    ka_W (kp E) (d, (73, 7, [some (.ref (A 2 0)), some (.ref (A 4 m)), some (iv p)], []), (kHp J A V C R, c, l)) Q
  | n, p, C, X, rw, F, hU, m0, m1, hs, p0, hp, hb, nd, H => by
    have B15 := rw.i15
    have B70 := rw.a70 (j := m) (by omega) (by omega)
    have F' := F
    obtain ⟨F1, F2, F3, F4, F5, F6, F7, F8⟩ := F'
    obtain ⟨M1, M2, M3, ⟨r1, r2, r3, r4⟩, M5, M6, M7, M8, M9, M10, M11, M12, M13, M14⟩ := F5 m m0 m1
    cases n with
    | zero =>
      have z := c77 (E := E) (d := d - 1) (c := c) (l := l) (J := J) (R := R) (Q := kret E d 73 34 [some (.ref (A 2 0)), some (.ref (A 4 m)), some (iv p)] [] Q) hA v rw F nd (by omega) (fun C' h1 h2 => by
        have := H C' h1 h2
        simp (disch := first | assumption | (unfold kR; decide) | exact klc_R | (unfold kR; omega) | omega | (unfold kL; omega) | exact kcat_null | exact kcat_ref _ | exact kcat_iv _) only [r73_34, true_and, and_true, kk1_i, kk1_r, kk1_n, kk1_0, kcat_iv, kcat_ref, kcat_null, kisR_ref, kisR_null, ksz_nil, ksz_iv, ksz_ref, ksz_null, ksz_lv, kfit_int, kfit_long, kfit_obj, kfit_objN, kfit_arr, kfit_arrN, knarI, knarZ0, knarZ1, kret_v, kret_n, kret_x, Nat.reduceAdd, Nat.reduceLeDiff, reduceCtorEq, Int.reduceLE, Int.reduceLT, Int.reduceEq, ite_true, ite_false, true_or, or_true, false_implies, true_implies, not_true_eq_false, not_false_eq_true, and_self, eq_self, klc_lt, klc_ge, klc_le, klc_gt, klc_eq, kmu_eq, kmu_f, kmu_i, kmu_j]
        exact this)
      simp (disch := first | assumption | (unfold kR; decide) | exact klc_R | (unfold kR; omega) | omega | (unfold kL; omega) | exact kcat_null | exact kcat_ref _ | exact kcat_iv _) only [r73_7, r73_8, r73_9, r73_12, r73_15, r73_30, r73_31, ho_4_4 hA, hg_4_4 hA, ho_6_5 hA, hg_6_5 hA, ht_2 hA v.l2, true_and, and_true, kk1_i, kk1_r, kk1_n, kk1_0, kcat_iv, kcat_ref, kcat_null, kisR_ref, kisR_null, ksz_nil, ksz_iv, ksz_ref, ksz_null, ksz_lv, kfit_int, kfit_long, kfit_obj, kfit_objN, kfit_arr, kfit_arrN, knarI, knarZ0, knarZ1, kret_v, kret_n, kret_x, Nat.reduceAdd, Nat.reduceLeDiff, reduceCtorEq, Int.reduceLE, Int.reduceLT, Int.reduceEq, ite_true, ite_false, true_or, or_true, false_implies, true_implies, not_true_eq_false, not_false_eq_true, and_self, eq_self, klc_lt, klc_ge, klc_le, klc_gt, klc_eq, kmu_eq, kmu_f, kmu_i, kmu_j, M13, show X 70 0 m ≤ p by omega, Nat.zero_le, show 1 ≤ d by omega]
      exact z
    | succ n =>
      have B72 := rw.a72 (j := 5 * m + p) (by omega) (by omega)
      have bg := hb (X 72 0 (5 * m + p)) (by omega) (by omega)
      have j := j154 (E := E) (d := d) (c := c) (l := l) (Q := Q) (J := J) (C := C) hA v rw (m := m) (p := p) m0 (by omega) p0 (by omega) (by omega)
      have t := j.2.1
      rw [r73_7]
      simp (disch := first | assumption | (unfold kR; decide) | exact klc_R | (unfold kR; omega) | omega | (unfold kL; omega) | exact kcat_null | exact kcat_ref _ | exact kcat_iv _) only [r73_8, r73_9, r73_12, r73_15, r73_18, r73_19, r73_20, r73_21, ho_4_4 hA, hg_4_4 hA, ho_6_5 hA, hg_6_5 hA, ht_2 hA v.l2, true_and, and_true, kk1_i, kk1_r, kk1_n, kk1_0, kcat_iv, kcat_ref, kcat_null, kisR_ref, kisR_null, ksz_nil, ksz_iv, ksz_ref, ksz_null, ksz_lv, kfit_int, kfit_long, kfit_obj, kfit_objN, kfit_arr, kfit_arrN, knarI, knarZ0, knarZ1, kret_v, kret_n, kret_x, Nat.reduceAdd, Nat.reduceLeDiff, reduceCtorEq, Int.reduceLE, Int.reduceLT, Int.reduceEq, ite_true, ite_false, true_or, or_true, false_implies, true_implies, not_true_eq_false, not_false_eq_true, and_self, eq_self, klc_lt, klc_ge, klc_le, klc_gt, klc_eq, kmu_eq, kmu_f, kmu_i, kmu_j, M13, show ¬ X 70 0 m ≤ p by omega, Nat.zero_le, show 1 ≤ d by omega]
      refine c75 hA v rw hU F (by omega) m0 m1 p0 (by omega) (by omega) (by omega) (fun C' h1 h2 => ?_)
      have ih := c73_l hA v hd n (p + 1) C' (f154 X m p) j.1 h2 (kU1_154 hU) m0 (by rw [t 9 (by decide) (by decide) (by decide) (by decide) (by decide)]; exact m1) (by rw [t 68 (by decide) (by decide) (by decide) (by decide) (by decide)]; exact hs) (by omega) (by rw [t 70 (by decide) (by decide) (by decide) (by decide) (by decide)]; omega) (fun g g0 g1 => by have := f154_55 rw (m := m) (p := p) m0 (by omega) p0 (by omega) g; have := hb g g0 g1; omega) nd (fun C'' h3 h4 => H C'' (h1.trans h3) h4)
      simp (disch := first | assumption | (unfold kR; decide) | exact klc_R | (unfold kR; omega) | omega | (unfold kL; omega) | exact kcat_null | exact kcat_ref _ | exact kcat_iv _) only [r73_24, r73_27, true_and, and_true, kk1_i, kk1_r, kk1_n, kk1_0, kcat_iv, kcat_ref, kcat_null, kisR_ref, kisR_null, ksz_nil, ksz_iv, ksz_ref, ksz_null, ksz_lv, kfit_int, kfit_long, kfit_obj, kfit_objN, kfit_arr, kfit_arrN, knarI, knarZ0, knarZ1, kret_v, kret_n, kret_x, Nat.reduceAdd, Nat.reduceLeDiff, reduceCtorEq, Int.reduceLE, Int.reduceLT, Int.reduceEq, ite_true, ite_false, true_or, or_true, false_implies, true_implies, not_true_eq_false, not_false_eq_true, and_self, eq_self, klc_lt, klc_ge, klc_le, klc_gt, klc_eq, kmu_eq, kmu_f, kmu_i, kmu_j]
      exact ih
/-- giveUp -/
theorem c73 (hA : kJ A V) (v : kLV V) (rw : kRW V X) (hU : kU1 X) (F : kRF V C X) {m : Int} (hd : 6 ≤ d) (m0 : 1 ≤ m) (m1 : m ≤ X 9 0 15) (hs : X 68 0 m = 0) (hb : ∀ g, 0 ≤ g → g < 20 → X 55 0 g ≤ 990000) (nd : kND (f164b X m))
    (H : ∀ C', kFl (kmu C 4 m 7 2) C' → kRF V C' (f164 X m) → Q (.inl none) (kHp J A V C' R, c, l)) :
    ka_W (kp E) (d, (73, 0, [some (.ref (A 2 0)), some (.ref (A 4 m)), none], []), (kHp J A V C R, c, l)) Q := by
  have B15 := rw.i15
  have B70 := rw.a70 (j := m) (by omega) (by omega)
  have M1 := (F.2.2.2.2.1 m m0 m1).1
  have F1 := kRF_68 F m0 hs (x := 2) (by decide)
  have r1 : kRW V (kmu X 68 0 m 2) := rw.pa68 (by omega) (by omega)
  have x70 : kmu X 68 0 m 2 70 = X 70 := kmu_ff (by decide)
  have z := c73_l (E := E) (d := d) (c := c) (l := l) (Q := Q) (J := J) (R := R) hA v (m := m) hd (X 70 0 m).toNat 0 (kmu C 4 m 7 2) (kmu X 68 0 m 2) r1 F1 (hU.cc (kmu_f (by decide)) (kmu_f (by decide)) (kmu_ff (by decide)) (kmu_ff (by decide))) m0 (by rw [kmu_f (by decide)]; exact m1) kmu_eq (by omega) (by rw [x70]; omega) (fun g g0 g1 => by rw [kmu_f (by decide)]; have := hb g g0 g1; omega) nd (fun C' h1 h2 => H C' h1 h2)
  simp (disch := first | assumption | (unfold kR; decide) | exact klc_R | (unfold kR; omega) | omega | (unfold kL; omega) | exact kcat_null | exact kcat_ref _ | exact kcat_iv _) only [r73_0, r73_1, r73_2, r73_5, r73_6, ho_4_7 hA, hp_4_7 hA, true_and, and_true, kk1_i, kk1_r, kk1_n, kk1_0, kcat_iv, kcat_ref, kcat_null, kisR_ref, kisR_null, ksz_nil, ksz_iv, ksz_ref, ksz_null, ksz_lv, kfit_int, kfit_long, kfit_obj, kfit_objN, kfit_arr, kfit_arrN, knarI, knarZ0, knarZ1, kret_v, kret_n, kret_x, Nat.reduceAdd, Nat.reduceLeDiff, reduceCtorEq, Int.reduceLE, Int.reduceLT, Int.reduceEq, ite_true, ite_false, true_or, or_true, false_implies, true_implies, not_true_eq_false, not_false_eq_true, and_self, eq_self, klc_lt, klc_ge, klc_le, klc_gt, klc_eq, kmu_eq, kmu_f, kmu_i, kmu_j]
  exact z
/-- what stands instead is taken, on both sides -/
theorem kRF_sub (rw : kRW V X) (F : kRF V C X) {m p : Int} (m0 : 1 ≤ m) (m1 : m ≤ X 9 0 15) (p0 : 0 ≤ p) (p1 : p < X 70 0 m) : kRF V (kmu (kmu C 20 (100 + m) p (C 22 (100 + m) p)) 22 (100 + m) p (-1)) (kmu (kmu X 72 0 (5 * m + p) (X 74 0 (5 * m + p))) 74 0 (5 * m + p) (-1)) := by
  have B15 := rw.i15
  have B70 := rw.a70 (j := m) (by omega) (by omega)
  have cc : ∀ f, f ≠ 20 → f ≠ 22 → (kmu (kmu C 20 (100 + m) p (C 22 (100 + m) p)) 22 (100 + m) p (-1)) f = C f := fun f h h' => (kmu_ff h').trans (kmu_ff h)
  have rr : ∀ f, f ≠ 72 → f ≠ 74 → (kmu (kmu X 72 0 (5 * m + p) (X 74 0 (5 * m + p))) 74 0 (5 * m + p) (-1)) f = X f := fun f h h' => (kmu_ff h').trans (kmu_ff h)
  have P := F.2.2.2.2.2.1
  refine kRF_f F (cc 8 (by decide) (by decide)) (cc 10 (by decide) (by decide)) (cc 33 (by decide) (by decide)) (fun j _ => by rw [rr 9 (by decide) (by decide)]) (rr 77 (by decide) (by decide)) (rr 78 (by decide) (by decide)) (rr 79 (by decide) (by decide)) (rr 80 (by decide) (by decide)) (rr 81 (by decide) (by decide)) (fun m a b h => h.c (cc 4 (by decide) (by decide)) (cc 6 (by decide) (by decide)) (cc 10 (by decide) (by decide)) (cc 33 (by decide) (by decide)) (rr 58 (by decide) (by decide)) (rr 66 (by decide) (by decide)) (rr 67 (by decide) (by decide)) (rr 68 (by decide) (by decide)) (rr 69 (by decide) (by decide)) (rr 70 (by decide) (by decide)) (rr 71 (by decide) (by decide))) (fun m' p' a b a' b' => ?_) (fun g' a b => ?_) (cc 29 (by decide) (by decide))
  · rw [rr 70 (by decide) (by decide)] at b'
    have B70' := rw.a70 (j := m') (by omega) (by omega)
    obtain ⟨P1, P2, P3, P4, P5⟩ := P m' p' a b a' b'
    unfold kRp
    rw [cc 21 (by decide) (by decide), cc 23 (by decide) (by decide), cc 24 (by decide) (by decide), rr 73 (by decide) (by decide), rr 68 (by decide) (by decide), rr 71 (by decide) (by decide), rr 75 (by decide) (by decide), rr 78 (by decide) (by decide), khu_c (R := X) (by rw [rr 9 (by decide) (by decide)]) (rr 78 (by decide) (by decide)) (rr 80 (by decide) (by decide)) (rr 81 (by decide) (by decide))]
    refine ⟨?_, P2, ?_, P4, P5⟩
    · rw [kmu_f (show (20:Nat) ≠ 22 by decide), kmu_f (show (72:Nat) ≠ 74 by decide)]
      by_cases e : m' = m ∧ p' = p
      · rw [e.1, e.2, kmu_eq, kmu_eq]
        rw [e.1, e.2] at P3
        exact P3
      · rw [kmu_j (show 5 * m' + p' ≠ 5 * m + p by omega)]
        by_cases e2 : m' = m
        · rw [kmu_j (show p' ≠ p from fun z => e ⟨e2, z⟩)]; exact P1
        · rw [kmu_i (by omega)]; exact P1
    · by_cases e : m' = m ∧ p' = p
      · rw [e.1, e.2, kmu_eq, kmu_eq]
      · rw [kmu_j (show 5 * m' + p' ≠ 5 * m + p by omega), kmu_f (show (74:Nat) ≠ 72 by decide)]
        by_cases e2 : m' = m
        · rw [kmu_j (show p' ≠ p from fun z => e ⟨e2, z⟩), kmu_f (by decide)]; exact P3
        · rw [kmu_i (by omega), kmu_f (by decide)]; exact P3
  · rw [cc 28 (by decide) (by decide), rr 55 (by decide) (by decide)]
    exact (F.2.2.2.2.2.2.2 g' a b).1
/-- useInstead -/
theorem c70 (hA : kJ A V) (v : kLV V) (rw : kRW V X) (hU : kU1 X) (F : kRF V C X) {m p : Int} (hd : 6 ≤ d) (m0 : 1 ≤ m) (m1 : m ≤ X 9 0 15) (hs : X 68 0 m = 0) (p0 : 0 ≤ p) (p1 : p < X 70 0 m) (h5 : ¬ X 74 0 (5 * m + p) = -1) (hb : ∀ g, 0 ≤ g → g < 20 → X 55 0 g ≤ 990000) (nd : kND (f158b X m (p + 1)))
    (H : ∀ C', (∀ f, f ≠ 8 → f ≠ 20 → f ≠ 22 → f ≠ 23 → f ≠ 24 → f ≠ 28 → f ≠ 29 → C' f = C f) → (∀ f i, f = 20 ∨ f = 22 → i ≠ 100 + m → C' f i = C f i) → kRF V C' (f158 X m (p + 1)) → Q (.inl none) (kHp J A V C' R, c, l)) :
    ka_W (kp E) (d, (70, 0, [some (.ref (A 2 0)), some (.ref (A 4 m)), some (iv p)], []), (kHp J A V C R, c, l)) Q := by
  have B15 := rw.i15
  have B70 := rw.a70 (j := m) (by omega) (by omega)
  have B72 := rw.a72 (j := 5 * m + p) (by omega) (by omega)
  have B74 := rw.a74 (j := 5 * m + p) (by omega) (by omega)
  have bg := hb (X 72 0 (5 * m + p)) (by omega) (by omega)
  have j := j154 (E := E) (d := d) (c := c) (l := l) (Q := Q) (J := J) (C := C) hA v rw (m := m) (p := p) m0 (by omega) p0 (by omega) (by omega)
  have t := j.2.1
  have M1 := (F.2.2.2.2.1 m m0 m1).1
  have x74 : f154 X m p 74 = X 74 := t 74 (by decide) (by decide) (by decide) (by decide) (by decide)
  simp (disch := first | assumption | (unfold kR; decide) | exact klc_R | (unfold kR; omega) | omega | (unfold kL; omega) | exact kcat_null | exact kcat_ref _ | exact kcat_iv _) only [r70_0, r70_1, r70_2, r70_3, ht_2 hA v.l2, true_and, and_true, kk1_i, kk1_r, kk1_n, kk1_0, kcat_iv, kcat_ref, kcat_null, kisR_ref, kisR_null, ksz_nil, ksz_iv, ksz_ref, ksz_null, ksz_lv, kfit_int, kfit_long, kfit_obj, kfit_objN, kfit_arr, kfit_arrN, knarI, knarZ0, knarZ1, kret_v, kret_n, kret_x, Nat.reduceAdd, Nat.reduceLeDiff, reduceCtorEq, Int.reduceLE, Int.reduceLT, Int.reduceEq, ite_true, ite_false, true_or, or_true, false_implies, true_implies, not_true_eq_false, not_false_eq_true, and_self, eq_self, klc_lt, klc_ge, klc_le, klc_gt, klc_eq, kmu_eq, kmu_f, kmu_i, kmu_j, Nat.zero_le, show 1 ≤ d by omega]
  refine c75 hA v rw hU F (by omega) m0 m1 p0 p1 (by omega) (by omega) (fun C' h1 h2 => ?_)
  obtain ⟨N1, N2, N3, ⟨r1, r2, r3, r4⟩, -⟩ := h2.2.2.2.2.1 m m0 (by rw [t 9 (by decide) (by decide) (by decide) (by decide) (by decide)]; exact m1)
  have S := kRF_sub j.1 h2 (m := m) (p := p) m0 (by rw [t 9 (by decide) (by decide) (by decide) (by decide) (by decide)]; exact m1) p0 (by rw [t 70 (by decide) (by decide) (by decide) (by decide) (by decide)]; exact p1)
  have e1 : p + 1 - 1 = p := by omega
  have e2 : 5 * m + (p + 1) - 1 = 5 * m + p := by omega
  have eb : f158b X m (p + 1) = kmu (kmu (f154 X m p) 72 0 (5 * m + p) (f154 X m p 74 0 (5 * m + p))) 74 0 (5 * m + p) (-1) := by
    unfold f158b
    rw [e1, e2]
  have r5 : kRW V (kmu (kmu (f154 X m p) 72 0 (5 * m + p) (f154 X m p 74 0 (5 * m + p))) 74 0 (5 * m + p) (-1)) := by
    rw [x74]
    exact (j.1.pa72 (by omega) (by omega)).pa74 (by omega) (by omega)
  have q103 := fun {Q} => c103 (E := E) (d := d - 1) (c := c) (l := l) (Q := Q) (J := J) (C := C') (R := R) hA (i := 100 + m) (p := p) r1 r2 r4 p0 (by omega)
  have z := c77 (E := E) (d := d - 1) (c := c) (l := l) (J := J) (R := R) (Q := kret E d 70 18 [some (.ref (A 2 0)), some (.ref (A 4 m)), some (iv p)] [] Q) hA v r5 S (by rw [← eb]; exact nd) (by omega) (fun C'' h3 h4 => by
    have := H C'' (fun f a1 a2 a3 a4 a5 a6 a7 => by rw [h3 f a1 a4 a5 a6 a7, kmu_ff a3, kmu_ff a2, h1 f a1 a4 a5 a6 a7]) (fun f i a b => by
      rw [h3 f (by omega) (by omega) (by omega) (by omega) (by omega), kmu_ii b, kmu_ii b, h1 f (by omega) (by omega) (by omega) (by omega) (by omega)]) (by unfold f158; rw [eb]; exact h4)
    simp (disch := first | assumption | (unfold kR; decide) | exact klc_R | (unfold kR; omega) | omega | (unfold kL; omega) | exact kcat_null | exact kcat_ref _ | exact kcat_iv _) only [r70_18, true_and, and_true, kk1_i, kk1_r, kk1_n, kk1_0, kcat_iv, kcat_ref, kcat_null, kisR_ref, kisR_null, ksz_nil, ksz_iv, ksz_ref, ksz_null, ksz_lv, kfit_int, kfit_long, kfit_obj, kfit_objN, kfit_arr, kfit_arrN, knarI, knarZ0, knarZ1, kret_v, kret_n, kret_x, Nat.reduceAdd, Nat.reduceLeDiff, reduceCtorEq, Int.reduceLE, Int.reduceLT, Int.reduceEq, ite_true, ite_false, true_or, or_true, false_implies, true_implies, not_true_eq_false, not_false_eq_true, and_self, eq_self, klc_lt, klc_ge, klc_le, klc_gt, klc_eq, kmu_eq, kmu_f, kmu_i, kmu_j]
    exact this)
  simp (disch := first | assumption | (unfold kR; decide) | exact klc_R | (unfold kR; omega) | omega | (unfold kL; omega) | exact kcat_null | exact kcat_ref _ | exact kcat_iv _) only [r70_6, r70_7, r70_10, r70_11, r70_14, r70_15, ho_4_4 hA, hg_4_4 hA, ht_6 hA, ht_2 hA v.l2, true_and, and_true, kk1_i, kk1_r, kk1_n, kk1_0, kcat_iv, kcat_ref, kcat_null, kisR_ref, kisR_null, ksz_nil, ksz_iv, ksz_ref, ksz_null, ksz_lv, kfit_int, kfit_long, kfit_obj, kfit_objN, kfit_arr, kfit_arrN, knarI, knarZ0, knarZ1, kret_v, kret_n, kret_x, Nat.reduceAdd, Nat.reduceLeDiff, reduceCtorEq, Int.reduceLE, Int.reduceLT, Int.reduceEq, ite_true, ite_false, true_or, or_true, false_implies, true_implies, not_true_eq_false, not_false_eq_true, and_self, eq_self, klc_lt, klc_ge, klc_le, klc_gt, klc_eq, kmu_eq, kmu_f, kmu_i, kmu_j, q103, Nat.zero_le, show 1 ≤ d by omega]
  exact z
end
