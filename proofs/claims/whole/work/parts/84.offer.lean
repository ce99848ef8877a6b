/-! The floor: all that is loose is offered. -/
section
variable {E : Nat × Nat} {d c l : Nat} {s : ka_S} {h : ka_H} {Q : ka_Q} {J : ka_H} {A : ka_A} {V : ka_V} {C R X : ka_M}
theorem khu_c {R' : ka_M} (h1 : R' 9 0 26 = R 9 0 26) (h3 : R' 78 = R 78) (h4 : R' 80 = R 80) (h5 : R' 81 = R 81) (m p : Int) : khu R' m p = khu R m p := by
  unfold khu
  rw [h1, h3, h4, h5]
theorem f149_c {R' : ka_M} (h1 : R' 9 0 26 = R 9 0 26) (h3 : R' 77 = R 77) (h4 : R' 78 = R 78) (g : Int) : f149 R' g = f149 R g := by
  unfold f149
  rw [h1, h3, h4]
/-- plain pieces change hands on both sides -/
theorem kRF_pl (F : kRF V C X) {m p g a b : Int} (p0 : 0 ≤ p) (p5 : p < 5) (rw : kRW V X) : kRF V (kmu (kmu C 28 0 g a) 23 m p b) (kmu (kmu X 55 0 g a) 75 0 (5 * m + p) b) := by
  have B15 := rw.i15
  obtain ⟨F1, F2, F3, F4, F5, F6, F7, F8⟩ := F
  have cc : ∀ f, f ≠ 28 → f ≠ 23 → (kmu (kmu C 28 0 g a) 23 m p b) f = C f := fun f h1 h2 => by rw [kmu_ff h2, kmu_ff h1]
  have rr : ∀ f, f ≠ 55 → f ≠ 75 → (kmu (kmu X 55 0 g a) 75 0 (5 * m + p) b) f = X f := fun f h1 h2 => by rw [kmu_ff h2, kmu_ff h1]
  have c10 := cc 10 (by decide) (by decide)
  have c33 := cc 33 (by decide) (by decide)
  have r9 := rr 9 (by decide) (by decide)
  refine ⟨F1.c c10 c33, F2.c c10 c33, by rw [c10, r9]; exact F3, by rw [c10, r9]; exact F4, fun m' x y => ?_, fun m' p' x y x' y' => ?_, fun u x y => ?_, fun g' x y => ?_⟩
  · rw [r9] at y
    exact (F5 m' x y).c (cc 4 (by decide) (by decide)) (cc 6 (by decide) (by decide)) c10 c33 (rr 58 (by decide) (by decide)) (rr 66 (by decide) (by decide)) (rr 67 (by decide) (by decide)) (rr 68 (by decide) (by decide)) (rr 69 (by decide) (by decide)) (rr 70 (by decide) (by decide)) (rr 71 (by decide) (by decide))
  · rw [r9] at y
    rw [rr 70 (by decide) (by decide)] at y'
    have B70 := rw.a70 (j := m') (by omega) (by omega)
    obtain ⟨x1, x2, x3, x4, x5⟩ := F6 m' p' x y x' y'
    unfold kRp
    rw [cc 20 (by decide) (by decide), cc 21 (by decide) (by decide), cc 22 (by decide) (by decide), cc 24 (by decide) (by decide), rr 72 (by decide) (by decide), rr 73 (by decide) (by decide), rr 74 (by decide) (by decide), rr 68 (by decide) (by decide), rr 71 (by decide) (by decide), rr 78 (by decide) (by decide), khu_c (R := X) (by rw [r9]) (rr 78 (by decide) (by decide)) (rr 80 (by decide) (by decide)) (rr 81 (by decide) (by decide))]
    refine ⟨x1, x2, x3, x4, fun z => ?_⟩
    by_cases e : m' = m ∧ p' = p
    · rw [e.1, e.2, kmu_eq, kmu_eq]
    · have e2 : kmu (kmu C 28 0 g a) 23 m p b 23 m' p' = C 23 m' p' := by
        unfold kmu
        rw [if_neg (fun y => e ⟨y.2.1, y.2.2⟩)]
        rfl
      rw [e2, kmu_j (by omega), kmu_f (by decide)]
      exact x5 z
  · rw [r9] at y
    exact (F7 u x y).c (by rw [cc 8 (by decide) (by decide)]) c10 c33 (rr 77 (by decide) (by decide)) (rr 79 (by decide) (by decide)) (by rw [rr 78 (by decide) (by decide)]) (by rw [rr 80 (by decide) (by decide)]) (by rw [rr 81 (by decide) (by decide)])
  · obtain ⟨x1, x2⟩ := F8 g' x y
    rw [cc 29 (by decide) (by decide), f149_c (R := X) (by rw [r9]) (rr 77 (by decide) (by decide)) (rr 78 (by decide) (by decide))]
    refine ⟨?_, x2⟩
    rw [kmu_f (show (28:Nat) ≠ 23 by decide), kmu_f (show (55:Nat) ≠ 75 by decide)]
    by_cases e : g' = g
    · rw [e, kmu_eq, kmu_eq]
    · rw [kmu_j e, kmu_j e]; exact x1
/-- the program behind takePlain -/
noncomputable def g78 (C X : ka_M) (m p : Int) : ka_M := kmu (kmu C 28 0 (X 72 0 (5 * m + p)) (X 55 0 (X 72 0 (5 * m + p)) - ktn X m p)) 23 m p (X 75 0 (5 * m + p) + ktn X m p)
theorem c78e (hA : kJ A V) (v : kLV V) (rw : kRW V X) (F : kRF V C X) {m p : Int} (hd : 2 ≤ d) (m0 : 1 ≤ m) (m1 : m ≤ X 9 0 15) (hs : X 68 0 m = 0) (p0 : 0 ≤ p) (p1 : p < X 70 0 m) (hn : f151 X m p ≤ X 73 0 (5 * m + p)) :
    ka_W (kp E) (d, (78, 0, [some (.ref (A 2 0)), some (.ref (A 4 m)), some (iv p), none, none], []), (kHp J A V C R, c, l)) Q ↔ Q (.inl none) (kHp J A V (g78 C X m p) R, c, l) := by
  have B15 := rw.i15
  have B70 := rw.a70 (j := m) (by omega) (by omega)
  have B72 := rw.a72 (j := 5 * m + p) (by omega) (by omega)
  have B73 := rw.a73 (j := 5 * m + p) (by omega) (by omega)
  have B75 := rw.a75 (j := 5 * m + p) (by omega) (by omega)
  have B55 := rw.a55 (j := X 72 0 (5 * m + p)) (by omega) (by omega)
  have Hu := khu_b rw m p
  obtain ⟨F1, F2, F3, F4, F5, F6, F7, F8⟩ := F
  obtain ⟨M1, M2, M3, M4, -⟩ := F5 m m0 m1
  obtain ⟨P1, P2, P3, P4, P5⟩ := F6 m p m0 m1 p0 p1
  have P4' := P4 hs
  have P5' := P5 (fun z => by omega)
  have f1 : f151 X m p = X 75 0 (5 * m + p) + khu X m p := rfl
  have hk : ktn X m p = if X 73 0 (5 * m + p) - f151 X m p < X 55 0 (X 72 0 (5 * m + p)) then X 73 0 (5 * m + p) - f151 X m p else X 55 0 (X 72 0 (5 * m + p)) := rfl
  obtain ⟨G1, G2⟩ := F8 (X 72 0 (5 * m + p)) (by omega) (by omega)
  rw [c78 hA v (by omega) M1 M2 M3 M4 p0 (by omega) (by rw [P1]; omega) (by rw [P1]; omega) (by rw [P2, P4', P5']; unfold kR; omega) (by rw [P1, G1]; unfold kR; omega)]
  have ek : (if C 28 0 (C 20 (100 + m) p) < C 21 (100 + m) p - (C 23 m p + C 24 m p) then C 28 0 (C 20 (100 + m) p) else C 21 (100 + m) p - (C 23 m p + C 24 m p)) = ktn X m p := by
    rw [hk, P1, P2, P4', P5', G1, f1]
    split <;> split <;> omega
  rw [ek, P1, P5', G1]
  rfl
theorem c79e (hA : kJ A V) (v : kLV V) (rw : kRW V X) (F : kRF V C X) {m p : Int} (hd : 3 ≤ d) (m0 : 1 ≤ m) (m1 : m ≤ X 9 0 15) (hs : X 68 0 m = 0) (p0 : 0 ≤ p) (p1 : p < X 70 0 m) (hn : f151 X m p ≤ X 73 0 (5 * m + p))
    (H : ∀ C', kFl C C' → kRF V C' (f152 X m p) → Q (.inl none) (kHp J A V C' R, c, l)) :
    ka_W (kp E) (d, (79, 0, [some (.ref (A 2 0)), some (.ref (A 4 m)), some (iv p), none, none, none], []), (kHp J A V (g78 C X m p) R, c, l)) Q := by
  have B26 := rw.i26
  have B15 := rw.i15
  have B70 := rw.a70 (j := m) (by omega) (by omega)
  have B72 := rw.a72 (j := 5 * m + p) (by omega) (by omega)
  have B73 := rw.a73 (j := 5 * m + p) (by omega) (by omega)
  have B75 := rw.a75 (j := 5 * m + p) (by omega) (by omega)
  have B55 := rw.a55 (j := X 72 0 (5 * m + p)) (by omega) (by omega)
  have Hu := khu_b rw m p
  have F' := F
  obtain ⟨F1, F2, F3, F4, F5, F6, F7, F8⟩ := F'
  obtain ⟨M1, M2, M3, M4, M5, M6, M7, M8, M9, M10, M11, M12, M13, M14⟩ := F5 m m0 m1
  obtain ⟨P1, P2, P3, P4, P5⟩ := F6 m p m0 m1 p0 p1
  have P4' := P4 hs
  have f1 : f151 X m p = X 75 0 (5 * m + p) + khu X m p := rfl
  have hk : ktn X m p = if X 73 0 (5 * m + p) - f151 X m p < X 55 0 (X 72 0 (5 * m + p)) then X 73 0 (5 * m + p) - f151 X m p else X 55 0 (X 72 0 (5 * m + p)) := rfl
  have hk0 : 0 ≤ ktn X m p ∧ ktn X m p ≤ X 73 0 (5 * m + p) - f151 X m p ∧ ktn X m p ≤ X 55 0 (X 72 0 (5 * m + p)) := by
    rw [hk]
    split <;> omega
  have L := kRF_pl F (m := m) (p := p) (g := X 72 0 (5 * m + p)) (a := X 55 0 (X 72 0 (5 * m + p)) - ktn X m p) (b := X 75 0 (5 * m + p) + ktn X m p) p0 (by omega) rw
  have r1 : kRW V (kmu (kmu X 55 0 (X 72 0 (5 * m + p)) (X 55 0 (X 72 0 (5 * m + p)) - ktn X m p)) 75 0 (5 * m + p) (X 75 0 (5 * m + p) + ktn X m p)) := (rw.pa55 (by omega) (by omega)).pa75 (by omega) (by omega)
  unfold f152 at H
  unfold g78
  dsimp only at H
  generalize hg : X 72 0 (5 * m + p) = g at *
  generalize ktn X m p = n at *
  have z := c79_l (E := E) (d := d) (c := c) (l := l) (Q := Q) (J := J) (R := R) hA v (m := m) (p := p) (g := g) (by omega) p0 (by omega) (by omega) (X 9 0 26).toNat 0 (kmu (kmu C 28 0 g (X 55 0 g - n)) 23 m p (X 75 0 (5 * m + p) + n)) (kmu (kmu X 55 0 g (X 55 0 g - n)) 75 0 (5 * m + p) (X 75 0 (5 * m + p) + n), X 73 0 (5 * m + p) - f151 X m p - n) none r1 L m0 (by dsimp only; rw [kmu_f (by decide), kmu_f (by decide)]; exact m1) (by dsimp only; rw [kmu_f (by decide), kmu_f (by decide)]; exact hs) (by dsimp only; rw [kmu_f (by decide), kmu_f (by decide)]; exact p1) (by dsimp only; rw [kmu_f (by decide), kmu_f (by decide)]; exact hg) (by omega) (by dsimp only; rw [kmu_f (by decide), kmu_f (by decide)]; omega) (by
      dsimp only
      rw [kmu_f (show (21:Nat) ≠ 23 by decide), kmu_f (show (21:Nat) ≠ 28 by decide), kmu_eq, kmu_f (show (24:Nat) ≠ 23 by decide), kmu_f (show (24:Nat) ≠ 28 by decide), P2, P4', f1]
      omega) (by dsimp only; omega) (by dsimp only; omega) (fun C' h1 h2 h3 h4 => H C' (kFl.trans ((kFl_rfl.mu (by omega)).mu (by omega)) h1) h4)
  obtain ⟨r1', r2', r3', r4'⟩ := M4
  simp (disch := first | assumption | (unfold kR; decide) | exact klc_R | (unfold kR; omega) | omega | (unfold kL; omega) | exact kcat_null | exact kcat_ref _ | exact kcat_iv _) only [r79_0, r79_1, r79_4, r79_7, r79_8, r79_9, r79_10, r79_11, ho_4_4 hA, hg_4_4 hA, ho_6_2 hA, hg_6_2 hA, hoa_20 hA, hga_20 hA, true_and, and_true, kk1_i, kk1_r, kk1_n, kk1_0, kcat_iv, kcat_ref, kcat_null, kisR_ref, kisR_null, ksz_nil, ksz_iv, ksz_ref, ksz_null, ksz_lv, kfit_int, kfit_long, kfit_obj, kfit_objN, kfit_arr, kfit_arrN, knarI, knarZ0, knarZ1, kret_v, kret_n, kret_x, Nat.reduceAdd, Nat.reduceLeDiff, reduceCtorEq, Int.reduceLE, Int.reduceLT, Int.reduceEq, ite_true, ite_false, true_or, or_true, false_implies, true_implies, not_true_eq_false, not_false_eq_true, and_self, eq_self, klc_lt, klc_ge, klc_le, klc_gt, klc_eq, kmu_eq, kmu_f, kmu_i, kmu_j, P1]
  exact z
theorem c77_p (hA : kJ A V) (v : kLV V) {m i : Int} (hd : 5 ≤ d) :
    ∀ (n : Nat) (p : Int) (C X : ka_M), kRW V X → kRF V C X → kND X → 1 ≤ m → m ≤ X 9 0 15 → X 68 0 m = 0 → 0 ≤ p → p + n = X 70 0 m →
    (∀ C', kFl C C' → kRF V C' (kfd (fun p R => f152 R m p) n p X) → ka_W (kp E) (d, (77, 63, [some (.ref (A 2 0)), some (iv i), some (.ref (A 4 m)), some (iv (p + n))], []), (kHp J A V C' R, c, l)) Q) →
    ka_W (kp E) (d, (77, 27, [some (.ref (A 2 0)), some (iv i), some (.ref (A 4 m)), some (iv p)], []), (kHp J A V C R, c, l)) Q
  | n, p, C, X, rw, F, nd, m0, m1, hs, p0, hp, H => by
    have B15 := rw.i15
    have B70 := rw.a70 (j := m) (by omega) (by omega)
    have F' := F
    obtain ⟨F1, F2, F3, F4, F5, F6, F7, F8⟩ := F'
    obtain ⟨M1, M2, M3, ⟨r1, r2, r3, r4⟩, M5, M6, M7, M8, M9, M10, M11, M12, M13, M14⟩ := F5 m m0 m1
    cases n with
    | zero =>
      have := H C kFl_rfl F
      have e : p + ((0 : Nat) : Int) = p := by omega
      rw [e] at this
      simp (disch := first | assumption | (unfold kR; decide) | exact klc_R | (unfold kR; omega) | omega | (unfold kL; omega) | exact kcat_null | exact kcat_ref _ | exact kcat_iv _) only [r77_27, r77_28, r77_31, r77_34, r77_35, r77_36, r77_39, r77_42, ho_4_7 hA, hg_4_7 hA, ho_4_4 hA, hg_4_4 hA, ho_6_5 hA, hg_6_5 hA, true_and, and_true, kk1_i, kk1_r, kk1_n, kk1_0, kcat_iv, kcat_ref, kcat_null, kisR_ref, kisR_null, ksz_nil, ksz_iv, ksz_ref, ksz_null, ksz_lv, kfit_int, kfit_long, kfit_obj, kfit_objN, kfit_arr, kfit_arrN, knarI, knarZ0, knarZ1, kret_v, kret_n, kret_x, Nat.reduceAdd, Nat.reduceLeDiff, reduceCtorEq, Int.reduceLE, Int.reduceLT, Int.reduceEq, ite_true, ite_false, true_or, or_true, false_implies, true_implies, not_true_eq_false, not_false_eq_true, and_self, eq_self, klc_lt, klc_ge, klc_le, klc_gt, klc_eq, kmu_eq, kmu_f, kmu_i, kmu_j, M10, hs, M13, show X 70 0 m ≤ p by omega]
      exact this
    | succ n =>
      have hn := nd m p m0 m1 p0 (by omega) hs
      have j := j152 (E := E) (d := d) (c := c) (l := l) (Q := Q) (J := J) (C := C) hA v rw (m := m) (p := p) (by omega) m0 (by omega) p0 (by omega) hn
      have nd' := f152_nd rw nd m0 (by omega) p0 (by omega) hn j.2.1
      have t := j.2.1
      have q78 := fun {Q} => c78e (E := E) (d := d - 1) (c := c) (l := l) (Q := Q) (J := J) (R := R) hA v rw F (m := m) (p := p) (by omega) m0 m1 hs p0 (by omega) hn
      rw [r77_27]
      simp (disch := first | assumption | (unfold kR; decide) | exact klc_R | (unfold kR; omega) | omega | (unfold kL; omega) | exact kcat_null | exact kcat_ref _ | exact kcat_iv _) only [r77_28, r77_31, r77_34, r77_35, r77_36, r77_39, r77_42, r77_45, r77_46, r77_47, r77_48, r77_51, r77_52, r77_53, r77_54, ho_4_7 hA, hg_4_7 hA, ho_4_4 hA, hg_4_4 hA, ho_6_5 hA, hg_6_5 hA, ht_2 hA v.l2, true_and, and_true, kk1_i, kk1_r, kk1_n, kk1_0, kcat_iv, kcat_ref, kcat_null, kisR_ref, kisR_null, ksz_nil, ksz_iv, ksz_ref, ksz_null, ksz_lv, kfit_int, kfit_long, kfit_obj, kfit_objN, kfit_arr, kfit_arrN, knarI, knarZ0, knarZ1, kret_v, kret_n, kret_x, Nat.reduceAdd, Nat.reduceLeDiff, reduceCtorEq, Int.reduceLE, Int.reduceLT, Int.reduceEq, ite_true, ite_false, true_or, or_true, false_implies, true_implies, not_true_eq_false, not_false_eq_true, and_self, eq_self, klc_lt, klc_ge, klc_le, klc_gt, klc_eq, kmu_eq, kmu_f, kmu_i, kmu_j, q78, M10, hs, M13, show ¬ X 70 0 m ≤ p by omega, Nat.zero_le, show 1 ≤ d by omega]
      refine c79e hA v rw F (by omega) m0 m1 hs p0 (by omega) hn (fun C' h1 h2 => ?_)
      have ih := c77_p hA v hd n (p + 1) C' (f152 X m p) j.1 h2 nd' m0 (by rw [t 9 (by decide) (by decide) (by decide) (by decide) (by decide)]; exact m1) (by rw [t 68 (by decide) (by decide) (by decide) (by decide) (by decide)]; exact hs) (by omega) (by rw [t 70 (by decide) (by decide) (by decide) (by decide) (by decide)]; omega) (fun C'' h3 h4 => by
          have := H C'' (h1.trans h3) h4
          have e : p + 1 + (n : Int) = p + ((n + 1 : Nat) : Int) := by omega
          rw [e]
          exact this)
      simp (disch := first | assumption | (unfold kR; decide) | exact klc_R | (unfold kR; omega) | omega | (unfold kL; omega) | exact kcat_null | exact kcat_ref _ | exact kcat_iv _) only [r77_57, r77_60, true_and, and_true, kk1_i, kk1_r, kk1_n, kk1_0, kcat_iv, kcat_ref, kcat_null, kisR_ref, kisR_null, ksz_nil, ksz_iv, ksz_ref, ksz_null, ksz_lv, kfit_int, kfit_long, kfit_obj, kfit_objN, kfit_arr, kfit_arrN, knarI, knarZ0, knarZ1, kret_v, kret_n, kret_x, Nat.reduceAdd, Nat.reduceLeDiff, reduceCtorEq, Int.reduceLE, Int.reduceLT, Int.reduceEq, ite_true, ite_false, true_or, or_true, false_implies, true_implies, not_true_eq_false, not_false_eq_true, and_self, eq_self, klc_lt, klc_ge, klc_le, klc_gt, klc_eq, kmu_eq, kmu_f, kmu_i, kmu_j]
      exact ih
theorem c77_l (hA : kJ A V) (v : kLV V) (hd : 5 ≤ d) :
    ∀ (n : Nat) (i : Int) (C X : ka_M) (l2 l3 : Option Value), kRW V X → kRF V C X → kND X → 0 ≤ i → i + n = X 9 0 15 →
    (∀ C', kFl C C' → kRF V C' (kfd kof n (i + 1) X) → Q (.inl none) (kHp J A V C' R, c, l)) →
    ka_W (kp E) (d, (77, 2, [some (.ref (A 2 0)), some (iv i), l2, l3], []), (kHp J A V C R, c, l)) Q
  | n, i, C, X, l2, l3, rw, F, nd, i0, hi, H => by
    have B15 := rw.i15
    have v101 : V 10 1 := v.2.2.1
    have F' := F
    obtain ⟨F1, F2, F3, F4, F5, F6, F7, F8⟩ := F'
    cases n with
    | zero =>
      have := H C kFl_rfl F
      simp (disch := first | assumption | (unfold kR; decide) | exact klc_R | (unfold kR; omega) | omega | (unfold kL; omega) | exact kcat_null | exact kcat_ref _ | exact kcat_iv _) only [r77_2, r77_3, r77_4, r77_7, r77_10, r77_69, ho_2_0 hA v.l2, hg_2_0 hA v.l2, ht_10 hA, true_and, and_true, kk1_i, kk1_r, kk1_n, kk1_0, kcat_iv, kcat_ref, kcat_null, kisR_ref, kisR_null, ksz_nil, ksz_iv, ksz_ref, ksz_null, ksz_lv, kfit_int, kfit_long, kfit_obj, kfit_objN, kfit_arr, kfit_arrN, knarI, knarZ0, knarZ1, kret_v, kret_n, kret_x, Nat.reduceAdd, Nat.reduceLeDiff, reduceCtorEq, Int.reduceLE, Int.reduceLT, Int.reduceEq, ite_true, ite_false, true_or, or_true, false_implies, true_implies, not_true_eq_false, not_false_eq_true, and_self, eq_self, klc_lt, klc_ge, klc_le, klc_gt, klc_eq, kmu_eq, kmu_f, kmu_i, kmu_j, c180 hA v101, F3, show X 9 0 15 ≤ i by omega, Nat.zero_le, show 1 ≤ d by omega]
      exact this
    | succ n =>
      obtain ⟨M1, M2, M3, ⟨r1, r2, r3, r4⟩, M5, M6, M7, M8, M9, M10, M11, M12, M13, M14⟩ := F5 (i + 1) (by omega) (by omega)
      rw [Int.add_sub_cancel] at M5
      have B68 := rw.a68 (j := i + 1) (by omega) (by omega)
      have B70 := rw.a70 (j := i + 1) (by omega) (by omega)
      have q182 := fun {Q} => c182_1 (E := E) (d := d - 1) (c := c) (l := l) (Q := Q) (J := J) (R := R) hA v F1 (x := i) (y := i + 1) (by omega) i0 (by omega) M5 (by omega)
      have j := j153_m (E := E) (d := d) (c := c) (l := l) (Q := Q) (J := J) (C := C) hA v rw nd (m := i + 1) (by omega) (by omega) (by omega) none
      have t9 := j.2.1 9 (by decide) (by decide) (by decide) (by decide) (by decide)
      have hstep : kfd kof (n + 1) (i + 1) X = kfd kof n (i + 1 + 1) (kof (i + 1) X) := rfl
      rw [hstep] at H
      have ih := fun C' l2 l3 h1 h2 => c77_l hA v hd n (i + 1) C' (kof (i + 1) X) l2 l3 j.1 h2 j.2.2.1 (by omega) (by rw [t9]; omega) (fun C'' h3 h4 => H C'' (kFl.trans h1 h3) h4)
      rw [r77_2]
      simp (disch := first | assumption | (unfold kR; decide) | exact klc_R | (unfold kR; omega) | omega | (unfold kL; omega) | exact kcat_null | exact kcat_ref _ | exact kcat_iv _) only [r77_3, r77_4, r77_7, r77_10, r77_13, r77_14, r77_17, r77_18, r77_21, r77_24, r77_25, r77_26, ho_2_0 hA v.l2, hg_2_0 hA v.l2, ht_10 hA, ht_4 hA, true_and, and_true, kk1_i, kk1_r, kk1_n, kk1_0, kcat_iv, kcat_ref, kcat_null, kisR_ref, kisR_null, ksz_nil, ksz_iv, ksz_ref, ksz_null, ksz_lv, kfit_int, kfit_long, kfit_obj, kfit_objN, kfit_arr, kfit_arrN, knarI, knarZ0, knarZ1, kret_v, kret_n, kret_x, Nat.reduceAdd, Nat.reduceLeDiff, reduceCtorEq, Int.reduceLE, Int.reduceLT, Int.reduceEq, ite_true, ite_false, true_or, or_true, false_implies, true_implies, not_true_eq_false, not_false_eq_true, and_self, eq_self, klc_lt, klc_ge, klc_le, klc_gt, klc_eq, kmu_eq, kmu_f, kmu_i, kmu_j, c180 hA v101, q182, F3, show ¬ X 9 0 15 ≤ i by omega, Nat.zero_le, show 1 ≤ d by omega]
      by_cases hs : X 68 0 (i + 1) = 0
      · have e : kof (i + 1) X = kfd (fun p R => f152 R (i + 1) p) (X 70 0 (i + 1)).toNat 0 X := if_pos hs
        refine c77_p hA v hd (X 70 0 (i + 1)).toNat 0 C X rw F nd (by omega) (by omega) hs (by omega) (by omega) (fun C' h1 h2 => ?_)
        rw [← e] at h2
        have := ih C' (some (.ref (A 4 (i + 1)))) (some (iv (0 + ((X 70 0 (i + 1)).toNat : Int)))) h1 h2
        simp (disch := first | assumption | (unfold kR; decide) | exact klc_R | (unfold kR; omega) | omega | (unfold kL; omega) | exact kcat_null | exact kcat_ref _ | exact kcat_iv _) only [r77_63, r77_66, true_and, and_true, kk1_i, kk1_r, kk1_n, kk1_0, kcat_iv, kcat_ref, kcat_null, kisR_ref, kisR_null, ksz_nil, ksz_iv, ksz_ref, ksz_null, ksz_lv, kfit_int, kfit_long, kfit_obj, kfit_objN, kfit_arr, kfit_arrN, knarI, knarZ0, knarZ1, kret_v, kret_n, kret_x, Nat.reduceAdd, Nat.reduceLeDiff, reduceCtorEq, Int.reduceLE, Int.reduceLT, Int.reduceEq, ite_true, ite_false, true_or, or_true, false_implies, true_implies, not_true_eq_false, not_false_eq_true, and_self, eq_self, klc_lt, klc_ge, klc_le, klc_gt, klc_eq, kmu_eq, kmu_f, kmu_i, kmu_j]
        exact this
      · have e : kof (i + 1) X = X := if_neg hs
        have := ih C (some (.ref (A 4 (i + 1)))) (some (iv 0)) kFl_rfl (by rw [e]; exact F)
        simp (disch := first | assumption | (unfold kR; decide) | exact klc_R | (unfold kR; omega) | omega | (unfold kL; omega) | exact kcat_null | exact kcat_ref _ | exact kcat_iv _) only [r77_27, r77_28, r77_31, r77_63, r77_66, ho_4_7 hA, hg_4_7 hA, true_and, and_true, kk1_i, kk1_r, kk1_n, kk1_0, kcat_iv, kcat_ref, kcat_null, kisR_ref, kisR_null, ksz_nil, ksz_iv, ksz_ref, ksz_null, ksz_lv, kfit_int, kfit_long, kfit_obj, kfit_objN, kfit_arr, kfit_arrN, knarI, knarZ0, knarZ1, kret_v, kret_n, kret_x, Nat.reduceAdd, Nat.reduceLeDiff, reduceCtorEq, Int.reduceLE, Int.reduceLT, Int.reduceEq, ite_true, ite_false, true_or, or_true, false_implies, true_implies, not_true_eq_false, not_false_eq_true, and_self, eq_self, klc_lt, klc_ge, klc_le, klc_gt, klc_eq, kmu_eq, kmu_f, kmu_i, kmu_j, M10, hs]
        exact this
theorem c77 (hA : kJ A V) (v : kLV V) (rw : kRW V X) (F : kRF V C X) (nd : kND X) (hd : 5 ≤ d)
    (H : ∀ C', kFl C C' → kRF V C' (f153 X) → Q (.inl none) (kHp J A V C' R, c, l)) :
    ka_W (kp E) (d, (77, 0, [some (.ref (A 2 0)), none, none, none], []), (kHp J A V C R, c, l)) Q := by
  have B15 := rw.i15
  have z := c77_l (E := E) (d := d) (c := c) (l := l) (Q := Q) (J := J) (R := R) hA v hd (X 9 0 15).toNat 0 C X none none rw F nd (by omega) (by omega) (fun C' h1 h2 => H C' h1 h2)
  simp (disch := first | assumption | (unfold kR; decide) | exact klc_R | (unfold kR; omega) | omega | (unfold kL; omega) | exact kcat_null | exact kcat_ref _ | exact kcat_iv _) only [r77_0, r77_1, true_and, and_true, kk1_i, kk1_r, kk1_n, kk1_0, kcat_iv, kcat_ref, kcat_null, kisR_ref, kisR_null, ksz_nil, ksz_iv, ksz_ref, ksz_null, ksz_lv, kfit_int, kfit_long, kfit_obj, kfit_objN, kfit_arr, kfit_arrN, knarI, knarZ0, knarZ1, kret_v, kret_n, kret_x, Nat.reduceAdd, Nat.reduceLeDiff, reduceCtorEq, Int.reduceLE, Int.reduceLT, Int.reduceEq, ite_true, ite_false, true_or, or_true, false_implies, true_implies, not_true_eq_false, not_false_eq_true, and_self, eq_self, klc_lt, klc_ge, klc_le, klc_gt, klc_eq, kmu_eq, kmu_f, kmu_i, kmu_j]
  exact z
end
