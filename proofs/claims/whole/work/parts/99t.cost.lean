/-! Costs: the program. -/
def kcap (x : Int) : Int := if x < 0 then 1000000001 else x
/-- pieces are at least 1 -/
def kPc (X : ka_M) : Prop := ∀ k q p, 0 ≤ k → k < X 9 0 7 → 0 ≤ q → q < X 59 0 k → 0 ≤ p → p < X 61 0 (4 * k + q) → 1 ≤ X 63 0 (5 * (4 * k + q) + p)
/-- what is known is right -/
def kMe (Z C : ka_M) : Prop := ∀ k, 0 ≤ k → k < Z 9 0 7 → C 3 k 4 = -1 ∨ C 3 k 4 = kcap (Z 88 0 k)
/-- only known costs change -/
def kKn (C C' : ka_M) : Prop := (∀ f, f ≠ 3 → C' f = C f) ∧ ∀ k j, j ≠ 4 → C' 3 k j = C 3 k j
theorem kKn_rfl {C : ka_M} : kKn C C := ⟨fun _ _ => rfl, fun _ _ _ => rfl⟩
theorem kKn.trans {C C' C'' : ka_M} (h : kKn C C') (h' : kKn C' C'') : kKn C C'' := ⟨fun f a => (h'.1 f a).trans (h.1 f a), fun k j a => (h'.2 k j a).trans (h.2 k j a)⟩
section
variable {E : Nat × Nat} {d c l : Nat} {s : ka_S} {h : ka_H} {Q : ka_Q} {J : ka_H} {A A' : ka_A} {V V' : ka_V} {C C' R X X' Y Z : ka_M}
theorem kBI_kn (I : kBI V C X) (h : kKn C C') : kBI V C' X := by
  obtain ⟨VI, ⟨K1, K2, K3, K4, K5, K6, K7⟩, F, B, P, M⟩ := I
  obtain ⟨h1, h2⟩ := h
  have c10 := h1 10 (by decide)
  have c33 := h1 33 (by decide)
  refine ⟨?_, ⟨K1.c c10 c33, ?_, fun k b0 b1 => ?_, fun k q b0 b1 q0 q1 => ?_, fun k q p b0 b1 q0 q1 p0 p1 => ?_, fun q b0 b1 => ?_, fun a b0 b1 => ?_⟩, ?_, B, ?_, M⟩
  · obtain ⟨i0, i32, i10, i3, i4, i8, i23, i20, i6, i33⟩ := VI
    unfold kVI
    rw [c10]
    refine ⟨i0, i32, i10, i3, i4, i8, i23, i20, fun i z => ?_, i33⟩
    rcases i6 i z with ⟨k, q, b0, b1, b2, b3, b4⟩ | w
    · exact Or.inl ⟨k, q, b0, b1, b2, by rw [h2 k 3 (by decide)]; exact b3, b4⟩
    · exact Or.inr w
  · rw [c10]; exact K2
  · rw [c10, c33, h2 k 0 (by decide), h2 k 1 (by decide), h2 k 2 (by decide), h2 k 3 (by decide)]
    exact K3 k b0 b1
  · rw [h1 6 (by decide)]; exact K4 k q b0 b1 q0 q1
  · rw [h1 20 (by decide), h1 21 (by decide), h1 22 (by decide)]; exact K5 k q p b0 b1 q0 q1 p0 p1
  · rw [h1 32 (by decide)]; exact K6 q b0 b1
  · rw [h1 25 (by decide)]; exact K7 a b0 b1
  · exact kRF_fr F (fun _ _ _ z => z) (fun _ _ z => z) (fun f hf => h1 f (by omega)) (fun f q hf _ => by rw [h1 f (by omega)]) (fun q _ => by rw [c10]) (fun q _ => by rw [c33]) rfl rfl (fun f hf => rfl) (fun m _ _ => rfl)
  · unfold kCp3
    rw [c10, h1 0 (by decide)]
    exact P
/-- the program's sum beside the reference's -/
def kSu (P s : Int) : Prop := (0 ≤ s ∧ P = s) ∨ (s = -1 ∧ 1000000001 ≤ P)
theorem kSu_step {P s e n : Int} (h : kSu P s) (he : -1 ≤ e) (n1 : 1 ≤ n) (P0 : 0 ≤ P) : kSu (P + n * kcap e) (if e < 0 ∨ s < 0 then -1 else s + e * n) := by
  unfold kcap
  by_cases z : e < 0
  · rw [if_pos (Or.inl z), if_pos z]
    right
    refine ⟨rfl, ?_⟩
    have : 1000000001 ≤ n * 1000000001 := by omega
    omega
  · rw [if_neg z]
    have h0 : 0 ≤ n * e := Int.mul_nonneg (by omega) (by omega)
    rcases h with ⟨s0, h⟩ | ⟨h, h'⟩
    · rw [if_neg (by omega)]
      left
      rw [h, Int.mul_comm]
      exact ⟨Int.add_nonneg s0 h0, rfl⟩
    · rw [if_pos (Or.inr (by omega))]
      right
      exact ⟨rfl, by omega⟩
theorem kSu_end {P s : Int} (h : kSu P s) : (if 1000000001 < P then 1000000001 else P) = kcap (if 1000000000 < s then -1 else s) := by
  unfold kcap
  rcases h with ⟨s0, h⟩ | ⟨h, h'⟩
  · (repeat' split) <;> omega
  · (repeat' split) <;> omega
/-- the parts of a kit -/
theorem c51_l (hA : kJ A V) (v : kLV V) (rw : kRW V X) (bk : kBk X) (pc : kPc X) (hZ : kRW V Z) (cZ : kCo X Z) (hP : C 0 0 6 = X 9 0 1) (hPr : ∀ g, 0 ≤ g → g < 20 → C 30 0 g = X 54 0 g) (I : kBI V C X) {k dp b qr : Int} (k0 : 0 ≤ k) (k1 : k < X 9 0 7) (dp0 : 1 ≤ dp) (dp1 : dp ≤ 12) (hb : f138 X k = b) (eq1 : b = 4 * k + qr) (eq2 : 0 ≤ qr) (eq3 : qr < X 59 0 k) (hd : 3 ≤ d)
    (rec : ∀ (k' : Int) (C1 : ka_M) (Q' : ka_Q), 0 ≤ k' → k' < X 9 0 7 → kWy X (X 58 0 k) (X 58 0 k') → kKn C C1 → kMe Z C1 → (∀ C', kKn C1 C' → kMe Z C' → Q' (.inl (some (lv (kcap (Z 88 0 k'))))) (kHp J A V C' R, c, l)) → ka_W (kp E) (d - 1 - 1, (51, 0, [some (.ref (A 0 0)), some (.ref (A 3 k')), some (iv (dp + 1)), none, none, none, none], []), (kHp J A V C1 R, c, l)) Q') :
    ∀ (m : Nat) (p P s : Int) (C1 : ka_M), 0 ≤ p → p + m = X 61 0 b → kSu P s → 0 ≤ P → P ≤ 9000000009 * p → -1 ≤ s → kKn C C1 → kMe Z C1 →
    (∀ C' P', kKn C C' → kMe Z C' → kSu P' (ksum Z m (5 * b + p) s) → 0 ≤ P' → P' ≤ 9000000009 * X 61 0 b → ka_W (kp E) (d, (51, 82, [some (.ref (A 0 0)), some (.ref (A 3 k)), some (iv dp), some (.ref (A 6 b)), some (lv P'), none, some (iv (X 61 0 b))], []), (kHp J A V C' R, c, l)) Q) →
    ka_W (kp E) (d, (51, 41, [some (.ref (A 0 0)), some (.ref (A 3 k)), some (iv dp), some (.ref (A 6 b)), some (lv P), none, some (iv p)], []), (kHp J A V C1 R, c, l)) Q
  | m, p, P, s, C1, p0, hm, hs, P0, P1, s0, kn, me, H => by
    have B7 := rw.i7
    have B59 := rw.a59 (j := k) (by omega) (by omega)
    have B61 := rw.a61 (j := b) (by omega) (by omega)
    have I1 := kBI_kn I kn
    have hI := I1
    obtain ⟨VI, ⟨K1, K2, K3, K4, K5, K6, K7⟩, F, B, PP, M⟩ := hI
    obtain ⟨⟨r1, r2, r3, r4⟩, r5, r6, r7⟩ := K4 k qr k0 k1 eq2 eq3
    rw [← eq1] at r1 r2 r3 r4 r5 r7
    cases m with
    | zero =>
      have : p = X 61 0 b := by omega
      subst this
      have := H C1 P kn me hs P0 P1
      simp (disch := first | assumption | (unfold kR; decide) | exact klc_R | (unfold kR; omega) | omega | (unfold kL; omega) | exact kcat_null | exact kcat_ref _ | exact kcat_iv _) only [r51_41, r51_43, r51_44, r51_47, ho_6_5 hA, hg_6_5 hA, true_and, and_true, kk1_i, kk1_r, kk1_n, kk1_0, kcat_iv, kcat_ref, kcat_null, kisR_ref, kisR_null, ksz_nil, ksz_iv, ksz_ref, ksz_null, ksz_lv, kfit_int, kfit_long, kfit_obj, kfit_objN, kfit_arr, kfit_arrN, knarI, knarZ0, knarZ1, kret_v, kret_n, kret_x, Nat.reduceAdd, Nat.reduceLeDiff, reduceCtorEq, Int.reduceLE, Int.reduceLT, Int.reduceEq, ite_true, ite_false, true_or, or_true, false_implies, true_implies, not_true_eq_false, not_false_eq_true, and_self, eq_self, klc_lt, klc_ge, klc_le, klc_gt, klc_eq, kmu_eq, kmu_f, kmu_i, kmu_j, r7, Int.le_refl]
      exact this
    | succ m =>
      obtain ⟨t1, t2, t3⟩ := K5 k qr p k0 k1 eq2 eq3 p0 (by rw [← eq1]; omega)
      rw [← eq1] at t1 t2
      have pp := pc k qr p k0 k1 eq2 eq3 p0 (by rw [← eq1]; omega)
      rw [← eq1] at pp
      have B63 := rw.a63 (j := 5 * b + p) (by omega) (by omega)
      have Bk := keach_b hZ (p := 5 * b + p) (by omega) (by omega)
      have lw := kpart_L rw bk (k := k) (p := 5 * b + p) k0 k1 (by omega) (by rw [hb]; omega)
      have e62 : Z 62 = X 62 := cZ 62 (by decide)
      have e56 : Z 56 = X 56 := cZ 56 (by decide)
      have e54 : Z 54 = X 54 := cZ 54 (by decide)
      have e63 : Z 63 = X 63 := cZ 63 (by decide)
      have kc : 0 ≤ kcap (keach Z (5 * b + p)) ∧ kcap (keach Z (5 * b + p)) ≤ 1000000001 := by unfold kcap; split <;> omega
      have mb := kmul_b (x := X 63 0 (5 * b + p)) (y := kcap (keach Z (5 * b + p))) (a := 9) (b := 1000000001) (by omega) B63.2 kc.1 kc.2
      have hs' := kSu_step hs Bk.1 pp P0
      rw [← e63] at hs'
      -- one piece
      have q52 : ∀ (Q' : ka_Q), (∀ C', kKn C C' → kMe Z C' → Q' (.inl (some (lv (kcap (keach Z (5 * b + p)))))) (kHp J A V C' R, c, l)) → ka_W (kp E) (d - 1, (52, 0, [some (.ref (A 0 0)), some (iv (X 62 0 (5 * b + p))), some (iv dp), none], []), (kHp J A V C1 R, c, l)) Q' := by
        intro Q' HH
        have g0 := lw.2.2.1
        have g1 := lw.2.2.2.1
        generalize hg : X 62 0 (5 * b + p) = g at *
        have c32 := K6 g g0 g1
        have B56 := rw.a56 (j := g) g0 g1
        have B54 := rw.a54 (j := g) g0 g1
        by_cases z : X 56 0 g = -1
        · have e : keach Z (5 * b + p) = X 54 0 g := by unfold keach; rw [e62, e56, e54, hg, if_pos z]
          have e2 : kcap (keach Z (5 * b + p)) = X 54 0 g := by unfold kcap; rw [e, if_neg (by omega)]
          have c30 : C1 30 0 g = X 54 0 g := by rw [kn.1 30 (by decide)]; exact hPr g g0 g1
          have c32' : C1 32 0 g < 0 := by rw [c32, z]; decide
          have := HH C1 kn me
          rw [e2] at this
          simp (disch := first | assumption | (unfold kR; decide) | exact klc_R | (unfold kR; omega) | omega | (unfold kL; omega) | exact kcat_null | exact kcat_ref _ | exact kcat_iv _) only [r52_0, r52_0n, r52_1, r52_4, r52_7, r52_8, r52_9, r52_9n, r52_10, r52_10n, r52_11, r52_14, r52_14n, r52_15, r52_18, r52_19, r52_20, r52_21, r52_32, ho_0_0 hA v.l0, hg_0_0 hA v.l0, ho_1_1 hA v.l1, hg_1_1 hA v.l1, hoa_32 hA v.l32, hga_32 hA v.l32, hgan_32 hA v.l32, ho_0_4 hA v.l0, hg_0_4 hA v.l0, hoa_30 hA v.l30, hga_30 hA v.l30, true_and, and_true, kk1_i, kk1_r, kk1_n, kk1_0, kcat_iv, kcat_ref, kcat_null, kisR_ref, kisR_null, ksz_nil, ksz_iv, ksz_ref, ksz_null, ksz_lv, kfit_int, kfit_long, kfit_obj, kfit_objN, kfit_arr, kfit_arrN, knarI, knarZ0, knarZ1, kret_v, kret_n, kret_x, Nat.reduceAdd, Nat.reduceLeDiff, reduceCtorEq, Int.reduceLE, Int.reduceLT, Int.reduceEq, ite_true, ite_false, true_or, or_true, false_implies, true_implies, not_true_eq_false, not_false_eq_true, and_self, eq_self, klc_lt, klc_ge, klc_le, klc_gt, klc_eq, kmu_eq, kmu_f, kmu_i, kmu_j, hea_32 hA v.l32, hgan_32 hA v.l32, c30]
          exact this
        · have b3 := bk.2.2.1 g g0 g1 z
          have e : keach Z (5 * b + p) = Z 88 0 (X 56 0 g) := by unfold keach; rw [e62, e56, hg, if_neg z]
          have c32' : 0 ≤ C1 32 0 g := by rw [c32]; exact b3.1
          have := rec (X 56 0 g) C1 (kret E (d - 1) 52 32 [some (.ref (A 0 0)), some (iv g), some (iv dp), some (.ref (A 3 (X 56 0 g)))] [] Q') b3.1 b3.2.1 (by rw [b3.2.2]; exact lw) kn me (fun C' x1 x2 => by
            have := HH C' (kn.trans x1) x2
            rw [e] at this
            simp (disch := first | assumption | (unfold kR; decide) | exact klc_R | (unfold kR; omega) | omega | (unfold kL; omega) | exact kcat_null | exact kcat_ref _ | exact kcat_iv _) only [r52_32, true_and, and_true, kk1_i, kk1_r, kk1_n, kk1_0, kcat_iv, kcat_ref, kcat_null, kisR_ref, kisR_null, ksz_nil, ksz_iv, ksz_ref, ksz_null, ksz_lv, kfit_int, kfit_long, kfit_obj, kfit_objN, kfit_arr, kfit_arrN, knarI, knarZ0, knarZ1, kret_v, kret_n, kret_x, Nat.reduceAdd, Nat.reduceLeDiff, reduceCtorEq, Int.reduceLE, Int.reduceLT, Int.reduceEq, ite_true, ite_false, true_or, or_true, false_implies, true_implies, not_true_eq_false, not_false_eq_true, and_self, eq_self, klc_lt, klc_ge, klc_le, klc_gt, klc_eq, kmu_eq, kmu_f, kmu_i, kmu_j]
            exact this)
          simp (disch := first | assumption | (unfold kR; decide) | exact klc_R | (unfold kR; omega) | omega | (unfold kL; omega) | exact kcat_null | exact kcat_ref _ | exact kcat_iv _) only [r52_0, r52_1, r52_4, r52_7, r52_8, r52_9, r52_10, r52_11, r52_24, r52_25, r52_26, r52_27, r52_28, r52_29, ho_0_0 hA v.l0, hg_0_0 hA v.l0, ho_1_1 hA v.l1, hg_1_1 hA v.l1, hoa_32 hA v.l32, hga_32 hA v.l32, hgan_32 hA v.l32, ht_0 hA v.l0, true_and, and_true, kk1_i, kk1_r, kk1_n, kk1_0, kcat_iv, kcat_ref, kcat_null, kisR_ref, kisR_null, ksz_nil, ksz_iv, ksz_ref, ksz_null, ksz_lv, kfit_int, kfit_long, kfit_obj, kfit_objN, kfit_arr, kfit_arrN, knarI, knarZ0, knarZ1, kret_v, kret_n, kret_x, Nat.reduceAdd, Nat.reduceLeDiff, reduceCtorEq, Int.reduceLE, Int.reduceLT, Int.reduceEq, ite_true, ite_false, true_or, or_true, false_implies, true_implies, not_true_eq_false, not_false_eq_true, and_self, eq_self, klc_lt, klc_ge, klc_le, klc_gt, klc_eq, kmu_eq, kmu_f, kmu_i, kmu_j, hea_32 hA v.l32, hga_32 hA v.l32, c32, Nat.zero_le, show 1 ≤ d - 1 by omega]
          exact this
      rw [r51_41]
      simp (disch := first | assumption | (unfold kR; decide) | exact klc_R | (unfold kR; omega) | omega | (unfold kL; omega) | exact kcat_null | exact kcat_ref _ | exact kcat_iv _) only [r51_43, r51_44, r51_47, r51_50, r51_52, r51_53, r51_56, r51_58, r51_59, r51_60, r51_61, r51_62, r51_65, r51_67, r51_68, r51_69, ho_6_5 hA, hg_6_5 hA, ho_6_3 hA, hg_6_3 hA, hoa_21 hA, hga_21 hA, ho_6_2 hA, hg_6_2 hA, hoa_20 hA, hga_20 hA, ht_0 hA v.l0, true_and, and_true, kk1_i, kk1_r, kk1_n, kk1_0, kcat_iv, kcat_ref, kcat_null, kisR_ref, kisR_null, ksz_nil, ksz_iv, ksz_ref, ksz_null, ksz_lv, kfit_int, kfit_long, kfit_obj, kfit_objN, kfit_arr, kfit_arrN, knarI, knarZ0, knarZ1, kret_v, kret_n, kret_x, Nat.reduceAdd, Nat.reduceLeDiff, reduceCtorEq, Int.reduceLE, Int.reduceLT, Int.reduceEq, ite_true, ite_false, true_or, or_true, false_implies, true_implies, not_true_eq_false, not_false_eq_true, and_self, eq_self, klc_lt, klc_ge, klc_le, klc_gt, klc_eq, kmu_eq, kmu_f, kmu_i, kmu_j, r7, t1, t2, show ¬ X 61 0 b ≤ p by omega, Nat.zero_le, show 1 ≤ d by omega]
      refine q52 _ (fun C2 x1 x2 => ?_)
      have ih := c51_l hA v rw bk pc hZ cZ hP hPr I k0 k1 dp0 dp1 hb eq1 eq2 eq3 hd rec m (p + 1) (P + X 63 0 (5 * b + p) * kcap (keach Z (5 * b + p))) (if keach Z (5 * b + p) < 0 ∨ s < 0 then -1 else s + keach Z (5 * b + p) * Z 63 0 (5 * b + p)) C2 (by omega) (by omega) (by rw [← e63]; exact hs') (by omega) (by omega) (by
        split
        · omega
        · have := kmul_b (x := keach Z (5 * b + p)) (y := Z 63 0 (5 * b + p)) (a := 1000000000) (b := 9) (by omega) Bk.2 (by rw [e63]; omega) (by rw [e63]; exact B63.2)
          omega) x1 x2 (fun C' P' y1 y2 y3 y4 y5 => H C' P' y1 y2 (by
          unfold ksum
          have e : 5 * b + (p + 1) = 5 * b + p + 1 := by omega
          rw [e] at y3
          exact y3) y4 y5)
      simp (disch := first | assumption | (unfold kR; decide) | exact klc_R | (unfold kR; omega) | omega | (unfold kL; omega) | exact kcat_null | exact kcat_ref _ | exact kcat_iv _) only [r51_72, r51_73, r51_74, r51_76, r51_79, true_and, and_true, kk1_i, kk1_r, kk1_n, kk1_0, kcat_iv, kcat_ref, kcat_null, kisR_ref, kisR_null, ksz_nil, ksz_iv, ksz_ref, ksz_null, ksz_lv, kfit_int, kfit_long, kfit_obj, kfit_objN, kfit_arr, kfit_arrN, knarI, knarZ0, knarZ1, kret_v, kret_n, kret_x, Nat.reduceAdd, Nat.reduceLeDiff, reduceCtorEq, Int.reduceLE, Int.reduceLT, Int.reduceEq, ite_true, ite_false, true_or, or_true, false_implies, true_implies, not_true_eq_false, not_false_eq_true, and_self, eq_self, klc_lt, klc_ge, klc_le, klc_gt, klc_eq, kmu_eq, kmu_f, kmu_i, kmu_j]
      exact ih
/-- costOfKit -/
theorem c51 (hA : kJ A V) (v : kLV V) (rw : kRW V X) (bk : kBk X) (pc : kPc X) (S : kSi X) (ac : kAc X) (hZ : kRW V Z) (cZ : kCo X Z) (fix : ∀ k, 0 ≤ k → k < X 9 0 7 → Z 88 0 k = f140 Z k) :
    ∀ (r : Nat) (d : Nat) (k dp : Int) (C : ka_M) (Q : ka_Q), C 0 0 6 = X 9 0 1 → (∀ g, 0 ≤ g → g < 20 → C 30 0 g = X 54 0 g) → kBI V C X → kMe Z C → 0 ≤ k → k < X 9 0 7 → krk X (X 58 0 k) < r → 1 ≤ dp → dp + krk X (X 58 0 k) ≤ 12 → 2 * r + 3 ≤ d →
    (∀ C', kKn C C' → kMe Z C' → Q (.inl (some (lv (kcap (Z 88 0 k))))) (kHp J A V C' R, c, l)) →
    ka_W (kp E) (d, (51, 0, [some (.ref (A 0 0)), some (.ref (A 3 k)), some (iv dp), none, none, none, none], []), (kHp J A V C R, c, l)) Q
  | 0, d, k, dp, C, Q, hP, hPr, I, me, k0, k1, hr, dp0, dp1, hd, H => by
    have := krk_0 (X := X) (g := X 58 0 k)
    omega
  | r + 1, d, k, dp, C, Q, hP, hPr, I, me, k0, k1, hr, dp0, dp1, hd, H => by
    have B7 := rw.i7
    have B1 := rw.i1
    have rk0 := krk_0 (X := X) (g := X 58 0 k)
    have e7 : Z 9 0 7 = X 9 0 7 := by rw [cZ 9 (by decide)]
    have B88 := hZ.a88 (j := k) (by omega) (by omega)
    have kc : 0 ≤ kcap (Z 88 0 k) ∧ kcap (Z 88 0 k) ≤ 1000000001 := by unfold kcap; split <;> omega
    obtain ⟨n1, -⟩ := I.new rw k0 k1
    have v3 := n1
    rcases me k k0 (by omega) with z | z
    · -- not known yet
      obtain ⟨b1, b2, b3, b4⟩ := f138_b rw bk (k := k) ⟨k0, by omega⟩
      generalize hb : f138 X k = b at *
      have kq : ∃ q, b = 4 * k + q ∧ 0 ≤ q ∧ q < X 59 0 k := ⟨b - 4 * k, by omega, by omega, by omega⟩
      obtain ⟨qr, eq1, eq2, eq3⟩ := kq
      have B61 := rw.a61 (j := b) (by omega) (by omega)
      have z' := c51_l (E := E) (d := d) (c := c) (l := l) (Q := Q) (J := J) (R := R) (Z := Z) hA v rw bk pc hZ cZ hP hPr I (k := k) (dp := dp) k0 k1 dp0 (by omega) hb eq1 eq2 eq3 (by omega) (fun k' C1 Q' x0 x1 x2 x3 x4 x5 => by
        have hz : X 56 0 (X 58 0 k') ≠ -1 := by rw [bk.2.1 k' x0 x1]; omega
        have := krk_lt bk ac x2 hz
        exact c51 hA v rw bk pc S ac hZ cZ fix r (d - 1 - 1) k' (dp + 1) C1 Q' (by rw [x3.1 0 (by decide)]; exact hP) (fun g a b => by rw [x3.1 30 (by decide)]; exact hPr g a b) (kBI_kn I x3) x4 x0 x1 (by omega) (by omega) (by omega) (by omega) x5) (X 61 0 b).toNat 0 0 0 C (by omega) (by omega) (Or.inl ⟨by omega, rfl⟩) (by omega) (by omega) (by omega) kKn_rfl me (fun C' P' y1 y2 y3 y4 y5 => by
          have ee : (if 1000000001 < P' then 1000000001 else P') = kcap (Z 88 0 k) := by
            rw [fix k k0 k1]
            have e138 : f138 Z k = b := by rw [← hb]; exact f138_c (by rw [cZ 9 (by decide)]) (cZ 59 (by decide)) (cZ 60 (by decide)) k
            unfold f140
            rw [e138, cZ 61 (by decide)]
            have e0 : 5 * b + 0 = 5 * b := by omega
            rw [e0] at y3
            exact kSu_end y3
          have kn2 : kKn C (kmu C' 3 k 4 (kcap (Z 88 0 k))) := ⟨fun f hf => (kmu_ff hf).trans (y1.1 f hf), fun k' j hj => (kmu_j hj).trans (y1.2 k' j hj)⟩
          have me2 : kMe Z (kmu C' 3 k 4 (kcap (Z 88 0 k))) := fun k' x0 x1 => by
            by_cases e : k' = k
            · rw [e, kmu_eq]; exact Or.inr rfl
            · rw [kmu_i e]; exact y2 k' x0 x1
          have := H _ kn2 me2
          simp (disch := first | assumption | (unfold kR; decide) | exact klc_R | (unfold kR; omega) | omega | (unfold kL; omega) | exact kcat_null | exact kcat_ref _ | exact kcat_iv _) only [r51_82, r51_83, r51_85, r51_88, r51_91, r51_94, r51_95, r51_98, ho_3_4 hA, hp_3_4 hA, hg_3_4 hA, true_and, and_true, kk1_i, kk1_r, kk1_n, kk1_0, kcat_iv, kcat_ref, kcat_null, kisR_ref, kisR_null, ksz_nil, ksz_iv, ksz_ref, ksz_null, ksz_lv, kfit_int, kfit_long, kfit_obj, kfit_objN, kfit_arr, kfit_arrN, knarI, knarZ0, knarZ1, kret_v, kret_n, kret_x, Nat.reduceAdd, Nat.reduceLeDiff, reduceCtorEq, Int.reduceLE, Int.reduceLT, Int.reduceEq, ite_true, ite_false, true_or, or_true, false_implies, true_implies, not_true_eq_false, not_false_eq_true, and_self, eq_self, klc_lt, klc_ge, klc_le, klc_gt, klc_eq, kmu_eq, kmu_f, kmu_i, kmu_j, ee, Nat.zero_le, show 1 ≤ d by omega]
          exact this)
      have q82 := c82 (E := E) (d := d - 1) (c := c) (l := l) (J := J) (R := R) (Q := kret E d 51 34 [some (.ref (A 0 0)), some (.ref (A 3 k)), some (iv dp), none, none, none, none] [] Q) hA v rw I S k0 k1 (by
        rw [hb]
        simp (disch := first | assumption | (unfold kR; decide) | exact klc_R | (unfold kR; omega) | omega | (unfold kL; omega) | exact kcat_null | exact kcat_ref _ | exact kcat_iv _) only [r51_34, r51_35, r51_36, r51_38, r51_39, true_and, and_true, kk1_i, kk1_r, kk1_n, kk1_0, kcat_iv, kcat_ref, kcat_null, kisR_ref, kisR_null, ksz_nil, ksz_iv, ksz_ref, ksz_null, ksz_lv, kfit_int, kfit_long, kfit_obj, kfit_objN, kfit_arr, kfit_arrN, knarI, knarZ0, knarZ1, kret_v, kret_n, kret_x, Nat.reduceAdd, Nat.reduceLeDiff, reduceCtorEq, Int.reduceLE, Int.reduceLT, Int.reduceEq, ite_true, ite_false, true_or, or_true, false_implies, true_implies, not_true_eq_false, not_false_eq_true, and_self, eq_self, klc_lt, klc_ge, klc_le, klc_gt, klc_eq, kmu_eq, kmu_f, kmu_i, kmu_j]
        exact z')
      simp (disch := first | assumption | (unfold kR; decide) | exact klc_R | (unfold kR; omega) | omega | (unfold kL; omega) | exact kcat_null | exact kcat_ref _ | exact kcat_iv _) only [r51_0, r51_1, r51_3, r51_6, r51_9, r51_10, r51_11, r51_14, r51_17, r51_18, r51_21, r51_22, r51_25, r51_26, r51_27, r51_28, r51_31, ho_3_4 hA, hg_3_4 hA, ho_0_6 hA v.l0, hg_0_6 hA v.l0, ht_3 hA, true_and, and_true, kk1_i, kk1_r, kk1_n, kk1_0, kcat_iv, kcat_ref, kcat_null, kisR_ref, kisR_null, ksz_nil, ksz_iv, ksz_ref, ksz_null, ksz_lv, kfit_int, kfit_long, kfit_obj, kfit_objN, kfit_arr, kfit_arrN, knarI, knarZ0, knarZ1, kret_v, kret_n, kret_x, Nat.reduceAdd, Nat.reduceLeDiff, reduceCtorEq, Int.reduceLE, Int.reduceLT, Int.reduceEq, ite_true, ite_false, true_or, or_true, false_implies, true_implies, not_true_eq_false, not_false_eq_true, and_self, eq_self, klc_lt, klc_ge, klc_le, klc_gt, klc_eq, kmu_eq, kmu_f, kmu_i, kmu_j, hP, z, show dp ≤ 12 by omega, Nat.zero_le, show 1 ≤ d by omega]
      exact q82
    · have := H C kKn_rfl me
      rw [← z] at this kc
      simp (disch := first | assumption | (unfold kR; decide) | exact klc_R | (unfold kR; omega) | omega | (unfold kL; omega) | exact kcat_null | exact kcat_ref _ | exact kcat_iv _) only [r51_0, r51_1, r51_3, r51_6, r51_9, r51_10, r51_11, r51_14, r51_17, r51_18, r51_21, r51_22, r51_25, ho_3_4 hA, hg_3_4 hA, true_and, and_true, kk1_i, kk1_r, kk1_n, kk1_0, kcat_iv, kcat_ref, kcat_null, kisR_ref, kisR_null, ksz_nil, ksz_iv, ksz_ref, ksz_null, ksz_lv, kfit_int, kfit_long, kfit_obj, kfit_objN, kfit_arr, kfit_arrN, knarI, knarZ0, knarZ1, kret_v, kret_n, kret_x, Nat.reduceAdd, Nat.reduceLeDiff, reduceCtorEq, Int.reduceLE, Int.reduceLT, Int.reduceEq, ite_true, ite_false, true_or, or_true, false_implies, true_implies, not_true_eq_false, not_false_eq_true, and_self, eq_self, klc_lt, klc_ge, klc_le, klc_gt, klc_eq, kmu_eq, kmu_f, kmu_i, kmu_j, show dp ≤ 12 by omega, show (-1:Int) < C 3 k 4 by omega]
      exact this
end
