/-! Calls: broken, make. -/
section
variable {E : Nat × Nat} {d D yr c l : Nat} {s : ka_S} {h : ka_H} {Q : ka_Q} {J : ka_H} {A A' : ka_A} {V V' : ka_V} {C C' R R' X X' X'' Y Z : ka_M} {t b : Int} {ag : ka_A → List (Option Value)} {ex : List (Nat × Int)}
theorem kBI_5 (I : kBI V C X) {m : Int} (m0 : 1 ≤ m) (m1 : m ≤ X 9 0 15) : kBI V (kmu C 0 0 5 (100 + m)) X := by
  obtain ⟨VI, K, F, Bk, P, M⟩ := I
  refine ⟨?_, ?_, ?_, Bk, ?_, M⟩
  · unfold kVI
    rw [kmu_ff (show (10:Nat) ≠ 0 by decide), kmu_ff (show (3:Nat) ≠ 0 by decide)]
    exact VI
  · unfold kRK kLs
    rw [kmu_ff (show (10:Nat) ≠ 0 by decide), kmu_ff (show (3:Nat) ≠ 0 by decide), kmu_ff (show (33:Nat) ≠ 0 by decide), kmu_ff (show (6:Nat) ≠ 0 by decide), kmu_ff (show (20:Nat) ≠ 0 by decide), kmu_ff (show (21:Nat) ≠ 0 by decide), kmu_ff (show (22:Nat) ≠ 0 by decide), kmu_ff (show (32:Nat) ≠ 0 by decide), kmu_ff (show (25:Nat) ≠ 0 by decide)]
    exact K
  · exact kRF_fr F (fun _ _ _ z => z) (fun _ _ z => z) (fun f hf => kmu_ff (by omega)) (fun f q hf _ => by rw [kmu_ff (by omega)]) (fun q _ => by rw [kmu_ff (by decide)]) (fun q _ => by rw [kmu_ff (by decide)]) rfl rfl (fun f hf => rfl) (fun m _ _ => rfl)
  · obtain ⟨p0, p1, p2, p3⟩ := P
    unfold kCp3
    rw [kmu_ff (show (10:Nat) ≠ 0 by decide), kmu_eq]
    have := F.2.2.1
    exact ⟨p0, p1, p2, Or.inr ⟨by omega, by omega⟩⟩
/-- broken -/
theorem t36 (I : kIv E A V C R t) (ht : t ≤ 600) {u : Int} (hu : kR u) (hd : 40 ≤ d) (hD : 40 ≤ D) (hc : 121 ≤ c) (hl : 2786 ≤ l) (H : kEnd E D 166 (fun A => [some (.ref (A 9 0)), some (iv u), none, none]) [(2, 1), (1, 2)] V A R t c l Q) :
    ka_W (kp E) (d, (36, 0, [some (.ref (A 0 0)), some (iv u), none], []), (kHp J A V C R, c, l)) Q := by
  have hI := I
  obtain ⟨hA, v, hE, rw, FI, XI⟩ := hI
  have F := FI.1.2.2.1
  have B15 := rw.i15
  have B26 := rw.i26
  by_cases h1 : 1 ≤ u ∧ u ≤ R 9 0 26
  · have q47 := fun {Q} => c47 (E := E) (d := d - 1) (c := c) (l := l) (Q := Q) (J := J) (R := R) hA v rw F (by omega) h1
    obtain ⟨y1, y2, y3, y4, y5, y6, -⟩ := F.2.2.2.2.2.2.1 u h1.1 h1.2
    have B78 := rw.a78 (j := u) (by omega) (by omega)
    by_cases h2 : R 78 0 u = 0
    · obtain ⟨u3, u4, u5, u6⟩ := XI.2.2.1.1 u h1.1 h1.2
      obtain ⟨z1, z2, z3, ⟨r1, r2, r3, r4⟩, -, -, -, -, -, z10, z11, -, z13, -⟩ := F.2.2.2.2.1 (R 79 0 u) u3 u4
      have B70 := rw.a70 (j := R 79 0 u) (by omega) (by omega)
      have rw0 : kRW V (kmu R 9 0 0 0) := rw.pi0 (by omega) (by omega)
      have FI0 := kFI_0 FI (x := 0)
      have XI0 : kXI (kmu R 9 0 0 0) t := kXI_9 XI (by omega) (fun f a _ _ _ _ _ => kmu_ff a) (kmu_j (by decide)) (kmu_j (by decide)) (kmu_j (by decide))
      have e15 : kmu R 9 0 0 0 9 0 15 = R 9 0 15 := kmu_j (by decide)
      have e26 : kmu R 9 0 0 0 9 0 26 = R 9 0 26 := kmu_j (by decide)
      have e70 : kmu R 9 0 0 0 70 = R 70 := kmu_ff (by decide)
      have e72 : kmu R 9 0 0 0 72 = R 72 := kmu_ff (by decide)
      have e73 : kmu R 9 0 0 0 73 = R 73 := kmu_ff (by decide)
      have e79 : kmu R 9 0 0 0 79 = R 79 := kmu_ff (by decide)
      have e78 : kmu R 9 0 0 0 78 0 u = 0 := by rw [kmu_f (by decide)]; exact h2
      have pl := XI0.2.2.1.2.2.2.2.2.2
      obtain ⟨g1, g2, g3, g4, g5, g6, g7⟩ := f166b_g rw0 XI0.2.1 XI0.2.2.1 (by omega) (u0 := u) h1.1 (by rw [e26]; exact h1.2) e78
      rw [e70, e79] at g6 g7
      rw [e72, e73] at g7
      obtain ⟨k1, k2, k3⟩ := kXI_f hA v XI0 g1 g2 g3 (by omega) (fun f hf => g4 f (by omega) (by omega) (by omega) (by omega) (by omega) (by omega) (by omega) (by omega)) (g5 7 (by decide)) (by
        unfold kSp
        rw [g5 15 (by decide), g4 69 (by decide) (by decide) (by decide) (by decide) (by decide) (by decide) (by decide) (by decide), g4 70 (by decide) (by decide) (by decide) (by decide) (by decide) (by decide) (by decide) (by decide)]
        exact XI0.2.2.2.2)
      have kf : ∀ f, f ≠ 55 → f ≠ 75 → f ≠ 78 → f ≠ 80 → f ≠ 81 → f166 (kmu R 9 0 0 0) u f = f166b (kmu R 9 0 0 0) u f := fun f a1 a2 a3 a4 a5 => k3.1 f a1 a2 a3 a4 a5
      have xx : ∀ f, f ≠ 9 → f ≠ 55 → f ≠ 75 → f ≠ 78 → f ≠ 80 → f ≠ 81 → f ≠ 83 → f ≠ 84 → f166 (kmu R 9 0 0 0) u f = R f := fun f a1 a2 a3 a4 a5 a6 a7 a8 => by rw [kf f a2 a3 a4 a5 a6, g4 f a1 a2 a3 a4 a5 a7 a8 a6, kmu_ff a1]
      have x9 : ∀ j, j ≠ 0 → j ≠ 32 → f166 (kmu R 9 0 0 0) u 9 0 j = R 9 0 j := fun j a1 a2 => by
        rw [kf 9 (by decide) (by decide) (by decide) (by decide) (by decide), g5 j a2, kmu_j a1]
      have x0 : f166 (kmu R 9 0 0 0) u 9 0 0 = 0 := by rw [kf 9 (by decide) (by decide) (by decide) (by decide) (by decide), g5 0 (by decide), kmu_eq]
      have x32 : f166 (kmu R 9 0 0 0) u 9 0 32 = R 70 0 (R 79 0 u) := by rw [kf 9 (by decide) (by decide) (by decide) (by decide) (by decide), g6]
      have y6' : C 8 u 3 = 0 := by rw [y6]; exact h2
      have k1' : kRW V (f166 (kmu R 9 0 0 0) u) := k1
      have k2' : kXI (f166 (kmu R 9 0 0 0) u) (t + 1) := k2
      simp (disch := first | assumption | (unfold kR; decide) | exact klc_R | (unfold kR; omega) | omega | (unfold kL; omega) | exact kcat_null | exact kcat_ref _ | exact kcat_iv _) only [r36_0, r36_1, r36_2, r36_5, r36_6, r36_7, r36_10, r36_23, r36_24, r36_25, r36_28, r36_29, ht_0 hA v.l0, ho_8_3 hA, hg_8_3 hA, ho_0_3 hA v.l0, hg_0_3 hA v.l0, ht_2 hA v.l2, true_and, and_true, kk1_i, kk1_r, kk1_n, kk1_0, kcat_iv, kcat_ref, kcat_null, kisR_ref, kisR_null, ksz_nil, ksz_iv, ksz_ref, ksz_null, ksz_lv, kfit_int, kfit_long, kfit_obj, kfit_objN, kfit_arr, kfit_arrN, knarI, knarZ0, knarZ1, kret_v, kret_n, kret_x, Nat.reduceAdd, Nat.reduceLeDiff, reduceCtorEq, Int.reduceLE, Int.reduceLT, Int.reduceEq, ite_true, ite_false, true_or, or_true, false_implies, true_implies, not_true_eq_false, not_false_eq_true, and_self, eq_self, klc_lt, klc_ge, klc_le, klc_gt, klc_eq, kmu_eq, kmu_f, kmu_i, kmu_j, q47, y6', Nat.zero_le, show 1 ≤ d by omega]
      refine c74 hA v rw0 (fun u' a b' z => by have := XI0.2.2.1.2.2.1 u' a b' z; omega) FI0.1.2.2.1 (u := u) (m := R 79 0 u) (by omega) h1.1 (by rw [e26]; exact h1.2) e78 (by rw [e79]) u3 (by rw [e15]; exact u4) (by rw [kmu_f (by decide)]; exact u5) (by rw [kmu_f (by decide)]; exact u6) (fun g x y => by have := pl g x y; omega) g2 (fun C1 a1 a2 => ?_)
      have hz := fun {Q} {C1} => j166_0 (E := E) (d := D) (c := c) (l := l) (Q := Q) (J := J) (C := C1) hA v rw (by omega) hu h1 h2 u3 (fun g x y => by have := XI.2.2.1.2.2.2.2.2.2 g x y; omega) g2
      have B1 : kBI V C1 (f166 (kmu R 9 0 0 0) u) := kBI_F FI.1 a2 (fun f hf => a1 f (by omega) (by omega) (by omega) (by omega) (by omega)) (fun f q hf _ => by rw [a1 f (by omega) (by omega) (by omega) (by omega) (by omega)]) rw (fun f hf => xx f (by omega) (by omega) (by omega) (by omega) (by omega) (by omega) (by omega) (by omega)) (x9 7 (by decide) (by decide)) (x9 15 (by decide) (by decide))
      have B2 := kBI_5 B1 (m := R 79 0 u) u3 (by rw [x9 15 (by decide) (by decide)]; exact u4)
      have cc : ∀ f, f = 0 ∨ f = 5 ∨ f = 7 ∨ f = 27 ∨ f = 30 ∨ f = 31 → C1 f = C f := a1.mi
      have M1 : kMI (kmu C1 0 0 5 (100 + R 79 0 u)) (f166 (kmu R 9 0 0 0) u) := by
        obtain ⟨M1, M2, M3, M4, M5, M6⟩ := FI.2
        refine ⟨by rw [kmu_j (by decide), cc 0 (by omega), x9 1 (by decide) (by decide)]; exact M1, by rw [kmu_f (by decide), cc 5 (by omega), x9 3 (by decide) (by decide)]; exact M2, fun j a b => ?_, kRg_c M4 (by rw [kmu_ff (by decide)]; exact cc 7 (by omega)) (by rw [kmu_ff (by decide)]; exact cc 27 (by omega)) (x9 36 (by decide) (by decide)) (xx 85 (by decide) (by decide) (by decide) (by decide) (by decide) (by decide) (by decide) (by decide)), fun g a b => ?_, Or.inr ⟨R 79 0 u, u3, by rw [x9 15 (by decide) (by decide)]; exact u4, kmu_eq, ?_, ?_, fun i i0 i1 => ?_⟩⟩
        · rw [x9 3 (by decide) (by decide)] at b
          rw [kmu_f (by decide), cc 31 (by omega), xx 52 (by decide) (by decide) (by decide) (by decide) (by decide) (by decide) (by decide) (by decide)]; exact M3 j a b
        · rw [kmu_f (by decide), cc 30 (by omega), xx 54 (by decide) (by decide) (by decide) (by decide) (by decide) (by decide) (by decide) (by decide)]; exact M5 g a b
        · rw [xx 68 (by decide) (by decide) (by decide) (by decide) (by decide) (by decide) (by decide) (by decide)]; exact u5
        · rw [x32, xx 70 (by decide) (by decide) (by decide) (by decide) (by decide) (by decide) (by decide) (by decide)]
        · rw [xx 70 (by decide) (by decide) (by decide) (by decide) (by decide) (by decide) (by decide) (by decide)] at i1
          rw [xx 72 (by decide) (by decide) (by decide) (by decide) (by decide) (by decide) (by decide) (by decide), xx 73 (by decide) (by decide) (by decide) (by decide) (by decide) (by decide) (by decide) (by decide), kf 83 (by decide) (by decide) (by decide) (by decide) (by decide), kf 84 (by decide) (by decide) (by decide) (by decide) (by decide)]
          exact g7 i i0 i1
      have := H J A V _ _ c l (.inl (some (iv (R 70 0 (R 79 0 u))))) (some (iv (R 70 0 (R 79 0 u)))) ⟨hA, v, hE, k1', ⟨B2, M1⟩, k2'⟩ kEx0_rfl (by omega) (by omega) (fun _ Q' z => hz.mpr z) (Or.inl ⟨rfl, x0⟩) (Or.inr ⟨rfl, _, rfl, by unfold kR; omega⟩)
      have e5 : 0 ≤ kmu C1 0 0 5 (100 + R 79 0 u) 0 0 5 := by rw [kmu_eq]; omega
      have c6 : C1 6 = C 6 := a1 6 (by decide) (by decide) (by decide) (by decide) (by decide)
      have h100 : 0 ≤ 100 + R 79 0 u := by omega
      simp (disch := first | assumption | (unfold kR; decide) | exact klc_R | (unfold kR; omega) | omega | (unfold kL; omega) | exact kcat_null | exact kcat_ref _ | exact kcat_iv _) only [r36_32, r36_35, r36_36, r36_39, r36_42, ho_0_5 hA v.l0, hp_0_5 hA v.l0, hpn_0_5 hA v.l0, hg_0_5 hA v.l0, hgn_0_5 hA v.l0, ho_6_5 hA, hg_6_5 hA, true_and, and_true, kk1_i, kk1_r, kk1_n, kk1_0, kcat_iv, kcat_ref, kcat_null, kisR_ref, kisR_null, ksz_nil, ksz_iv, ksz_ref, ksz_null, ksz_lv, kfit_int, kfit_long, kfit_obj, kfit_objN, kfit_arr, kfit_arrN, knarI, knarZ0, knarZ1, kret_v, kret_n, kret_x, Nat.reduceAdd, Nat.reduceLeDiff, reduceCtorEq, Int.reduceLE, Int.reduceLT, Int.reduceEq, ite_true, ite_false, true_or, or_true, false_implies, true_implies, not_true_eq_false, not_false_eq_true, and_self, eq_self, klc_lt, klc_ge, klc_le, klc_gt, klc_eq, kmu_eq, kmu_f, kmu_i, kmu_j, c6, z13]
      exact this
    · have := H.x I (J := J) (e := 1) (x := 2) (b := some (iv 0)) (by simp) (by omega) (by omega) (fun _ Q' z => (j166_2 hA v rw (by omega) hu h1 h2).mpr z) (Or.inr ⟨rfl, rfl⟩)
      simp (disch := first | assumption | (unfold kR; decide) | exact klc_R | (unfold kR; omega) | omega | (unfold kL; omega) | exact kcat_null | exact kcat_ref _ | exact kcat_iv _) only [r36_0, r36_1, r36_2, r36_5, r36_6, r36_7, r36_10, r36_13, ht_0 hA v.l0, ho_8_3 hA, hg_8_3 hA, true_and, and_true, kk1_i, kk1_r, kk1_n, kk1_0, kcat_iv, kcat_ref, kcat_null, kisR_ref, kisR_null, ksz_nil, ksz_iv, ksz_ref, ksz_null, ksz_lv, kfit_int, kfit_long, kfit_obj, kfit_objN, kfit_arr, kfit_arrN, knarI, knarZ0, knarZ1, kret_v, kret_n, kret_x, Nat.reduceAdd, Nat.reduceLeDiff, reduceCtorEq, Int.reduceLE, Int.reduceLT, Int.reduceEq, ite_true, ite_false, true_or, or_true, false_implies, true_implies, not_true_eq_false, not_false_eq_true, and_self, eq_self, klc_lt, klc_ge, klc_le, klc_gt, klc_eq, kmu_eq, kmu_f, kmu_i, kmu_j, q47, y6, h2, Nat.zero_le, show 1 ≤ d by omega]
      exact ⟨by omega, by omega, by omega, this⟩
  · have := H.x I (J := J) (e := 2) (x := 1) (b := some (iv 0)) (by simp) (by omega) (by omega) (fun _ Q' z => (j166_1 hA v rw (by omega) hu h1).mpr z) (Or.inr ⟨rfl, rfl⟩)
    have q47 := fun {Q} => c47x (E := E) (d := d - 1) (c := c) (l := l) (Q := Q) (J := J) (R := R) hA v rw F hu (by omega) h1
    simp (disch := first | assumption | (unfold kR; decide) | exact klc_R | (unfold kR; omega) | omega | (unfold kL; omega) | exact kcat_null | exact kcat_ref _ | exact kcat_iv _) only [r36_0, r36_1, r36_2, ht_0 hA v.l0, true_and, and_true, kk1_i, kk1_r, kk1_n, kk1_0, kcat_iv, kcat_ref, kcat_null, kisR_ref, kisR_null, ksz_nil, ksz_iv, ksz_ref, ksz_null, ksz_lv, kfit_int, kfit_long, kfit_obj, kfit_objN, kfit_arr, kfit_arrN, knarI, knarZ0, knarZ1, kret_v, kret_n, kret_x, Nat.reduceAdd, Nat.reduceLeDiff, reduceCtorEq, Int.reduceLE, Int.reduceLT, Int.reduceEq, ite_true, ite_false, true_or, or_true, false_implies, true_implies, not_true_eq_false, not_false_eq_true, and_self, eq_self, klc_lt, klc_ge, klc_le, klc_gt, klc_eq, kmu_eq, kmu_f, kmu_i, kmu_j, q47, Nat.zero_le, show 1 ≤ d by omega]
    exact ⟨by omega, by omega, this⟩
/-- make -/
theorem t31 (I : kIv E A V C R t) (ht : t ≤ 600) {k w : Int} (hk : kR k) (hw : kR w) (hd : 40 ≤ d) (hD : 40 ≤ D) (hc : 121 ≤ c) (hl : 2786 ≤ l) (H : kEnd E D 156 (fun A => [some (.ref (A 9 0)), some (iv k), some (iv w), none, none]) [(2, 1), (0, 2), (1, 3), (3, 4)] V A R t c l Q) :
    ka_W (kp E) (d, (31, 0, [some (.ref (A 0 0)), some (iv k), some (iv w), none, none], []), (kHp J A V C R, c, l)) Q := by
  have hI := I
  obtain ⟨hA, v, hE, rw, FI, XI⟩ := hI
  have F := FI.1.2.2.1
  have bk := FI.1.2.2.2.1
  have B7 := rw.i7
  have B15 := rw.i15
  have B26 := rw.i26
  by_cases h1 : 0 ≤ k ∧ k ≤ R 9 0 7 - 1
  · have q45 := fun {Q} => c45 (E := E) (d := d - 1) (c := c) (l := l) (Q := Q) (J := J) (R := R) hA v rw FI.1 (by omega) h1
    by_cases h2 : 0 ≤ w ∧ w ≤ 4
    · have rw0 : kRW V (kmu R 9 0 0 0) := rw.pi0 (by omega) (by omega)
      have FI0 := kFI_0 FI (x := 0)
      have XI0 : kXI (kmu R 9 0 0 0) t := kXI_9 XI (by omega) (fun f a _ _ _ _ _ => kmu_ff a) (kmu_j (by decide)) (kmu_j (by decide)) (kmu_j (by decide))
      have e15 : kmu R 9 0 0 0 9 0 15 = R 9 0 15 := kmu_j (by decide)
      have e7 : kmu R 9 0 0 0 9 0 7 = R 9 0 7 := kmu_j (by decide)
      have e61 : kmu R 9 0 0 0 61 = R 61 := kmu_ff (by decide)
      have e138 : f138 (kmu R 9 0 0 0) k = f138 R k := f138_c (kmu_j (by decide)) (kmu_ff (by decide)) (kmu_ff (by decide)) k
      obtain ⟨b1, b2, b3, b4⟩ := f138_b rw bk h1
      have B61 := rw.a61 (j := f138 R k) (by omega) (by omega)
      obtain ⟨⟨s1, s2, s3, s4⟩, -, -, s5⟩ := FI.1.2.1.2.2.2.1 k (f138 R k - 4 * k) h1.1 (by omega) (by omega) (by omega)
      have ei : 4 * k + (f138 R k - 4 * k) = f138 R k := by omega
      rw [ei] at s1 s2 s3 s4 s5
      have i0 : 0 ≤ f138 R k := by omega
      have vk := (FI.1.2.1.2.2.1 k h1.1 (by omega)).1
      have v101 := v.2.2.1
      have F3 := F.2.2.1
      have gate : ∀ {Q}, ka_W (kp E) (d, (31, 27, [some (.ref (A 0 0)), some (iv k), some (iv w), some (.ref (A 3 k)), some (.ref (A 6 (f138 R k)))], [iv (R 61 0 (f138 R k))]), (kHp J A V C R, c, l)) Q → ka_W (kp E) (d, (31, 0, [some (.ref (A 0 0)), some (iv k), some (iv w), none, none], []), (kHp J A V C R, c, l)) Q := by
        intro Q z
        simp (disch := first | assumption | (unfold kR; decide) | exact klc_R | (unfold kR; omega) | omega | (unfold kL; omega) | exact kcat_null | exact kcat_ref _ | exact kcat_iv _) only [r31_0, r31_1, r31_2, r31_5, r31_6, r31_7, r31_8, r31_9, r31_12, r31_13, r31_14, r31_17, ht_0 hA v.l0, ho_0_6 hA v.l0, hg_0_6 hA v.l0, ht_3 hA, true_and, and_true, kk1_i, kk1_r, kk1_n, kk1_0, kcat_iv, kcat_ref, kcat_null, kisR_ref, kisR_null, ksz_nil, ksz_iv, ksz_ref, ksz_null, ksz_lv, kfit_int, kfit_long, kfit_obj, kfit_objN, kfit_arr, kfit_arrN, knarI, knarZ0, knarZ1, kret_v, kret_n, kret_x, Nat.reduceAdd, Nat.reduceLeDiff, reduceCtorEq, Int.reduceLE, Int.reduceLT, Int.reduceEq, ite_true, ite_false, true_or, or_true, false_implies, true_implies, not_true_eq_false, not_false_eq_true, and_self, eq_self, klc_lt, klc_ge, klc_le, klc_gt, klc_eq, kmu_eq, kmu_f, kmu_i, kmu_j, q45, c42, h2, FI.2.1, Nat.zero_le, show 1 ≤ d by omega]
        refine c82 hA v rw FI.1 XI.2.2.2.1.1 h1.1 (by omega) ?_
        simp (disch := first | assumption | (unfold kR; decide) | exact klc_R | (unfold kR; omega) | omega | (unfold kL; omega) | exact kcat_null | exact kcat_ref _ | exact kcat_iv _) only [r31_20, r31_22, r31_24, ho_6_5 hA, hg_6_5 hA, true_and, and_true, kk1_i, kk1_r, kk1_n, kk1_0, kcat_iv, kcat_ref, kcat_null, kisR_ref, kisR_null, ksz_nil, ksz_iv, ksz_ref, ksz_null, ksz_lv, kfit_int, kfit_long, kfit_obj, kfit_objN, kfit_arr, kfit_arrN, knarI, knarZ0, knarZ1, kret_v, kret_n, kret_x, Nat.reduceAdd, Nat.reduceLeDiff, reduceCtorEq, Int.reduceLE, Int.reduceLT, Int.reduceEq, ite_true, ite_false, true_or, or_true, false_implies, true_implies, not_true_eq_false, not_false_eq_true, and_self, eq_self, klc_lt, klc_ge, klc_le, klc_gt, klc_eq, kmu_eq, kmu_f, kmu_i, kmu_j, s5]
        exact z
      refine gate ?_
      by_cases h3 : R 61 0 (f138 R k) = 0
      · have := H.x I (J := J) (e := 1) (x := 3) (b := some (iv 0)) (by simp) (by omega) (by omega) (fun _ Q' z => (j156_3 hA v rw bk (by omega) hk hw h1 h2 h3).mpr z) (Or.inr ⟨rfl, rfl⟩)
        simp (disch := first | assumption | (unfold kR; decide) | exact klc_R | (unfold kR; omega) | omega | (unfold kL; omega) | exact kcat_null | exact kcat_ref _ | exact kcat_iv _) only [r31_27, r31_30, true_and, and_true, kk1_i, kk1_r, kk1_n, kk1_0, kcat_iv, kcat_ref, kcat_null, kisR_ref, kisR_null, ksz_nil, ksz_iv, ksz_ref, ksz_null, ksz_lv, kfit_int, kfit_long, kfit_obj, kfit_objN, kfit_arr, kfit_arrN, knarI, knarZ0, knarZ1, kret_v, kret_n, kret_x, Nat.reduceAdd, Nat.reduceLeDiff, reduceCtorEq, Int.reduceLE, Int.reduceLT, Int.reduceEq, ite_true, ite_false, true_or, or_true, false_implies, true_implies, not_true_eq_false, not_false_eq_true, and_self, eq_self, klc_lt, klc_ge, klc_le, klc_gt, klc_eq, kmu_eq, kmu_f, kmu_i, kmu_j, h3]
        exact ⟨by omega, by omega, by omega, this⟩
      · by_cases h4 : R 9 0 15 = 40
        · have := H.x I (J := J) (e := 3) (x := 4) (b := some (iv 0)) (by simp) (by omega) (by omega) (fun _ Q' z => (j156_4 hA v rw bk (by omega) hk hw h1 h2 h3 h4).mpr z) (Or.inr ⟨rfl, rfl⟩)
          simp (disch := first | assumption | (unfold kR; decide) | exact klc_R | (unfold kR; omega) | omega | (unfold kL; omega) | exact kcat_null | exact kcat_ref _ | exact kcat_iv _) only [r31_27, r31_40, r31_41, r31_44, r31_47, r31_50, r31_52, r31_55, ho_0_3 hA v.l0, hg_0_3 hA v.l0, ho_2_0 hA v.l2, hg_2_0 hA v.l2, ht_10 hA, true_and, and_true, kk1_i, kk1_r, kk1_n, kk1_0, kcat_iv, kcat_ref, kcat_null, kisR_ref, kisR_null, ksz_nil, ksz_iv, ksz_ref, ksz_null, ksz_lv, kfit_int, kfit_long, kfit_obj, kfit_objN, kfit_arr, kfit_arrN, knarI, knarZ0, knarZ1, kret_v, kret_n, kret_x, Nat.reduceAdd, Nat.reduceLeDiff, reduceCtorEq, Int.reduceLE, Int.reduceLT, Int.reduceEq, ite_true, ite_false, true_or, or_true, false_implies, true_implies, not_true_eq_false, not_false_eq_true, and_self, eq_self, klc_lt, klc_ge, klc_le, klc_gt, klc_eq, kmu_eq, kmu_f, kmu_i, kmu_j, h3, c180 hA v101, F3, h4, Nat.zero_le, show 1 ≤ d by omega]
          exact ⟨by omega, by omega, by omega, this⟩
        · obtain ⟨U0, U1, U2, H0, Fr, Fu, Pl⟩ := XI0.2.2.1
          obtain ⟨g1, g2, g3⟩ := f156b_g rw0 FI0.1.2.2.2.1 XI0.2.1 XI0.2.2.1 (k := k) (w := w) h1.1 (by rw [e7]; omega) h2.1 h2.2 (by rw [e15]; omega)
          obtain ⟨o1, o2, o3, o66, o67, o68, o70, on, oo⟩ := f156b_q (X := kmu R 9 0 0 0) (k := k) (w := w)
          rw [e15] at o1 o68 o70 oo
          have o3' : ∀ f, f ≠ 9 → f ≠ 66 → f ≠ 67 → f ≠ 68 → f ≠ 70 → f ≠ 72 → f ≠ 73 → f ≠ 74 → f156b (kmu R 9 0 0 0) k w f = R f := fun f a1 a2 a3 a4 a5 a6 a7 a8 => (o3 f a1 a2 a3 a4 a5 a6 a7 a8).trans (kmu_ff a1)
          obtain ⟨k1, k2, k3⟩ := kXI_f hA v XI g1 g2 g3 (by omega) (fun f hf => o3' f (by omega) (by omega) (by omega) (by omega) (by omega) (by omega) (by omega) (by omega)) (by rw [o2 7 (by decide), kmu_j (by decide)]) (by
            intro m' m0 m1
            rw [o1] at m1
            rw [o3' 69 (by decide) (by decide) (by decide) (by decide) (by decide) (by decide) (by decide) (by decide), o70]
            by_cases e : m' = R 9 0 15 + 1
            · rw [if_pos e, e61, e138]
              have := (Fr m' (by rw [e15]; omega) (by omega)).1
              rw [kmu_f (by decide)] at this
              omega
            · rw [if_neg e, kmu_f (by decide)]
              exact XI.2.2.2.2 m' m0 (by omega))
          have kf : ∀ f, f ≠ 55 → f ≠ 75 → f ≠ 78 → f ≠ 80 → f ≠ 81 → f156 (kmu R 9 0 0 0) k w f = f156b (kmu R 9 0 0 0) k w f := fun f a1 a2 a3 a4 a5 => k3.1 f a1 a2 a3 a4 a5
          have xx : ∀ f, f ≠ 9 → f ≠ 55 → f ≠ 75 → f ≠ 78 → f ≠ 80 → f ≠ 81 → f ≠ 66 → f ≠ 67 → f ≠ 68 → f ≠ 70 → f ≠ 72 → f ≠ 73 → f ≠ 74 → f156 (kmu R 9 0 0 0) k w f = R f := fun f a1 a2 a3 a4 a5 a6 a7 a8 a9 a10 a11 a12 a13 => (kf f a2 a3 a4 a5 a6).trans (o3' f a1 a7 a8 a9 a10 a11 a12 a13)
          have x9 : ∀ j, j ≠ 0 → j ≠ 15 → f156 (kmu R 9 0 0 0) k w 9 0 j = R 9 0 j := fun j a1 a2 => by
            rw [kf 9 (by decide) (by decide) (by decide) (by decide) (by decide), o2 j a2, kmu_j a1]
          have x15 : f156 (kmu R 9 0 0 0) k w 9 0 15 = R 9 0 15 + 1 := by rw [kf 9 (by decide) (by decide) (by decide) (by decide) (by decide), o1]
          have x0 : f156 (kmu R 9 0 0 0) k w 9 0 0 = 0 := by rw [kf 9 (by decide) (by decide) (by decide) (by decide) (by decide), o2 0 (by decide), kmu_eq]
          simp (disch := first | assumption | (unfold kR; decide) | exact klc_R | (unfold kR; omega) | omega | (unfold kL; omega) | exact kcat_null | exact kcat_ref _ | exact kcat_iv _) only [r31_27, r31_40, r31_41, r31_44, r31_47, r31_50, r31_52, r31_65, r31_66, r31_69, r31_70, r31_72, r31_73, ho_0_3 hA v.l0, hg_0_3 hA v.l0, ho_2_0 hA v.l2, hg_2_0 hA v.l2, ht_10 hA, ht_2 hA v.l2, true_and, and_true, kk1_i, kk1_r, kk1_n, kk1_0, kcat_iv, kcat_ref, kcat_null, kisR_ref, kisR_null, ksz_nil, ksz_iv, ksz_ref, ksz_null, ksz_lv, kfit_int, kfit_long, kfit_obj, kfit_objN, kfit_arr, kfit_arrN, knarI, knarZ0, knarZ1, kret_v, kret_n, kret_x, Nat.reduceAdd, Nat.reduceLeDiff, reduceCtorEq, Int.reduceLE, Int.reduceLT, Int.reduceEq, ite_true, ite_false, true_or, or_true, false_implies, true_implies, not_true_eq_false, not_false_eq_true, and_self, eq_self, klc_lt, klc_ge, klc_le, klc_gt, klc_eq, kmu_eq, kmu_f, kmu_i, kmu_j, h3, c180 hA v101, F3, show R 9 0 15 < 40 by omega, Nat.zero_le, show 1 ≤ d by omega]
          rw [← e138]
          refine c68 hA v hE rw0 FI0.1 Fr U1 U0 (k := k) (w := w) (m := R 9 0 15 + 1) h1.1 (by rw [e7]; omega) h2.1 h2.2 (by rw [e15]) (by omega) g2 (by omega) (by omega) (by omega) (fun J1 A1 V1 C1 c1 l1 a1 a2 a3 a4 a5 a6 a7 a8 => ?_)
          have v1 := a2.lv v
          have hz := fun {Q} {C9} => j156_0 (E := E) (d := D) (c := c1) (l := l1) (Q := Q) (J := J1) (C := C9) a1 v1 (a2.rw rw) bk (by omega) hk hw h1 h2 h3 (by omega) g2
          have M1 : kMI C1 (f156 (kmu R 9 0 0 0) k w) := kMI_f rw FI.2 (fun f hf => a6 f (by omega) (by omega) (by omega) (by omega) (by omega) (by omega) (by omega) (by omega) (by omega) (by omega) (by omega) (by omega)) (fun f hf => xx f (by omega) (by omega) (by omega) (by omega) (by omega) (by omega) (by omega) (by omega) (by omega) (by omega) (by omega) (by omega) (by omega)) (fun j hj => x9 j (by omega) (by omega)) (by rw [x15]; omega) (fun m' b0 b1 z => by
            rw [kf 68 (by decide) (by decide) (by decide) (by decide) (by decide), o68, if_neg (by omega), kf 70 (by decide) (by decide) (by decide) (by decide) (by decide), o70, if_neg (by omega), kf 72 (by decide) (by decide) (by decide) (by decide) (by decide), kf 73 (by decide) (by decide) (by decide) (by decide) (by decide), kmu_f (by decide), kmu_f (by decide)]
            refine ⟨z, rfl, fun i i0 i1 => ?_⟩
            obtain ⟨w1, w2, -⟩ := oo (5 * m' + i) (by omega)
            rw [w1, w2, kmu_f (by decide), kmu_f (by decide)]
            exact ⟨rfl, rfl⟩)
          have := H J1 A1 V1 C1 _ c1 l1 (.inl (some (iv (R 9 0 15 + 1)))) (some (iv (R 9 0 15 + 1))) ⟨a1, v1, by rw [(a2 34 0 (by decide) v.l34).2]; exact hE, a2.rw k1, ⟨a3, M1⟩, k2⟩ a2.e0 (by omega) (by omega) (fun _ Q' z => hz.mpr z) (Or.inl ⟨rfl, x0⟩) (Or.inr ⟨rfl, _, rfl, by unfold kR; omega⟩)
          simp (disch := first | assumption | (unfold kR; decide) | exact klc_R | (unfold kR; omega) | omega | (unfold kL; omega) | exact kcat_null | exact kcat_ref _ | exact kcat_iv _) only [r31_76, r31_79, ho_4_0 a1 a4, hg_4_0 a1 a4, true_and, and_true, kk1_i, kk1_r, kk1_n, kk1_0, kcat_iv, kcat_ref, kcat_null, kisR_ref, kisR_null, ksz_nil, ksz_iv, ksz_ref, ksz_null, ksz_lv, kfit_int, kfit_long, kfit_obj, kfit_objN, kfit_arr, kfit_arrN, knarI, knarZ0, knarZ1, kret_v, kret_n, kret_x, Nat.reduceAdd, Nat.reduceLeDiff, reduceCtorEq, Int.reduceLE, Int.reduceLT, Int.reduceEq, ite_true, ite_false, true_or, or_true, false_implies, true_implies, not_true_eq_false, not_false_eq_true, and_self, eq_self, klc_lt, klc_ge, klc_le, klc_gt, klc_eq, kmu_eq, kmu_f, kmu_i, kmu_j, a5]
          exact this
    · have := H.x I (J := J) (e := 0) (x := 2) (b := some (iv 0)) (by simp) (by omega) (by omega) (fun _ Q' z => (j156_2 hA v rw (by omega) hk hw h1 h2).mpr z) (Or.inr ⟨rfl, rfl⟩)
      simp (disch := first | assumption | (unfold kR; decide) | exact klc_R | (unfold kR; omega) | omega | (unfold kL; omega) | exact kcat_null | exact kcat_ref _ | exact kcat_iv _) only [r31_0, r31_1, r31_2, r31_5, r31_6, r31_7, r31_8, r31_9, ht_0 hA v.l0, true_and, and_true, kk1_i, kk1_r, kk1_n, kk1_0, kcat_iv, kcat_ref, kcat_null, kisR_ref, kisR_null, ksz_nil, ksz_iv, ksz_ref, ksz_null, ksz_lv, kfit_int, kfit_long, kfit_obj, kfit_objN, kfit_arr, kfit_arrN, knarI, knarZ0, knarZ1, kret_v, kret_n, kret_x, Nat.reduceAdd, Nat.reduceLeDiff, reduceCtorEq, Int.reduceLE, Int.reduceLT, Int.reduceEq, ite_true, ite_false, true_or, or_true, false_implies, true_implies, not_true_eq_false, not_false_eq_true, and_self, eq_self, klc_lt, klc_ge, klc_le, klc_gt, klc_eq, kmu_eq, kmu_f, kmu_i, kmu_j, q45, c42x, h2, Nat.zero_le, show 1 ≤ d by omega]
      exact ⟨by omega, by omega, by omega, this⟩
  · have := H.x I (J := J) (e := 2) (x := 1) (b := some (iv 0)) (by simp) (by omega) (by omega) (fun _ Q' z => (j156_1 hA v rw (by omega) hk h1).mpr z) (Or.inr ⟨rfl, rfl⟩)
    have q45 := fun {Q} => c45x (E := E) (d := d - 1) (c := c) (l := l) (Q := Q) (J := J) (R := R) hA v rw FI.1 hk (by omega) h1
    simp (disch := first | assumption | (unfold kR; decide) | exact klc_R | (unfold kR; omega) | omega | (unfold kL; omega) | exact kcat_null | exact kcat_ref _ | exact kcat_iv _) only [r31_0, r31_1, r31_2, ht_0 hA v.l0, true_and, and_true, kk1_i, kk1_r, kk1_n, kk1_0, kcat_iv, kcat_ref, kcat_null, kisR_ref, kisR_null, ksz_nil, ksz_iv, ksz_ref, ksz_null, ksz_lv, kfit_int, kfit_long, kfit_obj, kfit_objN, kfit_arr, kfit_arrN, knarI, knarZ0, knarZ1, kret_v, kret_n, kret_x, Nat.reduceAdd, Nat.reduceLeDiff, reduceCtorEq, Int.reduceLE, Int.reduceLT, Int.reduceEq, ite_true, ite_false, true_or, or_true, false_implies, true_implies, not_true_eq_false, not_false_eq_true, and_self, eq_self, klc_lt, klc_ge, klc_le, klc_gt, klc_eq, kmu_eq, kmu_f, kmu_i, kmu_j, q45, Nat.zero_le, show 1 ≤ d by omega]
    exact ⟨by omega, by omega, this⟩
end
