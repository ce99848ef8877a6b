/-! Calls: sign, price, ring, row. -/
section
variable {E : Nat × Nat} {d D yr c l : Nat} {s : ka_S} {h : ka_H} {Q : ka_Q} {J : ka_H} {A A' : ka_A} {V V' : ka_V} {C C' R R' X X' X'' Y Z : ka_M} {t : Int} {ag : ka_A → List (Option Value)} {ex : List (Nat × Int)}
theorem kchr_s {x : Int} (h0 : 0 ≤ x) (h1 : x ≤ 126) : kchr x = x := by
  obtain ⟨n, rfl⟩ : ∃ n : Nat, x = n := ⟨x.toNat, by omega⟩
  have : ∀ n : Nat, n < 127 → kchr (n : Int) = n := by decide
  exact this n (by omega)
theorem knar_c {x : Int} (h0 : 0 ≤ x) (h1 : x ≤ 126) : narrow .char (iv x) = iv x := by
  obtain ⟨n, rfl⟩ : ∃ n : Nat, x = n := ⟨x.toNat, by omega⟩
  have : ∀ n : Nat, n < 127 → (Int32.ofInt (n : Int)).toUInt32.toUInt16.toUInt32.toInt32 = Int32.ofInt n := by decide
  simp only [narrow, iv]
  rw [this n (by omega)]
/-- numbers of the program's that the relation of book and floor doesn't know -/
theorem kBI_cq (B : kBI V C X) (hC : ∀ f, f ≠ 0 → f ≠ 5 → f ≠ 7 → f ≠ 26 → f ≠ 27 → f ≠ 30 → f ≠ 31 → C' f = C f) (h5 : C' 0 0 5 = C 0 0 5) : kBI V C' X := by
  obtain ⟨VI, K, F, Bk, P, M⟩ := B
  have c10 := hC 10 (by decide) (by decide) (by decide) (by decide) (by decide) (by decide) (by decide)
  have c33 := hC 33 (by decide) (by decide) (by decide) (by decide) (by decide) (by decide) (by decide)
  have c3 := hC 3 (by decide) (by decide) (by decide) (by decide) (by decide) (by decide) (by decide)
  have cc := fun f (hf : f = 6 ∨ f = 20 ∨ f = 21 ∨ f = 22 ∨ f = 32 ∨ f = 25) => hC f (by omega) (by omega) (by omega) (by omega) (by omega) (by omega) (by omega)
  refine ⟨?_, ?_, ?_, Bk, ?_, M⟩
  · unfold kVI
    rw [c10, c3]
    exact VI
  · unfold kRK kLs
    rw [c10, c3, c33, cc 6 (by omega), cc 20 (by omega), cc 21 (by omega), cc 22 (by omega), cc 32 (by omega), cc 25 (by omega)]
    exact K
  · exact kRF_fr F (fun _ _ _ z => z) (fun _ _ z => z) (fun f hf => hC f (by omega) (by omega) (by omega) (by omega) (by omega) (by omega) (by omega)) (fun f q hf _ => by rw [hC f (by omega) (by omega) (by omega) (by omega) (by omega) (by omega) (by omega)]) (fun q _ => by rw [c10]) (fun q _ => by rw [c33]) rfl rfl (fun f hf => rfl) (fun m _ _ => rfl)
  · unfold kCp3
    rw [c10, h5]
    exact P
theorem kBI_9 (B : kBI V C X) (hX : ∀ f, f ≠ 9 → f ≠ 52 → f ≠ 54 → f ≠ 83 → f ≠ 84 → f ≠ 85 → f ≠ 87 → f ≠ 88 → X' f = X f) (h7 : X' 9 0 7 = X 9 0 7) (h15 : X' 9 0 15 = X 9 0 15) (h26 : X' 9 0 26 = X 9 0 26) : kBI V C X' := by
  obtain ⟨VI, ⟨K1, K2, K3, K4, K5, K6, K7⟩, F, Bk, P, M⟩ := B
  have xx := fun f (hf : f = 55 ∨ f = 56 ∨ f = 58 ∨ f = 59 ∨ f = 60 ∨ f = 61 ∨ f = 62 ∨ f = 63 ∨ f = 64 ∨ f = 66 ∨ f = 67 ∨ f = 68 ∨ f = 69 ∨ f = 70 ∨ f = 71 ∨ f = 72 ∨ f = 73 ∨ f = 74 ∨ f = 75 ∨ f = 77 ∨ f = 78 ∨ f = 79 ∨ f = 80 ∨ f = 81) => hX f (by omega) (by omega) (by omega) (by omega) (by omega) (by omega) (by omega) (by omega)
  refine ⟨VI, ?_, ?_, ?_, P, ?_⟩
  · unfold kRK
    rw [h7, xx 58 (by omega), xx 59 (by omega), xx 60 (by omega), xx 61 (by omega), xx 62 (by omega), xx 63 (by omega), xx 64 (by omega), xx 56 (by omega)]
    refine ⟨K1, K2, K3, K4, K5, K6, fun g g0 g1 => ?_⟩
    obtain ⟨x1, x2, x3⟩ := K7 g g0 g1
    refine ⟨x1, x2, fun h h0 h1 => ?_⟩
    rw [klead_c (X := X) (xx 56 (by omega)) (xx 59 (by omega)) (xx 61 (by omega)) (xx 62 (by omega)) (xx 64 (by omega))]
    exact x3 h h0 h1
  · exact kRF_fr F (fun _ _ _ z => z) (fun _ _ z => z) (fun f hf => rfl) (fun f q hf _ => rfl) (fun q _ => rfl) (fun q _ => rfl) h15 h26 (fun f hf => xx f (by omega)) (fun m _ _ => by rw [xx 58 (by omega)])
  · exact Bk.c (xx 56 (by omega)) (xx 58 (by omega)) (xx 59 (by omega)) h7
  · rw [h15, h7, xx 66 (by omega)]
    exact M
/-- sign -/
theorem t21 (I : kIv E A V C R t) {x : Int} (hx : kR x) (hd : 40 ≤ d) (hD : 40 ≤ D) (hc : 121 ≤ c) (hl : 2786 ≤ l) (H : kEnd E D 122 (fun A => [some (.ref (A 9 0)), some (iv x)]) [(0, 1), (3, 2)] V A R t c l Q) :
    ka_W (kp E) (d, (21, 0, [some (.ref (A 0 0)), some (iv x)], []), (kHp J A V C R, c, l)) Q := by
  have hI := I
  obtain ⟨hA, v, hE, rw, ⟨B, M1, M2, M3, M4, M5, M6⟩, XI⟩ := hI
  have B3 := rw.i3
  by_cases h1 : x = 10 ∨ (32 ≤ x ∧ x ≤ 126)
  · have gate : ∀ {Q}, ka_W (kp E) (d, (21, 28, [some (.ref (A 0 0)), some (iv x)], []), (kHp J A V C R, c, l)) Q → ka_W (kp E) (d, (21, 0, [some (.ref (A 0 0)), some (iv x)], []), (kHp J A V C R, c, l)) Q := by
      intro Q z
      by_cases e : x = 10
      · simp (disch := first | assumption | (unfold kR; decide) | exact klc_R | (unfold kR; omega) | omega | (unfold kL; omega) | exact kcat_null | exact kcat_ref _ | exact kcat_iv _) only [r21_0, r21_1, r21_3, true_and, and_true, kk1_i, kk1_r, kk1_n, kk1_0, kcat_iv, kcat_ref, kcat_null, kisR_ref, kisR_null, ksz_nil, ksz_iv, ksz_ref, ksz_null, ksz_lv, kfit_int, kfit_long, kfit_obj, kfit_objN, kfit_arr, kfit_arrN, knarI, knarZ0, knarZ1, kret_v, kret_n, kret_x, Nat.reduceAdd, Nat.reduceLeDiff, reduceCtorEq, Int.reduceLE, Int.reduceLT, Int.reduceEq, ite_true, ite_false, true_or, or_true, false_implies, true_implies, not_true_eq_false, not_false_eq_true, and_self, eq_self, klc_lt, klc_ge, klc_le, klc_gt, klc_eq, kmu_eq, kmu_f, kmu_i, kmu_j, e] at z ⊢
        exact z
      · have e2 : 32 ≤ x ∧ x ≤ 126 := h1.resolve_left e
        simp (disch := first | assumption | (unfold kR; decide) | exact klc_R | (unfold kR; omega) | omega | (unfold kL; omega) | exact kcat_null | exact kcat_ref _ | exact kcat_iv _) only [r21_0, r21_1, r21_3, r21_6, r21_7, r21_9, r21_12, r21_13, r21_15, true_and, and_true, kk1_i, kk1_r, kk1_n, kk1_0, kcat_iv, kcat_ref, kcat_null, kisR_ref, kisR_null, ksz_nil, ksz_iv, ksz_ref, ksz_null, ksz_lv, kfit_int, kfit_long, kfit_obj, kfit_objN, kfit_arr, kfit_arrN, knarI, knarZ0, knarZ1, kret_v, kret_n, kret_x, Nat.reduceAdd, Nat.reduceLeDiff, reduceCtorEq, Int.reduceLE, Int.reduceLT, Int.reduceEq, ite_true, ite_false, true_or, or_true, false_implies, true_implies, not_true_eq_false, not_false_eq_true, and_self, eq_self, klc_lt, klc_ge, klc_le, klc_gt, klc_eq, kmu_eq, kmu_f, kmu_i, kmu_j, e, show ¬ x < 32 by omega, show x ≤ 126 by omega]
        exact z
    refine gate ?_
    by_cases h2 : R 9 0 3 = 1000
    · have := H.x I (J := J) (e := 3) (x := 2) (b := none) (by simp) (by omega) (by omega) (fun _ Q' z => (j122_2 hA v rw (by omega) hx h1 h2).mpr z) (Or.inl ⟨rfl, rfl⟩)
      simp (disch := first | assumption | (unfold kR; decide) | exact klc_R | (unfold kR; omega) | omega | (unfold kL; omega) | exact kcat_null | exact kcat_ref _ | exact kcat_iv _) only [r21_28, r21_29, r21_32, r21_35, r21_38, r21_41, ho_0_1 hA v.l0, hg_0_1 hA v.l0, ho_5_1 hA v.l5, hg_5_1 hA v.l5, true_and, and_true, kk1_i, kk1_r, kk1_n, kk1_0, kcat_iv, kcat_ref, kcat_null, kisR_ref, kisR_null, ksz_nil, ksz_iv, ksz_ref, ksz_null, ksz_lv, kfit_int, kfit_long, kfit_obj, kfit_objN, kfit_arr, kfit_arrN, knarI, knarZ0, knarZ1, kret_v, kret_n, kret_x, Nat.reduceAdd, Nat.reduceLeDiff, reduceCtorEq, Int.reduceLE, Int.reduceLT, Int.reduceEq, ite_true, ite_false, true_or, or_true, false_implies, true_implies, not_true_eq_false, not_false_eq_true, and_self, eq_self, klc_lt, klc_ge, klc_le, klc_gt, klc_eq, kmu_eq, kmu_f, kmu_i, kmu_j, M2, h2]
      exact ⟨by omega, by omega, by omega, this⟩
    · have x0 : 0 ≤ x ∧ x ≤ 126 := by omega
      have e1 : kmu (kmu (kmu R 9 0 0 0) 52 0 (R 9 0 3) x) 9 0 3 (R 9 0 3 + 1) 9 0 3 = R 9 0 3 + 1 := kmu_eq
      have e9 : ∀ j, j ≠ 3 → j ≠ 0 → kmu (kmu (kmu R 9 0 0 0) 52 0 (R 9 0 3) x) 9 0 3 (R 9 0 3 + 1) 9 0 j = R 9 0 j := fun j a b => by rw [kmu_j a, kmu_f (by decide), kmu_j b]
      have ef : ∀ f, f ≠ 9 → f ≠ 52 → kmu (kmu (kmu R 9 0 0 0) 52 0 (R 9 0 3) x) 9 0 3 (R 9 0 3 + 1) f = R f := fun f a b => by rw [kmu_ff a, kmu_ff b, kmu_ff a]
      have e52 : ∀ j, kmu (kmu (kmu R 9 0 0 0) 52 0 (R 9 0 3) x) 9 0 3 (R 9 0 3 + 1) 52 0 j = if j = R 9 0 3 then x else R 52 0 j := fun j => by
        rw [kmu_f (by decide)]
        by_cases e : j = R 9 0 3
        · rw [e, kmu_eq, if_pos rfl]
        · rw [kmu_j e, kmu_f (by decide), if_neg e]
      have e0 : kmu (kmu (kmu R 9 0 0 0) 52 0 (R 9 0 3) x) 9 0 3 (R 9 0 3 + 1) 9 0 0 = 0 := by rw [kmu_j (by decide), kmu_f (by decide), kmu_eq]
      have rw' : kRW V (kmu (kmu (kmu R 9 0 0 0) 52 0 (R 9 0 3) x) 9 0 3 (R 9 0 3 + 1)) := ((rw.pi0 (by omega) (by omega)).pa52 (by omega) (by omega)).pi3 (by omega) (by omega)
      have hz := fun {Q} {C9} => j122_0 (E := E) (d := D) (c := c) (l := l) (Q := Q) (J := J) (C := C9) hA v rw (by omega) hx h1 h2
      generalize kmu (kmu (kmu R 9 0 0 0) 52 0 (R 9 0 3) x) 9 0 3 (R 9 0 3 + 1) = R1 at *
      have kf : kFI V (kmu (kmu C 31 0 (R 9 0 3) x) 5 0 1 (R 9 0 3 + 1)) R1 := by
        refine ⟨kBI_cq (kBI_9 B (fun f a b _ _ _ _ _ _ => ef f a b) (e9 7 (by decide) (by decide)) (e9 15 (by decide) (by decide)) (e9 26 (by decide) (by decide))) (fun f _ a _ _ _ _ b => by rw [kmu_ff a, kmu_ff b]) (by rw [kmu_f (by decide), kmu_f (by decide)]), ?_, ?_, fun j a b => ?_, ?_, fun g a b => ?_, ?_⟩
        · rw [kmu_f (by decide), kmu_f (by decide), e9 1 (by decide) (by decide)]; exact M1
        · rw [kmu_eq, e1]
        · rw [e1] at b
          rw [kmu_f (by decide), e52]
          by_cases e : j = R 9 0 3
          · rw [e, kmu_eq, if_pos rfl]
          · rw [kmu_j e, if_neg e]; exact M3 j a (by omega)
        · exact kRg_c M4 (by rw [kmu_ff (by decide), kmu_ff (by decide)]) (by rw [kmu_ff (by decide), kmu_ff (by decide)]) (e9 36 (by decide) (by decide)) (ef 85 (by decide) (by decide))
        · rw [kmu_f (by decide), kmu_f (by decide), ef 54 (by decide) (by decide)]; exact M5 g a b
        · exact kBw_c M6 (by rw [kmu_f (by decide), kmu_f (by decide)]) (e9 32 (by decide) (by decide)) (e9 15 (by decide) (by decide)) (fun f hf => ef f (by omega) (by omega))
      have := H J A V _ R1 c l (.inl none) none ⟨hA, v, hE, rw', kf, kXI_9 XI (by omega) (fun f a b _ _ _ _ => ef f a b) (e9 7 (by decide) (by decide)) (e9 15 (by decide) (by decide)) (e9 26 (by decide) (by decide))⟩ kEx0_rfl (by omega) (by omega) (fun _ Q' z => hz.mpr z) (Or.inl ⟨rfl, e0⟩) (Or.inl ⟨rfl, rfl⟩)
      simp (disch := first | assumption | (unfold kR; decide) | exact klc_R | (unfold kR; omega) | omega | (unfold kL; omega) | exact kcat_null | exact kcat_ref _ | exact kcat_iv _) only [r21_28, r21_29, r21_32, r21_35, r21_38, r21_51, r21_52, r21_55, r21_56, r21_57, r21_60, ho_0_1 hA v.l0, hg_0_1 hA v.l0, ho_5_1 hA v.l5, hg_5_1 hA v.l5, ht_5 hA v.l5, true_and, and_true, kk1_i, kk1_r, kk1_n, kk1_0, kcat_iv, kcat_ref, kcat_null, kisR_ref, kisR_null, ksz_nil, ksz_iv, ksz_ref, ksz_null, ksz_lv, kfit_int, kfit_long, kfit_obj, kfit_objN, kfit_arr, kfit_arrN, knarI, knarZ0, knarZ1, kret_v, kret_n, kret_x, Nat.reduceAdd, Nat.reduceLeDiff, reduceCtorEq, Int.reduceLE, Int.reduceLT, Int.reduceEq, ite_true, ite_false, true_or, or_true, false_implies, true_implies, not_true_eq_false, not_false_eq_true, and_self, eq_self, klc_lt, klc_ge, klc_le, klc_gt, klc_eq, kmu_eq, kmu_f, kmu_i, kmu_j, M2, show R 9 0 3 < 1000 by omega, kchr_s x0.1 x0.2, Nat.zero_le, show 1 ≤ d by omega]
      simp (disch := first | assumption | (unfold kR; decide) | exact klc_R | (unfold kR; omega) | omega | (unfold kL; omega) | exact kcat_null | exact kcat_ref _ | exact kcat_iv _) only [r90_0, r90_1, r90_4, r90_7, r90_10, r90_11, r90_14, r90_15, r90_18, r90_19, r90_20, r90_21, r90_22, r90_25, r90_26, r90_27, r90_30, ho_5_1 hA v.l5, hg_5_1 hA v.l5, ho_5_0 hA v.l5, hg_5_0 hA v.l5, hoa_31 hA v.l31, hga_31 hA v.l31, hpa_31 hA v.l31, hp_5_1 hA v.l5, r21_60, true_and, and_true, kk1_i, kk1_r, kk1_n, kk1_0, kcat_iv, kcat_ref, kcat_null, kisR_ref, kisR_null, ksz_nil, ksz_iv, ksz_ref, ksz_null, ksz_lv, kfit_int, kfit_long, kfit_obj, kfit_objN, kfit_arr, kfit_arrN, knarI, knarZ0, knarZ1, kret_v, kret_n, kret_x, Nat.reduceAdd, Nat.reduceLeDiff, reduceCtorEq, Int.reduceLE, Int.reduceLT, Int.reduceEq, ite_true, ite_false, true_or, or_true, false_implies, true_implies, not_true_eq_false, not_false_eq_true, and_self, eq_self, klc_lt, klc_ge, klc_le, klc_gt, klc_eq, kmu_eq, kmu_f, kmu_i, kmu_j, M2, knar_c x0.1 x0.2, show ¬ (1000:Int) ≤ R 9 0 3 by omega]
      exact this
  · have := H.x I (J := J) (e := 0) (x := 1) (b := none) (by simp) (by omega) (by omega) (fun _ Q' z => (j122_1 hA v rw (by omega) hx (by omega) (by omega)).mpr z) (Or.inl ⟨rfl, rfl⟩)
    by_cases e : x < 32
    · simp (disch := first | assumption | (unfold kR; decide) | exact klc_R | (unfold kR; omega) | omega | (unfold kL; omega) | exact kcat_null | exact kcat_ref _ | exact kcat_iv _) only [r21_0, r21_1, r21_3, r21_6, r21_7, r21_9, r21_12, r21_13, r21_15, r21_18, true_and, and_true, kk1_i, kk1_r, kk1_n, kk1_0, kcat_iv, kcat_ref, kcat_null, kisR_ref, kisR_null, ksz_nil, ksz_iv, ksz_ref, ksz_null, ksz_lv, kfit_int, kfit_long, kfit_obj, kfit_objN, kfit_arr, kfit_arrN, knarI, knarZ0, knarZ1, kret_v, kret_n, kret_x, Nat.reduceAdd, Nat.reduceLeDiff, reduceCtorEq, Int.reduceLE, Int.reduceLT, Int.reduceEq, ite_true, ite_false, true_or, or_true, false_implies, true_implies, not_true_eq_false, not_false_eq_true, and_self, eq_self, klc_lt, klc_ge, klc_le, klc_gt, klc_eq, kmu_eq, kmu_f, kmu_i, kmu_j, show ¬ x = 10 by omega, e]
      exact ⟨by omega, by omega, by omega, this⟩
    · simp (disch := first | assumption | (unfold kR; decide) | exact klc_R | (unfold kR; omega) | omega | (unfold kL; omega) | exact kcat_null | exact kcat_ref _ | exact kcat_iv _) only [r21_0, r21_1, r21_3, r21_6, r21_7, r21_9, r21_12, r21_13, r21_15, r21_18, true_and, and_true, kk1_i, kk1_r, kk1_n, kk1_0, kcat_iv, kcat_ref, kcat_null, kisR_ref, kisR_null, ksz_nil, ksz_iv, ksz_ref, ksz_null, ksz_lv, kfit_int, kfit_long, kfit_obj, kfit_objN, kfit_arr, kfit_arrN, knarI, knarZ0, knarZ1, kret_v, kret_n, kret_x, Nat.reduceAdd, Nat.reduceLeDiff, reduceCtorEq, Int.reduceLE, Int.reduceLT, Int.reduceEq, ite_true, ite_false, true_or, or_true, false_implies, true_implies, not_true_eq_false, not_false_eq_true, and_self, eq_self, klc_lt, klc_ge, klc_le, klc_gt, klc_eq, kmu_eq, kmu_f, kmu_i, kmu_j, show ¬ x = 10 by omega, e, show ¬ x ≤ 126 by omega]
      exact ⟨by omega, by omega, by omega, this⟩
/-- price -/
theorem t28 (I : kIv E A V C R t) {x y : Int} (hx : kR x) (hy : kR y) (hd : 40 ≤ d) (hD : 40 ≤ D) (hc : 121 ≤ c) (hl : 2786 ≤ l) (H : kEnd E D 137 (fun A => [some (.ref (A 9 0)), some (iv x), some (iv y)]) [(0, 1)] V A R t c l Q) :
    ka_W (kp E) (d, (28, 0, [some (.ref (A 0 0)), some (iv x), some (iv y)], []), (kHp J A V C R, c, l)) Q := by
  have hI := I
  obtain ⟨hA, v, hE, rw, ⟨B, M1, M2, M3, M4, M5, M6⟩, XI⟩ := hI
  by_cases h1 : 0 ≤ x ∧ x ≤ 19
  · by_cases h2 : 0 ≤ y ∧ y ≤ 1000
    · have e9 : ∀ j, j ≠ 0 → kmu (kmu R 9 0 0 0) 54 0 x y 9 0 j = R 9 0 j := fun j a => by rw [kmu_f (by decide), kmu_j a]
      have ef : ∀ f, f ≠ 9 → f ≠ 54 → kmu (kmu R 9 0 0 0) 54 0 x y f = R f := fun f a b => by rw [kmu_ff b, kmu_ff a]
      have kf : kFI V (kmu C 30 0 x y) (kmu (kmu R 9 0 0 0) 54 0 x y) := by
        refine ⟨kBI_cq (kBI_9 B (fun f a _ b _ _ _ _ _ => ef f a b) (e9 7 (by decide)) (e9 15 (by decide)) (e9 26 (by decide))) (fun f _ _ _ _ _ a _ => kmu_ff a) (kmu_f (by decide)), ?_, ?_, fun j a b => ?_, ?_, fun g a b => ?_, ?_⟩
        · rw [kmu_f (by decide), e9 1 (by decide)]; exact M1
        · rw [kmu_f (by decide), e9 3 (by decide)]; exact M2
        · rw [e9 3 (by decide)] at b
          rw [kmu_f (by decide), ef 52 (by decide) (by decide)]; exact M3 j a b
        · exact kRg_c M4 (kmu_ff (by decide)) (kmu_ff (by decide)) (e9 36 (by decide)) (ef 85 (by decide) (by decide))
        · by_cases e : g = x
          · rw [e, kmu_eq, kmu_eq]
          · rw [kmu_j e, kmu_j e, kmu_f (by decide)]; exact M5 g a b
        · exact kBw_c M6 (kmu_f (by decide)) (e9 32 (by decide)) (e9 15 (by decide)) (fun f hf => ef f (by omega) (by omega))
      have := H J A V _ _ c l (.inl none) none ⟨hA, v, hE, (rw.pi0 (by omega) (by omega)).pa54 h2.1 h2.2, kf, kXI_9 XI (by omega) (fun f a _ b _ _ _ => ef f a b) (e9 7 (by decide)) (e9 15 (by decide)) (e9 26 (by decide))⟩ kEx0_rfl (by omega) (by omega) (fun _ Q' z => (j137_0 hA v rw (by omega) hx hy h1 h2).mpr z) (Or.inl ⟨rfl, by rw [kmu_f (by decide), kmu_eq]⟩) (Or.inl ⟨rfl, rfl⟩)
      simp (disch := first | assumption | (unfold kR; decide) | exact klc_R | (unfold kR; omega) | omega | (unfold kL; omega) | exact kcat_null | exact kcat_ref _ | exact kcat_iv _) only [r28_0, r28_1, r28_4, r28_5, r28_6, r28_9, r28_12, r28_13, r28_16, r28_17, r28_18, r28_19, ho_0_4 hA v.l0, hg_0_4 hA v.l0, hoa_30 hA v.l30, hga_30 hA v.l30, hpa_30 hA v.l30, true_and, and_true, kk1_i, kk1_r, kk1_n, kk1_0, kcat_iv, kcat_ref, kcat_null, kisR_ref, kisR_null, ksz_nil, ksz_iv, ksz_ref, ksz_null, ksz_lv, kfit_int, kfit_long, kfit_obj, kfit_objN, kfit_arr, kfit_arrN, knarI, knarZ0, knarZ1, kret_v, kret_n, kret_x, Nat.reduceAdd, Nat.reduceLeDiff, reduceCtorEq, Int.reduceLE, Int.reduceLT, Int.reduceEq, ite_true, ite_false, true_or, or_true, false_implies, true_implies, not_true_eq_false, not_false_eq_true, and_self, eq_self, klc_lt, klc_ge, klc_le, klc_gt, klc_eq, kmu_eq, kmu_f, kmu_i, kmu_j, c42, c43, h1, h2, Nat.zero_le, show 1 ≤ d by omega, show 1 ≤ d - 1 by omega]
      exact this
    · have := H.x I (J := J) (e := 0) (x := 1) (b := none) (by simp) (by omega) (by omega) (fun _ Q' z => (j137_1 hA v rw (by omega) hx hy (Or.inr h2)).mpr z) (Or.inl ⟨rfl, rfl⟩)
      simp (disch := first | assumption | (unfold kR; decide) | exact klc_R | (unfold kR; omega) | omega | (unfold kL; omega) | exact kcat_null | exact kcat_ref _ | exact kcat_iv _) only [r28_0, r28_1, r28_4, r28_5, r28_6, r28_9, true_and, and_true, kk1_i, kk1_r, kk1_n, kk1_0, kcat_iv, kcat_ref, kcat_null, kisR_ref, kisR_null, ksz_nil, ksz_iv, ksz_ref, ksz_null, ksz_lv, kfit_int, kfit_long, kfit_obj, kfit_objN, kfit_arr, kfit_arrN, knarI, knarZ0, knarZ1, kret_v, kret_n, kret_x, Nat.reduceAdd, Nat.reduceLeDiff, reduceCtorEq, Int.reduceLE, Int.reduceLT, Int.reduceEq, ite_true, ite_false, true_or, or_true, false_implies, true_implies, not_true_eq_false, not_false_eq_true, and_self, eq_self, klc_lt, klc_ge, klc_le, klc_gt, klc_eq, kmu_eq, kmu_f, kmu_i, kmu_j, c42x, c43, h1, h2, Nat.zero_le, show 1 ≤ d by omega, show 1 ≤ d - 1 by omega]
      exact ⟨by omega, by omega, by omega, this⟩
  · have := H.x I (J := J) (e := 0) (x := 1) (b := none) (by simp) (by omega) (by omega) (fun _ Q' z => (j137_1 hA v rw (by omega) hx hy (Or.inl h1)).mpr z) (Or.inl ⟨rfl, rfl⟩)
    simp (disch := first | assumption | (unfold kR; decide) | exact klc_R | (unfold kR; omega) | omega | (unfold kL; omega) | exact kcat_null | exact kcat_ref _ | exact kcat_iv _) only [r28_0, r28_1, true_and, and_true, kk1_i, kk1_r, kk1_n, kk1_0, kcat_iv, kcat_ref, kcat_null, kisR_ref, kisR_null, ksz_nil, ksz_iv, ksz_ref, ksz_null, ksz_lv, kfit_int, kfit_long, kfit_obj, kfit_objN, kfit_arr, kfit_arrN, knarI, knarZ0, knarZ1, kret_v, kret_n, kret_x, Nat.reduceAdd, Nat.reduceLeDiff, reduceCtorEq, Int.reduceLE, Int.reduceLT, Int.reduceEq, ite_true, ite_false, true_or, or_true, false_implies, true_implies, not_true_eq_false, not_false_eq_true, and_self, eq_self, klc_lt, klc_ge, klc_le, klc_gt, klc_eq, kmu_eq, kmu_f, kmu_i, kmu_j, c43x, h1, Nat.zero_le, show 1 ≤ d by omega, show 9 ≤ d - 1 by omega]
    exact ⟨by omega, by omega, this⟩
/-- ring -/
theorem t25 (I : kIv E A V C R t) {x : Int} (hx : kR x) (hd : 40 ≤ d) (hD : 40 ≤ D) (H : kEnd E D 134 (fun A => [some (.ref (A 9 0)), some (iv x)]) [] V A R t c l Q) :
    ka_W (kp E) (d, (25, 0, [some (.ref (A 0 0)), some (iv x)], []), (kHp J A V C R, c, l)) Q := by
  have hI := I
  obtain ⟨hA, v, hE, rw, ⟨B, M1, M2, M3, ⟨g1, g2, g3, g4⟩, M5, M6⟩, XI⟩ := hI
  have e : (if 0 ≤ x ∧ x < C 7 0 1 then C 27 0 x else -1) = (if 0 ≤ x ∧ x ≤ R 9 0 36 - 1 then R 85 0 x else -1) := by
    by_cases z : 0 ≤ x ∧ x ≤ R 9 0 36 - 1
    · rw [if_pos z, if_pos ⟨z.1, by omega⟩]; exact g4 x z.1 (by omega)
    · rw [if_neg z, if_neg (by omega)]
  have := H.q I (J := J) (x := if 0 ≤ x ∧ x ≤ R 9 0 36 - 1 then R 85 0 x else -1) (by
    split
    · rename_i z
      have := rw.a85 (j := x) z.1 (by omega)
      unfold kR; omega
    · unfold kR; omega) (fun _ Q' z => (j134 hA v rw (by omega) hx).mpr z)
  rw [← e] at this
  have hg0 : 0 ≤ C 7 0 1 := by omega
  have hg1 : C 7 0 1 ≤ 20 := by omega
  simp (disch := first | assumption | (unfold kR; decide) | exact klc_R | (unfold kR; omega) | omega | (unfold kL; omega) | exact kcat_null | exact kcat_ref _ | exact kcat_iv _) only [r25_0, r25_1, r25_4, r25_5, r25_8, ho_0_2 hA v.l0, hg_0_2 hA v.l0, ht_7 hA v.l7, true_and, and_true, kk1_i, kk1_r, kk1_n, kk1_0, kcat_iv, kcat_ref, kcat_null, kisR_ref, kisR_null, ksz_nil, ksz_iv, ksz_ref, ksz_null, ksz_lv, kfit_int, kfit_long, kfit_obj, kfit_objN, kfit_arr, kfit_arrN, knarI, knarZ0, knarZ1, kret_v, kret_n, kret_x, Nat.reduceAdd, Nat.reduceLeDiff, reduceCtorEq, Int.reduceLE, Int.reduceLT, Int.reduceEq, ite_true, ite_false, true_or, or_true, false_implies, true_implies, not_true_eq_false, not_false_eq_true, and_self, eq_self, klc_lt, klc_ge, klc_le, klc_gt, klc_eq, kmu_eq, kmu_f, kmu_i, kmu_j, c106 hA v hx hg0 hg1, Nat.zero_le, show 1 ≤ d by omega]
  exact this
/-- row -/
theorem t37 (I : kIv E A V C R t) {x y : Int} (hx : kR x) (hy : kR y) (hd : 40 ≤ d) (hD : 40 ≤ D) (hc : 121 ≤ c) (hl : 2786 ≤ l) (H : kEnd E D 167 (fun A => [some (.ref (A 9 0)), some (iv x), some (iv y)]) [(2, 1), (0, 2)] V A R t c l Q) :
    ka_W (kp E) (d, (37, 0, [some (.ref (A 0 0)), some (iv x), some (iv y), none], []), (kHp J A V C R, c, l)) Q := by
  have hI := I
  obtain ⟨hA, v, hE, rw, ⟨B, M1, M2, M3, M4, M5, M6⟩, XI⟩ := hI
  have B32 := rw.i32
  rcases M6 with ⟨w1, w2⟩ | ⟨m, m0, m1, w1, w2, w3, w4⟩
  · have := H.x I (J := J) (e := 2) (x := 1) (b := some (iv 0)) (by simp) (by omega) (by omega) (fun _ Q' z => (j167_1 hA v rw (by omega) hx hy (by omega)).mpr z) (Or.inr ⟨rfl, rfl⟩)
    have w1' : C 0 0 5 < 0 := by omega
    simp (disch := first | assumption | (unfold kR; decide) | exact klc_R | (unfold kR; omega) | omega | (unfold kL; omega) | exact kcat_null | exact kcat_ref _ | exact kcat_iv _) only [r37_0, r37_0n, r37_1, r37_4, r37_4n, r37_5, r37_5n, r37_6, r37_21, ho_0_5 hA v.l0, hg_0_5 hA v.l0, hgn_0_5 hA v.l0, true_and, and_true, kk1_i, kk1_r, kk1_n, kk1_0, kcat_iv, kcat_ref, kcat_null, kisR_ref, kisR_null, ksz_nil, ksz_iv, ksz_ref, ksz_null, ksz_lv, kfit_int, kfit_long, kfit_obj, kfit_objN, kfit_arr, kfit_arrN, knarI, knarZ0, knarZ1, kret_v, kret_n, kret_x, Nat.reduceAdd, Nat.reduceLeDiff, reduceCtorEq, Int.reduceLE, Int.reduceLT, Int.reduceEq, ite_true, ite_false, true_or, or_true, false_implies, true_implies, not_true_eq_false, not_false_eq_true, and_self, eq_self, klc_lt, klc_ge, klc_le, klc_gt, klc_eq, kmu_eq, kmu_f, kmu_i, kmu_j]
    exact ⟨by omega, by omega, by omega, this⟩
  · have B15 := rw.i15
    have B70 := rw.a70 (j := m) (by omega) (by omega)
    obtain ⟨z1, z2, z3, ⟨r1, r2, r3, r4⟩, -, -, -, -, -, -, -, -, z13, -⟩ := B.2.2.1.2.2.2.2.1 m m0 m1
    have w1' : 0 ≤ C 0 0 5 := by omega
    have r1' : V 6 (C 0 0 5) := by rw [w1]; exact r1
    by_cases h1 : 0 ≤ x ∧ x ≤ R 9 0 32 - 1
    · obtain ⟨p1, p2, -⟩ := B.2.2.1.2.2.2.2.2.1 m x m0 m1 h1.1 (by omega)
      obtain ⟨q1, q2⟩ := w4 x h1.1 (by omega)
      have B72 := rw.a72 (j := 5 * m + x) (by omega) (by omega)
      have B73 := rw.a73 (j := 5 * m + x) (by omega) (by omega)
      by_cases h2 : 0 ≤ y ∧ y ≤ 1
      · by_cases e : y = 0
        · have := H.q I (J := J) (x := R 83 0 x) (by rw [q1]; unfold kR; omega) (fun _ Q' z => by
            refine (j167_0 hA v rw (by omega) hx hy h1 h2).mpr ?_
            rw [if_pos e]; exact z)
          rw [q1, ← p1] at this
          simp (disch := first | assumption | (unfold kR; decide) | exact klc_R | (unfold kR; omega) | omega | (unfold kL; omega) | exact kcat_null | exact kcat_ref _ | exact kcat_iv _) only [r37_0, r37_1, r37_4, r37_5, r37_6, r37_9, r37_10, r37_13, r37_14, r37_15, r37_18, r37_32, r37_33, r37_34, r37_35, r37_38, r37_39, r37_42, r37_43, r37_46, r37_47, r37_48, r37_51, r37_52, r37_55, r37_56, r37_57, ho_0_5 hA v.l0, hg_0_5 hA v.l0, hgn_0_5 hA v.l0, ho_6_5 hA, hg_6_5 hA, ho_6_2 hA, hg_6_2 hA, hoa_20 hA, hga_20 hA, ho_6_3 hA, hg_6_3 hA, hoa_21 hA, hga_21 hA, true_and, and_true, kk1_i, kk1_r, kk1_n, kk1_0, kcat_iv, kcat_ref, kcat_null, kisR_ref, kisR_null, ksz_nil, ksz_iv, ksz_ref, ksz_null, ksz_lv, kfit_int, kfit_long, kfit_obj, kfit_objN, kfit_arr, kfit_arrN, knarI, knarZ0, knarZ1, kret_v, kret_n, kret_x, Nat.reduceAdd, Nat.reduceLeDiff, reduceCtorEq, Int.reduceLE, Int.reduceLT, Int.reduceEq, ite_true, ite_false, true_or, or_true, false_implies, true_implies, not_true_eq_false, not_false_eq_true, and_self, eq_self, klc_lt, klc_ge, klc_le, klc_gt, klc_eq, kmu_eq, kmu_f, kmu_i, kmu_j, c42, w1, z13, h2, e, show ¬ x < 0 by omega, show x < R 70 0 m by omega, Nat.zero_le, show 1 ≤ d by omega]
          exact this
        · have := H.q I (J := J) (x := R 84 0 x) (by rw [q2]; unfold kR; omega) (fun _ Q' z => by
            refine (j167_0 hA v rw (by omega) hx hy h1 h2).mpr ?_
            rw [if_neg e]; exact z)
          rw [q2, ← p2] at this
          simp (disch := first | assumption | (unfold kR; decide) | exact klc_R | (unfold kR; omega) | omega | (unfold kL; omega) | exact kcat_null | exact kcat_ref _ | exact kcat_iv _) only [r37_0, r37_1, r37_4, r37_5, r37_6, r37_9, r37_10, r37_13, r37_14, r37_15, r37_18, r37_32, r37_33, r37_34, r37_35, r37_38, r37_39, r37_42, r37_43, r37_46, r37_47, r37_48, r37_51, r37_52, r37_55, r37_56, r37_57, ho_0_5 hA v.l0, hg_0_5 hA v.l0, hgn_0_5 hA v.l0, ho_6_5 hA, hg_6_5 hA, ho_6_2 hA, hg_6_2 hA, hoa_20 hA, hga_20 hA, ho_6_3 hA, hg_6_3 hA, hoa_21 hA, hga_21 hA, true_and, and_true, kk1_i, kk1_r, kk1_n, kk1_0, kcat_iv, kcat_ref, kcat_null, kisR_ref, kisR_null, ksz_nil, ksz_iv, ksz_ref, ksz_null, ksz_lv, kfit_int, kfit_long, kfit_obj, kfit_objN, kfit_arr, kfit_arrN, knarI, knarZ0, knarZ1, kret_v, kret_n, kret_x, Nat.reduceAdd, Nat.reduceLeDiff, reduceCtorEq, Int.reduceLE, Int.reduceLT, Int.reduceEq, ite_true, ite_false, true_or, or_true, false_implies, true_implies, not_true_eq_false, not_false_eq_true, and_self, eq_self, klc_lt, klc_ge, klc_le, klc_gt, klc_eq, kmu_eq, kmu_f, kmu_i, kmu_j, c42, w1, z13, h2, e, show ¬ x < 0 by omega, show x < R 70 0 m by omega, Nat.zero_le, show 1 ≤ d by omega]
          exact this
      · have := H.x I (J := J) (e := 0) (x := 2) (b := some (iv 0)) (by simp) (by omega) (by omega) (fun _ Q' z => (j167_2 hA v rw (by omega) hx hy h1 h2).mpr z) (Or.inr ⟨rfl, rfl⟩)
        simp (disch := first | assumption | (unfold kR; decide) | exact klc_R | (unfold kR; omega) | omega | (unfold kL; omega) | exact kcat_null | exact kcat_ref _ | exact kcat_iv _) only [r37_0, r37_1, r37_4, r37_5, r37_6, r37_9, r37_10, r37_13, r37_14, r37_15, r37_18, r37_32, r37_33, r37_34, r37_35, ho_0_5 hA v.l0, hg_0_5 hA v.l0, hgn_0_5 hA v.l0, ho_6_5 hA, hg_6_5 hA, true_and, and_true, kk1_i, kk1_r, kk1_n, kk1_0, kcat_iv, kcat_ref, kcat_null, kisR_ref, kisR_null, ksz_nil, ksz_iv, ksz_ref, ksz_null, ksz_lv, kfit_int, kfit_long, kfit_obj, kfit_objN, kfit_arr, kfit_arrN, knarI, knarZ0, knarZ1, kret_v, kret_n, kret_x, Nat.reduceAdd, Nat.reduceLeDiff, reduceCtorEq, Int.reduceLE, Int.reduceLT, Int.reduceEq, ite_true, ite_false, true_or, or_true, false_implies, true_implies, not_true_eq_false, not_false_eq_true, and_self, eq_self, klc_lt, klc_ge, klc_le, klc_gt, klc_eq, kmu_eq, kmu_f, kmu_i, kmu_j, c42x, w1, z13, h2, show ¬ x < 0 by omega, show x < R 70 0 m by omega, Nat.zero_le, show 1 ≤ d by omega]
        exact ⟨by omega, by omega, by omega, this⟩
    · have := H.x I (J := J) (e := 2) (x := 1) (b := some (iv 0)) (by simp) (by omega) (by omega) (fun _ Q' z => (j167_1 hA v rw (by omega) hx hy h1).mpr z) (Or.inr ⟨rfl, rfl⟩)
      by_cases e : x < 0
      · simp (disch := first | assumption | (unfold kR; decide) | exact klc_R | (unfold kR; omega) | omega | (unfold kL; omega) | exact kcat_null | exact kcat_ref _ | exact kcat_iv _) only [r37_0, r37_1, r37_4, r37_5, r37_6, r37_9, r37_10, r37_13, r37_14, r37_15, r37_18, r37_21, ho_0_5 hA v.l0, hg_0_5 hA v.l0, hgn_0_5 hA v.l0, ho_6_5 hA, hg_6_5 hA, true_and, and_true, kk1_i, kk1_r, kk1_n, kk1_0, kcat_iv, kcat_ref, kcat_null, kisR_ref, kisR_null, ksz_nil, ksz_iv, ksz_ref, ksz_null, ksz_lv, kfit_int, kfit_long, kfit_obj, kfit_objN, kfit_arr, kfit_arrN, knarI, knarZ0, knarZ1, kret_v, kret_n, kret_x, Nat.reduceAdd, Nat.reduceLeDiff, reduceCtorEq, Int.reduceLE, Int.reduceLT, Int.reduceEq, ite_true, ite_false, true_or, or_true, false_implies, true_implies, not_true_eq_false, not_false_eq_true, and_self, eq_self, klc_lt, klc_ge, klc_le, klc_gt, klc_eq, kmu_eq, kmu_f, kmu_i, kmu_j, w1, e]
        exact ⟨by omega, by omega, by omega, this⟩
      · simp (disch := first | assumption | (unfold kR; decide) | exact klc_R | (unfold kR; omega) | omega | (unfold kL; omega) | exact kcat_null | exact kcat_ref _ | exact kcat_iv _) only [r37_0, r37_1, r37_4, r37_5, r37_6, r37_9, r37_10, r37_13, r37_14, r37_15, r37_18, r37_21, ho_0_5 hA v.l0, hg_0_5 hA v.l0, hgn_0_5 hA v.l0, ho_6_5 hA, hg_6_5 hA, true_and, and_true, kk1_i, kk1_r, kk1_n, kk1_0, kcat_iv, kcat_ref, kcat_null, kisR_ref, kisR_null, ksz_nil, ksz_iv, ksz_ref, ksz_null, ksz_lv, kfit_int, kfit_long, kfit_obj, kfit_objN, kfit_arr, kfit_arrN, knarI, knarZ0, knarZ1, kret_v, kret_n, kret_x, Nat.reduceAdd, Nat.reduceLeDiff, reduceCtorEq, Int.reduceLE, Int.reduceLT, Int.reduceEq, ite_true, ite_false, true_or, or_true, false_implies, true_implies, not_true_eq_false, not_false_eq_true, and_self, eq_self, klc_lt, klc_ge, klc_le, klc_gt, klc_eq, kmu_eq, kmu_f, kmu_i, kmu_j, w1, z13, e, show ¬ x < R 70 0 m by omega]
        exact ⟨by omega, by omega, by omega, this⟩
end
