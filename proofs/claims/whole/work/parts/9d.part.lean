/-! Calls: part. -/
section
variable {E : Nat × Nat} {d D yr c l : Nat} {s : ka_S} {h : ka_H} {Q : ka_Q} {J : ka_H} {A A' : ka_A} {V V' : ka_V} {C C' R R' X X' X'' Y Z : ka_M} {t : Int} {ag : ka_A → List (Option Value)} {ex : List (Nat × Int)}
/-- what part leaves where a ring is refused -/
theorem kIv_r (I : kIv E A V C R t) {k g : Int} (h1 : 0 ≤ k ∧ k ≤ R 9 0 7 - 1) (h2 : 0 ≤ g ∧ g ≤ 19) (h5 : kfars R (R 58 0 k) 20 g ≠ -1) (hC : ∀ f, f ≠ 7 → f ≠ 27 → f ≠ 26 → C' f = C f) (hg : kRg C' (f133r (kmu R 9 0 0 0) k g)) : kIv E A V C' (f133r (kmu R 9 0 0 0) k g) (t + 1) ∧ f133r (kmu R 9 0 0 0) k g 9 0 0 = 0 := by
  obtain ⟨hA, v, hE, rw, ⟨B, M⟩, XI⟩ := I
  have B7 := rw.i7
  have rw0 : kRW V (kmu R 9 0 0 0) := rw.pi0 (by omega) (by omega)
  have lf : kLf R (kmu R 9 0 0 0) := kLf_rfl.mu (by decide)
  have e58 : kmu R 9 0 0 0 58 = R 58 := kmu_ff (by decide)
  have h5' : kfars (f125 (kmu R 9 0 0 0) (kmu R 9 0 0 0 58 0 k)) (f125 (kmu R 9 0 0 0) (kmu R 9 0 0 0 58 0 k) 58 0 k) 20 g ≠ -1 := by
    rw [f125_lf.fars, f125_ps 58 (by decide), lf.fars, e58]; exact h5
  unfold f133r at hg ⊢
  obtain ⟨i1, i2, i3⟩ := f127_o (f125_rw rw0 (to := kmu R 9 0 0 0 58 0 k)) (k := k) (g := g) h1.1 (by omega) h2.1 (by omega) h5'
  generalize f127 (f125 (kmu R 9 0 0 0) (kmu R 9 0 0 0 58 0 k)) k g = W at *
  have xx : ∀ f, f ≠ 9 → f ≠ 85 → f ≠ 87 → W f = R f := fun f a b c' => (i2 f a b c').trans ((f125_ps f c').trans (kmu_ff a))
  have x9 : ∀ j, j ≠ 36 → j ≠ 0 → W 9 0 j = R 9 0 j := fun j a b => by rw [i3 j a, f125_ps 9 (by decide), kmu_j b]
  have x0 : W 9 0 0 = 0 := by rw [i3 0 (by decide), f125_ps 9 (by decide), kmu_eq]
  obtain ⟨M1, M2, M3, M4, M5, M6⟩ := M
  refine ⟨⟨hA, v, hE, i1, ⟨kBI_cq (kBI_9 B (fun f a _ _ _ _ b c' _ => xx f a b c') (x9 7 (by decide) (by decide)) (x9 15 (by decide) (by decide)) (x9 26 (by decide) (by decide))) (fun f _ _ a b c' _ _ => hC f a c' b) (by rw [hC 0 (by decide) (by decide) (by decide)]), ?_, ?_, fun j a b => ?_, hg, fun g a b => ?_, ?_⟩, kXI_9 XI (by omega) (fun f a _ _ b c' _ => xx f a b c') (x9 7 (by decide) (by decide)) (x9 15 (by decide) (by decide)) (x9 26 (by decide) (by decide))⟩, x0⟩
  · rw [hC 0 (by decide) (by decide) (by decide), x9 1 (by decide) (by decide)]; exact M1
  · rw [hC 5 (by decide) (by decide) (by decide), x9 3 (by decide) (by decide)]; exact M2
  · rw [x9 3 (by decide) (by decide)] at b
    rw [hC 31 (by decide) (by decide) (by decide), xx 52 (by decide) (by decide) (by decide)]; exact M3 j a b
  · rw [hC 30 (by decide) (by decide) (by decide), xx 54 (by decide) (by decide) (by decide)]; exact M5 g a b
  · exact kBw_c M6 (by rw [hC 0 (by decide) (by decide) (by decide)]) (x9 32 (by decide) (by decide)) (x9 15 (by decide) (by decide)) (fun f hf => xx f (by omega) (by omega) (by omega))
/-- part -/
theorem t24 (I : kIv E A V C R t) {k g n b : Int} (hk : kR k) (hg : kR g) (hn : kR n) (hb : b = 0 ∨ b = 1) (hd : 40 ≤ d) (hD : 40 ≤ D) (hc : 121 ≤ c) (hl : 2786 ≤ l) (H : kEnd E D 133 (fun A => [some (.ref (A 9 0)), some (iv k), some (iv g), some (iv n), some (iv b), none, none, none]) [(2, 1), (0, 2), (1, 3), (3, 4)] V A R t c l Q) :
    ka_W (kp E) (d, (24, 0, [some (.ref (A 0 0)), some (iv k), some (iv g), some (iv n), some (iv b), none], []), (kHp J A V C R, c, l)) Q := by
  have hI := I
  obtain ⟨hA, v, hE, rw, FI, XI⟩ := hI
  have B := FI.1
  have B7 := rw.i7
  have bk := B.2.2.2.1
  by_cases h1 : 0 ≤ k ∧ k ≤ R 9 0 7 - 1
  · have q45 := fun {Q} => c45 (E := E) (d := d - 1) (c := c) (l := l) (Q := Q) (J := J) (R := R) hA v rw B (by omega) h1
    have k1 : k < R 9 0 7 := by omega
    by_cases h2 : 0 ≤ g ∧ g ≤ 19
    · obtain ⟨n1, n2, n3, n4, n5, n6, n7, n8, n9⟩ := B.new rw h1.1 k1
      have n2' : 0 ≤ C 3 k 2 := by omega
      obtain ⟨r1, r2, r3, r4⟩ := n3
      have r6' : V 6 (C 3 k 2) := by rw [n2]; exact r1
      have B61 := rw.a61 (j := 4 * k + R 59 0 k - 1) (by omega) (by omega)
      have rw0 : kRW V (kmu R 9 0 0 0) := rw.pi0 (by omega) (by omega)
      have FI0 := kFI_0 FI (x := 0)
      have e7 : kmu R 9 0 0 0 9 0 7 = R 9 0 7 := kmu_j (by decide)
      have e58 : kmu R 9 0 0 0 58 = R 58 := kmu_ff (by decide)
      have lf : kLf R (kmu R 9 0 0 0) := kLf_rfl.mu (by decide)
      have y0 : kBY (kmu R 9 0 0 0) := kBY_c XI.2.2.2.1 (fun f hf => kmu_ff (by omega)) e7
      -- the measured reference
      have rw1 : kRW V (f125 (kmu R 9 0 0 0) (R 58 0 k)) := f125_rw rw0
      have xx1 : ∀ f, f ≠ 9 → f ≠ 87 → f125 (kmu R 9 0 0 0) (R 58 0 k) f = R f := fun f a b' => (f125_ps f b').trans (kmu_ff a)
      have x91 : f125 (kmu R 9 0 0 0) (R 58 0 k) 9 = kmu R 9 0 0 0 9 := f125_ps 9 (by decide)
      have B1 : kBI V C (f125 (kmu R 9 0 0 0) (R 58 0 k)) := kBI_9 B (fun f a _ _ _ _ _ b' _ => xx1 f a b') (by rw [x91]; exact e7) (by rw [x91, kmu_j (by decide)]) (by rw [x91, kmu_j (by decide)])
      have y1 : kBY (f125 (kmu R 9 0 0 0) (R 58 0 k)) := kBY_c XI.2.2.2.1 (fun f hf => xx1 f (by omega) (by omega)) (by rw [x91]; exact e7)
      have far1 : kfars (f125 (kmu R 9 0 0 0) (R 58 0 k)) (R 58 0 k) 20 g = kfars R (R 58 0 k) 20 g := by rw [f125_lf.fars, lf.fars]
      have q61 : ∀ {Q}, Q (.inl (some (iv (kb (kfars R (R 58 0 k) 20 g ≠ -1))))) (kHp J A V (kaf C (kfars (f125 (kmu R 9 0 0 0) (R 58 0 k)) (R 58 0 k) 20)) R, c, l) → ka_W (kp E) (d - 1 - 1, (61, 0, [some (.ref (A 1 0)), some (.ref (A 3 k)), some (iv g), none, none], []), (kHp J A V C R, c, l)) Q := by
        intro Q z
        refine c61 hA v B1.ld (by omega) n1 (by rw [n5]; exact n6) (by rw [n5]; exact n7) h2.1 (by omega) ?_
        rw [n5, far1]; exact z
      -- a ring
      have ring : (kfars R (R 58 0 k) 20 g ≠ -1) → (∀ {J' A' V' C' c' l'} {Q' : ka_Q}, kJ A' V' → kLV V' → kRW V' R → (ka_W (kp E) (D, (133, 0, [some (.ref (A' 9 0)), some (iv k), some (iv g), some (iv n), some (iv b), none, none, none], []), (kHp J' A' V' C' R, c', l')) Q' ↔ Q' (.inl (some (iv (- f133r (kmu R 9 0 0 0) k g 9 0 36)))) (kHp J' A' V' C' (f133r (kmu R 9 0 0 0) k g), c', l'))) → ∀ {Q2 : ka_Q}, (∀ x C', Q (.inl (some (iv x))) (kHp J A V C' R, c, l) → Q2 (.inl (some (iv x))) (kHp J A V C' R, c, l)) → ka_W (kp E) (d - 1 - 1, (50, 0, [some (.ref (A 0 0)), some (.ref (A 3 k)), some (iv g)], []), (kHp J A V (kaf C (kfars (f125 (kmu R 9 0 0 0) (R 58 0 k)) (R 58 0 k) 20)) R, c, l)) Q2 := by
        intro h5 hz Q2 hQ
        have e58' : f125 (kmu R 9 0 0 0) (R 58 0 k) 58 0 k = R 58 0 k := by rw [xx1 58 (by decide) (by decide)]
        have ef : krgM (f125 (kmu R 9 0 0 0) (R 58 0 k)) (kfars (f125 (kmu R 9 0 0 0) (R 58 0 k)) (R 58 0 k) 20) (kfars (f125 (kmu R 9 0 0 0) (R 58 0 k)) (R 58 0 k) 20 g).toNat 1 g (kmu (kmu (f125 (f125 (kmu R 9 0 0 0) (R 58 0 k)) (R 58 0 k)) 85 0 0 (R 58 0 k)) 9 0 36 1) = f133r (kmu R 9 0 0 0) k g := by
          unfold f133r f127
          rw [e58, e58']
        refine c50 hA v (by omega) B1.ld n1 n5 n6 n7 h2.1 (by omega) (by rw [far1]; exact h5) (fun C1 a1 a2 => ?_)
        rw [ef] at a2 ⊢
        obtain ⟨iv1, c0⟩ := kIv_r I h1 h2 h5 a1 a2
        have B36 := iv1.2.2.2.1.i36
        exact hQ _ _ (H J A V C1 _ c l _ _ iv1 kEx0_rfl (by omega) (by omega) (fun _ Q' z => (hz hA v rw).mpr z) (Or.inl ⟨rfl, c0⟩) (Or.inr ⟨rfl, _, rfl, by unfold kR; omega⟩))
      rcases hb with hb | hb
      · -- a part
        subst hb
        by_cases h3 : 1 ≤ n ∧ n ≤ 9
        · by_cases h4 : R 61 0 (4 * k + R 59 0 k - 1) = 5
          · have := H.x I (J := J) (e := 3) (x := 4) (b := some (iv 0)) (by simp) (by omega) (by omega) (fun _ Q' z => (j133_4 hA v rw bk (by omega) hk hg hn rfl h1 h2 h3 h4).mpr z) (Or.inr ⟨rfl, rfl⟩)
            have e65 : C 6 (C 3 k 2) 5 = 5 := by rw [n2, n4]; exact h4
            simp (disch := first | assumption | (unfold kR; decide) | exact klc_R | (unfold kR; omega) | omega | (unfold kL; omega) | exact kcat_null | exact kcat_ref _ | exact kcat_iv _) only [r24_0, r24_1, r24_2, r24_5, r24_7, r24_8, r24_11, r24_13, r24_16, r24_17, r24_19, r24_20, r24_23, r24_24, r24_25, r24_26, r24_28, r24_31, r24_32, r24_34, r24_35, r24_36, r24_39, ht_0 hA v.l0, true_and, and_true, kk1_i, kk1_r, kk1_n, kk1_0, kcat_iv, kcat_ref, kcat_null, kisR_ref, kisR_null, ksz_nil, ksz_iv, ksz_ref, ksz_null, ksz_lv, kfit_int, kfit_long, kfit_obj, kfit_objN, kfit_arr, kfit_arrN, knarI, knarZ0, knarZ1, kret_v, kret_n, kret_x, Nat.reduceAdd, Nat.reduceLeDiff, reduceCtorEq, Int.reduceLE, Int.reduceLT, Int.reduceEq, ite_true, ite_false, true_or, or_true, false_implies, true_implies, not_true_eq_false, not_false_eq_true, and_self, eq_self, klc_lt, klc_ge, klc_le, klc_gt, klc_eq, kmu_eq, kmu_f, kmu_i, kmu_j, q45, c43, c42, h2, h3, Nat.zero_le, show 1 ≤ d by omega, show 1 ≤ d - 1 by omega]
            simp (disch := first | assumption | (unfold kR; decide) | exact klc_R | (unfold kR; omega) | omega | (unfold kL; omega) | exact kcat_null | exact kcat_ref _ | exact kcat_iv _) only [r48_0, r48_1, r48_4, r48_7, r48_8, r48_11, ho_3_2 hA, hg_3_2 hA, hgn_3_2 hA, ho_6_5 hA, hg_6_5 hA, true_and, and_true, kk1_i, kk1_r, kk1_n, kk1_0, kcat_iv, kcat_ref, kcat_null, kisR_ref, kisR_null, ksz_nil, ksz_iv, ksz_ref, ksz_null, ksz_lv, kfit_int, kfit_long, kfit_obj, kfit_objN, kfit_arr, kfit_arrN, knarI, knarZ0, knarZ1, kret_v, kret_n, kret_x, Nat.reduceAdd, Nat.reduceLeDiff, reduceCtorEq, Int.reduceLE, Int.reduceLT, Int.reduceEq, ite_true, ite_false, true_or, or_true, false_implies, true_implies, not_true_eq_false, not_false_eq_true, and_self, eq_self, klc_lt, klc_ge, klc_le, klc_gt, klc_eq, kmu_eq, kmu_f, kmu_i, kmu_j, e65]
            exact ⟨by omega, by omega, by omega, this⟩
          · have e65 : C 6 (C 3 k 2) 5 = R 61 0 (4 * k + R 59 0 k - 1) := by rw [n2]; exact n4
            simp (disch := first | assumption | (unfold kR; decide) | exact klc_R | (unfold kR; omega) | omega | (unfold kL; omega) | exact kcat_null | exact kcat_ref _ | exact kcat_iv _) only [r24_0, r24_1, r24_2, r24_5, r24_7, r24_8, r24_11, r24_13, r24_16, r24_17, r24_19, r24_20, r24_23, r24_24, r24_25, r24_26, r24_28, r24_31, r24_32, r24_34, r24_35, r24_36, r24_39, ht_0 hA v.l0, true_and, and_true, kk1_i, kk1_r, kk1_n, kk1_0, kcat_iv, kcat_ref, kcat_null, kisR_ref, kisR_null, ksz_nil, ksz_iv, ksz_ref, ksz_null, ksz_lv, kfit_int, kfit_long, kfit_obj, kfit_objN, kfit_arr, kfit_arrN, knarI, knarZ0, knarZ1, kret_v, kret_n, kret_x, Nat.reduceAdd, Nat.reduceLeDiff, reduceCtorEq, Int.reduceLE, Int.reduceLT, Int.reduceEq, ite_true, ite_false, true_or, or_true, false_implies, true_implies, not_true_eq_false, not_false_eq_true, and_self, eq_self, klc_lt, klc_ge, klc_le, klc_gt, klc_eq, kmu_eq, kmu_f, kmu_i, kmu_j, q45, c43, c42, h2, h3, Nat.zero_le, show 1 ≤ d by omega, show 1 ≤ d - 1 by omega]
            simp (disch := first | assumption | (unfold kR; decide) | exact klc_R | (unfold kR; omega) | omega | (unfold kL; omega) | exact kcat_null | exact kcat_ref _ | exact kcat_iv _) only [r48_0, r48_1, r48_4, r48_7, r48_8, r48_22, r48_23, r48_26, r48_27, r48_28, ho_3_2 hA, hg_3_2 hA, hgn_3_2 hA, ho_6_5 hA, hg_6_5 hA, ho_0_0 hA v.l0, hg_0_0 hA v.l0, ht_1 hA v.l1, true_and, and_true, kk1_i, kk1_r, kk1_n, kk1_0, kcat_iv, kcat_ref, kcat_null, kisR_ref, kisR_null, ksz_nil, ksz_iv, ksz_ref, ksz_null, ksz_lv, kfit_int, kfit_long, kfit_obj, kfit_objN, kfit_arr, kfit_arrN, knarI, knarZ0, knarZ1, kret_v, kret_n, kret_x, Nat.reduceAdd, Nat.reduceLeDiff, reduceCtorEq, Int.reduceLE, Int.reduceLT, Int.reduceEq, ite_true, ite_false, true_or, or_true, false_implies, true_implies, not_true_eq_false, not_false_eq_true, and_self, eq_self, klc_lt, klc_ge, klc_le, klc_gt, klc_eq, kmu_eq, kmu_f, kmu_i, kmu_j, e65, show R 61 0 (4 * k + R 59 0 k - 1) < 5 by omega, Nat.zero_le, show 1 ≤ d - 1 by omega]
            refine q61 ?_
            by_cases h5 : kfars R (R 58 0 k) 20 g ≠ -1
            · simp (disch := first | assumption | (unfold kR; decide) | exact klc_R | (unfold kR; omega) | omega | (unfold kL; omega) | exact kcat_null | exact kcat_ref _ | exact kcat_iv _) only [r48_31, r48_34, r48_35, r48_36, r48_37, ht_0 hA v.l0, true_and, and_true, kk1_i, kk1_r, kk1_n, kk1_0, kcat_iv, kcat_ref, kcat_null, kisR_ref, kisR_null, ksz_nil, ksz_iv, ksz_ref, ksz_null, ksz_lv, kfit_int, kfit_long, kfit_obj, kfit_objN, kfit_arr, kfit_arrN, knarI, knarZ0, knarZ1, kret_v, kret_n, kret_x, Nat.reduceAdd, Nat.reduceLeDiff, reduceCtorEq, Int.reduceLE, Int.reduceLT, Int.reduceEq, ite_true, ite_false, true_or, or_true, false_implies, true_implies, not_true_eq_false, not_false_eq_true, and_self, eq_self, klc_lt, klc_ge, klc_le, klc_gt, klc_eq, kmu_eq, kmu_f, kmu_i, kmu_j, kb_t h5, show ¬ (1:Int) = 0 by decide, Nat.zero_le, show 1 ≤ d - 1 by omega]
              refine ring h5 (fun a b' c' => j133_r a b' c' bk (by omega) hk hg hn (Or.inl rfl) h1 h2 (fun _ => ⟨h3, h4⟩) (fun z => absurd z (by decide)) h5) (fun x C' z => ?_)
              simp (disch := first | assumption | (unfold kR; decide) | exact klc_R | (unfold kR; omega) | omega | (unfold kL; omega) | exact kcat_null | exact kcat_ref _ | exact kcat_iv _) only [r48_40, r24_39, true_and, and_true, kk1_i, kk1_r, kk1_n, kk1_0, kcat_iv, kcat_ref, kcat_null, kisR_ref, kisR_null, ksz_nil, ksz_iv, ksz_ref, ksz_null, ksz_lv, kfit_int, kfit_long, kfit_obj, kfit_objN, kfit_arr, kfit_arrN, knarI, knarZ0, knarZ1, kret_v, kret_n, kret_x, Nat.reduceAdd, Nat.reduceLeDiff, reduceCtorEq, Int.reduceLE, Int.reduceLT, Int.reduceEq, ite_true, ite_false, true_or, or_true, false_implies, true_implies, not_true_eq_false, not_false_eq_true, and_self, eq_self, klc_lt, klc_ge, klc_le, klc_gt, klc_eq, kmu_eq, kmu_f, kmu_i, kmu_j]
              exact z
            · have hr : ¬ kRch (f125 (kmu R 9 0 0 0) (R 58 0 k)) g (f125 (kmu R 9 0 0 0) (R 58 0 k) 58 0 k) := by
                rw [xx1 58 (by decide) (by decide)]
                exact kfars_no (by rw [far1]; exact h5)
              have e59 : f125 (kmu R 9 0 0 0) (R 58 0 k) 59 = R 59 := xx1 59 (by decide) (by decide)
              have e61 : f125 (kmu R 9 0 0 0) (R 58 0 k) 61 = R 61 := xx1 61 (by decide) (by decide)
              have k1' : k < f125 (kmu R 9 0 0 0) (R 58 0 k) 9 0 7 := by rw [x91, e7]; exact k1
              have p4 : f125 (kmu R 9 0 0 0) (R 58 0 k) 61 0 (4 * k + f125 (kmu R 9 0 0 0) (R 58 0 k) 59 0 k - 1) < 5 := by rw [e59, e61]; omega
              have B2 : kBI V (kaf C (kfars (f125 (kmu R 9 0 0 0) (R 58 0 k)) (R 58 0 k) 20)) (f125 (kmu R 9 0 0 0) (R 58 0 k)) := kBI_cq B1 (fun f _ _ _ a _ _ _ => kaf_ff a) (by rw [kaf_ff (by decide)])
              have B3 := kBI_pt rw1 B2 (k := k) (g := g) (n := n) h1.1 k1' p4 h2.1 (by omega)
              have y3 := kBY_130 rw1 B1.2.2.2.1 y1 (k := k) (g := g) (n := n) h1.1 k1' p4 h3.1 hr
              have rw3 := f130_rw rw1 (k := k) (g := g) (n := n) h2.1 h2.2 (by omega) h3.2 h1.1 (by omega) (by rw [e59]; exact n8) p4
              have ps := f130_ps (R := f125 (kmu R 9 0 0 0) (R 58 0 k)) (k := k) (g := g) (n := n)
              have hz := fun {J' A' V' C' c' l'} {Q' : ka_Q} (a : kJ A' V') (b' : kLV V') (c'' : kRW V' R) => j133_0 (E := E) (d := D) (c := c') (l := l') (Q := Q') (J := J') (C := C') a b' c'' bk (k := k) (g := g) (n := n) (b := 0) (by omega) hk hg hn (Or.inl rfl) h1 h2 (fun _ => ⟨h3, h4⟩) (fun z => absurd z (by decide)) h5
              have ef : f133 (kmu R 9 0 0 0) k g n 0 = f130 (f125 (kmu R 9 0 0 0) (R 58 0 k)) k g n := by unfold f133; rw [if_pos rfl, e58]
              rw [ef] at hz
              obtain ⟨m1, m2, m3, m4, m5, m6, m7, m8, m9⟩ := B2.new rw1 h1.1 k1'
              have q57 := fun {Q} => c57 (E := E) (d := d - 1 - 1) (c := c) (l := l) (Q := Q) (J := J) (R := R) (g := g) (n := n) hA v (by omega) m1 m2 (by rw [e59]; omega) m3 (by rw [m4, e59, e61]; exact B61.1) (by rw [m4]; exact p4) (by rw [m5]; exact m6) (by rw [m5]; exact m7)
              rw [e59] at q57 B3 m4 m2
              rw [e61] at m4
              have cf : ∀ f, f ≠ 6 → f ≠ 20 → f ≠ 21 → f ≠ 22 → f ≠ 25 → f ≠ 26 → (kmu (g101 (kaf C (kfars (f125 (kmu R 9 0 0 0) (R 58 0 k)) (R 58 0 k) 20)) (4 * k + R 59 0 k - 1) g n) 25 0 ((kaf C (kfars (f125 (kmu R 9 0 0 0) (R 58 0 k)) (R 58 0 k) 20)) 3 k 1) (kor ((kaf C (kfars (f125 (kmu R 9 0 0 0) (R 58 0 k)) (R 58 0 k) 20)) 25 0 ((kaf C (kfars (f125 (kmu R 9 0 0 0) (R 58 0 k)) (R 58 0 k) 20)) 3 k 1)) (kshl 1 g))) f = C f := by
                intro f a1 a2 a3 a4 a5 a6
                unfold g101
                rw [kmu_ff a5, kmu_ff a1, kmu_ff a4, kmu_ff a3, kmu_ff a2, kaf_ff a6]
              have c65 : (kmu (g101 (kaf C (kfars (f125 (kmu R 9 0 0 0) (R 58 0 k)) (R 58 0 k) 20)) (4 * k + R 59 0 k - 1) g n) 25 0 ((kaf C (kfars (f125 (kmu R 9 0 0 0) (R 58 0 k)) (R 58 0 k) 20)) 3 k 1) (kor ((kaf C (kfars (f125 (kmu R 9 0 0 0) (R 58 0 k)) (R 58 0 k) 20)) 25 0 ((kaf C (kfars (f125 (kmu R 9 0 0 0) (R 58 0 k)) (R 58 0 k) 20)) 3 k 1)) (kshl 1 g))) 6 (4 * k + R 59 0 k - 1) 5 = R 61 0 (4 * k + R 59 0 k - 1) + 1 := by
                rw [kmu_f (by decide)]
                unfold g101
                rw [kmu_eq, m4]
              simp (disch := first | assumption | (unfold kR; decide) | exact klc_R | (unfold kR; omega) | omega | (unfold kL; omega) | exact kcat_null | exact kcat_ref _ | exact kcat_iv _) only [r48_31, r48_41, r48_42, r48_45, r48_46, r48_47, r48_48, ho_0_0 hA v.l0, hg_0_0 hA v.l0, ht_1 hA v.l1, true_and, and_true, kk1_i, kk1_r, kk1_n, kk1_0, kcat_iv, kcat_ref, kcat_null, kisR_ref, kisR_null, ksz_nil, ksz_iv, ksz_ref, ksz_null, ksz_lv, kfit_int, kfit_long, kfit_obj, kfit_objN, kfit_arr, kfit_arrN, knarI, knarZ0, knarZ1, kret_v, kret_n, kret_x, Nat.reduceAdd, Nat.reduceLeDiff, reduceCtorEq, Int.reduceLE, Int.reduceLT, Int.reduceEq, ite_true, ite_false, true_or, or_true, false_implies, true_implies, not_true_eq_false, not_false_eq_true, and_self, eq_self, klc_lt, klc_ge, klc_le, klc_gt, klc_eq, kmu_eq, kmu_f, kmu_i, kmu_j, kb_f h5, q57, Nat.zero_le, show 1 ≤ d - 1 by omega]
              generalize (kmu (g101 (kaf C (kfars (f125 (kmu R 9 0 0 0) (R 58 0 k)) (R 58 0 k) 20)) (4 * k + R 59 0 k - 1) g n) 25 0 ((kaf C (kfars (f125 (kmu R 9 0 0 0) (R 58 0 k)) (R 58 0 k) 20)) 3 k 1) (kor ((kaf C (kfars (f125 (kmu R 9 0 0 0) (R 58 0 k)) (R 58 0 k) 20)) 25 0 ((kaf C (kfars (f125 (kmu R 9 0 0 0) (R 58 0 k)) (R 58 0 k) 20)) 3 k 1)) (kshl 1 g))) = C3 at *
              have xx3 : ∀ f, f ≠ 9 → f ≠ 87 → f ≠ 61 → f ≠ 62 → f ≠ 63 → f ≠ 64 → f130 (f125 (kmu R 9 0 0 0) (R 58 0 k)) k g n f = R f := fun f a1 a2 a3 a4 a5 a6 => (ps f a3 a4 a5 a6).trans (xx1 f a1 a2)
              have x93 : ∀ j, j ≠ 0 → f130 (f125 (kmu R 9 0 0 0) (R 58 0 k)) k g n 9 0 j = R 9 0 j := fun j a1 => by rw [ps 9 (by decide) (by decide) (by decide) (by decide), x91, kmu_j a1]
              have x03 : f130 (f125 (kmu R 9 0 0 0) (R 58 0 k)) k g n 9 0 0 = 0 := by rw [ps 9 (by decide) (by decide) (by decide) (by decide), x91, kmu_eq]
              have := H J A V C3 _ c l (.inl (some (iv (R 61 0 (4 * k + R 59 0 k - 1) + 1)))) (some (iv (R 61 0 (4 * k + R 59 0 k - 1) + 1))) ⟨hA, v, hE, rw3, ⟨B3, kMI_c FI.2 (fun f hf => cf f (by omega) (by omega) (by omega) (by omega) (by omega) (by omega)) (fun f hf => xx3 f (by omega) (by omega) (by omega) (by omega) (by omega) (by omega)) (fun j hj => x93 j (by omega))⟩, kXI_b XI (by omega) (fun f hf => xx3 f (by omega) (by omega) (by omega) (by omega) (by omega) (by omega)) (x93 15 (by decide)) (x93 26 (by decide)) (by rw [x93 7 (by decide)]; exact XI.1) y3⟩ kEx0_rfl (by omega) (by omega) (fun _ Q' z => (hz hA v rw).mpr z) (Or.inl ⟨rfl, x03⟩) (Or.inr ⟨rfl, _, rfl, by unfold kR; omega⟩)
              have c32 : C3 3 k 2 = 4 * k + R 59 0 k - 1 := by rw [cf 3 (by decide) (by decide) (by decide) (by decide) (by decide) (by decide)]; exact n2
              have c32' : 0 ≤ C3 3 k 2 := by omega
              simp (disch := first | assumption | (unfold kR; decide) | exact klc_R | (unfold kR; omega) | omega | (unfold kL; omega) | exact kcat_null | exact kcat_ref _ | exact kcat_iv _) only [r48_51, r48_52, r48_55, r48_58, ho_3_2 hA, hg_3_2 hA, hgn_3_2 hA, ho_6_5 hA, hg_6_5 hA, r24_39, true_and, and_true, kk1_i, kk1_r, kk1_n, kk1_0, kcat_iv, kcat_ref, kcat_null, kisR_ref, kisR_null, ksz_nil, ksz_iv, ksz_ref, ksz_null, ksz_lv, kfit_int, kfit_long, kfit_obj, kfit_objN, kfit_arr, kfit_arrN, knarI, knarZ0, knarZ1, kret_v, kret_n, kret_x, Nat.reduceAdd, Nat.reduceLeDiff, reduceCtorEq, Int.reduceLE, Int.reduceLT, Int.reduceEq, ite_true, ite_false, true_or, or_true, false_implies, true_implies, not_true_eq_false, not_false_eq_true, and_self, eq_self, klc_lt, klc_ge, klc_le, klc_gt, klc_eq, kmu_eq, kmu_f, kmu_i, kmu_j, c32, c65]
              exact this
        · have := H.x I (J := J) (e := 0) (x := 2) (b := some (iv 0)) (by simp) (by omega) (by omega) (fun _ Q' z => (j133_2 hA v rw (by omega) hk hg hn (Or.inl rfl) h1 (Or.inr ⟨rfl, h3⟩)).mpr z) (Or.inr ⟨rfl, rfl⟩)
          simp (disch := first | assumption | (unfold kR; decide) | exact klc_R | (unfold kR; omega) | omega | (unfold kL; omega) | exact kcat_null | exact kcat_ref _ | exact kcat_iv _) only [r24_0, r24_1, r24_2, r24_5, r24_7, r24_8, r24_11, r24_13, r24_16, r24_17, r24_19, r24_20, r24_23, r24_24, r24_25, r24_26, r24_28, ht_0 hA v.l0, true_and, and_true, kk1_i, kk1_r, kk1_n, kk1_0, kcat_iv, kcat_ref, kcat_null, kisR_ref, kisR_null, ksz_nil, ksz_iv, ksz_ref, ksz_null, ksz_lv, kfit_int, kfit_long, kfit_obj, kfit_objN, kfit_arr, kfit_arrN, knarI, knarZ0, knarZ1, kret_v, kret_n, kret_x, Nat.reduceAdd, Nat.reduceLeDiff, reduceCtorEq, Int.reduceLE, Int.reduceLT, Int.reduceEq, ite_true, ite_false, true_or, or_true, false_implies, true_implies, not_true_eq_false, not_false_eq_true, and_self, eq_self, klc_lt, klc_ge, klc_le, klc_gt, klc_eq, kmu_eq, kmu_f, kmu_i, kmu_j, q45, c43, c42x, h2, h3, Nat.zero_le, show 1 ≤ d by omega, show 1 ≤ d - 1 by omega]
          exact ⟨by omega, by omega, by omega, this⟩
      · -- a good instead
        subst hb
        have e65 : C 6 (C 3 k 2) 5 = R 61 0 (4 * k + R 59 0 k - 1) := by rw [n2]; exact n4
        have ef131 : f131 R k = 5 * (4 * k + R 59 0 k - 1) + (R 61 0 (4 * k + R 59 0 k - 1) - 1) := by unfold f131; omega
        have pre : ∀ {Q}, ka_W (kp E) (d - 1, (49, 13, [some (.ref (A 0 0)), some (.ref (A 3 k)), some (iv g), some (.ref (A 6 (4 * k + R 59 0 k - 1))), some (iv (R 61 0 (4 * k + R 59 0 k - 1) - 1))], []), (kHp J A V C R, c, l)) Q → ka_W (kp E) (d - 1, (49, 0, [some (.ref (A 0 0)), some (.ref (A 3 k)), some (iv g), none, none], []), (kHp J A V C R, c, l)) Q := by
          intro Q z
          simp (disch := first | assumption | (unfold kR; decide) | exact klc_R | (unfold kR; omega) | omega | (unfold kL; omega) | exact kcat_null | exact kcat_ref _ | exact kcat_iv _) only [r49_0, r49_1, r49_4, r49_5, r49_6, r49_9, r49_10, r49_11, ho_3_2 hA, hg_3_2 hA, hgn_3_2 hA, ho_6_5 hA, hg_6_5 hA, true_and, and_true, kk1_i, kk1_r, kk1_n, kk1_0, kcat_iv, kcat_ref, kcat_null, kisR_ref, kisR_null, ksz_nil, ksz_iv, ksz_ref, ksz_null, ksz_lv, kfit_int, kfit_long, kfit_obj, kfit_objN, kfit_arr, kfit_arrN, knarI, knarZ0, knarZ1, kret_v, kret_n, kret_x, Nat.reduceAdd, Nat.reduceLeDiff, reduceCtorEq, Int.reduceLE, Int.reduceLT, Int.reduceEq, ite_true, ite_false, true_or, or_true, false_implies, true_implies, not_true_eq_false, not_false_eq_true, and_self, eq_self, klc_lt, klc_ge, klc_le, klc_gt, klc_eq, kmu_eq, kmu_f, kmu_i, kmu_j, n2, n4]
          exact z
        simp (disch := first | assumption | (unfold kR; decide) | exact klc_R | (unfold kR; omega) | omega | (unfold kL; omega) | exact kcat_null | exact kcat_ref _ | exact kcat_iv _) only [r24_0, r24_1, r24_2, r24_5, r24_7, r24_8, r24_11, r24_13, r24_16, r24_17, r24_19, r24_20, ht_0 hA v.l0, true_and, and_true, kk1_i, kk1_r, kk1_n, kk1_0, kcat_iv, kcat_ref, kcat_null, kisR_ref, kisR_null, ksz_nil, ksz_iv, ksz_ref, ksz_null, ksz_lv, kfit_int, kfit_long, kfit_obj, kfit_objN, kfit_arr, kfit_arrN, knarI, knarZ0, knarZ1, kret_v, kret_n, kret_x, Nat.reduceAdd, Nat.reduceLeDiff, reduceCtorEq, Int.reduceLE, Int.reduceLT, Int.reduceEq, ite_true, ite_false, true_or, or_true, false_implies, true_implies, not_true_eq_false, not_false_eq_true, and_self, eq_self, klc_lt, klc_ge, klc_le, klc_gt, klc_eq, kmu_eq, kmu_f, kmu_i, kmu_j, q45, c43, h2, show ¬ (1:Int) = 0 by decide, Nat.zero_le, show 1 ≤ d by omega, show 1 ≤ d - 1 by omega]
        refine pre ?_
        have i0 : 0 ≤ 4 * k + R 59 0 k - 1 := by omega
        have fail : (R 61 0 (4 * k + R 59 0 k - 1) = 0 ∨ R 64 0 (f131 R k) ≠ -1 ∨ R 62 0 (f131 R k) = g) → (8 ≤ d - 1 ∧ 1 ≤ c ∧ 6 ≤ l ∧ Q (.inr 1) (kHp J A V C R, c - 1, l - 6)) := fun h3 =>
          ⟨by omega, by omega, by omega, H.x I (J := J) (e := 1) (x := 3) (b := some (iv 0)) (by simp) (by omega) (by omega) (fun _ Q' z => (j133_3 hA v rw bk (by omega) hk hg hn rfl h1 h2 h3).mpr z) (Or.inr ⟨rfl, rfl⟩)⟩
        by_cases h3 : R 61 0 (4 * k + R 59 0 k - 1) = 0
        · simp (disch := first | assumption | (unfold kR; decide) | exact klc_R | (unfold kR; omega) | omega | (unfold kL; omega) | exact kcat_null | exact kcat_ref _ | exact kcat_iv _) only [r49_13, r49_15, r49_40, true_and, and_true, kk1_i, kk1_r, kk1_n, kk1_0, kcat_iv, kcat_ref, kcat_null, kisR_ref, kisR_null, ksz_nil, ksz_iv, ksz_ref, ksz_null, ksz_lv, kfit_int, kfit_long, kfit_obj, kfit_objN, kfit_arr, kfit_arrN, knarI, knarZ0, knarZ1, kret_v, kret_n, kret_x, Nat.reduceAdd, Nat.reduceLeDiff, reduceCtorEq, Int.reduceLE, Int.reduceLT, Int.reduceEq, ite_true, ite_false, true_or, or_true, false_implies, true_implies, not_true_eq_false, not_false_eq_true, and_self, eq_self, klc_lt, klc_ge, klc_le, klc_gt, klc_eq, kmu_eq, kmu_f, kmu_i, kmu_j, show R 61 0 (4 * k + R 59 0 k - 1) - 1 < 0 by omega]
          exact fail (Or.inl h3)
        · have k5 := B.2.1.2.2.2.2.1 k (R 59 0 k - 1) (R 61 0 (4 * k + R 59 0 k - 1) - 1) h1.1 k1 (by omega) (by omega) (by omega) (by rw [show 4 * k + (R 59 0 k - 1) = 4 * k + R 59 0 k - 1 by omega]; omega)
          rw [show 4 * k + (R 59 0 k - 1) = 4 * k + R 59 0 k - 1 by omega, ← ef131] at k5
          obtain ⟨k51, -, k53⟩ := k5
          have Bf := rw.a64 (j := f131 R k) (by omega) (by omega)
          have Bg := rw.a62 (j := f131 R k) (by omega) (by omega)
          by_cases h4 : R 64 0 (f131 R k) = -1
          · by_cases h6 : R 62 0 (f131 R k) = g
            · simp (disch := first | assumption | (unfold kR; decide) | exact klc_R | (unfold kR; omega) | omega | (unfold kL; omega) | exact kcat_null | exact kcat_ref _ | exact kcat_iv _) only [r49_13, r49_15, r49_18, r49_19, r49_22, r49_24, r49_25, r49_26, r49_29, r49_30, r49_33, r49_35, r49_36, r49_37, r49_40, ho_6_4 hA, hg_6_4 hA, hoa_22 hA, hga_22 hA, ho_6_2 hA, hg_6_2 hA, hoa_20 hA, hga_20 hA, true_and, and_true, kk1_i, kk1_r, kk1_n, kk1_0, kcat_iv, kcat_ref, kcat_null, kisR_ref, kisR_null, ksz_nil, ksz_iv, ksz_ref, ksz_null, ksz_lv, kfit_int, kfit_long, kfit_obj, kfit_objN, kfit_arr, kfit_arrN, knarI, knarZ0, knarZ1, kret_v, kret_n, kret_x, Nat.reduceAdd, Nat.reduceLeDiff, reduceCtorEq, Int.reduceLE, Int.reduceLT, Int.reduceEq, ite_true, ite_false, true_or, or_true, false_implies, true_implies, not_true_eq_false, not_false_eq_true, and_self, eq_self, klc_lt, klc_ge, klc_le, klc_gt, klc_eq, kmu_eq, kmu_f, kmu_i, kmu_j, k51, k53, h4, h6, show ¬ R 61 0 (4 * k + R 59 0 k - 1) - 1 < 0 by omega]
              exact fail (Or.inr (Or.inr h6))
            · have hh4 : (1:Int) = 1 → ¬ R 61 0 (4 * k + R 59 0 k - 1) = 0 ∧ R 64 0 (f131 R k) = -1 ∧ ¬ R 62 0 (f131 R k) = g := fun _ => ⟨h3, h4, h6⟩
              simp (disch := first | assumption | (unfold kR; decide) | exact klc_R | (unfold kR; omega) | omega | (unfold kL; omega) | exact kcat_null | exact kcat_ref _ | exact kcat_iv _) only [r49_13, r49_15, r49_18, r49_19, r49_22, r49_24, r49_25, r49_26, r49_29, r49_30, r49_33, r49_35, r49_36, r49_37, r49_51, r49_52, r49_55, r49_56, r49_57, ho_6_4 hA, hg_6_4 hA, hoa_22 hA, hga_22 hA, ho_6_2 hA, hg_6_2 hA, hoa_20 hA, hga_20 hA, ho_0_0 hA v.l0, hg_0_0 hA v.l0, ht_1 hA v.l1, true_and, and_true, kk1_i, kk1_r, kk1_n, kk1_0, kcat_iv, kcat_ref, kcat_null, kisR_ref, kisR_null, ksz_nil, ksz_iv, ksz_ref, ksz_null, ksz_lv, kfit_int, kfit_long, kfit_obj, kfit_objN, kfit_arr, kfit_arrN, knarI, knarZ0, knarZ1, kret_v, kret_n, kret_x, Nat.reduceAdd, Nat.reduceLeDiff, reduceCtorEq, Int.reduceLE, Int.reduceLT, Int.reduceEq, ite_true, ite_false, true_or, or_true, false_implies, true_implies, not_true_eq_false, not_false_eq_true, and_self, eq_self, klc_lt, klc_ge, klc_le, klc_gt, klc_eq, kmu_eq, kmu_f, kmu_i, kmu_j, k51, k53, h4, h6, show ¬ R 61 0 (4 * k + R 59 0 k - 1) - 1 < 0 by omega, Nat.zero_le, show 1 ≤ d - 1 by omega]
              refine q61 ?_
              by_cases h5 : kfars R (R 58 0 k) 20 g ≠ -1
              · simp (disch := first | assumption | (unfold kR; decide) | exact klc_R | (unfold kR; omega) | omega | (unfold kL; omega) | exact kcat_null | exact kcat_ref _ | exact kcat_iv _) only [r49_60, r49_63, r49_64, r49_65, r49_66, ht_0 hA v.l0, true_and, and_true, kk1_i, kk1_r, kk1_n, kk1_0, kcat_iv, kcat_ref, kcat_null, kisR_ref, kisR_null, ksz_nil, ksz_iv, ksz_ref, ksz_null, ksz_lv, kfit_int, kfit_long, kfit_obj, kfit_objN, kfit_arr, kfit_arrN, knarI, knarZ0, knarZ1, kret_v, kret_n, kret_x, Nat.reduceAdd, Nat.reduceLeDiff, reduceCtorEq, Int.reduceLE, Int.reduceLT, Int.reduceEq, ite_true, ite_false, true_or, or_true, false_implies, true_implies, not_true_eq_false, not_false_eq_true, and_self, eq_self, klc_lt, klc_ge, klc_le, klc_gt, klc_eq, kmu_eq, kmu_f, kmu_i, kmu_j, kb_t h5, show ¬ (1:Int) = 0 by decide, Nat.zero_le, show 1 ≤ d - 1 by omega]
                refine ring h5 (fun a b' c' => j133_r a b' c' bk (by omega) hk hg hn (Or.inr rfl) h1 h2 (fun z => absurd z (by decide)) hh4 h5) (fun x C' z => ?_)
                simp (disch := first | assumption | (unfold kR; decide) | exact klc_R | (unfold kR; omega) | omega | (unfold kL; omega) | exact kcat_null | exact kcat_ref _ | exact kcat_iv _) only [r49_69, r24_23, true_and, and_true, kk1_i, kk1_r, kk1_n, kk1_0, kcat_iv, kcat_ref, kcat_null, kisR_ref, kisR_null, ksz_nil, ksz_iv, ksz_ref, ksz_null, ksz_lv, kfit_int, kfit_long, kfit_obj, kfit_objN, kfit_arr, kfit_arrN, knarI, knarZ0, knarZ1, kret_v, kret_n, kret_x, Nat.reduceAdd, Nat.reduceLeDiff, reduceCtorEq, Int.reduceLE, Int.reduceLT, Int.reduceEq, ite_true, ite_false, true_or, or_true, false_implies, true_implies, not_true_eq_false, not_false_eq_true, and_self, eq_self, klc_lt, klc_ge, klc_le, klc_gt, klc_eq, kmu_eq, kmu_f, kmu_i, kmu_j]
                exact z
              · have hr : ¬ kRch (f125 (kmu R 9 0 0 0) (R 58 0 k)) g (f125 (kmu R 9 0 0 0) (R 58 0 k) 58 0 k) := by
                  rw [xx1 58 (by decide) (by decide)]
                  exact kfars_no (by rw [far1]; exact h5)
                have e59 : f125 (kmu R 9 0 0 0) (R 58 0 k) 59 = R 59 := xx1 59 (by decide) (by decide)
                have e61 : f125 (kmu R 9 0 0 0) (R 58 0 k) 61 = R 61 := xx1 61 (by decide) (by decide)
                have e131 : f131 (f125 (kmu R 9 0 0 0) (R 58 0 k)) k = f131 R k := f131_c e59 e61
                have k1' : k < f125 (kmu R 9 0 0 0) (R 58 0 k) 9 0 7 := by rw [x91, e7]; exact k1
                have p4 : 1 ≤ f125 (kmu R 9 0 0 0) (R 58 0 k) 61 0 (4 * k + f125 (kmu R 9 0 0 0) (R 58 0 k) 59 0 k - 1) := by rw [e59, e61]; omega
                have hi : f125 (kmu R 9 0 0 0) (R 58 0 k) 64 0 (f131 (f125 (kmu R 9 0 0 0) (R 58 0 k)) k) = -1 := by rw [e131, xx1 64 (by decide) (by decide)]; exact h4
                have B2 : kBI V (kaf C (kfars (f125 (kmu R 9 0 0 0) (R 58 0 k)) (R 58 0 k) 20)) (f125 (kmu R 9 0 0 0) (R 58 0 k)) := kBI_cq B1 (fun f _ _ _ a _ _ _ => kaf_ff a) (by rw [kaf_ff (by decide)])
                have B3 := kBI_in rw1 B2 (k := k) (g := g) h1.1 k1' p4 hi h2.1 (by omega)
                have y3 := kBY_64 rw1 B1.2.2.2.1 y1 (k := k) (g := g) h1.1 k1' p4 hi hr
                have rw3 : kRW V (kmu (f125 (kmu R 9 0 0 0) (R 58 0 k)) 64 0 (f131 R k) g) := rw1.pa64 (by omega) (by omega)
                have hz := fun {J' A' V' C' c' l'} {Q' : ka_Q} (a : kJ A' V') (b' : kLV V') (c'' : kRW V' R) => j133_0 (E := E) (d := D) (c := c') (l := l') (Q := Q') (J := J') (C := C') a b' c'' bk (k := k) (g := g) (n := n) (b := 1) (by omega) hk hg hn (Or.inr rfl) h1 h2 (fun z => absurd z (by decide)) hh4 h5
                have e131' : f131 (kmu R 9 0 0 0) k = f131 R k := f131_c (kmu_ff (by decide)) (kmu_ff (by decide))
                have ef : f133 (kmu R 9 0 0 0) k g n 1 = kmu (f125 (kmu R 9 0 0 0) (R 58 0 k)) 64 0 (f131 R k) g := by unfold f133; rw [if_neg (by decide), e58, e131']
                rw [ef, if_neg (show ¬ (1:Int) = 0 by decide)] at hz
                obtain ⟨m1, m2, m3, m4, m5, m6, m7, m8, m9⟩ := B2.new rw1 h1.1 k1'
                have q58 := fun {Q} => c58 (E := E) (d := d - 1 - 1) (c := c) (l := l) (Q := Q) (J := J) (R := R) (g := g) hA v (by omega) m1 m2 (by rw [e59]; omega) m3 (by rw [m4]; exact p4) (by rw [m4, e59, e61]; exact B61.2) (by rw [m5]; exact m6) (by rw [m5]; exact m7)
                rw [e131] at B3 y3
                simp (disch := first | assumption | (unfold kR; decide) | exact klc_R | (unfold kR; omega) | omega | (unfold kL; omega) | exact kcat_null | exact kcat_ref _ | exact kcat_iv _) only [r49_60, r49_70, r49_71, r49_74, r49_75, r49_76, r49_79, r49_80, ho_0_0 hA v.l0, hg_0_0 hA v.l0, ht_1 hA v.l1, r24_23, true_and, and_true, kk1_i, kk1_r, kk1_n, kk1_0, kcat_iv, kcat_ref, kcat_null, kisR_ref, kisR_null, ksz_nil, ksz_iv, ksz_ref, ksz_null, ksz_lv, kfit_int, kfit_long, kfit_obj, kfit_objN, kfit_arr, kfit_arrN, knarI, knarZ0, knarZ1, kret_v, kret_n, kret_x, Nat.reduceAdd, Nat.reduceLeDiff, reduceCtorEq, Int.reduceLE, Int.reduceLT, Int.reduceEq, ite_true, ite_false, true_or, or_true, false_implies, true_implies, not_true_eq_false, not_false_eq_true, and_self, eq_self, klc_lt, klc_ge, klc_le, klc_gt, klc_eq, kmu_eq, kmu_f, kmu_i, kmu_j, kb_f h5, q58, Nat.zero_le, show 1 ≤ d - 1 by omega]
                refine H J A V _ _ c l (.inl (some (iv 0))) (some (iv 0)) ⟨hA, v, hE, rw3, ⟨B3, kMI_c FI.2 (fun f hf => ?_) (fun f hf => ?_) (fun j hj => ?_)⟩, kXI_b XI (by omega) (fun f hf => ?_) ?_ ?_ ?_ y3⟩ kEx0_rfl (by omega) (by omega) (fun _ Q' z => (hz hA v rw).mpr z) (Or.inl ⟨rfl, ?_⟩) (Or.inr ⟨rfl, _, rfl, by unfold kR; omega⟩)
                · rw [kmu_ff (by omega), kmu_ff (by omega), kaf_ff (by omega)]
                · rw [kmu_ff (by omega)]; exact xx1 f (by omega) (by omega)
                · rw [kmu_f (by decide), x91, kmu_j (by omega)]
                · rw [kmu_ff (by omega)]; exact xx1 f (by omega) (by omega)
                · rw [kmu_f (by decide), x91, kmu_j (by decide)]
                · rw [kmu_f (by decide), x91, kmu_j (by decide)]
                · rw [kmu_f (by decide), x91, kmu_j (by decide)]; exact XI.1
                · rw [kmu_f (by decide), x91, kmu_eq]
          · simp (disch := first | assumption | (unfold kR; decide) | exact klc_R | (unfold kR; omega) | omega | (unfold kL; omega) | exact kcat_null | exact kcat_ref _ | exact kcat_iv _) only [r49_13, r49_15, r49_18, r49_19, r49_22, r49_24, r49_25, r49_26, r49_40, ho_6_4 hA, hg_6_4 hA, hoa_22 hA, hga_22 hA, true_and, and_true, kk1_i, kk1_r, kk1_n, kk1_0, kcat_iv, kcat_ref, kcat_null, kisR_ref, kisR_null, ksz_nil, ksz_iv, ksz_ref, ksz_null, ksz_lv, kfit_int, kfit_long, kfit_obj, kfit_objN, kfit_arr, kfit_arrN, knarI, knarZ0, knarZ1, kret_v, kret_n, kret_x, Nat.reduceAdd, Nat.reduceLeDiff, reduceCtorEq, Int.reduceLE, Int.reduceLT, Int.reduceEq, ite_true, ite_false, true_or, or_true, false_implies, true_implies, not_true_eq_false, not_false_eq_true, and_self, eq_self, klc_lt, klc_ge, klc_le, klc_gt, klc_eq, kmu_eq, kmu_f, kmu_i, kmu_j, k53, h4, show ¬ R 61 0 (4 * k + R 59 0 k - 1) - 1 < 0 by omega]
            exact fail (Or.inr (Or.inl h4))
    · have := H.x I (J := J) (e := 0) (x := 2) (b := some (iv 0)) (by simp) (by omega) (by omega) (fun _ Q' z => (j133_2 hA v rw (by omega) hk hg hn hb h1 (Or.inl h2)).mpr z) (Or.inr ⟨rfl, rfl⟩)
      simp (disch := first | assumption | (unfold kR; decide) | exact klc_R | (unfold kR; omega) | omega | (unfold kL; omega) | exact kcat_null | exact kcat_ref _ | exact kcat_iv _) only [r24_0, r24_1, r24_2, r24_5, r24_7, r24_8, ht_0 hA v.l0, true_and, and_true, kk1_i, kk1_r, kk1_n, kk1_0, kcat_iv, kcat_ref, kcat_null, kisR_ref, kisR_null, ksz_nil, ksz_iv, ksz_ref, ksz_null, ksz_lv, kfit_int, kfit_long, kfit_obj, kfit_objN, kfit_arr, kfit_arrN, knarI, knarZ0, knarZ1, kret_v, kret_n, kret_x, Nat.reduceAdd, Nat.reduceLeDiff, reduceCtorEq, Int.reduceLE, Int.reduceLT, Int.reduceEq, ite_true, ite_false, true_or, or_true, false_implies, true_implies, not_true_eq_false, not_false_eq_true, and_self, eq_self, klc_lt, klc_ge, klc_le, klc_gt, klc_eq, kmu_eq, kmu_f, kmu_i, kmu_j, q45, c43x, h2, Nat.zero_le, show 1 ≤ d by omega, show 9 ≤ d - 1 by omega]
      exact ⟨by omega, by omega, this⟩
  · have := H.x I (J := J) (e := 2) (x := 1) (b := some (iv 0)) (by simp) (by omega) (by omega) (fun _ Q' z => (j133_1 hA v rw (by omega) hk h1).mpr z) (Or.inr ⟨rfl, rfl⟩)
    have q45 := fun {Q} => c45x (E := E) (d := d - 1) (c := c) (l := l) (Q := Q) (J := J) (R := R) hA v rw B hk (by omega) h1
    simp (disch := first | assumption | (unfold kR; decide) | exact klc_R | (unfold kR; omega) | omega | (unfold kL; omega) | exact kcat_null | exact kcat_ref _ | exact kcat_iv _) only [r24_0, r24_1, r24_2, ht_0 hA v.l0, true_and, and_true, kk1_i, kk1_r, kk1_n, kk1_0, kcat_iv, kcat_ref, kcat_null, kisR_ref, kisR_null, ksz_nil, ksz_iv, ksz_ref, ksz_null, ksz_lv, kfit_int, kfit_long, kfit_obj, kfit_objN, kfit_arr, kfit_arrN, knarI, knarZ0, knarZ1, kret_v, kret_n, kret_x, Nat.reduceAdd, Nat.reduceLeDiff, reduceCtorEq, Int.reduceLE, Int.reduceLT, Int.reduceEq, ite_true, ite_false, true_or, or_true, false_implies, true_implies, not_true_eq_false, not_false_eq_true, and_self, eq_self, klc_lt, klc_ge, klc_le, klc_gt, klc_eq, kmu_eq, kmu_f, kmu_i, kmu_j, q45, Nat.zero_le, show 1 ≤ d by omega]
    exact ⟨by omega, by omega, this⟩
end
