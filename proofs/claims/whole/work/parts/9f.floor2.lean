/-! Calls: step, done, broken, make. -/
section
variable {E : Nat × Nat} {d D yr c l : Nat} {s : ka_S} {h : ka_H} {Q : ka_Q} {J : ka_H} {A A' : ka_A} {V V' : ka_V} {C C' R R' X X' X'' Y Z : ka_M} {t b : Int} {ag : ka_A → List (Option Value)} {ex : List (Nat × Int)}
theorem kRF_69 (F : kRF V C X) {m x : Int} : kRF V (kmu C 4 m 8 x) (kmu X 69 0 m x) := by
  have cc : ∀ f, f ≠ 4 → (kmu C 4 m 8 x) f = C f := fun f h => kmu_ff h
  have rr : ∀ f, f ≠ 69 → (kmu X 69 0 m x) f = X f := fun f h => kmu_ff h
  refine kRF_f F (cc 8 (by decide)) (cc 10 (by decide)) (cc 33 (by decide)) (fun j _ => kmu_f (by decide)) (rr 77 (by decide)) (rr 78 (by decide)) (rr 79 (by decide)) (rr 80 (by decide)) (rr 81 (by decide)) (fun m' a b h => ?_) (fun m' p a b a' b' => ?_) (fun g' a b => ?_) (cc 29 (by decide))
  · obtain ⟨M1, M2, M3, M4, M5, M6, M7, M8, M9, M10, M11, M12, M13, M14⟩ := h
    unfold kRm
    rw [cc 33 (by decide), cc 10 (by decide), cc 6 (by decide), rr 66 (by decide), rr 58 (by decide), rr 67 (by decide), rr 68 (by decide), rr 71 (by decide), rr 70 (by decide)]
    refine ⟨M1, M2, M3, M4, M5, ?_, ?_, ?_, ?_, ?_, ?_, ?_, M13, M14⟩
    · rw [kmu_j (by decide)]; exact M6
    · rw [kmu_j (by decide)]; exact M7
    · rw [kmu_j (by decide)]; exact M8
    · rw [kmu_j (by decide)]; exact M9
    · rw [kmu_j (by decide)]; exact M10
    · by_cases e : m' = m
      · rw [e, kmu_eq, kmu_eq]
      · rw [kmu_i e, kmu_j e]; exact M11
    · rw [kmu_j (by decide)]; exact M12
  · rw [rr 70 (by decide)] at b'
    exact (F.2.2.2.2.2.1 m' p a b a' b').cc (cc 20 (by decide)) (cc 21 (by decide)) (cc 22 (by decide)) (cc 23 (by decide)) (cc 24 (by decide)) (rr 72 (by decide)) (rr 73 (by decide)) (rr 74 (by decide)) (rr 68 (by decide)) (rr 71 (by decide)) (rr 75 (by decide)) (rr 78 (by decide)) (rr 80 (by decide)) (rr 81 (by decide)) (kmu_f (by decide))
  · rw [cc 28 (by decide), rr 55 (by decide)]
    exact (F.2.2.2.2.2.2.2 g' a b).1
/-- step -/
theorem t33 (I : kIv E A V C R t) (ht : t ≤ 600) {m n b : Int} (hm : kR m) (hn : kR n) (hb : b = 0 ∨ b = 1) (hd : 40 ≤ d) (hD : 40 ≤ D) (hc : 121 ≤ c) (hl : 2786 ≤ l) (H : kEnd E D 162 (fun A => [some (.ref (A 9 0)), some (iv m), some (iv n), some (iv b)]) [(2, 1), (1, 2)] V A R t c l Q) :
    ka_W (kp E) (d, (33, 0, [some (.ref (A 0 0)), some (iv m), some (iv n), some (iv b), none, none], []), (kHp J A V C R, c, l)) Q := by
  have hI := I
  obtain ⟨hA, v, hE, rw, FI, XI⟩ := hI
  have F := FI.1.2.2.1
  have B15 := rw.i15
  by_cases h1 : 1 ≤ m ∧ m ≤ R 9 0 15
  · have q46 := fun {Q} => c46 (E := E) (d := d - 1) (c := c) (l := l) (Q := Q) (J := J) (R := R) hA v rw F (by omega) h1
    obtain ⟨z1, z2, z3, ⟨r1, r2, r3, r4⟩, -, -, -, -, -, z10, z11, -, z13, -⟩ := F.2.2.2.2.1 m h1.1 h1.2
    have B68 := rw.a68 (j := m) (by omega) (by omega)
    have B69 := rw.a69 (j := m) (by omega) (by omega)
    have B70 := rw.a70 (j := m) (by omega) (by omega)
    have sp := XI.2.2.2.2 m h1.1 h1.2
    have m0' : 0 ≤ 100 + m := by omega
    have fail : (¬ R 68 0 m = 0 ∨ ¬ f159 R (R 67 0 m) = m ∨ ¬ n = R 69 0 m + 1 ∨ ¬ n ≤ R 70 0 m) → Q (.inr 1) (kHp J A V C R, c - 1, l - 6) := fun h3 => H.x I (J := J) (e := 1) (x := 2) (b := some (iv 0)) (by simp) (by omega) (by omega) (fun _ Q' z => (j162_2 hA v rw (by omega) hm hn h1 h3).mpr z) (Or.inr ⟨rfl, rfl⟩)
    by_cases h3 : R 68 0 m = 0
    · have z10' : C 4 m 7 = 0 := by rw [z10]; exact h3
      have q69 := fun {Q} => c69 (E := E) (d := d - 1) (c := c) (l := l) (Q := Q) (J := J) (R := R) hA v rw F (by omega) h1.1 h1.2 h3
      by_cases h4 : f159 R (R 67 0 m) = m
      · rw [kb_t h4] at q69
        have e84 : C 6 (100 + m) 5 - C 4 m 8 = R 70 0 m - R 69 0 m := by rw [z13, z11]
        by_cases h6 : R 70 0 m - R 69 0 m = 0
        · have hf : ¬ n = R 69 0 m + 1 ∨ ¬ n ≤ R 70 0 m := by omega
          simp (disch := first | assumption | (unfold kR; decide) | exact klc_R | (unfold kR; omega) | omega | (unfold kL; omega) | exact kcat_null | exact kcat_ref _ | exact kcat_iv _) only [r33_0, r33_1, r33_2, r33_5, r33_7, r33_9, r33_12, r33_13, r33_16, r33_18, r33_21, r33_24, r33_34, r33_36, r33_39, r33_42, r33_43, r33_45, r33_48, r33_49, r33_50, r33_53, ht_0 hA v.l0, ho_0_3 hA v.l0, hg_0_3 hA v.l0, ht_2 hA v.l2, ht_4 hA, ho_4_8 hA, hg_4_8 hA, true_and, and_true, kk1_i, kk1_r, kk1_n, kk1_0, kcat_iv, kcat_ref, kcat_null, kisR_ref, kisR_null, ksz_nil, ksz_iv, ksz_ref, ksz_null, ksz_lv, kfit_int, kfit_long, kfit_obj, kfit_objN, kfit_arr, kfit_arrN, knarI, knarZ0, knarZ1, kret_v, kret_n, kret_x, Nat.reduceAdd, Nat.reduceLeDiff, reduceCtorEq, Int.reduceLE, Int.reduceLT, Int.reduceEq, ite_true, ite_false, true_or, or_true, false_implies, true_implies, not_true_eq_false, not_false_eq_true, and_self, eq_self, klc_lt, klc_ge, klc_le, klc_gt, klc_eq, kmu_eq, kmu_f, kmu_i, kmu_j, q46, c44 hA z1 z10', q69, c84 hA z1 r1, e84, h6, show ¬ (1:Int) = 0 by decide, Nat.zero_le, show 1 ≤ d by omega]
          exact ⟨by omega, by omega, by omega, fail (by rcases hf with hf | hf; exact Or.inr (Or.inr (Or.inl hf)); exact Or.inr (Or.inr (Or.inr hf)))⟩
        · by_cases h5 : n = R 69 0 m + 1
          · have h7' : n ≤ R 70 0 m := by omega
            -- the part
            obtain ⟨p1, p2, p3, p4, p5⟩ := F.2.2.2.2.2.1 m (R 69 0 m) h1.1 h1.2 B69.1 (by omega)
            have e86 : C 21 (100 + m) (R 69 0 m) - (C 23 m (R 69 0 m) + C 24 m (R 69 0 m)) = R 73 0 (5 * m + R 69 0 m) - f151 R m (R 69 0 m) := by
              rw [p2, p4 h3, p5 (fun z => by omega)]
              rfl
            have fr := f151_r rw (m := m) (p := R 69 0 m) (by omega) (by omega) B69.1 (by omega)
            have B73 := rw.a73 (j := 5 * m + R 69 0 m) (by omega) (by omega)
            have en1 : n - 1 = R 69 0 m := by omega
            have en2 : 5 * m + n - 1 = 5 * m + R 69 0 m := by omega
            have q86 := fun {Q} => c86 (E := E) (d := d - 1) (c := c) (l := l) (Q := Q) (J := J) (R := R) (C := C) (p := R 69 0 m) hA (by omega) z1 r1 r3 z2 z3 B69.1 (by omega)
            rw [e86] at q86
            have gate : ∀ {Q}, ka_W (kp E) (d, (33, 77, [some (.ref (A 0 0)), some (iv m), some (iv n), some (iv b), some (.ref (A 4 m)), some (iv (R 69 0 m))], [iv (R 73 0 (5 * m + R 69 0 m) - f151 R m (R 69 0 m))]), (kHp J A V C R, c, l)) Q → ka_W (kp E) (d, (33, 0, [some (.ref (A 0 0)), some (iv m), some (iv n), some (iv b), none, none], []), (kHp J A V C R, c, l)) Q := by
              intro Q z
              simp (disch := first | assumption | (unfold kR; decide) | exact klc_R | (unfold kR; omega) | omega | (unfold kL; omega) | exact kcat_null | exact kcat_ref _ | exact kcat_iv _) only [r33_0, r33_1, r33_2, r33_5, r33_7, r33_9, r33_12, r33_13, r33_16, r33_18, r33_21, r33_24, r33_34, r33_36, r33_39, r33_42, r33_43, r33_45, r33_48, r33_49, r33_50, r33_53, r33_63, r33_65, r33_68, r33_70, r33_72, r33_74, ht_0 hA v.l0, ho_0_3 hA v.l0, hg_0_3 hA v.l0, ht_2 hA v.l2, ht_4 hA, ho_4_8 hA, hg_4_8 hA, true_and, and_true, kk1_i, kk1_r, kk1_n, kk1_0, kcat_iv, kcat_ref, kcat_null, kisR_ref, kisR_null, ksz_nil, ksz_iv, ksz_ref, ksz_null, ksz_lv, kfit_int, kfit_long, kfit_obj, kfit_objN, kfit_arr, kfit_arrN, knarI, knarZ0, knarZ1, kret_v, kret_n, kret_x, Nat.reduceAdd, Nat.reduceLeDiff, reduceCtorEq, Int.reduceLE, Int.reduceLT, Int.reduceEq, ite_true, ite_false, true_or, or_true, false_implies, true_implies, not_true_eq_false, not_false_eq_true, and_self, eq_self, klc_lt, klc_ge, klc_le, klc_gt, klc_eq, kmu_eq, kmu_f, kmu_i, kmu_j, q46, c44 hA z1 z10', q69, c84 hA z1 r1, z13, z11, q86, h6, h5, show ¬ (1:Int) = 0 by decide, Nat.zero_le, show 1 ≤ d by omega] at z ⊢
              exact z
            refine gate ?_
            by_cases h8 : f151 R m (n - 1) < R 73 0 (5 * m + n - 1)
            · have := H.q I (J := J) (x := 0) (by unfold kR; omega) (fun _ Q' z => (j162_w hA v rw (by omega) hm hn h1 h3 h4 h5 h7' h8).mpr z)
              rw [en1, en2] at h8
              simp (disch := first | assumption | (unfold kR; decide) | exact klc_R | (unfold kR; omega) | omega | (unfold kL; omega) | exact kcat_null | exact kcat_ref _ | exact kcat_iv _) only [r33_77, r33_80, r33_81, true_and, and_true, kk1_i, kk1_r, kk1_n, kk1_0, kcat_iv, kcat_ref, kcat_null, kisR_ref, kisR_null, ksz_nil, ksz_iv, ksz_ref, ksz_null, ksz_lv, kfit_int, kfit_long, kfit_obj, kfit_objN, kfit_arr, kfit_arrN, knarI, knarZ0, knarZ1, kret_v, kret_n, kret_x, Nat.reduceAdd, Nat.reduceLeDiff, reduceCtorEq, Int.reduceLE, Int.reduceLT, Int.reduceEq, ite_true, ite_false, true_or, or_true, false_implies, true_implies, not_true_eq_false, not_false_eq_true, and_self, eq_self, klc_lt, klc_ge, klc_le, klc_gt, klc_eq, kmu_eq, kmu_f, kmu_i, kmu_j, show ¬ (R 73 0 (5 * m + R 69 0 m) - f151 R m (R 69 0 m) ≤ 0) by omega]
              exact this
            · have h8' : R 73 0 (5 * m + n - 1) ≤ f151 R m (n - 1) := by omega
              have h8'' : R 73 0 (5 * m + R 69 0 m) - f151 R m (R 69 0 m) ≤ 0 := by rw [en1, en2] at h8'; omega
              rcases hb with hb | hb
              · subst hb
                have rw0 : kRW V (kmu R 9 0 0 0) := rw.pi0 (by omega) (by omega)
                have FI0 := kFI_0 FI (x := 0)
                have XI0 : kXI (kmu R 9 0 0 0) t := kXI_9 XI (by omega) (fun f a _ _ _ _ _ => kmu_ff a) (kmu_j (by decide)) (kmu_j (by decide)) (kmu_j (by decide))
                have e15 : kmu R 9 0 0 0 9 0 15 = R 9 0 15 := kmu_j (by decide)
                have e70 : kmu R 9 0 0 0 70 0 m = R 70 0 m := kmu_f (by decide)
                obtain ⟨g1, g2, g3, g4⟩ := f160_g rw0 XI0.2.1 XI0.2.2.1 (m := m) (p := n - 1) h1.1 (by rw [e15]; exact h1.2) (by omega) (by omega)
                obtain ⟨k1, k2, k3⟩ := kXI_f hA v XI0 g1 g2 g3 (by omega) (fun f hf => g4 f (by omega) (by omega) (by omega)) (by rw [g4 9 (by decide) (by decide) (by decide)]) (by
                  unfold kSp
                  rw [g4 9 (by decide) (by decide) (by decide), g4 69 (by decide) (by decide) (by decide), g4 70 (by decide) (by decide) (by decide)]
                  exact XI0.2.2.2.2)
                have xx : ∀ f, f ≠ 9 → f ≠ 55 → f ≠ 75 → f ≠ 78 → f ≠ 80 → f ≠ 81 → f162 (kmu R 9 0 0 0) m n f = R f := fun f a1 a2 a3 a4 a5 a6 => by unfold f162; rw [k3.1 f a2 a3 a4 a5 a6, g4 f a3 a4 a5, kmu_ff a1]
                have x9 : f162 (kmu R 9 0 0 0) m n 9 = kmu R 9 0 0 0 9 := by unfold f162; rw [k3.1 9 (by decide) (by decide) (by decide) (by decide) (by decide), g4 9 (by decide) (by decide) (by decide)]
                have k1' : kRW V (f162 (kmu R 9 0 0 0) m n) := k1
                have k2' : kXI (f162 (kmu R 9 0 0 0) m n) (t + 1) := k2
                simp (disch := first | assumption | (unfold kR; decide) | exact klc_R | (unfold kR; omega) | omega | (unfold kL; omega) | exact kcat_null | exact kcat_ref _ | exact kcat_iv _) only [r33_77, r33_82, r33_83, r33_100, r33_101, r33_104, r33_106, r33_108, ho_0_3 hA v.l0, hg_0_3 hA v.l0, ht_2 hA v.l2, true_and, and_true, kk1_i, kk1_r, kk1_n, kk1_0, kcat_iv, kcat_ref, kcat_null, kisR_ref, kisR_null, ksz_nil, ksz_iv, ksz_ref, ksz_null, ksz_lv, kfit_int, kfit_long, kfit_obj, kfit_objN, kfit_arr, kfit_arrN, knarI, knarZ0, knarZ1, kret_v, kret_n, kret_x, Nat.reduceAdd, Nat.reduceLeDiff, reduceCtorEq, Int.reduceLE, Int.reduceLT, Int.reduceEq, ite_true, ite_false, true_or, or_true, false_implies, true_implies, not_true_eq_false, not_false_eq_true, and_self, eq_self, klc_lt, klc_ge, klc_le, klc_gt, klc_eq, kmu_eq, kmu_f, kmu_i, kmu_j, h8'', Nat.zero_le, show 1 ≤ d by omega]
                rw [← en1]
                refine c71 hA v rw0 XI0.2.2.1.2.1 XI0.2.2.1.2.2.1 FI0.1.2.2.1 (by omega) h1.1 (by rw [e15]; exact h1.2) (by omega) (by rw [e70]; omega) g2 (fun C1 a1 a2 => ?_)
                have a2' : kRF V C1 (f162 (kmu R 9 0 0 0) m n) := a2
                have hz := fun {Q} {C9} => j162_b (E := E) (d := D) (c := c) (l := l) (Q := Q) (J := J) (C := C9) (b := 0) hA v rw XI.2.2.1.2.2.1.wh (by omega) hm hn h1 h3 h4 h5 h7' h8' rfl g2
                have B1 : kBI V C1 (f162 (kmu R 9 0 0 0) m n) := kBI_F FI.1 a2' (fun f hf => a1 f (by omega) (by omega) (by omega) (by omega) (by omega)) (fun f q hf _ => by rw [a1 f (by omega) (by omega) (by omega) (by omega) (by omega)]) rw (fun f hf => xx f (by omega) (by omega) (by omega) (by omega) (by omega) (by omega)) (by rw [x9, kmu_j (by decide)]) (by rw [x9, kmu_j (by decide)])
                have M1 : kMI C1 (f162 (kmu R 9 0 0 0) m n) := kMI_f rw FI.2 a1.mi (fun f hf => xx f (by omega) (by omega) (by omega) (by omega) (by omega) (by omega)) (fun j hj => by rw [x9, kmu_j (by omega)]) (by rw [x9, kmu_j (by decide)]; omega) (fun m' _ _ z => by
                  rw [xx 68 (by decide) (by decide) (by decide) (by decide) (by decide) (by decide), xx 70 (by decide) (by decide) (by decide) (by decide) (by decide) (by decide), xx 72 (by decide) (by decide) (by decide) (by decide) (by decide) (by decide), xx 73 (by decide) (by decide) (by decide) (by decide) (by decide) (by decide)]
                  exact ⟨z, rfl, fun i _ _ => ⟨rfl, rfl⟩⟩)
                have := H J A V C1 _ c l (.inl (some (iv 1))) (some (iv 1)) ⟨hA, v, hE, k1', ⟨B1, M1⟩, k2'⟩ kEx0_rfl (by omega) (by omega) (fun _ Q' z => hz.mpr z) (Or.inl ⟨rfl, by rw [x9, kmu_eq]⟩) (Or.inr ⟨rfl, _, rfl, by unfold kR; omega⟩)
                simp (disch := first | assumption | (unfold kR; decide) | exact klc_R | (unfold kR; omega) | omega | (unfold kL; omega) | exact kcat_null | exact kcat_ref _ | exact kcat_iv _) only [r33_111, r33_112, true_and, and_true, kk1_i, kk1_r, kk1_n, kk1_0, kcat_iv, kcat_ref, kcat_null, kisR_ref, kisR_null, ksz_nil, ksz_iv, ksz_ref, ksz_null, ksz_lv, kfit_int, kfit_long, kfit_obj, kfit_objN, kfit_arr, kfit_arrN, knarI, knarZ0, knarZ1, kret_v, kret_n, kret_x, Nat.reduceAdd, Nat.reduceLeDiff, reduceCtorEq, Int.reduceLE, Int.reduceLT, Int.reduceEq, ite_true, ite_false, true_or, or_true, false_implies, true_implies, not_true_eq_false, not_false_eq_true, and_self, eq_self, klc_lt, klc_ge, klc_le, klc_gt, klc_eq, kmu_eq, kmu_f, kmu_i, kmu_j]
                exact this
              · subst hb
                have hz := fun {Q} {C1} => j162_g (E := E) (d := D) (c := c) (l := l) (Q := Q) (J := J) (C := C1) (b := 1) hA v rw (by omega) hm hn (by unfold kR; omega) h1 h3 h4 h5 h7' h8' (by decide)
                have xx : ∀ f, f ≠ 9 → f ≠ 69 → kmu (kmu R 9 0 0 0) 69 0 m (R 69 0 m + 1) f = R f := fun f a1 a2 => by rw [kmu_ff a2, kmu_ff a1]
                have x9 : ∀ j, j ≠ 0 → kmu (kmu R 9 0 0 0) 69 0 m (R 69 0 m + 1) 9 0 j = R 9 0 j := fun j a => by rw [kmu_f (by decide), kmu_j a]
                have F1 : kRF V (kmu C 4 m 8 (R 69 0 m + 1)) (kmu (kmu R 9 0 0 0) 69 0 m (R 69 0 m + 1)) := kRF_69 (kFI_0 FI).1.2.2.1
                have B1 : kBI V (kmu C 4 m 8 (R 69 0 m + 1)) (kmu (kmu R 9 0 0 0) 69 0 m (R 69 0 m + 1)) := kBI_F FI.1 F1 (fun f hf => kmu_ff (by omega)) (fun f q hf _ => by rw [kmu_ff (by omega)]) rw (fun f hf => xx f (by omega) (by omega)) (x9 7 (by decide)) (x9 15 (by decide))
                have M1 : kMI (kmu C 4 m 8 (R 69 0 m + 1)) (kmu (kmu R 9 0 0 0) 69 0 m (R 69 0 m + 1)) := kMI_c FI.2 (fun f hf => kmu_ff (by omega)) (fun f hf => xx f (by omega) (by omega)) (fun j hj => x9 j (by omega))
                have XI1 : kXI (kmu (kmu R 9 0 0 0) 69 0 m (R 69 0 m + 1)) (t + 1) := by
                  obtain ⟨y1, y2, y3, y4, y5⟩ := XI
                  refine ⟨by rw [x9 7 (by decide)]; exact y1, kND_9 y2 (fun f hf => xx f (by omega) (by omega)) (x9 15 (by decide)) (x9 26 (by decide)), kUX_g y3 (x9 15 (by decide)) (x9 26 (by decide)) (xx 79 (by decide) (by decide)) (xx 71 (by decide) (by decide)) (fun m' z => by rw [xx 68 (by decide) (by decide)]; exact z) (fun m' z => ?_) (fun q _ => by rw [xx 75 (by decide) (by decide)]) (fun u => Or.inl ⟨by rw [xx 78 (by decide) (by decide)], by rw [xx 80 (by decide) (by decide)]⟩) (fun g x y => by rw [xx 55 (by decide) (by decide)]; have := y3.2.2.2.2.2.2 g x y; omega), kBY_c y4 (fun f hf => xx f (by omega) (by omega)) (x9 7 (by decide)), fun m' b0 b1 => ?_⟩
                  · rw [kmu_j (by omega), kmu_f (by decide)]
                  · rw [x9 15 (by decide)] at b1
                    rw [xx 70 (by decide) (by decide)]
                    by_cases e : m' = m
                    · rw [e, kmu_eq]; omega
                    · rw [kmu_j e, kmu_f (by decide)]; exact y5 m' b0 b1
                have := H J A V (kmu C 4 m 8 (R 69 0 m + 1)) _ c l (.inl (some (iv 1))) (some (iv 1)) ⟨hA, v, hE, (rw.pi0 (by omega) (by omega)).pa69 (by omega) (by omega), ⟨B1, M1⟩, XI1⟩ kEx0_rfl (by omega) (by omega) (fun _ Q' z => hz.mpr z) (Or.inl ⟨rfl, by rw [kmu_f (by decide), kmu_eq]⟩) (Or.inr ⟨rfl, _, rfl, by unfold kR; omega⟩)
                simp (disch := first | assumption | (unfold kR; decide) | exact klc_R | (unfold kR; omega) | omega | (unfold kL; omega) | exact kcat_null | exact kcat_ref _ | exact kcat_iv _) only [r33_77, r33_82, r33_83, r33_86, r33_88, r33_89, r33_92, r33_93, r33_94, r33_97, r33_111, r33_112, ho_4_8 hA, hg_4_8 hA, hp_4_8 hA, true_and, and_true, kk1_i, kk1_r, kk1_n, kk1_0, kcat_iv, kcat_ref, kcat_null, kisR_ref, kisR_null, ksz_nil, ksz_iv, ksz_ref, ksz_null, ksz_lv, kfit_int, kfit_long, kfit_obj, kfit_objN, kfit_arr, kfit_arrN, knarI, knarZ0, knarZ1, kret_v, kret_n, kret_x, Nat.reduceAdd, Nat.reduceLeDiff, reduceCtorEq, Int.reduceLE, Int.reduceLT, Int.reduceEq, ite_true, ite_false, true_or, or_true, false_implies, true_implies, not_true_eq_false, not_false_eq_true, and_self, eq_self, klc_lt, klc_ge, klc_le, klc_gt, klc_eq, kmu_eq, kmu_f, kmu_i, kmu_j, h8'', z11, show ¬ (1:Int) = 0 by decide]
                exact this
          · simp (disch := first | assumption | (unfold kR; decide) | exact klc_R | (unfold kR; omega) | omega | (unfold kL; omega) | exact kcat_null | exact kcat_ref _ | exact kcat_iv _) only [r33_0, r33_1, r33_2, r33_5, r33_7, r33_9, r33_12, r33_13, r33_16, r33_18, r33_21, r33_24, r33_34, r33_36, r33_39, r33_42, r33_43, r33_45, r33_48, r33_49, r33_50, r33_53, ht_0 hA v.l0, ho_0_3 hA v.l0, hg_0_3 hA v.l0, ht_2 hA v.l2, ht_4 hA, ho_4_8 hA, hg_4_8 hA, true_and, and_true, kk1_i, kk1_r, kk1_n, kk1_0, kcat_iv, kcat_ref, kcat_null, kisR_ref, kisR_null, ksz_nil, ksz_iv, ksz_ref, ksz_null, ksz_lv, kfit_int, kfit_long, kfit_obj, kfit_objN, kfit_arr, kfit_arrN, knarI, knarZ0, knarZ1, kret_v, kret_n, kret_x, Nat.reduceAdd, Nat.reduceLeDiff, reduceCtorEq, Int.reduceLE, Int.reduceLT, Int.reduceEq, ite_true, ite_false, true_or, or_true, false_implies, true_implies, not_true_eq_false, not_false_eq_true, and_self, eq_self, klc_lt, klc_ge, klc_le, klc_gt, klc_eq, kmu_eq, kmu_f, kmu_i, kmu_j, q46, c44 hA z1 z10', q69, c84 hA z1 r1, z13, z11, h6, h5, show ¬ (1:Int) = 0 by decide, Nat.zero_le, show 1 ≤ d by omega]
            exact ⟨by omega, by omega, by omega, fail (Or.inr (Or.inr (Or.inl h5)))⟩
      · rw [kb_f h4] at q69
        simp (disch := first | assumption | (unfold kR; decide) | exact klc_R | (unfold kR; omega) | omega | (unfold kL; omega) | exact kcat_null | exact kcat_ref _ | exact kcat_iv _) only [r33_0, r33_1, r33_2, r33_5, r33_7, r33_9, r33_12, r33_13, r33_16, r33_18, r33_21, r33_24, ht_0 hA v.l0, ho_0_3 hA v.l0, hg_0_3 hA v.l0, ht_2 hA v.l2, true_and, and_true, kk1_i, kk1_r, kk1_n, kk1_0, kcat_iv, kcat_ref, kcat_null, kisR_ref, kisR_null, ksz_nil, ksz_iv, ksz_ref, ksz_null, ksz_lv, kfit_int, kfit_long, kfit_obj, kfit_objN, kfit_arr, kfit_arrN, knarI, knarZ0, knarZ1, kret_v, kret_n, kret_x, Nat.reduceAdd, Nat.reduceLeDiff, reduceCtorEq, Int.reduceLE, Int.reduceLT, Int.reduceEq, ite_true, ite_false, true_or, or_true, false_implies, true_implies, not_true_eq_false, not_false_eq_true, and_self, eq_self, klc_lt, klc_ge, klc_le, klc_gt, klc_eq, kmu_eq, kmu_f, kmu_i, kmu_j, q46, c44 hA z1 z10', q69, Nat.zero_le, show 1 ≤ d by omega]
        exact ⟨by omega, by omega, by omega, fail (Or.inr (Or.inl h4))⟩
    · have z10' : ¬ C 4 m 7 = 0 := by rw [z10]; exact h3
      have z10r : kR (C 4 m 7) := by rw [z10]; unfold kR; omega
      simp (disch := first | assumption | (unfold kR; decide) | exact klc_R | (unfold kR; omega) | omega | (unfold kL; omega) | exact kcat_null | exact kcat_ref _ | exact kcat_iv _) only [r33_0, r33_1, r33_2, r33_5, r33_7, r33_9, ht_0 hA v.l0, true_and, and_true, kk1_i, kk1_r, kk1_n, kk1_0, kcat_iv, kcat_ref, kcat_null, kisR_ref, kisR_null, ksz_nil, ksz_iv, ksz_ref, ksz_null, ksz_lv, kfit_int, kfit_long, kfit_obj, kfit_objN, kfit_arr, kfit_arrN, knarI, knarZ0, knarZ1, kret_v, kret_n, kret_x, Nat.reduceAdd, Nat.reduceLeDiff, reduceCtorEq, Int.reduceLE, Int.reduceLT, Int.reduceEq, ite_true, ite_false, true_or, or_true, false_implies, true_implies, not_true_eq_false, not_false_eq_true, and_self, eq_self, klc_lt, klc_ge, klc_le, klc_gt, klc_eq, kmu_eq, kmu_f, kmu_i, kmu_j, q46, c44x hA z1 z10r z10', Nat.zero_le, show 1 ≤ d by omega]
      exact ⟨by omega, by omega, by omega, fail (Or.inl h3)⟩
  · have := H.x I (J := J) (e := 2) (x := 1) (b := some (iv 0)) (by simp) (by omega) (by omega) (fun _ Q' z => (j162_1 hA v rw (by omega) hm h1).mpr z) (Or.inr ⟨rfl, rfl⟩)
    have q46 := fun {Q} => c46x (E := E) (d := d - 1) (c := c) (l := l) (Q := Q) (J := J) (R := R) hA v rw F hm (by omega) h1
    simp (disch := first | assumption | (unfold kR; decide) | exact klc_R | (unfold kR; omega) | omega | (unfold kL; omega) | exact kcat_null | exact kcat_ref _ | exact kcat_iv _) only [r33_0, r33_1, r33_2, ht_0 hA v.l0, true_and, and_true, kk1_i, kk1_r, kk1_n, kk1_0, kcat_iv, kcat_ref, kcat_null, kisR_ref, kisR_null, ksz_nil, ksz_iv, ksz_ref, ksz_null, ksz_lv, kfit_int, kfit_long, kfit_obj, kfit_objN, kfit_arr, kfit_arrN, knarI, knarZ0, knarZ1, kret_v, kret_n, kret_x, Nat.reduceAdd, Nat.reduceLeDiff, reduceCtorEq, Int.reduceLE, Int.reduceLT, Int.reduceEq, ite_true, ite_false, true_or, or_true, false_implies, true_implies, not_true_eq_false, not_false_eq_true, and_self, eq_self, klc_lt, klc_ge, klc_le, klc_gt, klc_eq, kmu_eq, kmu_f, kmu_i, kmu_j, q46, Nat.zero_le, show 1 ≤ d by omega]
    exact ⟨by omega, by omega, this⟩
/-- done -/
theorem t34 (I : kIv E A V C R t) (ht : t ≤ 600) {m : Int} (hm : kR m) (hd : 40 ≤ d) (hD : 40 ≤ D) (hc : 121 ≤ c) (hl : 2786 ≤ l) (H : kEnd E D 163 (fun A => [some (.ref (A 9 0)), some (iv m), none, none]) [(2, 1), (1, 2), (3, 3)] V A R t c l Q) :
    ka_W (kp E) (d, (34, 0, [some (.ref (A 0 0)), some (iv m), none], []), (kHp J A V C R, c, l)) Q := by
  have hI := I
  obtain ⟨hA, v, hE, rw, FI, XI⟩ := hI
  have F := FI.1.2.2.1
  have bk := FI.1.2.2.2.1
  have B15 := rw.i15
  have B26 := rw.i26
  by_cases h1 : 1 ≤ m ∧ m ≤ R 9 0 15
  · have q46 := fun {Q} => c46 (E := E) (d := d - 1) (c := c) (l := l) (Q := Q) (J := J) (R := R) hA v rw F (by omega) h1
    obtain ⟨z1, z2, z3, ⟨r1, r2, r3, r4⟩, -, -, -, -, -, z10, z11, -, z13, -⟩ := F.2.2.2.2.1 m h1.1 h1.2
    have B68 := rw.a68 (j := m) (by omega) (by omega)
    have B69 := rw.a69 (j := m) (by omega) (by omega)
    have B70 := rw.a70 (j := m) (by omega) (by omega)
    by_cases h2 : R 68 0 m = 0
    · have z10' : C 4 m 7 = 0 := by rw [z10]; exact h2
      have e84 : C 6 (100 + m) 5 - C 4 m 8 = R 70 0 m - R 69 0 m := by rw [z13, z11]
      have v102 := v.2.2.2
      have F4 := F.2.2.2.1
      by_cases h3 : R 69 0 m < R 70 0 m
      · have := H.q I (J := J) (x := R 69 0 m - R 70 0 m) (by unfold kR; omega) (fun _ Q' z => (j163_s hA v rw (by omega) hm h1 h2 h3).mpr z)
        have en : R 69 0 m - R 70 0 m = -(R 70 0 m - R 69 0 m) := by omega
        rw [en] at this
        simp (disch := first | assumption | (unfold kR; decide) | exact klc_R | (unfold kR; omega) | omega | (unfold kL; omega) | exact kcat_null | exact kcat_ref _ | exact kcat_iv _) only [r34_0, r34_1, r34_2, r34_5, r34_6, r34_7, r34_10, r34_11, r34_14, r34_17, r34_18, r34_21, r34_22, ht_0 hA v.l0, ht_4 hA, true_and, and_true, kk1_i, kk1_r, kk1_n, kk1_0, kcat_iv, kcat_ref, kcat_null, kisR_ref, kisR_null, ksz_nil, ksz_iv, ksz_ref, ksz_null, ksz_lv, kfit_int, kfit_long, kfit_obj, kfit_objN, kfit_arr, kfit_arrN, knarI, knarZ0, knarZ1, kret_v, kret_n, kret_x, Nat.reduceAdd, Nat.reduceLeDiff, reduceCtorEq, Int.reduceLE, Int.reduceLT, Int.reduceEq, ite_true, ite_false, true_or, or_true, false_implies, true_implies, not_true_eq_false, not_false_eq_true, and_self, eq_self, klc_lt, klc_ge, klc_le, klc_gt, klc_eq, kmu_eq, kmu_f, kmu_i, kmu_j, q46, c44 hA z1 z10', c84 hA z1 r1, e84, show ¬ (R 70 0 m - R 69 0 m ≤ 0) by omega, Nat.zero_le, show 1 ≤ d by omega]
        exact this
      · by_cases h4 : R 9 0 26 = 60
        · have := H.x I (J := J) (e := 3) (x := 3) (b := some (iv 0)) (by simp) (by omega) (by omega) (fun _ Q' z => (j163_3 hA v rw (by omega) hm h1 h2 (by omega) h4).mpr z) (Or.inr ⟨rfl, rfl⟩)
          simp (disch := first | assumption | (unfold kR; decide) | exact klc_R | (unfold kR; omega) | omega | (unfold kL; omega) | exact kcat_null | exact kcat_ref _ | exact kcat_iv _) only [r34_0, r34_1, r34_2, r34_5, r34_6, r34_7, r34_10, r34_11, r34_14, r34_23, r34_24, r34_27, r34_30, r34_33, r34_35, r34_38, ht_0 hA v.l0, ht_4 hA, ho_0_3 hA v.l0, hg_0_3 hA v.l0, ho_2_1 hA v.l2, hg_2_1 hA v.l2, ht_10 hA, true_and, and_true, kk1_i, kk1_r, kk1_n, kk1_0, kcat_iv, kcat_ref, kcat_null, kisR_ref, kisR_null, ksz_nil, ksz_iv, ksz_ref, ksz_null, ksz_lv, kfit_int, kfit_long, kfit_obj, kfit_objN, kfit_arr, kfit_arrN, knarI, knarZ0, knarZ1, kret_v, kret_n, kret_x, Nat.reduceAdd, Nat.reduceLeDiff, reduceCtorEq, Int.reduceLE, Int.reduceLT, Int.reduceEq, ite_true, ite_false, true_or, or_true, false_implies, true_implies, not_true_eq_false, not_false_eq_true, and_self, eq_self, klc_lt, klc_ge, klc_le, klc_gt, klc_eq, kmu_eq, kmu_f, kmu_i, kmu_j, q46, c44 hA z1 z10', c84 hA z1 r1, e84, c180 hA v102, F4, h4, show (R 70 0 m - R 69 0 m ≤ 0) by omega, Nat.zero_le, show 1 ≤ d by omega]
          exact ⟨by omega, by omega, by omega, this⟩
        · have rw0 : kRW V (kmu R 9 0 0 0) := rw.pi0 (by omega) (by omega)
          have FI0 := kFI_0 FI (x := 0)
          have XI0 : kXI (kmu R 9 0 0 0) t := kXI_9 XI (by omega) (fun f a _ _ _ _ _ => kmu_ff a) (kmu_j (by decide)) (kmu_j (by decide)) (kmu_j (by decide))
          have e15 : kmu R 9 0 0 0 9 0 15 = R 9 0 15 := kmu_j (by decide)
          have e26 : kmu R 9 0 0 0 9 0 26 = R 9 0 26 := kmu_j (by decide)
          have e68 : kmu R 9 0 0 0 68 0 m = 0 := by rw [kmu_f (by decide)]; exact h2
          have hM := FI0.1.2.2.2.2.2 m h1.1 (by rw [e15]; exact h1.2)
          obtain ⟨U0, U1, U2, H0, Fr, Fu, Pl⟩ := XI0.2.2.1
          obtain ⟨g1, g2, g3⟩ := f163b_g rw0 FI0.1.2.2.2.1 XI0.2.1 XI0.2.2.1 (m := m) h1.1 (by rw [e15]; exact h1.2) e68 (by rw [e26]; omega) hM
          obtain ⟨o1, o2, o3, o77, o79, o68, o71, o78, o80⟩ := f163b_q (X := kmu R 9 0 0 0) (m := m) (by rw [e26]; omega)
          have o3' : ∀ f, f ≠ 9 → f ≠ 77 → f ≠ 78 → f ≠ 79 → f ≠ 80 → f ≠ 68 → f ≠ 71 → f163b (kmu R 9 0 0 0) m f = R f := fun f a1 a2 a3 a4 a5 a6 a7 => (o3 f a1 a2 a3 a4 a5 a6 a7).trans (kmu_ff a1)
          obtain ⟨k1, k2, k3⟩ := kXI_f hA v XI g1 g2 g3 (by omega) (fun f hf => o3' f (by omega) (by omega) (by omega) (by omega) (by omega) (by omega) (by omega)) (by rw [o2 7 (by decide), kmu_j (by decide)]) (by
            unfold kSp
            rw [o2 15 (by decide), e15, o3' 69 (by decide) (by decide) (by decide) (by decide) (by decide) (by decide) (by decide), o3' 70 (by decide) (by decide) (by decide) (by decide) (by decide) (by decide) (by decide)]
            exact XI.2.2.2.2)
          have k9 := k3.1 9 (by decide) (by decide) (by decide) (by decide) (by decide)
          have kf : ∀ f, f ≠ 55 → f ≠ 75 → f ≠ 78 → f ≠ 80 → f ≠ 81 → f163 (kmu R 9 0 0 0) m f = f163b (kmu R 9 0 0 0) m f := fun f a1 a2 a3 a4 a5 => k3.1 f a1 a2 a3 a4 a5
          have xx : ∀ f, f ≠ 9 → f ≠ 55 → f ≠ 75 → f ≠ 77 → f ≠ 78 → f ≠ 79 → f ≠ 80 → f ≠ 81 → f ≠ 68 → f ≠ 71 → f163 (kmu R 9 0 0 0) m f = R f := fun f a1 a2 a3 a4 a5 a6 a7 a8 a9 a10 => (kf f a2 a3 a5 a7 a8).trans (o3' f a1 a4 a5 a6 a7 a9 a10)
          have x9 : ∀ j, j ≠ 0 → j ≠ 26 → f163 (kmu R 9 0 0 0) m 9 0 j = R 9 0 j := fun j a1 a2 => by
            rw [kf 9 (by decide) (by decide) (by decide) (by decide) (by decide), o2 j a2, kmu_j a1]
          have x0 : f163 (kmu R 9 0 0 0) m 9 0 0 = 0 := by rw [kf 9 (by decide) (by decide) (by decide) (by decide) (by decide), o2 0 (by decide), kmu_eq]
          simp (disch := first | assumption | (unfold kR; decide) | exact klc_R | (unfold kR; omega) | omega | (unfold kL; omega) | exact kcat_null | exact kcat_ref _ | exact kcat_iv _) only [r34_0, r34_1, r34_2, r34_5, r34_6, r34_7, r34_10, r34_11, r34_14, r34_23, r34_24, r34_27, r34_30, r34_33, r34_35, r34_48, r34_49, r34_52, r34_53, ht_0 hA v.l0, ht_4 hA, ho_0_3 hA v.l0, hg_0_3 hA v.l0, ho_2_1 hA v.l2, hg_2_1 hA v.l2, ht_10 hA, ht_2 hA v.l2, true_and, and_true, kk1_i, kk1_r, kk1_n, kk1_0, kcat_iv, kcat_ref, kcat_null, kisR_ref, kisR_null, ksz_nil, ksz_iv, ksz_ref, ksz_null, ksz_lv, kfit_int, kfit_long, kfit_obj, kfit_objN, kfit_arr, kfit_arrN, knarI, knarZ0, knarZ1, kret_v, kret_n, kret_x, Nat.reduceAdd, Nat.reduceLeDiff, reduceCtorEq, Int.reduceLE, Int.reduceLT, Int.reduceEq, ite_true, ite_false, true_or, or_true, false_implies, true_implies, not_true_eq_false, not_false_eq_true, and_self, eq_self, klc_lt, klc_ge, klc_le, klc_gt, klc_eq, kmu_eq, kmu_f, kmu_i, kmu_j, q46, c44 hA z1 z10', c84 hA z1 r1, e84, c180 hA v102, F4, show (R 70 0 m - R 69 0 m ≤ 0) by omega, show R 9 0 26 < 60 by omega, Nat.zero_le, show 1 ≤ d by omega]
          refine c72 hA v hE rw0 FI0.1 Fu U1 (fun u a b' z => by have := U2 u a b' z; omega) (m := m) (w := R 9 0 26 + 1) h1.1 (by rw [e15]; exact h1.2) e68 (by rw [e26]) (by omega) g2 g1 (by omega) (by omega) (by omega) (fun J1 A1 V1 C1 c1 l1 a1 a2 a3 a4 a5 a6 a7 a8 => ?_)
          have v1 := a2.lv v
          have hz := fun {Q} {C9} => j163_0 (E := E) (d := D) (c := c1) (l := l1) (Q := Q) (J := J1) (C := C9) a1 v1 (a2.rw rw) bk (by omega) hm h1 h2 (by omega) (by omega) g2
          have M1 : kMI C1 (f163 (kmu R 9 0 0 0) m) := kMI_f rw FI.2 (fun f hf => a6 f (by omega) (by omega) (by omega) (by omega) (by omega) (by omega) (by omega) (by omega)) (fun f hf => xx f (by omega) (by omega) (by omega) (by omega) (by omega) (by omega) (by omega) (by omega) (by omega) (by omega)) (fun j hj => x9 j (by omega) (by omega)) (by rw [x9 15 (by decide) (by decide)]; omega) (fun m' _ _ z => by
            rw [kf 68 (by decide) (by decide) (by decide) (by decide) (by decide), o68, if_neg (fun e => by rw [e] at z; omega), kmu_f (by decide), xx 70 (by decide) (by decide) (by decide) (by decide) (by decide) (by decide) (by decide) (by decide) (by decide) (by decide), xx 72 (by decide) (by decide) (by decide) (by decide) (by decide) (by decide) (by decide) (by decide) (by decide) (by decide), xx 73 (by decide) (by decide) (by decide) (by decide) (by decide) (by decide) (by decide) (by decide) (by decide) (by decide)]
            exact ⟨z, rfl, fun i _ _ => ⟨rfl, rfl⟩⟩)
          have := H J1 A1 V1 C1 _ c1 l1 (.inl (some (iv (R 9 0 26 + 1)))) (some (iv (R 9 0 26 + 1))) ⟨a1, v1, by rw [(a2 34 0 (by decide) v.l34).2]; exact hE, a2.rw k1, ⟨a3, M1⟩, k2⟩ a2.e0 (by omega) (by omega) (fun _ Q' z => hz.mpr z) (Or.inl ⟨rfl, x0⟩) (Or.inr ⟨rfl, _, rfl, by unfold kR; omega⟩)
          simp (disch := first | assumption | (unfold kR; decide) | exact klc_R | (unfold kR; omega) | omega | (unfold kL; omega) | exact kcat_null | exact kcat_ref _ | exact kcat_iv _) only [r34_56, r34_59, ho_8_0 a1 a4, hg_8_0 a1 a4, true_and, and_true, kk1_i, kk1_r, kk1_n, kk1_0, kcat_iv, kcat_ref, kcat_null, kisR_ref, kisR_null, ksz_nil, ksz_iv, ksz_ref, ksz_null, ksz_lv, kfit_int, kfit_long, kfit_obj, kfit_objN, kfit_arr, kfit_arrN, knarI, knarZ0, knarZ1, kret_v, kret_n, kret_x, Nat.reduceAdd, Nat.reduceLeDiff, reduceCtorEq, Int.reduceLE, Int.reduceLT, Int.reduceEq, ite_true, ite_false, true_or, or_true, false_implies, true_implies, not_true_eq_false, not_false_eq_true, and_self, eq_self, klc_lt, klc_ge, klc_le, klc_gt, klc_eq, kmu_eq, kmu_f, kmu_i, kmu_j, a5]
          exact this
    · have := H.x I (J := J) (e := 1) (x := 2) (b := some (iv 0)) (by simp) (by omega) (by omega) (fun _ Q' z => (j163_2 hA v rw (by omega) hm h1 h2).mpr z) (Or.inr ⟨rfl, rfl⟩)
      have z10' : ¬ C 4 m 7 = 0 := by rw [z10]; exact h2
      have z10r : kR (C 4 m 7) := by rw [z10]; unfold kR; omega
      simp (disch := first | assumption | (unfold kR; decide) | exact klc_R | (unfold kR; omega) | omega | (unfold kL; omega) | exact kcat_null | exact kcat_ref _ | exact kcat_iv _) only [r34_0, r34_1, r34_2, r34_5, r34_6, r34_7, ht_0 hA v.l0, true_and, and_true, kk1_i, kk1_r, kk1_n, kk1_0, kcat_iv, kcat_ref, kcat_null, kisR_ref, kisR_null, ksz_nil, ksz_iv, ksz_ref, ksz_null, ksz_lv, kfit_int, kfit_long, kfit_obj, kfit_objN, kfit_arr, kfit_arrN, knarI, knarZ0, knarZ1, kret_v, kret_n, kret_x, Nat.reduceAdd, Nat.reduceLeDiff, reduceCtorEq, Int.reduceLE, Int.reduceLT, Int.reduceEq, ite_true, ite_false, true_or, or_true, false_implies, true_implies, not_true_eq_false, not_false_eq_true, and_self, eq_self, klc_lt, klc_ge, klc_le, klc_gt, klc_eq, kmu_eq, kmu_f, kmu_i, kmu_j, q46, c44x hA z1 z10r z10', Nat.zero_le, show 1 ≤ d by omega]
      exact ⟨by omega, by omega, by omega, this⟩
  · have := H.x I (J := J) (e := 2) (x := 1) (b := some (iv 0)) (by simp) (by omega) (by omega) (fun _ Q' z => (j163_1 hA v rw (by omega) hm h1).mpr z) (Or.inr ⟨rfl, rfl⟩)
    have q46 := fun {Q} => c46x (E := E) (d := d - 1) (c := c) (l := l) (Q := Q) (J := J) (R := R) hA v rw F hm (by omega) h1
    simp (disch := first | assumption | (unfold kR; decide) | exact klc_R | (unfold kR; omega) | omega | (unfold kL; omega) | exact kcat_null | exact kcat_ref _ | exact kcat_iv _) only [r34_0, r34_1, r34_2, ht_0 hA v.l0, true_and, and_true, kk1_i, kk1_r, kk1_n, kk1_0, kcat_iv, kcat_ref, kcat_null, kisR_ref, kisR_null, ksz_nil, ksz_iv, ksz_ref, ksz_null, ksz_lv, kfit_int, kfit_long, kfit_obj, kfit_objN, kfit_arr, kfit_arrN, knarI, knarZ0, knarZ1, kret_v, kret_n, kret_x, Nat.reduceAdd, Nat.reduceLeDiff, reduceCtorEq, Int.reduceLE, Int.reduceLT, Int.reduceEq, ite_true, ite_false, true_or, or_true, false_implies, true_implies, not_true_eq_false, not_false_eq_true, and_self, eq_self, klc_lt, klc_ge, klc_le, klc_gt, klc_eq, kmu_eq, kmu_f, kmu_i, kmu_j, q46, Nat.zero_le, show 1 ≤ d by omega]
    exact ⟨by omega, by omega, this⟩
end
