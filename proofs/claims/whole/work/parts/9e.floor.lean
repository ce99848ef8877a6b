/-! Calls: stock, substitute, drop, step. -/
section
variable {E : Nat × Nat} {d D yr c l : Nat} {s : ka_S} {h : ka_H} {Q : ka_Q} {J : ka_H} {A A' : ka_A} {V V' : ka_V} {C C' R R' X X' X'' Y Z : ka_M} {t b : Int} {ag : ka_A → List (Option Value)} {ex : List (Nat × Int)}
theorem kXI_f (hA : kJ A V) (v : kLV V) (XI : kXI R t) (rY : kRW V Y) (nd : kND Y) (U : kUX Y b) (hb : b ≤ 1000 * (t + 1)) (hf : ∀ f, f = 56 ∨ f = 59 ∨ f = 60 ∨ f = 61 ∨ f = 62 ∨ f = 63 ∨ f = 64 → Y f = R f) (h7 : Y 9 0 7 = R 9 0 7) (sp : kSp Y) : kRW V (f153 Y) ∧ kXI (f153 Y) (t + 1) ∧ kOf Y (f153 Y) := by
  obtain ⟨i1, i2, i3⟩ := f153_g hA v rY nd
  have tk := i3.1
  have e9 := tk 9 (by decide) (by decide) (by decide) (by decide) (by decide)
  refine ⟨i1, ⟨by rw [e9, h7]; exact XI.1, i2, kUX_9 (kUX_of U i3) hb (fun f _ => rfl) rfl rfl, kBY_c XI.2.2.2.1 (fun f hf' => (tk f (by omega) (by omega) (by omega) (by omega) (by omega)).trans (hf f hf')) (by rw [e9]; exact h7), ?_⟩, i3⟩
  unfold kSp
  rw [e9, tk 69 (by decide) (by decide) (by decide) (by decide) (by decide), tk 70 (by decide) (by decide) (by decide) (by decide) (by decide)]
  exact sp
theorem kMI_f (rw : kRW V X) (M : kMI C X) (hC : ∀ f, f = 0 ∨ f = 5 ∨ f = 7 ∨ f = 27 ∨ f = 30 ∨ f = 31 → C' f = C f) (hX : ∀ f, f = 52 ∨ f = 54 ∨ f = 85 ∨ f = 83 ∨ f = 84 → X' f = X f) (h9 : ∀ j, j = 1 ∨ j = 3 ∨ j = 32 ∨ j = 36 → X' 9 0 j = X 9 0 j) (h15 : X 9 0 15 ≤ X' 9 0 15) (hm : ∀ m, 1 ≤ m → m ≤ X 9 0 15 → X 68 0 m = 1 → X' 68 0 m = 1 ∧ X' 70 0 m = X 70 0 m ∧ ∀ i, 0 ≤ i → i < 5 → X' 72 0 (5 * m + i) = X 72 0 (5 * m + i) ∧ X' 73 0 (5 * m + i) = X 73 0 (5 * m + i)) : kMI C' X' := by
  obtain ⟨M1, M2, M3, M4, M5, M6⟩ := M
  refine ⟨by rw [hC 0 (by omega), h9 1 (by omega)]; exact M1, by rw [hC 5 (by omega), h9 3 (by omega)]; exact M2, fun j a b => ?_, kRg_c M4 (hC 7 (by omega)) (hC 27 (by omega)) (h9 36 (by omega)) (hX 85 (by omega)), fun g a b => ?_, ?_⟩
  · rw [h9 3 (by omega)] at b
    rw [hC 31 (by omega), hX 52 (by omega)]; exact M3 j a b
  · rw [hC 30 (by omega), hX 54 (by omega)]; exact M5 g a b
  · rcases M6 with ⟨w1, w2⟩ | ⟨m, m0, m1, w1, w2, w3, w4⟩
    · exact Or.inl ⟨by rw [hC 0 (by omega)]; exact w1, by rw [h9 32 (by omega)]; exact w2⟩
    · obtain ⟨a1, a2, a3⟩ := hm m m0 m1 w2
      have B15 := rw.i15
      have B70 := rw.a70 (j := m) (by omega) (by omega)
      refine Or.inr ⟨m, m0, by omega, by rw [hC 0 (by omega)]; exact w1, a1, by rw [h9 32 (by omega), a2]; exact w3, fun i i0 i1 => ?_⟩
      rw [a2] at i1
      obtain ⟨b1, b2⟩ := a3 i i0 (by omega)
      rw [hX 83 (by omega), hX 84 (by omega), b1, b2]
      exact w4 i i0 i1
theorem kFl.mi {C C' : ka_M} (fl : kFl C C') : ∀ f, f = 0 ∨ f = 5 ∨ f = 7 ∨ f = 27 ∨ f = 30 ∨ f = 31 → C' f = C f := fun f hf => fl f (by omega) (by omega) (by omega) (by omega) (by omega)
/-- stock -/
theorem t30 (I : kIv E A V C R t) (ht : t ≤ 600) {g n : Int} (hg : kR g) (hn : kR n) (hd : 40 ≤ d) (hD : 40 ≤ D) (hc : 121 ≤ c) (hl : 2786 ≤ l) (H : kEnd E D 155 (fun A => [some (.ref (A 9 0)), some (iv g), some (iv n)]) [(0, 1)] V A R t c l Q) :
    ka_W (kp E) (d, (30, 0, [some (.ref (A 0 0)), some (iv g), some (iv n)], []), (kHp J A V C R, c, l)) Q := by
  have hI := I
  obtain ⟨hA, v, hE, rw, FI, XI⟩ := hI
  by_cases h1 : 0 ≤ g ∧ g ≤ 19
  · by_cases h2 : 1 ≤ n ∧ n ≤ 1000
    · have rw0 : kRW V (kmu R 9 0 0 0) := rw.pi0 (by omega) (by omega)
      have FI0 := kFI_0 FI (x := 0)
      have XI0 : kXI (kmu R 9 0 0 0) t := kXI_9 XI (by omega) (fun f a _ _ _ _ _ => kmu_ff a) (kmu_j (by decide)) (kmu_j (by decide)) (kmu_j (by decide))
      have pl := XI0.2.2.1.2.2.2.2.2.2 g h1.1 (by omega)
      have pl' : R 55 0 g ≤ 1000 * t := by rw [kmu_f (by decide)] at pl; exact pl
      have B55 := rw0.a55 (j := g) h1.1 (by omega)
      have nd0 := XI0.2.1
      -- before the offer
      have rY : kRW V (kmu (kmu R 9 0 0 0) 55 0 g (kmu R 9 0 0 0 55 0 g + n)) := rw0.pa55 (by omega) (by omega)
      have ndY : kND (kmu (kmu R 9 0 0 0) 55 0 g (kmu R 9 0 0 0 55 0 g + n)) := kND_9 nd0 (fun f hf => kmu_ff (by omega)) (kmu_f (by decide)) (kmu_f (by decide))
      have UY : kUX (kmu (kmu R 9 0 0 0) 55 0 g (kmu R 9 0 0 0 55 0 g + n)) (1000 * t + 1000) := by
        refine kUX_g XI0.2.2.1 (kmu_f (by decide)) (kmu_f (by decide)) (kmu_ff (by decide)) (kmu_ff (by decide)) (fun m z => by rw [kmu_f (by decide)]; exact z) (fun m _ => kmu_f (by decide)) (fun q _ => kmu_f (by decide)) (fun u => Or.inl ⟨kmu_f (by decide), kmu_f (by decide)⟩) (fun g' x y => ?_)
        by_cases e : g' = g
        · rw [e, kmu_eq]; omega
        · rw [kmu_j e]; have := XI0.2.2.1.2.2.2.2.2.2 g' x y; omega
      obtain ⟨k1, k2, k3⟩ := kXI_f hA v XI0 rY ndY UY (by omega) (fun f hf => kmu_ff (by omega)) (kmu_f (by decide)) (by
        unfold kSp
        rw [kmu_ff (show (9:Nat) ≠ 55 by decide), kmu_ff (show (69:Nat) ≠ 55 by decide), kmu_ff (show (70:Nat) ≠ 55 by decide)]
        exact XI0.2.2.2.2)
      have xx : ∀ f, f ≠ 9 → f ≠ 55 → f ≠ 75 → f ≠ 78 → f ≠ 80 → f ≠ 81 → f155 (kmu R 9 0 0 0) g n f = R f := fun f a1 a2 a3 a4 a5 a6 => by unfold f155; rw [k3.1 f a2 a3 a4 a5 a6, kmu_ff a2, kmu_ff a1]
      have x9 : f155 (kmu R 9 0 0 0) g n 9 = kmu R 9 0 0 0 9 := by unfold f155; rw [k3.1 9 (by decide) (by decide) (by decide) (by decide) (by decide), kmu_ff (by decide)]
      have k1' : kRW V (f155 (kmu R 9 0 0 0) g n) := k1
      have k2' : kXI (f155 (kmu R 9 0 0 0) g n) (t + 1) := k2
      simp (disch := first | assumption | (unfold kR; decide) | exact klc_R | (unfold kR; omega) | omega | (unfold kL; omega) | exact kcat_null | exact kcat_ref _ | exact kcat_iv _) only [r30_0, r30_1, r30_4, r30_5, r30_6, r30_9, r30_12, r30_13, r30_16, r30_17, r30_18, ho_0_3 hA v.l0, hg_0_3 hA v.l0, ht_2 hA v.l2, true_and, and_true, kk1_i, kk1_r, kk1_n, kk1_0, kcat_iv, kcat_ref, kcat_null, kisR_ref, kisR_null, ksz_nil, ksz_iv, ksz_ref, ksz_null, ksz_lv, kfit_int, kfit_long, kfit_obj, kfit_objN, kfit_arr, kfit_arrN, knarI, knarZ0, knarZ1, kret_v, kret_n, kret_x, Nat.reduceAdd, Nat.reduceLeDiff, reduceCtorEq, Int.reduceLE, Int.reduceLT, Int.reduceEq, ite_true, ite_false, true_or, or_true, false_implies, true_implies, not_true_eq_false, not_false_eq_true, and_self, eq_self, klc_lt, klc_ge, klc_le, klc_gt, klc_eq, kmu_eq, kmu_f, kmu_i, kmu_j, c43, c42, h1, h2, Nat.zero_le, show 1 ≤ d by omega, show 1 ≤ d - 1 by omega]
      refine c67 hA v rw0 FI0.1.2.2.1 (by omega) h1.1 (by omega) (by omega) h2.2 (by omega) nd0 (fun C1 a1 a2 => ?_)
      have hz := fun {Q} {C9} => j155_0 (E := E) (d := D) (c := c) (l := l) (Q := Q) (J := J) (C := C9) hA v rw XI.2.1 (by omega) hg hn h1 h2 (by omega)
      have B1 : kBI V C1 (f155 (kmu R 9 0 0 0) g n) := kBI_F FI.1 a2 (fun f hf => a1 f (by omega) (by omega) (by omega) (by omega) (by omega)) (fun f q hf _ => by rw [a1 f (by omega) (by omega) (by omega) (by omega) (by omega)]) rw (fun f hf => xx f (by omega) (by omega) (by omega) (by omega) (by omega) (by omega)) (by rw [x9, kmu_j (by decide)]) (by rw [x9, kmu_j (by decide)])
      have M1 : kMI C1 (f155 (kmu R 9 0 0 0) g n) := kMI_f rw FI.2 a1.mi (fun f hf => xx f (by omega) (by omega) (by omega) (by omega) (by omega) (by omega)) (fun j hj => by rw [x9, kmu_j (by omega)]) (by rw [x9, kmu_j (by decide)]; omega) (fun m _ _ z => by
        rw [xx 68 (by decide) (by decide) (by decide) (by decide) (by decide) (by decide), xx 70 (by decide) (by decide) (by decide) (by decide) (by decide) (by decide), xx 72 (by decide) (by decide) (by decide) (by decide) (by decide) (by decide), xx 73 (by decide) (by decide) (by decide) (by decide) (by decide) (by decide)]
        exact ⟨z, rfl, fun i _ _ => ⟨rfl, rfl⟩⟩)
      have := H J A V C1 _ c l (.inl (some (iv (f150 (f155 (kmu R 9 0 0 0) g n) g)))) (some (iv (f150 (f155 (kmu R 9 0 0 0) g n) g))) ⟨hA, v, hE, k1', ⟨B1, M1⟩, k2'⟩ kEx0_rfl (by omega) (by omega) (fun _ Q' z => hz.mpr z) (Or.inl ⟨rfl, by rw [x9, kmu_eq]⟩) (Or.inr ⟨rfl, _, rfl, f150_r k1' h1.1 h1.2⟩)
      obtain ⟨f1, f2⟩ := a2.2.2.2.2.2.2.2 g h1.1 (by omega)
      have ev : C1 28 0 g + C1 29 0 g = f150 (f155 (kmu R 9 0 0 0) g n) g := by rw [f1, f2]; rfl
      rw [← ev] at this
      simp (disch := first | assumption | (unfold kR; decide) | exact klc_R | (unfold kR; omega) | omega | (unfold kL; omega) | exact kcat_null | exact kcat_ref _ | exact kcat_iv _) only [r30_21, r30_22, r30_25, r30_26, r30_29, ho_0_3 hA v.l0, hg_0_3 hA v.l0, ht_2 hA v.l2, true_and, and_true, kk1_i, kk1_r, kk1_n, kk1_0, kcat_iv, kcat_ref, kcat_null, kisR_ref, kisR_null, ksz_nil, ksz_iv, ksz_ref, ksz_null, ksz_lv, kfit_int, kfit_long, kfit_obj, kfit_objN, kfit_arr, kfit_arrN, knarI, knarZ0, knarZ1, kret_v, kret_n, kret_x, Nat.reduceAdd, Nat.reduceLeDiff, reduceCtorEq, Int.reduceLE, Int.reduceLT, Int.reduceEq, ite_true, ite_false, true_or, or_true, false_implies, true_implies, not_true_eq_false, not_false_eq_true, and_self, eq_self, klc_lt, klc_ge, klc_le, klc_gt, klc_eq, kmu_eq, kmu_f, kmu_i, kmu_j, c66 hA v, Nat.zero_le, show 1 ≤ d by omega]
      exact this
    · have := H.x I (J := J) (e := 0) (x := 1) (b := some (iv 0)) (by simp) (by omega) (by omega) (fun _ Q' z => (j155_1 hA v rw (by omega) hg hn (Or.inr h2)).mpr z) (Or.inr ⟨rfl, rfl⟩)
      simp (disch := first | assumption | (unfold kR; decide) | exact klc_R | (unfold kR; omega) | omega | (unfold kL; omega) | exact kcat_null | exact kcat_ref _ | exact kcat_iv _) only [r30_0, r30_1, r30_4, r30_5, r30_6, r30_9, true_and, and_true, kk1_i, kk1_r, kk1_n, kk1_0, kcat_iv, kcat_ref, kcat_null, kisR_ref, kisR_null, ksz_nil, ksz_iv, ksz_ref, ksz_null, ksz_lv, kfit_int, kfit_long, kfit_obj, kfit_objN, kfit_arr, kfit_arrN, knarI, knarZ0, knarZ1, kret_v, kret_n, kret_x, Nat.reduceAdd, Nat.reduceLeDiff, reduceCtorEq, Int.reduceLE, Int.reduceLT, Int.reduceEq, ite_true, ite_false, true_or, or_true, false_implies, true_implies, not_true_eq_false, not_false_eq_true, and_self, eq_self, klc_lt, klc_ge, klc_le, klc_gt, klc_eq, kmu_eq, kmu_f, kmu_i, kmu_j, c43, c42x, h1, h2, Nat.zero_le, show 1 ≤ d by omega, show 1 ≤ d - 1 by omega]
      exact ⟨by omega, by omega, by omega, this⟩
  · have := H.x I (J := J) (e := 0) (x := 1) (b := some (iv 0)) (by simp) (by omega) (by omega) (fun _ Q' z => (j155_1 hA v rw (by omega) hg hn (Or.inl h1)).mpr z) (Or.inr ⟨rfl, rfl⟩)
    simp (disch := first | assumption | (unfold kR; decide) | exact klc_R | (unfold kR; omega) | omega | (unfold kL; omega) | exact kcat_null | exact kcat_ref _ | exact kcat_iv _) only [r30_0, r30_1, true_and, and_true, kk1_i, kk1_r, kk1_n, kk1_0, kcat_iv, kcat_ref, kcat_null, kisR_ref, kisR_null, ksz_nil, ksz_iv, ksz_ref, ksz_null, ksz_lv, kfit_int, kfit_long, kfit_obj, kfit_objN, kfit_arr, kfit_arrN, knarI, knarZ0, knarZ1, kret_v, kret_n, kret_x, Nat.reduceAdd, Nat.reduceLeDiff, reduceCtorEq, Int.reduceLE, Int.reduceLT, Int.reduceEq, ite_true, ite_false, true_or, or_true, false_implies, true_implies, not_true_eq_false, not_false_eq_true, and_self, eq_self, klc_lt, klc_ge, klc_le, klc_gt, klc_eq, kmu_eq, kmu_f, kmu_i, kmu_j, c43x, h1, Nat.zero_le, show 1 ≤ d by omega, show 9 ≤ d - 1 by omega]
    exact ⟨by omega, by omega, this⟩
/-- drop -/
theorem t35 (I : kIv E A V C R t) (ht : t ≤ 600) {m : Int} (hm : kR m) (hd : 40 ≤ d) (hD : 40 ≤ D) (hc : 121 ≤ c) (hl : 2786 ≤ l) (H : kEnd E D 164 (fun A => [some (.ref (A 9 0)), some (iv m), none]) [(2, 1), (1, 2)] V A R t c l Q) :
    ka_W (kp E) (d, (35, 0, [some (.ref (A 0 0)), some (iv m), none], []), (kHp J A V C R, c, l)) Q := by
  have hI := I
  obtain ⟨hA, v, hE, rw, FI, XI⟩ := hI
  have F := FI.1.2.2.1
  have B15 := rw.i15
  by_cases h1 : 1 ≤ m ∧ m ≤ R 9 0 15
  · have q46 := fun {Q} => c46 (E := E) (d := d - 1) (c := c) (l := l) (Q := Q) (J := J) (R := R) hA v rw F (by omega) h1
    obtain ⟨z1, -, -, -, -, -, -, -, -, z10, -⟩ := F.2.2.2.2.1 m h1.1 h1.2
    have B68 := rw.a68 (j := m) (by omega) (by omega)
    by_cases h2 : R 68 0 m = 0
    · have rw0 : kRW V (kmu R 9 0 0 0) := rw.pi0 (by omega) (by omega)
      have FI0 := kFI_0 FI (x := 0)
      have XI0 : kXI (kmu R 9 0 0 0) t := kXI_9 XI (by omega) (fun f a _ _ _ _ _ => kmu_ff a) (kmu_j (by decide)) (kmu_j (by decide)) (kmu_j (by decide))
      have e15 : kmu R 9 0 0 0 9 0 15 = R 9 0 15 := kmu_j (by decide)
      have e68 : kmu R 9 0 0 0 68 0 m = 0 := by rw [kmu_f (by decide)]; exact h2
      have pl := XI0.2.2.1.2.2.2.2.2.2
      obtain ⟨g1, g2, g3, g4, g5⟩ := f164b_g hA v rw0 XI0.2.1 XI0.2.2.1 (by omega) h1.1 (by rw [e15]; exact h1.2) e68
      obtain ⟨k1, k2, k3⟩ := kXI_f hA v XI0 g1 g2 g3 (by omega) (fun f hf => g4 f (by omega) (by omega) (by omega) (by omega) (by omega) (by omega)) (by rw [g4 9 (by decide) (by decide) (by decide) (by decide) (by decide) (by decide)]) (by
        unfold kSp
        rw [g4 9 (by decide) (by decide) (by decide) (by decide) (by decide) (by decide), g4 69 (by decide) (by decide) (by decide) (by decide) (by decide) (by decide), g4 70 (by decide) (by decide) (by decide) (by decide) (by decide) (by decide)]
        exact XI0.2.2.2.2)
      have xx : ∀ f, f ≠ 9 → f ≠ 55 → f ≠ 75 → f ≠ 78 → f ≠ 80 → f ≠ 81 → f ≠ 68 → f164 (kmu R 9 0 0 0) m f = R f := fun f a1 a2 a3 a4 a5 a6 a7 => by unfold f164; rw [k3.1 f a2 a3 a4 a5 a6, g4 f a2 a3 a4 a5 a7 a6, kmu_ff a1]
      have x9 : f164 (kmu R 9 0 0 0) m 9 = kmu R 9 0 0 0 9 := by unfold f164; rw [k3.1 9 (by decide) (by decide) (by decide) (by decide) (by decide), g4 9 (by decide) (by decide) (by decide) (by decide) (by decide) (by decide)]
      have x68 : ∀ q, f164 (kmu R 9 0 0 0) m 68 0 q = if q = m then 2 else R 68 0 q := fun q => by unfold f164; rw [k3.1 68 (by decide) (by decide) (by decide) (by decide) (by decide), g5, kmu_f (by decide)]
      have k1' : kRW V (f164 (kmu R 9 0 0 0) m) := k1
      have k2' : kXI (f164 (kmu R 9 0 0 0) m) (t + 1) := k2
      have z10' : C 4 m 7 = 0 := by rw [z10]; exact h2
      simp (disch := first | assumption | (unfold kR; decide) | exact klc_R | (unfold kR; omega) | omega | (unfold kL; omega) | exact kcat_null | exact kcat_ref _ | exact kcat_iv _) only [r35_0, r35_1, r35_2, r35_5, r35_6, r35_7, r35_10, r35_11, r35_14, r35_15, ht_0 hA v.l0, ho_0_3 hA v.l0, hg_0_3 hA v.l0, ht_2 hA v.l2, true_and, and_true, kk1_i, kk1_r, kk1_n, kk1_0, kcat_iv, kcat_ref, kcat_null, kisR_ref, kisR_null, ksz_nil, ksz_iv, ksz_ref, ksz_null, ksz_lv, kfit_int, kfit_long, kfit_obj, kfit_objN, kfit_arr, kfit_arrN, knarI, knarZ0, knarZ1, kret_v, kret_n, kret_x, Nat.reduceAdd, Nat.reduceLeDiff, reduceCtorEq, Int.reduceLE, Int.reduceLT, Int.reduceEq, ite_true, ite_false, true_or, or_true, false_implies, true_implies, not_true_eq_false, not_false_eq_true, and_self, eq_self, klc_lt, klc_ge, klc_le, klc_gt, klc_eq, kmu_eq, kmu_f, kmu_i, kmu_j, q46, c44 hA z1 z10', Nat.zero_le, show 1 ≤ d by omega]
      refine c73 hA v rw0 XI0.2.2.1.2.1 FI0.1.2.2.1 (by omega) h1.1 (by rw [e15]; exact h1.2) e68 (fun g x y => by have := pl g x y; omega) g2 (fun C1 a1 a2 => ?_)
      have hz := fun {Q} {C9} => j164_0 (E := E) (d := D) (c := c) (l := l) (Q := Q) (J := J) (C := C9) hA v rw (by omega) hm h1 h2 (fun g x y => by have := XI.2.2.1.2.2.2.2.2.2 g x y; omega) g2
      have cc : ∀ f, f ≠ 4 → f ≠ 8 → f ≠ 23 → f ≠ 24 → f ≠ 28 → f ≠ 29 → C1 f = C f := fun f b0 b1 b2 b3 b4 b5 => (a1 f b1 b2 b3 b4 b5).trans (kmu_ff b0)
      have B1 : kBI V C1 (f164 (kmu R 9 0 0 0) m) := kBI_F FI.1 a2 (fun f hf => cc f (by omega) (by omega) (by omega) (by omega) (by omega) (by omega)) (fun f q hf _ => by rw [cc f (by omega) (by omega) (by omega) (by omega) (by omega) (by omega)]) rw (fun f hf => xx f (by omega) (by omega) (by omega) (by omega) (by omega) (by omega) (by omega)) (by rw [x9, kmu_j (by decide)]) (by rw [x9, kmu_j (by decide)])
      have M1 : kMI C1 (f164 (kmu R 9 0 0 0) m) := kMI_f rw FI.2 (fun f hf => cc f (by omega) (by omega) (by omega) (by omega) (by omega) (by omega)) (fun f hf => xx f (by omega) (by omega) (by omega) (by omega) (by omega) (by omega) (by omega)) (fun j hj => by rw [x9, kmu_j (by omega)]) (by rw [x9, kmu_j (by decide)]; omega) (fun m' _ _ z => by
        rw [x68, if_neg (fun e => by rw [e] at z; omega), xx 70 (by decide) (by decide) (by decide) (by decide) (by decide) (by decide) (by decide), xx 72 (by decide) (by decide) (by decide) (by decide) (by decide) (by decide) (by decide), xx 73 (by decide) (by decide) (by decide) (by decide) (by decide) (by decide) (by decide)]
        exact ⟨z, rfl, fun i _ _ => ⟨rfl, rfl⟩⟩)
      have := H J A V C1 _ c l (.inl none) none ⟨hA, v, hE, k1', ⟨B1, M1⟩, k2'⟩ kEx0_rfl (by omega) (by omega) (fun _ Q' z => hz.mpr z) (Or.inl ⟨rfl, by rw [x9, kmu_eq]⟩) (Or.inl ⟨rfl, rfl⟩)
      simp (disch := first | assumption | (unfold kR; decide) | exact klc_R | (unfold kR; omega) | omega | (unfold kL; omega) | exact kcat_null | exact kcat_ref _ | exact kcat_iv _) only [r35_18, true_and, and_true, kk1_i, kk1_r, kk1_n, kk1_0, kcat_iv, kcat_ref, kcat_null, kisR_ref, kisR_null, ksz_nil, ksz_iv, ksz_ref, ksz_null, ksz_lv, kfit_int, kfit_long, kfit_obj, kfit_objN, kfit_arr, kfit_arrN, knarI, knarZ0, knarZ1, kret_v, kret_n, kret_x, Nat.reduceAdd, Nat.reduceLeDiff, reduceCtorEq, Int.reduceLE, Int.reduceLT, Int.reduceEq, ite_true, ite_false, true_or, or_true, false_implies, true_implies, not_true_eq_false, not_false_eq_true, and_self, eq_self, klc_lt, klc_ge, klc_le, klc_gt, klc_eq, kmu_eq, kmu_f, kmu_i, kmu_j]
      exact this
    · have := H.x I (J := J) (e := 1) (x := 2) (b := none) (by simp) (by omega) (by omega) (fun _ Q' z => (j164_2 hA v rw (by omega) hm h1 h2).mpr z) (Or.inl ⟨rfl, rfl⟩)
      have z10' : ¬ C 4 m 7 = 0 := by rw [z10]; exact h2
      have z10r : kR (C 4 m 7) := by rw [z10]; unfold kR; omega
      simp (disch := first | assumption | (unfold kR; decide) | exact klc_R | (unfold kR; omega) | omega | (unfold kL; omega) | exact kcat_null | exact kcat_ref _ | exact kcat_iv _) only [r35_0, r35_1, r35_2, r35_5, r35_6, r35_7, ht_0 hA v.l0, true_and, and_true, kk1_i, kk1_r, kk1_n, kk1_0, kcat_iv, kcat_ref, kcat_null, kisR_ref, kisR_null, ksz_nil, ksz_iv, ksz_ref, ksz_null, ksz_lv, kfit_int, kfit_long, kfit_obj, kfit_objN, kfit_arr, kfit_arrN, knarI, knarZ0, knarZ1, kret_v, kret_n, kret_x, Nat.reduceAdd, Nat.reduceLeDiff, reduceCtorEq, Int.reduceLE, Int.reduceLT, Int.reduceEq, ite_true, ite_false, true_or, or_true, false_implies, true_implies, not_true_eq_false, not_false_eq_true, and_self, eq_self, klc_lt, klc_ge, klc_le, klc_gt, klc_eq, kmu_eq, kmu_f, kmu_i, kmu_j, q46, c44x hA z1 z10r z10', Nat.zero_le, show 1 ≤ d by omega]
      exact ⟨by omega, by omega, by omega, this⟩
  · have := H.x I (J := J) (e := 2) (x := 1) (b := none) (by simp) (by omega) (by omega) (fun _ Q' z => (j164_1 hA v rw (by omega) hm h1).mpr z) (Or.inl ⟨rfl, rfl⟩)
    have q46 := fun {Q} => c46x (E := E) (d := d - 1) (c := c) (l := l) (Q := Q) (J := J) (R := R) hA v rw F hm (by omega) h1
    simp (disch := first | assumption | (unfold kR; decide) | exact klc_R | (unfold kR; omega) | omega | (unfold kL; omega) | exact kcat_null | exact kcat_ref _ | exact kcat_iv _) only [r35_0, r35_1, r35_2, ht_0 hA v.l0, true_and, and_true, kk1_i, kk1_r, kk1_n, kk1_0, kcat_iv, kcat_ref, kcat_null, kisR_ref, kisR_null, ksz_nil, ksz_iv, ksz_ref, ksz_null, ksz_lv, kfit_int, kfit_long, kfit_obj, kfit_objN, kfit_arr, kfit_arrN, knarI, knarZ0, knarZ1, kret_v, kret_n, kret_x, Nat.reduceAdd, Nat.reduceLeDiff, reduceCtorEq, Int.reduceLE, Int.reduceLT, Int.reduceEq, ite_true, ite_false, true_or, or_true, false_implies, true_implies, not_true_eq_false, not_false_eq_true, and_self, eq_self, klc_lt, klc_ge, klc_le, klc_gt, klc_eq, kmu_eq, kmu_f, kmu_i, kmu_j, q46, Nat.zero_le, show 1 ≤ d by omega]
    exact ⟨by omega, by omega, this⟩
/-- substitute -/
theorem t32 (I : kIv E A V C R t) (ht : t ≤ 600) {m p : Int} (hm : kR m) (hp : kR p) (hd : 40 ≤ d) (hD : 40 ≤ D) (hc : 121 ≤ c) (hl : 2786 ≤ l) (H : kEnd E D 158 (fun A => [some (.ref (A 9 0)), some (iv m), some (iv p), none]) [(2, 1), (0, 2), (1, 3)] V A R t c l Q) :
    ka_W (kp E) (d, (32, 0, [some (.ref (A 0 0)), some (iv m), some (iv p), none], []), (kHp J A V C R, c, l)) Q := by
  have hI := I
  obtain ⟨hA, v, hE, rw, FI, XI⟩ := hI
  have F := FI.1.2.2.1
  have B15 := rw.i15
  by_cases h1 : 1 ≤ m ∧ m ≤ R 9 0 15
  · have q46 := fun {Q} => c46 (E := E) (d := d - 1) (c := c) (l := l) (Q := Q) (J := J) (R := R) hA v rw F (by omega) h1
    obtain ⟨z1, z2, z3, ⟨r1, r2, r3, r4⟩, -, -, -, -, -, z10, z11, -, z13, -⟩ := F.2.2.2.2.1 m h1.1 h1.2
    have B68 := rw.a68 (j := m) (by omega) (by omega)
    have B69 := rw.a69 (j := m) (by omega) (by omega)
    have B70 := rw.a70 (j := m) (by omega) (by omega)
    have m0' : 0 ≤ 100 + m := by omega
    by_cases h2 : 1 ≤ p ∧ p ≤ R 70 0 m
    · obtain ⟨-, -, p3, -⟩ := F.2.2.2.2.2.1 m (p - 1) h1.1 h1.2 (by omega) (by omega)
      have e5 : 5 * m + (p - 1) = 5 * m + p - 1 := by omega
      rw [e5] at p3
      have B74 := rw.a74 (j := 5 * m + p - 1) (by omega) (by omega)
      have fail : (¬ R 68 0 m = 0 ∨ p ≤ R 69 0 m ∨ R 74 0 (5 * m + p - 1) = -1) → Q (.inr 1) (kHp J A V C R, c - 1, l - 6) := fun h3 => H.x I (J := J) (e := 1) (x := 3) (b := none) (by simp) (by omega) (by omega) (fun _ Q' z => (j158_3 hA v rw (by omega) hm hp h1 h2 h3).mpr z) (Or.inl ⟨rfl, rfl⟩)
      by_cases h3 : R 68 0 m = 0
      · have z10' : C 4 m 7 = 0 := by rw [z10]; exact h3
        by_cases h4 : p ≤ R 69 0 m
        · simp (disch := first | assumption | (unfold kR; decide) | exact klc_R | (unfold kR; omega) | omega | (unfold kL; omega) | exact kcat_null | exact kcat_ref _ | exact kcat_iv _) only [r32_0, r32_1, r32_2, r32_5, r32_6, r32_7, r32_8, r32_9, r32_12, r32_15, r32_18, r32_19, r32_22, r32_23, r32_24, r32_27, r32_30, ht_0 hA v.l0, ho_4_4 hA, hg_4_4 hA, ho_6_5 hA, hg_6_5 hA, ho_4_8 hA, hg_4_8 hA, true_and, and_true, kk1_i, kk1_r, kk1_n, kk1_0, kcat_iv, kcat_ref, kcat_null, kisR_ref, kisR_null, ksz_nil, ksz_iv, ksz_ref, ksz_null, ksz_lv, kfit_int, kfit_long, kfit_obj, kfit_objN, kfit_arr, kfit_arrN, knarI, knarZ0, knarZ1, kret_v, kret_n, kret_x, Nat.reduceAdd, Nat.reduceLeDiff, reduceCtorEq, Int.reduceLE, Int.reduceLT, Int.reduceEq, ite_true, ite_false, true_or, or_true, false_implies, true_implies, not_true_eq_false, not_false_eq_true, and_self, eq_self, klc_lt, klc_ge, klc_le, klc_gt, klc_eq, kmu_eq, kmu_f, kmu_i, kmu_j, q46, c42, c44 hA z1 z10', z13, z11, h2, show ¬ R 69 0 m < p by omega, Nat.zero_le, show 1 ≤ d by omega]
          exact ⟨by omega, by omega, by omega, fail (Or.inr (Or.inl h4))⟩
        · by_cases h5 : R 74 0 (5 * m + p - 1) = -1
          · simp (disch := first | assumption | (unfold kR; decide) | exact klc_R | (unfold kR; omega) | omega | (unfold kL; omega) | exact kcat_null | exact kcat_ref _ | exact kcat_iv _) only [r32_0, r32_1, r32_2, r32_5, r32_6, r32_7, r32_8, r32_9, r32_12, r32_15, r32_18, r32_19, r32_22, r32_23, r32_24, r32_27, r32_30, r32_40, r32_41, r32_44, r32_47, r32_48, r32_49, r32_50, r32_51, r32_52, r32_55, ht_0 hA v.l0, ho_4_4 hA, hg_4_4 hA, ho_6_5 hA, hg_6_5 hA, ho_4_8 hA, hg_4_8 hA, ho_6_4 hA, hg_6_4 hA, hoa_22 hA, hga_22 hA, true_and, and_true, kk1_i, kk1_r, kk1_n, kk1_0, kcat_iv, kcat_ref, kcat_null, kisR_ref, kisR_null, ksz_nil, ksz_iv, ksz_ref, ksz_null, ksz_lv, kfit_int, kfit_long, kfit_obj, kfit_objN, kfit_arr, kfit_arrN, knarI, knarZ0, knarZ1, kret_v, kret_n, kret_x, Nat.reduceAdd, Nat.reduceLeDiff, reduceCtorEq, Int.reduceLE, Int.reduceLT, Int.reduceEq, ite_true, ite_false, true_or, or_true, false_implies, true_implies, not_true_eq_false, not_false_eq_true, and_self, eq_self, klc_lt, klc_ge, klc_le, klc_gt, klc_eq, kmu_eq, kmu_f, kmu_i, kmu_j, q46, c42, c44 hA z1 z10', z13, z11, p3, h2, h5, show R 69 0 m < p by omega, Nat.zero_le, show 1 ≤ d by omega]
            exact ⟨by omega, by omega, by omega, fail (Or.inr (Or.inr h5))⟩
          · have rw0 : kRW V (kmu R 9 0 0 0) := rw.pi0 (by omega) (by omega)
            have FI0 := kFI_0 FI (x := 0)
            have XI0 : kXI (kmu R 9 0 0 0) t := kXI_9 XI (by omega) (fun f a _ _ _ _ _ => kmu_ff a) (kmu_j (by decide)) (kmu_j (by decide)) (kmu_j (by decide))
            have e15 : kmu R 9 0 0 0 9 0 15 = R 9 0 15 := kmu_j (by decide)
            have e68 : kmu R 9 0 0 0 68 0 m = 0 := by rw [kmu_f (by decide)]; exact h3
            have e70 : kmu R 9 0 0 0 70 0 m = R 70 0 m := kmu_f (by decide)
            have e74 : ¬ kmu R 9 0 0 0 74 0 (5 * m + p - 1) = -1 := by rw [kmu_f (by decide)]; exact h5
            have pl := XI0.2.2.1.2.2.2.2.2.2
            obtain ⟨g1, g2, g3, g4, g5⟩ := f158b_g hA v rw0 XI0.2.1 XI0.2.2.1 (by omega) h1.1 (by rw [e15]; exact h1.2) h2.1 (by rw [e70]; exact h2.2) e74
            obtain ⟨k1, k2, k3⟩ := kXI_f hA v XI0 g1 g2 g3 (by omega) (fun f hf => g4 f (by omega) (by omega) (by omega) (by omega) (by omega) (by omega) (by omega)) (by rw [g4 9 (by decide) (by decide) (by decide) (by decide) (by decide) (by decide) (by decide)]) (by
              unfold kSp
              rw [g4 9 (by decide) (by decide) (by decide) (by decide) (by decide) (by decide) (by decide), g4 69 (by decide) (by decide) (by decide) (by decide) (by decide) (by decide) (by decide), g4 70 (by decide) (by decide) (by decide) (by decide) (by decide) (by decide) (by decide)]
              exact XI0.2.2.2.2)
            have xx : ∀ f, f ≠ 9 → f ≠ 55 → f ≠ 75 → f ≠ 78 → f ≠ 80 → f ≠ 81 → f ≠ 72 → f ≠ 74 → f158 (kmu R 9 0 0 0) m p f = R f := fun f a1 a2 a3 a4 a5 a6 a7 a8 => by unfold f158; rw [k3.1 f a2 a3 a4 a5 a6, g4 f a2 a3 a4 a5 a7 a8 a6, kmu_ff a1]
            have x9 : f158 (kmu R 9 0 0 0) m p 9 = kmu R 9 0 0 0 9 := by unfold f158; rw [k3.1 9 (by decide) (by decide) (by decide) (by decide) (by decide), g4 9 (by decide) (by decide) (by decide) (by decide) (by decide) (by decide) (by decide)]
            have x72 : ∀ q, q ≠ 5 * m + p - 1 → f158 (kmu R 9 0 0 0) m p 72 0 q = R 72 0 q := fun q hq => by unfold f158; rw [k3.1 72 (by decide) (by decide) (by decide) (by decide) (by decide), g5 72 q (by omega) hq, kmu_f (by decide)]
            have k1' : kRW V (f158 (kmu R 9 0 0 0) m p) := k1
            have k2' : kXI (f158 (kmu R 9 0 0 0) m p) (t + 1) := k2
            have ep : p - 1 + 1 = p := by omega
            have nd' : kND (f158b (kmu R 9 0 0 0) m (p - 1 + 1)) := by rw [ep]; exact g2
            simp (disch := first | assumption | (unfold kR; decide) | exact klc_R | (unfold kR; omega) | omega | (unfold kL; omega) | exact kcat_null | exact kcat_ref _ | exact kcat_iv _) only [r32_0, r32_1, r32_2, r32_5, r32_6, r32_7, r32_8, r32_9, r32_12, r32_15, r32_18, r32_19, r32_22, r32_23, r32_24, r32_27, r32_30, r32_40, r32_41, r32_44, r32_47, r32_48, r32_49, r32_50, r32_51, r32_52, r32_55, r32_65, r32_66, r32_69, r32_70, r32_71, r32_72, r32_73, ht_0 hA v.l0, ho_4_4 hA, hg_4_4 hA, ho_6_5 hA, hg_6_5 hA, ho_4_8 hA, hg_4_8 hA, ho_6_4 hA, hg_6_4 hA, hoa_22 hA, hga_22 hA, ho_0_3 hA v.l0, hg_0_3 hA v.l0, ht_2 hA v.l2, true_and, and_true, kk1_i, kk1_r, kk1_n, kk1_0, kcat_iv, kcat_ref, kcat_null, kisR_ref, kisR_null, ksz_nil, ksz_iv, ksz_ref, ksz_null, ksz_lv, kfit_int, kfit_long, kfit_obj, kfit_objN, kfit_arr, kfit_arrN, knarI, knarZ0, knarZ1, kret_v, kret_n, kret_x, Nat.reduceAdd, Nat.reduceLeDiff, reduceCtorEq, Int.reduceLE, Int.reduceLT, Int.reduceEq, ite_true, ite_false, true_or, or_true, false_implies, true_implies, not_true_eq_false, not_false_eq_true, and_self, eq_self, klc_lt, klc_ge, klc_le, klc_gt, klc_eq, kmu_eq, kmu_f, kmu_i, kmu_j, q46, c42, c44 hA z1 z10', z13, z11, p3, h2, h5, show R 69 0 m < p by omega, Nat.zero_le, show 1 ≤ d by omega]
            refine c70 hA v rw0 XI0.2.2.1.2.1 FI0.1.2.2.1 (by omega) h1.1 (by rw [e15]; exact h1.2) e68 (by omega) (by rw [e70]; omega) (by rw [e5]; exact e74) (fun g x y => by have := pl g x y; omega) nd' (fun C1 a1 a1' a2 => ?_)
            rw [ep] at a2
            have hz := fun {Q} {C9} => j158_0 (E := E) (d := D) (c := c) (l := l) (Q := Q) (J := J) (C := C9) hA v rw (by omega) hm hp h1 h2 h3 h4 h5 (fun g x y => by have := XI.2.2.1.2.2.2.2.2.2 g x y; omega) g2
            have B1 : kBI V C1 (f158 (kmu R 9 0 0 0) m p) := kBI_F FI.1 a2 (fun f hf => a1 f (by omega) (by omega) (by omega) (by omega) (by omega) (by omega) (by omega)) (fun f q hf hq => by
              by_cases e : f = 20 ∨ f = 22
              · exact a1' f q e (by omega)
              · rw [a1 f (by omega) (by omega) (by omega) (by omega) (by omega) (by omega) (by omega)]) rw (fun f hf => xx f (by omega) (by omega) (by omega) (by omega) (by omega) (by omega) (by omega) (by omega)) (by rw [x9, kmu_j (by decide)]) (by rw [x9, kmu_j (by decide)])
            have M1 : kMI C1 (f158 (kmu R 9 0 0 0) m p) := kMI_f rw FI.2 (fun f hf => a1 f (by omega) (by omega) (by omega) (by omega) (by omega) (by omega) (by omega)) (fun f hf => xx f (by omega) (by omega) (by omega) (by omega) (by omega) (by omega) (by omega) (by omega)) (fun j hj => by rw [x9, kmu_j (by omega)]) (by rw [x9, kmu_j (by decide)]; omega) (fun m' b0 b1 z => by
              have hne : m' ≠ m := fun e => by rw [e] at z; omega
              rw [xx 68 (by decide) (by decide) (by decide) (by decide) (by decide) (by decide) (by decide) (by decide), xx 70 (by decide) (by decide) (by decide) (by decide) (by decide) (by decide) (by decide) (by decide), xx 73 (by decide) (by decide) (by decide) (by decide) (by decide) (by decide) (by decide) (by decide)]
              exact ⟨z, rfl, fun i i0 i1 => ⟨x72 _ (by omega), rfl⟩⟩)
            have := H J A V C1 _ c l (.inl none) none ⟨hA, v, hE, k1', ⟨B1, M1⟩, k2'⟩ kEx0_rfl (by omega) (by omega) (fun _ Q' z => hz.mpr z) (Or.inl ⟨rfl, by rw [x9, kmu_eq]⟩) (Or.inl ⟨rfl, rfl⟩)
            simp (disch := first | assumption | (unfold kR; decide) | exact klc_R | (unfold kR; omega) | omega | (unfold kL; omega) | exact kcat_null | exact kcat_ref _ | exact kcat_iv _) only [r32_76, true_and, and_true, kk1_i, kk1_r, kk1_n, kk1_0, kcat_iv, kcat_ref, kcat_null, kisR_ref, kisR_null, ksz_nil, ksz_iv, ksz_ref, ksz_null, ksz_lv, kfit_int, kfit_long, kfit_obj, kfit_objN, kfit_arr, kfit_arrN, knarI, knarZ0, knarZ1, kret_v, kret_n, kret_x, Nat.reduceAdd, Nat.reduceLeDiff, reduceCtorEq, Int.reduceLE, Int.reduceLT, Int.reduceEq, ite_true, ite_false, true_or, or_true, false_implies, true_implies, not_true_eq_false, not_false_eq_true, and_self, eq_self, klc_lt, klc_ge, klc_le, klc_gt, klc_eq, kmu_eq, kmu_f, kmu_i, kmu_j]
            exact this
      · have z10' : ¬ C 4 m 7 = 0 := by rw [z10]; exact h3
        have z10r : kR (C 4 m 7) := by rw [z10]; unfold kR; omega
        simp (disch := first | assumption | (unfold kR; decide) | exact klc_R | (unfold kR; omega) | omega | (unfold kL; omega) | exact kcat_null | exact kcat_ref _ | exact kcat_iv _) only [r32_0, r32_1, r32_2, r32_5, r32_6, r32_7, r32_8, r32_9, r32_12, r32_15, r32_18, r32_19, ht_0 hA v.l0, ho_4_4 hA, hg_4_4 hA, ho_6_5 hA, hg_6_5 hA, true_and, and_true, kk1_i, kk1_r, kk1_n, kk1_0, kcat_iv, kcat_ref, kcat_null, kisR_ref, kisR_null, ksz_nil, ksz_iv, ksz_ref, ksz_null, ksz_lv, kfit_int, kfit_long, kfit_obj, kfit_objN, kfit_arr, kfit_arrN, knarI, knarZ0, knarZ1, kret_v, kret_n, kret_x, Nat.reduceAdd, Nat.reduceLeDiff, reduceCtorEq, Int.reduceLE, Int.reduceLT, Int.reduceEq, ite_true, ite_false, true_or, or_true, false_implies, true_implies, not_true_eq_false, not_false_eq_true, and_self, eq_self, klc_lt, klc_ge, klc_le, klc_gt, klc_eq, kmu_eq, kmu_f, kmu_i, kmu_j, q46, c42, c44x hA z1 z10r z10', z13, h2, Nat.zero_le, show 1 ≤ d by omega]
        exact ⟨by omega, by omega, by omega, fail (Or.inl h3)⟩
    · have := H.x I (J := J) (e := 0) (x := 2) (b := none) (by simp) (by omega) (by omega) (fun _ Q' z => (j158_2 hA v rw (by omega) hm hp h1 h2).mpr z) (Or.inl ⟨rfl, rfl⟩)
      simp (disch := first | assumption | (unfold kR; decide) | exact klc_R | (unfold kR; omega) | omega | (unfold kL; omega) | exact kcat_null | exact kcat_ref _ | exact kcat_iv _) only [r32_0, r32_1, r32_2, r32_5, r32_6, r32_7, r32_8, r32_9, r32_12, r32_15, ht_0 hA v.l0, ho_4_4 hA, hg_4_4 hA, ho_6_5 hA, hg_6_5 hA, true_and, and_true, kk1_i, kk1_r, kk1_n, kk1_0, kcat_iv, kcat_ref, kcat_null, kisR_ref, kisR_null, ksz_nil, ksz_iv, ksz_ref, ksz_null, ksz_lv, kfit_int, kfit_long, kfit_obj, kfit_objN, kfit_arr, kfit_arrN, knarI, knarZ0, knarZ1, kret_v, kret_n, kret_x, Nat.reduceAdd, Nat.reduceLeDiff, reduceCtorEq, Int.reduceLE, Int.reduceLT, Int.reduceEq, ite_true, ite_false, true_or, or_true, false_implies, true_implies, not_true_eq_false, not_false_eq_true, and_self, eq_self, klc_lt, klc_ge, klc_le, klc_gt, klc_eq, kmu_eq, kmu_f, kmu_i, kmu_j, q46, c42x, z13, h2, Nat.zero_le, show 1 ≤ d by omega]
      exact ⟨by omega, by omega, by omega, this⟩
  · have := H.x I (J := J) (e := 2) (x := 1) (b := none) (by simp) (by omega) (by omega) (fun _ Q' z => (j158_1 hA v rw (by omega) hm h1).mpr z) (Or.inl ⟨rfl, rfl⟩)
    have q46 := fun {Q} => c46x (E := E) (d := d - 1) (c := c) (l := l) (Q := Q) (J := J) (R := R) hA v rw F hm (by omega) h1
    simp (disch := first | assumption | (unfold kR; decide) | exact klc_R | (unfold kR; omega) | omega | (unfold kL; omega) | exact kcat_null | exact kcat_ref _ | exact kcat_iv _) only [r32_0, r32_1, r32_2, ht_0 hA v.l0, true_and, and_true, kk1_i, kk1_r, kk1_n, kk1_0, kcat_iv, kcat_ref, kcat_null, kisR_ref, kisR_null, ksz_nil, ksz_iv, ksz_ref, ksz_null, ksz_lv, kfit_int, kfit_long, kfit_obj, kfit_objN, kfit_arr, kfit_arrN, knarI, knarZ0, knarZ1, kret_v, kret_n, kret_x, Nat.reduceAdd, Nat.reduceLeDiff, reduceCtorEq, Int.reduceLE, Int.reduceLT, Int.reduceEq, ite_true, ite_false, true_or, or_true, false_implies, true_implies, not_true_eq_false, not_false_eq_true, and_self, eq_self, klc_lt, klc_ge, klc_le, klc_gt, klc_eq, kmu_eq, kmu_f, kmu_i, kmu_j, q46, Nat.zero_le, show 1 ≤ d by omega]
    exact ⟨by omega, by omega, this⟩
end
