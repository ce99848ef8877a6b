/-! The whole relation between the program and the reference, between calls. -/
def kBw (C X : ka_M) : Prop := (C 0 0 5 = -1 ∧ X 9 0 32 = 0) ∨ ∃ m, 1 ≤ m ∧ m ≤ X 9 0 15 ∧ C 0 0 5 = 100 + m ∧ X 68 0 m = 1 ∧ X 9 0 32 = X 70 0 m ∧ ∀ i, 0 ≤ i → i < X 70 0 m → X 83 0 i = X 72 0 (5 * m + i) ∧ X 84 0 i = X 73 0 (5 * m + i)
def kMI (C X : ka_M) : Prop := C 0 0 6 = X 9 0 1 ∧ C 5 0 1 = X 9 0 3 ∧ (∀ j, 0 ≤ j → j < X 9 0 3 → C 31 0 j = X 52 0 j) ∧ kRg C X ∧ (∀ g, 0 ≤ g → g < 20 → C 30 0 g = X 54 0 g) ∧ kBw C X
def kFI (V : ka_V) (C X : ka_M) : Prop := kBI V C X ∧ kMI C X
section
variable {E : Nat × Nat} {d c l : Nat} {s : ka_S} {h : ka_H} {Q : ka_Q} {J : ka_H} {A A' : ka_A} {V V' : ka_V} {C C' R X X' : ka_M}
theorem kBw_c (h : kBw C X) (h5 : C' 0 0 5 = C 0 0 5) (h32 : X' 9 0 32 = X 9 0 32) (h15 : X' 9 0 15 = X 9 0 15) (hX : ∀ f, f = 68 ∨ f = 70 ∨ f = 72 ∨ f = 73 ∨ f = 83 ∨ f = 84 → X' f = X f) : kBw C' X' := by
  unfold kBw
  rw [h5, h32, h15, hX 68 (by decide), hX 70 (by decide), hX 72 (by decide), hX 73 (by decide), hX 83 (by decide), hX 84 (by decide)]
  exact h
theorem kRg_c (h : kRg C X) (h7 : C' 7 = C 7) (h27 : C' 27 = C 27) (h36 : X' 9 0 36 = X 9 0 36) (h85 : X' 85 = X 85) : kRg C' X' := by
  unfold kRg
  rw [h7, h27, h36, h85]
  exact h
/-- the code is nobody's -/
theorem kFI_0 (I : kFI V C X) {x : Int} : kFI V C (kmu X 9 0 0 x) := by
  obtain ⟨I1, M1, M2, M3, M4, M5, M6⟩ := I
  refine ⟨kBI_q I1 (fun _ _ _ => rfl) (fun f a _ => kmu_ff a) (kmu_j (by decide)) (kmu_j (by decide)) (kmu_j (by decide)), ?_, ?_, fun j a b => ?_, kRg_c M4 rfl rfl (kmu_j (by decide)) (kmu_ff (by decide)), fun g a b => ?_, kBw_c M6 rfl (kmu_j (by decide)) (kmu_j (by decide)) (fun f hf => kmu_ff (by omega))⟩
  · rw [kmu_j (by decide)]; exact M1
  · rw [kmu_j (by decide)]; exact M2
  · rw [kmu_j (by decide)] at b
    rw [kmu_f (by decide)]
    exact M3 j a b
  · rw [kmu_f (by decide)]; exact M5 g a b
theorem krb_o : ∀ (n : Nat) (X : ka_M), (∀ f, f ≠ 9 → f ≠ 56 → krb' n X f = X f) ∧ ∀ j, j ≠ 7 → krb' n X 9 0 j = X 9 0 j
  | 0, X => ⟨fun _ _ _ => rfl, fun _ _ => rfl⟩
  | n + 1, X => by
    obtain ⟨h1, h2⟩ := krb_o n (kmu (kmu X 9 0 7 (X 9 0 7 - 1)) 56 0 (X 58 0 (X 9 0 7 - 1)) (-1))
    unfold krb'
    exact ⟨fun f a b => (h1 f a b).trans (by rw [kmu_ff b, kmu_ff a]), fun j a => (h2 j a).trans (by rw [kmu_f (by decide), kmu_j a])⟩
/-- read -/
theorem c22 (hA : kJ A V) (v : kLV V) (hE : A 34 0 = E.1) (rw : kRW V X) (I : kFI V C X) (hk : X 9 0 7 ≤ 12) (hd : 10 ≤ d) (hc : 121 ≤ c) (hl : 2786 ≤ l)
    (H : ∀ J' A' V' C' c' l', kJ A' V' → kEx0 V V' A A' → kFI V' C' (f148 X).1 → c ≤ c' + 121 → l ≤ l' + 2786 → ((f148 X).1 9 0 0 = 0 → Q (.inl (some (iv (f148 X).2))) (kHp J' A' V' C' R, c', l')) ∧ ((f148 X).1 9 0 0 = 1 → Q (.inr 3) (kHp J' A' V' C' R, c', l'))) :
    ka_W (kp E) (d, (22, 0, [some (.ref (A 0 0)), none, none], []), (kHp J A V C R, c, l)) Q := by
  have n10 : ¬ (1:Int) = 0 := by decide
  obtain ⟨I1, M1, M2, M3, M4, M5, M6⟩ := I
  have v100 := v.2.1
  have K2 := I1.2.1.2.1
  have B7 := rw.i7
  simp (disch := first | assumption | (unfold kR; decide) | exact klc_R | (unfold kR; omega) | omega | (unfold kL; omega) | exact kcat_null | exact kcat_ref _ | exact kcat_iv _) only [r22_0, r22_1, r22_4, r22_7, r22_10, r22_11, r22_12, r22_15, r22_16, r22_19, ho_0_0 hA v.l0, hg_0_0 hA v.l0, ho_1_0 hA v.l1, hg_1_0 hA v.l1, ht_10 hA, ho_0_1 hA v.l0, hg_0_1 hA v.l0, ht_5 hA v.l5, true_and, and_true, kk1_i, kk1_r, kk1_n, kk1_0, kcat_iv, kcat_ref, kcat_null, kisR_ref, kisR_null, ksz_nil, ksz_iv, ksz_ref, ksz_null, ksz_lv, kfit_int, kfit_long, kfit_obj, kfit_objN, kfit_arr, kfit_arrN, knarI, knarZ0, knarZ1, kret_v, kret_n, kret_x, Nat.reduceAdd, Nat.reduceLeDiff, reduceCtorEq, Int.reduceLE, Int.reduceLT, Int.reduceEq, ite_true, ite_false, true_or, or_true, false_implies, true_implies, not_true_eq_false, not_false_eq_true, and_self, eq_self, klc_lt, klc_ge, klc_le, klc_gt, klc_eq, kmu_eq, kmu_f, kmu_i, kmu_j, c180 hA v100, K2, Nat.zero_le, show 1 ≤ d by omega]
  refine c91 hA v hE rw M2 M3 I1 (by omega) (by omega) (by omega) (fun J1 A1 V1 C1 c1 l1 y a1 a2 a3 a4 a5 a6 a7 a8 a9 a10 a11 => ?_)
  have hM : ∀ m, 1 ≤ m → m ≤ (krd (X 9 0 3).toNat (kmu X 9 0 39 0)).1 9 0 15 → (krd (X 9 0 3).toNat (kmu X 9 0 39 0)).1 66 0 m < X 9 0 7 := by
    intro m b0 b1
    rw [a7.2.1 15 (by decide) (by decide) (by decide) (by decide) (by decide)] at b1
    rw [a7.1 66 (by decide) (by decide) (by decide) (by decide) (by decide) (by decide) (by decide) (by decide) (by decide) (by decide)]
    exact (I1.2.2.2.2.2 m b0 b1).2
  have v1 := a2.lv v
  have v101 := v1.2.1
  have e0 : A 0 0 = A1 0 0 := (a2 0 0 (by decide) v.l0).2.symm
  have B7' := a3.i7
  have B40 := a3.i40
  have K2' := a4.2.1.2.1
  unfold f148 at H
  dsimp only at H
  generalize hZ : krd (X 9 0 3).toNat (kmu X 9 0 39 0) = Z at *
  have ge := a7.2.2
  -- the rest of the relation
  have mi : ∀ (C2 X2 : ka_M), (∀ f, f ≠ 32 → f ≠ 25 → f ≠ 10 → f ≠ 33 → C2 f = C1 f) → (∀ f, f ≠ 9 → f ≠ 56 → X2 f = Z.1 f) → (∀ j, j ≠ 7 → j ≠ 0 → j ≠ 3 → X2 9 0 j = Z.1 9 0 j) → X2 9 0 3 = 0 → kMI C2 X2 := by
    intro C2 X2 h1 h2 h3 h4
    have cc : ∀ f, f ≠ 5 → f ≠ 26 → f ≠ 25 → f ≠ 6 → f ≠ 20 → f ≠ 21 → f ≠ 22 → f ≠ 3 → f ≠ 32 → f ≠ 10 → f ≠ 33 → C2 f = C f := fun f b1 b2 b3 b4 b5 b6 b7 b8 b9 b10 b11 => (h1 f b9 b3 b10 b11).trans (a5 f b1 b2 b3 b4 b5 b6 b7 b8 b9 b10 b11)
    have xx : ∀ f, f ≠ 9 → f ≠ 56 → f ≠ 58 → f ≠ 59 → f ≠ 60 → f ≠ 61 → f ≠ 62 → f ≠ 63 → f ≠ 64 → f ≠ 87 → X2 f = X f := fun f b1 b2 b3 b4 b5 b6 b7 b8 b9 b10 => (h2 f b1 b2).trans (a7.1 f b1 b2 b3 b4 b5 b6 b7 b8 b9 b10)
    have x9 : ∀ j, j ≠ 7 → j ≠ 0 → j ≠ 3 → j ≠ 39 → j ≠ 40 → j ≠ 41 → j ≠ 42 → X2 9 0 j = X 9 0 j := fun j b1 b2 b3 b4 b5 b6 b7 => (h3 j b1 b2 b3).trans (a7.2.1 j b1 b4 b5 b6 b7)
    have c0 : C2 0 = C 0 := cc 0 (by decide) (by decide) (by decide) (by decide) (by decide) (by decide) (by decide) (by decide) (by decide) (by decide) (by decide)
    refine ⟨?_, ?_, fun j b0 b1 => ?_, ?_, fun g b0 b1 => ?_, ?_⟩
    · rw [c0, x9 1 (by decide) (by decide) (by decide) (by decide) (by decide) (by decide) (by decide)]; exact M1
    · rw [h1 5 (by decide) (by decide) (by decide) (by decide), h4]; exact a6
    · omega
    · exact kRg_c M4 (cc 7 (by decide) (by decide) (by decide) (by decide) (by decide) (by decide) (by decide) (by decide) (by decide) (by decide) (by decide)) (cc 27 (by decide) (by decide) (by decide) (by decide) (by decide) (by decide) (by decide) (by decide) (by decide) (by decide) (by decide)) (x9 36 (by decide) (by decide) (by decide) (by decide) (by decide) (by decide) (by decide)) (xx 85 (by decide) (by decide) (by decide) (by decide) (by decide) (by decide) (by decide) (by decide) (by decide) (by decide))
    · rw [cc 30 (by decide) (by decide) (by decide) (by decide) (by decide) (by decide) (by decide) (by decide) (by decide) (by decide) (by decide), xx 54 (by decide) (by decide) (by decide) (by decide) (by decide) (by decide) (by decide) (by decide) (by decide) (by decide)]
      exact M5 g b0 b1
    · exact kBw_c M6 (by rw [c0]) (x9 32 (by decide) (by decide) (by decide) (by decide) (by decide) (by decide) (by decide)) (x9 15 (by decide) (by decide) (by decide) (by decide) (by decide) (by decide) (by decide)) (fun f hf => xx f (by omega) (by omega) (by omega) (by omega) (by omega) (by omega) (by omega) (by omega) (by omega) (by omega))
  have pre : ∀ x, kRW V1 (kmu (kmu Z.1 9 0 3 0) 9 0 0 x) ∨ ¬ (0 ≤ x ∧ x ≤ 4) := by
    intro x
    by_cases z : 0 ≤ x ∧ x ≤ 4
    · exact Or.inl ((a3.pi3 (by omega) (by omega)).pi0 z.1 z.2)
    · exact Or.inr z
  have bi : ∀ x, kBI V1 C1 (kmu (kmu Z.1 9 0 3 0) 9 0 0 x) := fun x => kBI_q a4 (fun _ _ _ => rfl) (fun f a _ => by rw [kmu_ff a, kmu_ff a]) (by rw [kmu_j (by decide), kmu_j (by decide)]) (by rw [kmu_j (by decide), kmu_j (by decide)]) (by rw [kmu_j (by decide), kmu_j (by decide)])
  have back : ∀ x, 0 ≤ x → x ≤ 4 → ∀ {Q2 : ka_Q}, (∀ J' V' C', kJ A1 V' → kEx0 V1 V' A1 A1 → kFI V' C' (krb' (Z.1 9 0 7 - X 9 0 7).toNat (kmu (kmu Z.1 9 0 3 0) 9 0 0 x)) → Q2 (.inl none) (kHp J' A1 V' C' R, c1, l1)) → ka_W (kp E) (d - 1, (59, 0, [some (.ref (A1 1 0)), some (iv (X 9 0 7)), none, none], []), (kHp J1 A1 V1 C1 R, c1, l1)) Q2 := by
    intro x x0 x1 Q2 HH
    have p := (pre x).resolve_right (fun w => w ⟨x0, x1⟩)
    refine c59 a1 v1 p (bi x) (by omega) B7.1 (n := (Z.1 9 0 7 - X 9 0 7).toNat) (by rw [kmu_j (by decide), kmu_j (by decide)]; omega) (fun m b0 b1 => ?_) (fun J' V' C' b1 b2 b3 b4 b5 => ?_)
    · rw [kmu_j (by decide), kmu_j (by decide)] at b1
      rw [kmu_f (by decide), kmu_f (by decide)]
      exact hM m b0 b1
    · obtain ⟨o1, o2⟩ := krb_o (Z.1 9 0 7 - X 9 0 7).toNat (kmu (kmu Z.1 9 0 3 0) 9 0 0 x)
      refine HH J' V' C' b1 b2 ⟨b4, mi C' _ b5 (fun f a b => (o1 f a b).trans (by rw [kmu_ff a, kmu_ff a])) (fun j a b c' => (o2 j a).trans (by rw [kmu_j b, kmu_j c'])) ((o2 3 (by decide)).trans (by rw [kmu_j (by decide), kmu_eq]))⟩
  rw [e0]
  by_cases h1 : Z.2 = 0
  · rw [if_pos h1] at H
    have hy := a8 h1
    simp (disch := first | assumption | (unfold kR; decide) | exact klc_R | (unfold kR; omega) | omega | (unfold kL; omega) | exact kcat_null | exact kcat_ref _ | exact kcat_iv _) only [r22_22, r22_23, r22_24, r22_25, r22_28, r22_29, r22_32, r22_33, ho_0_0 a1 v1.l0, hg_0_0 a1 v1.l0, ht_1 a1 v1.l1, true_and, and_true, kk1_i, kk1_r, kk1_n, kk1_0, kcat_iv, kcat_ref, kcat_null, kisR_ref, kisR_null, ksz_nil, ksz_iv, ksz_ref, ksz_null, ksz_lv, kfit_int, kfit_long, kfit_obj, kfit_objN, kfit_arr, kfit_arrN, knarI, knarZ0, knarZ1, kret_v, kret_n, kret_x, Nat.reduceAdd, Nat.reduceLeDiff, reduceCtorEq, Int.reduceLE, Int.reduceLT, Int.reduceEq, ite_true, ite_false, true_or, or_true, false_implies, true_implies, not_true_eq_false, not_false_eq_true, and_self, eq_self, klc_lt, klc_ge, klc_le, klc_gt, klc_eq, kmu_eq, kmu_f, kmu_i, kmu_j, show ¬ y = -1 by omega, Nat.zero_le, show 1 ≤ d by omega]
    refine back 0 (by omega) (by omega) (fun J2 V2 C2 b1 b2 b3 => ?_)
    have e := (krb_o (Z.1 9 0 7 - X 9 0 7).toNat (kmu (kmu Z.1 9 0 3 0) 9 0 0 0)).2 0 (by decide)
    rw [kmu_eq] at e
    have := (H J2 A1 V2 C2 c1 l1 b1 (a2.e0.trans b2) b3 (by omega) (by omega)).1 e
    rw [← hy] at this
    simp (disch := first | assumption | (unfold kR; decide) | exact klc_R | (unfold kR; omega) | omega | (unfold kL; omega) | exact kcat_null | exact kcat_ref _ | exact kcat_iv _) only [r22_36, r22_37, r22_38, r22_39, true_and, and_true, kk1_i, kk1_r, kk1_n, kk1_0, kcat_iv, kcat_ref, kcat_null, kisR_ref, kisR_null, ksz_nil, ksz_iv, ksz_ref, ksz_null, ksz_lv, kfit_int, kfit_long, kfit_obj, kfit_objN, kfit_arr, kfit_arrN, knarI, knarZ0, knarZ1, kret_v, kret_n, kret_x, Nat.reduceAdd, Nat.reduceLeDiff, reduceCtorEq, Int.reduceLE, Int.reduceLT, Int.reduceEq, ite_true, ite_false, true_or, or_true, false_implies, true_implies, not_true_eq_false, not_false_eq_true, and_self, eq_self, klc_lt, klc_ge, klc_le, klc_gt, klc_eq, kmu_eq, kmu_f, kmu_i, kmu_j]
    exact this
  · rw [if_neg h1] at H
    have hy := a9 h1
    by_cases h2 : 12 < Z.1 9 0 7
    · rw [if_pos h2] at H
      simp (disch := first | assumption | (unfold kR; decide) | exact klc_R | (unfold kR; omega) | omega | (unfold kL; omega) | exact kcat_null | exact kcat_ref _ | exact kcat_iv _) only [r22_22, r22_23, r22_24, r22_25, r22_28, r22_29, r22_32, r22_33, r22_36, r22_37, r22_38, r22_39, r22_40, r22_41, r22_44, r22_47, r22_50, r22_52, r22_55, r22_56, r22_59, r22_60, ho_0_0 a1 v1.l0, hg_0_0 a1 v1.l0, ht_1 a1 v1.l1, ho_1_0 a1 v1.l1, hg_1_0 a1 v1.l1, ht_10 a1 v101, true_and, and_true, kk1_i, kk1_r, kk1_n, kk1_0, kcat_iv, kcat_ref, kcat_null, kisR_ref, kisR_null, ksz_nil, ksz_iv, ksz_ref, ksz_null, ksz_lv, kfit_int, kfit_long, kfit_obj, kfit_objN, kfit_arr, kfit_arrN, knarI, knarZ0, knarZ1, kret_v, kret_n, kret_x, Nat.reduceAdd, Nat.reduceLeDiff, reduceCtorEq, Int.reduceLE, Int.reduceLT, Int.reduceEq, ite_true, ite_false, true_or, or_true, false_implies, true_implies, not_true_eq_false, not_false_eq_true, and_self, eq_self, klc_lt, klc_ge, klc_le, klc_gt, klc_eq, kmu_eq, kmu_f, kmu_i, kmu_j, hy, c180 a1 v101, K2', show ¬ Z.1 9 0 7 ≤ 12 by omega, Nat.zero_le, show 1 ≤ d by omega]
      refine back 1 (by omega) (by omega) (fun J2 V2 C2 b1 b2 b3 => ?_)
      have e := (krb_o (Z.1 9 0 7 - X 9 0 7).toNat (kmu (kmu Z.1 9 0 3 0) 9 0 0 1)).2 0 (by decide)
      rw [kmu_eq] at e
      have := (H J2 A1 V2 C2 (c1 - 1) (l1 - 6) b1 (a2.e0.trans b2) b3 (by omega) (by omega)).2 e
      simp (disch := first | assumption | (unfold kR; decide) | exact klc_R | (unfold kR; omega) | omega | (unfold kL; omega) | exact kcat_null | exact kcat_ref _ | exact kcat_iv _) only [r22_63, true_and, and_true, kk1_i, kk1_r, kk1_n, kk1_0, kcat_iv, kcat_ref, kcat_null, kisR_ref, kisR_null, ksz_nil, ksz_iv, ksz_ref, ksz_null, ksz_lv, kfit_int, kfit_long, kfit_obj, kfit_objN, kfit_arr, kfit_arrN, knarI, knarZ0, knarZ1, kret_v, kret_n, kret_x, Nat.reduceAdd, Nat.reduceLeDiff, reduceCtorEq, Int.reduceLE, Int.reduceLT, Int.reduceEq, ite_true, ite_false, true_or, or_true, false_implies, true_implies, not_true_eq_false, not_false_eq_true, and_self, eq_self, klc_lt, klc_ge, klc_le, klc_gt, klc_eq, kmu_eq, kmu_f, kmu_i, kmu_j]
      exact ⟨by omega, by omega, by omega, this⟩
    · rw [if_neg h2] at H
      have := (H J1 A1 V1 C1 c1 l1 a1 a2.e0 ⟨bi 0, mi C1 (kmu (kmu Z.1 9 0 3 0) 9 0 0 0) (fun _ _ _ _ _ => rfl) (fun f a b => by rw [kmu_ff a, kmu_ff a]) (fun j a b c' => by rw [kmu_j b, kmu_j c']) (by rw [kmu_j (by decide), kmu_eq])⟩ (by omega) (by omega)).1 (by dsimp only; exact kmu_eq)
      simp (disch := first | assumption | (unfold kR; decide) | exact klc_R | (unfold kR; omega) | omega | (unfold kL; omega) | exact kcat_null | exact kcat_ref _ | exact kcat_iv _) only [r22_22, r22_23, r22_24, r22_25, r22_28, r22_29, r22_32, r22_33, r22_36, r22_37, r22_38, r22_39, r22_40, r22_41, r22_44, r22_47, r22_50, r22_52, r22_73, r22_74, r22_77, r22_80, r22_83, ho_0_0 a1 v1.l0, hg_0_0 a1 v1.l0, ht_1 a1 v1.l1, ho_1_0 a1 v1.l1, hg_1_0 a1 v1.l1, ht_10 a1 v101, true_and, and_true, kk1_i, kk1_r, kk1_n, kk1_0, kcat_iv, kcat_ref, kcat_null, kisR_ref, kisR_null, ksz_nil, ksz_iv, ksz_ref, ksz_null, ksz_lv, kfit_int, kfit_long, kfit_obj, kfit_objN, kfit_arr, kfit_arrN, knarI, knarZ0, knarZ1, kret_v, kret_n, kret_x, Nat.reduceAdd, Nat.reduceLeDiff, reduceCtorEq, Int.reduceLE, Int.reduceLT, Int.reduceEq, ite_true, ite_false, true_or, or_true, false_implies, true_implies, not_true_eq_false, not_false_eq_true, and_self, eq_self, klc_lt, klc_ge, klc_le, klc_gt, klc_eq, kmu_eq, kmu_f, kmu_i, kmu_j, hy, c180 a1 v101, K2', show Z.1 9 0 7 ≤ 12 by omega, Nat.zero_le, show 1 ≤ d by omega]
      exact this
end
