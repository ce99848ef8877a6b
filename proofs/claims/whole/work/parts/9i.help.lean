/-! The law's helpers. Printed by wip/whole/genh.py. -/
/-- a helper with an answer that lies in out -/
def kHel1 (E : Nat × Nat) (D yr : Nat) (ag : ka_A → List (Option Value)) (V : ka_V) (A : ka_A) (R : ka_M) (t : Int) (c l : Nat) (Q : ka_Q) : Prop :=
  ∀ J' A' V' C' R' c' l' x, kR x → kIv E A' V' C' R' (t + 1) → kEx0 V V' A A' → c ≤ c' + 121 → l ≤ l' + 2786 →
  (∀ (C9 : ka_M) (Q' : ka_Q), Q' (.inl (some (iv x))) (kHp J' A' V' C9 R', c', l') → ka_W (kp E) (D, (yr, 0, ag A', []), (kHp J' A' V' C9 R, c', l')) Q') →
  (R' 9 0 0 = 0 → C' 36 0 0 = x) → Q (.inl (some (iv (R' 9 0 0)))) (kHp J' A' V' C' R, c', l')
/-- a helper with no answer -/
def kHel0 (E : Nat × Nat) (D yr : Nat) (ag : ka_A → List (Option Value)) (V : ka_V) (A : ka_A) (R : ka_M) (t : Int) (c l : Nat) (Q : ka_Q) : Prop :=
  ∀ J' A' V' C' R' c' l', kIv E A' V' C' R' (t + 1) → kEx0 V V' A A' → c ≤ c' + 121 → l ≤ l' + 2786 →
  (∀ (C9 : ka_M) (Q' : ka_Q), Q' (.inl none) (kHp J' A' V' C9 R', c', l') → ka_W (kp E) (D, (yr, 0, ag A', []), (kHp J' A' V' C9 R, c', l')) Q') →
  Q (.inl (some (iv (R' 9 0 0)))) (kHp J' A' V' C' R, c', l')
section
variable {E : Nat × Nat} {d D yr c l : Nat} {s : ka_S} {h : ka_H} {Q : ka_Q} {J : ka_H} {A A' : ka_A} {V V' : ka_V} {C C' R R' X X' X'' Y Z : ka_M} {t : Int} {ag : ka_A → List (Option Value)} {ex : List (Nat × Int)}
theorem kIv_36 (I : kIv E A V C R t) {x : Int} : kIv E A V (kmu C 36 0 0 x) R t := by
  obtain ⟨hA, v, hE, rw, ⟨⟨VI, K, F, Bk, P, M⟩, M1, M2, M3, M4, M5, M6⟩, XI⟩ := I
  refine ⟨hA, v, hE, rw, ⟨⟨?_, ?_, ?_, Bk, ?_, M⟩, ?_, ?_, fun j a b => ?_, ?_, fun g a b => ?_, ?_⟩, XI⟩
  · unfold kVI
    rw [kmu_ff (show (10:Nat) ≠ 36 by decide), kmu_ff (show (3:Nat) ≠ 36 by decide)]
    exact VI
  · unfold kRK kLs
    rw [kmu_ff (show (10:Nat) ≠ 36 by decide), kmu_ff (show (3:Nat) ≠ 36 by decide), kmu_ff (show (33:Nat) ≠ 36 by decide), kmu_ff (show (6:Nat) ≠ 36 by decide), kmu_ff (show (20:Nat) ≠ 36 by decide), kmu_ff (show (21:Nat) ≠ 36 by decide), kmu_ff (show (22:Nat) ≠ 36 by decide), kmu_ff (show (32:Nat) ≠ 36 by decide), kmu_ff (show (25:Nat) ≠ 36 by decide)]
    exact K
  · exact kRF_fr F (fun _ _ _ z => z) (fun _ _ z => z) (fun f hf => kmu_ff (by omega)) (fun f q hf _ => by rw [kmu_ff (by omega)]) (fun q _ => by rw [kmu_ff (by decide)]) (fun q _ => by rw [kmu_ff (by decide)]) rfl rfl (fun f hf => rfl) (fun m _ _ => rfl)
  · unfold kCp3
    rw [kmu_ff (show (10:Nat) ≠ 36 by decide), kmu_ff (show (0:Nat) ≠ 36 by decide)]
    exact P
  · rw [kmu_f (by decide)]; exact M1
  · rw [kmu_f (by decide)]; exact M2
  · rw [kmu_f (by decide)]; exact M3 j a b
  · exact kRg_c M4 (kmu_ff (by decide)) (kmu_ff (by decide)) rfl rfl
  · rw [kmu_f (by decide)]; exact M5 g a b
  · exact kBw_c M6 (kmu_f (by decide)) rfl rfl (fun f hf => rfl)
theorem u1 (I : kIv E A V C R t) (ht : t ≤ 600) {x : Int} (hx : kR x) (hd : 41 ≤ d) (hD : 40 ≤ D) (hc : 121 ≤ c) (hl : 2786 ≤ l) (H : kHel0 E D 122 (fun A => [some (.ref (A 9 0)), some (iv x)]) V A R t c l Q) :
    ka_W (kp E) (d, (1, 0, [some (.ref (A 0 0)), some (iv x), none], []), (kHp J A V C R, c, l)) Q := by
  obtain ⟨hA, v, -⟩ := id I
  simp (disch := first | assumption | (unfold kR; decide) | exact klc_R | (unfold kR; omega) | omega | (unfold kL; omega) | exact kcat_null | exact kcat_ref _ | exact kcat_iv _) only [r1_0, r1_1, r1_2, ht_0 hA v.l0, true_and, and_true, kk1_i, kk1_r, kk1_n, kk1_0, kcat_iv, kcat_ref, kcat_null, kisR_ref, kisR_null, ksz_nil, ksz_iv, ksz_ref, ksz_null, ksz_lv, kfit_int, kfit_long, kfit_obj, kfit_objN, kfit_arr, kfit_arrN, knarI, knarZ0, knarZ1, kret_v, kret_n, kret_x, Nat.reduceAdd, Nat.reduceLeDiff, reduceCtorEq, Int.reduceLE, Int.reduceLT, Int.reduceEq, ite_true, ite_false, true_or, or_true, false_implies, true_implies, not_true_eq_false, not_false_eq_true, and_self, eq_self, klc_lt, klc_ge, klc_le, klc_gt, klc_eq, kmu_eq, kmu_f, kmu_i, kmu_j, Nat.zero_le, show 1 ≤ d by omega]
  refine t21 I hx (by omega) hD hc hl (fun J' A' V' C' R' c' l' o b i1 i2 i3 i4 i5 i6 i7 => ?_)
  have hI := i1
  obtain ⟨hA', v', -⟩ := hI
  rcases i7 with ⟨-, rfl⟩ | ⟨w, -⟩
  rotate_left
  · exact absurd w (by decide)
  rcases i6 with ⟨rfl, e0⟩ | ⟨e, he, rfl, hx⟩
  · have := H J' A' V' C' R' c' l' i1 i2 i3 i4 i5
    rw [e0] at this
    simp (disch := first | assumption | (unfold kR; decide) | exact klc_R | (unfold kR; omega) | omega | (unfold kL; omega) | exact kcat_null | exact kcat_ref _ | exact kcat_iv _) only [kreh_n, r1_5, r1_14, r1_15, true_and, and_true, kk1_i, kk1_r, kk1_n, kk1_0, kcat_iv, kcat_ref, kcat_null, kisR_ref, kisR_null, ksz_nil, ksz_iv, ksz_ref, ksz_null, ksz_lv, kfit_int, kfit_long, kfit_obj, kfit_objN, kfit_arr, kfit_arrN, knarI, knarZ0, knarZ1, kret_v, kret_n, kret_x, Nat.reduceAdd, Nat.reduceLeDiff, reduceCtorEq, Int.reduceLE, Int.reduceLT, Int.reduceEq, ite_true, ite_false, true_or, or_true, false_implies, true_implies, not_true_eq_false, not_false_eq_true, and_self, eq_self, klc_lt, klc_ge, klc_le, klc_gt, klc_eq, kmu_eq, kmu_f, kmu_i, kmu_j]
    exact this
  · simp only [List.mem_cons, List.mem_nil_iff, or_false] at he
    rcases he with rfl | rfl
    · have := H J' A' V' C' R' c' l' i1 i2 i3 i4 i5
      rw [hx] at this
      rw [kreh_x (hh := 8) (by rfl) (by decide)]
      intro a
      simp (disch := first | assumption | (unfold kR; decide) | exact klc_R | (unfold kR; omega) | omega | (unfold kL; omega) | exact kcat_null | exact kcat_ref _ | exact kcat_iv _) only [r1_8, r1_9, r1_10, true_and, and_true, kk1_i, kk1_r, kk1_n, kk1_0, kcat_iv, kcat_ref, kcat_null, kisR_ref, kisR_null, ksz_nil, ksz_iv, ksz_ref, ksz_null, ksz_lv, kfit_int, kfit_long, kfit_obj, kfit_objN, kfit_arr, kfit_arrN, knarI, knarZ0, knarZ1, kret_v, kret_n, kret_x, Nat.reduceAdd, Nat.reduceLeDiff, reduceCtorEq, Int.reduceLE, Int.reduceLT, Int.reduceEq, ite_true, ite_false, true_or, or_true, false_implies, true_implies, not_true_eq_false, not_false_eq_true, and_self, eq_self, klc_lt, klc_ge, klc_le, klc_gt, klc_eq, kmu_eq, kmu_f, kmu_i, kmu_j]
      exact this
    · have := H J' A' V' C' R' c' l' i1 i2 i3 i4 i5
      rw [hx] at this
      rw [kreh_x (hh := 11) (by rfl) (by decide)]
      intro a
      simp (disch := first | assumption | (unfold kR; decide) | exact klc_R | (unfold kR; omega) | omega | (unfold kL; omega) | exact kcat_null | exact kcat_ref _ | exact kcat_iv _) only [r1_11, r1_12, r1_13, true_and, and_true, kk1_i, kk1_r, kk1_n, kk1_0, kcat_iv, kcat_ref, kcat_null, kisR_ref, kisR_null, ksz_nil, ksz_iv, ksz_ref, ksz_null, ksz_lv, kfit_int, kfit_long, kfit_obj, kfit_objN, kfit_arr, kfit_arrN, knarI, knarZ0, knarZ1, kret_v, kret_n, kret_x, Nat.reduceAdd, Nat.reduceLeDiff, reduceCtorEq, Int.reduceLE, Int.reduceLT, Int.reduceEq, ite_true, ite_false, true_or, or_true, false_implies, true_implies, not_true_eq_false, not_false_eq_true, and_self, eq_self, klc_lt, klc_ge, klc_le, klc_gt, klc_eq, kmu_eq, kmu_f, kmu_i, kmu_j]
      exact this
theorem u2 (I : kIv E A V C R t) (ht : t ≤ 600)  (hd : 41 ≤ d) (hD : 40 ≤ D) (hc : 121 ≤ c) (hl : 2786 ≤ l) (H : kHel1 E D 148 (fun A => [some (.ref (A 9 0)), none, none]) V A R t c l Q) :
    ka_W (kp E) (d, (2, 0, [some (.ref (A 0 0)), some (.ref (A 36 0)), none], []), (kHp J A V C R, c, l)) Q := by
  obtain ⟨hA, v, -⟩ := id I
  simp (disch := first | assumption | (unfold kR; decide) | exact klc_R | (unfold kR; omega) | omega | (unfold kL; omega) | exact kcat_null | exact kcat_ref _ | exact kcat_iv _) only [r2_0, r2_1, r2_2, r2_3, ht_0 hA v.l0, true_and, and_true, kk1_i, kk1_r, kk1_n, kk1_0, kcat_iv, kcat_ref, kcat_null, kisR_ref, kisR_null, ksz_nil, ksz_iv, ksz_ref, ksz_null, ksz_lv, kfit_int, kfit_long, kfit_obj, kfit_objN, kfit_arr, kfit_arrN, knarI, knarZ0, knarZ1, kret_v, kret_n, kret_x, Nat.reduceAdd, Nat.reduceLeDiff, reduceCtorEq, Int.reduceLE, Int.reduceLT, Int.reduceEq, ite_true, ite_false, true_or, or_true, false_implies, true_implies, not_true_eq_false, not_false_eq_true, and_self, eq_self, klc_lt, klc_ge, klc_le, klc_gt, klc_eq, kmu_eq, kmu_f, kmu_i, kmu_j, Nat.zero_le, show 1 ≤ d by omega]
  refine t22 I  (by omega) hD hc hl (fun J' A' V' C' R' c' l' o b i1 i2 i3 i4 i5 i6 i7 => ?_)
  have hI := i1
  obtain ⟨hA', v', -⟩ := hI
  have e36 := (i2 36 0 (by decide) (by decide) (by decide) (by decide) (by decide) (by decide) v.l36).2
  rcases i7 with ⟨w, -⟩ | ⟨-, x', rfl, hx'⟩
  · exact absurd w (by decide)
  rcases i6 with ⟨rfl, e0⟩ | ⟨e, he, rfl, hx⟩
  · have := H J' A' V' (kmu C' 36 0 0 x') R' c' l' x' hx' (kIv_36 i1) i2 i3 i4 i5 (fun _ => kmu_eq)
    rw [e0] at this
    rw [← e36]
    simp (disch := first | assumption | (unfold kR; decide) | exact klc_R | (unfold kR; omega) | omega | (unfold kL; omega) | exact kcat_null | exact kcat_ref _ | exact kcat_iv _) only [kreh_v, r2_6, r2_7, r2_8, r2_14, r2_15, hoa_36 hA' v'.l36, hpa_36 hA' v'.l36, true_and, and_true, kk1_i, kk1_r, kk1_n, kk1_0, kcat_iv, kcat_ref, kcat_null, kisR_ref, kisR_null, ksz_nil, ksz_iv, ksz_ref, ksz_null, ksz_lv, kfit_int, kfit_long, kfit_obj, kfit_objN, kfit_arr, kfit_arrN, knarI, knarZ0, knarZ1, kret_v, kret_n, kret_x, Nat.reduceAdd, Nat.reduceLeDiff, reduceCtorEq, Int.reduceLE, Int.reduceLT, Int.reduceEq, ite_true, ite_false, true_or, or_true, false_implies, true_implies, not_true_eq_false, not_false_eq_true, and_self, eq_self, klc_lt, klc_ge, klc_le, klc_gt, klc_eq, kmu_eq, kmu_f, kmu_i, kmu_j]
    exact this
  · simp only [List.mem_cons, List.mem_nil_iff, or_false] at he
    rcases he with rfl
    · have := H J' A' V' C' R' c' l' x' hx' i1 i2 i3 i4 i5 (fun z => absurd (hx.symm.trans z) (by decide))
      rw [hx] at this
      rw [kreh_x (hh := 11) (by rfl) (by decide)]
      intro a
      simp (disch := first | assumption | (unfold kR; decide) | exact klc_R | (unfold kR; omega) | omega | (unfold kL; omega) | exact kcat_null | exact kcat_ref _ | exact kcat_iv _) only [r2_11, r2_12, r2_13, true_and, and_true, kk1_i, kk1_r, kk1_n, kk1_0, kcat_iv, kcat_ref, kcat_null, kisR_ref, kisR_null, ksz_nil, ksz_iv, ksz_ref, ksz_null, ksz_lv, kfit_int, kfit_long, kfit_obj, kfit_objN, kfit_arr, kfit_arrN, knarI, knarZ0, knarZ1, kret_v, kret_n, kret_x, Nat.reduceAdd, Nat.reduceLeDiff, reduceCtorEq, Int.reduceLE, Int.reduceLT, Int.reduceEq, ite_true, ite_false, true_or, or_true, false_implies, true_implies, not_true_eq_false, not_false_eq_true, and_self, eq_self, klc_lt, klc_ge, klc_le, klc_gt, klc_eq, kmu_eq, kmu_f, kmu_i, kmu_j]
      exact this
theorem u3 (I : kIv E A V C R t) (ht : t ≤ 600) {x : Int} (hx : kR x) (hd : 41 ≤ d) (hD : 40 ≤ D) (hc : 121 ≤ c) (hl : 2786 ≤ l) (H : kHel1 E D 132 (fun A => [some (.ref (A 9 0)), some (iv x)]) V A R t c l Q) :
    ka_W (kp E) (d, (3, 0, [some (.ref (A 0 0)), some (iv x), some (.ref (A 36 0)), none], []), (kHp J A V C R, c, l)) Q := by
  obtain ⟨hA, v, -⟩ := id I
  simp (disch := first | assumption | (unfold kR; decide) | exact klc_R | (unfold kR; omega) | omega | (unfold kL; omega) | exact kcat_null | exact kcat_ref _ | exact kcat_iv _) only [r3_0, r3_1, r3_2, r3_3, r3_4, ht_0 hA v.l0, true_and, and_true, kk1_i, kk1_r, kk1_n, kk1_0, kcat_iv, kcat_ref, kcat_null, kisR_ref, kisR_null, ksz_nil, ksz_iv, ksz_ref, ksz_null, ksz_lv, kfit_int, kfit_long, kfit_obj, kfit_objN, kfit_arr, kfit_arrN, knarI, knarZ0, knarZ1, kret_v, kret_n, kret_x, Nat.reduceAdd, Nat.reduceLeDiff, reduceCtorEq, Int.reduceLE, Int.reduceLT, Int.reduceEq, ite_true, ite_false, true_or, or_true, false_implies, true_implies, not_true_eq_false, not_false_eq_true, and_self, eq_self, klc_lt, klc_ge, klc_le, klc_gt, klc_eq, kmu_eq, kmu_f, kmu_i, kmu_j, Nat.zero_le, show 1 ≤ d by omega]
  refine t23 I hx (by omega) hD hc hl (fun J' A' V' C' R' c' l' o b i1 i2 i3 i4 i5 i6 i7 => ?_)
  have hI := i1
  obtain ⟨hA', v', -⟩ := hI
  have e36 := (i2 36 0 (by decide) (by decide) (by decide) (by decide) (by decide) (by decide) v.l36).2
  rcases i7 with ⟨w, -⟩ | ⟨-, x', rfl, hx'⟩
  · exact absurd w (by decide)
  rcases i6 with ⟨rfl, e0⟩ | ⟨e, he, rfl, hx⟩
  · have := H J' A' V' (kmu C' 36 0 0 x') R' c' l' x' hx' (kIv_36 i1) i2 i3 i4 i5 (fun _ => kmu_eq)
    rw [e0] at this
    rw [← e36]
    simp (disch := first | assumption | (unfold kR; decide) | exact klc_R | (unfold kR; omega) | omega | (unfold kL; omega) | exact kcat_null | exact kcat_ref _ | exact kcat_iv _) only [kreh_v, r3_7, r3_8, r3_9, r3_21, r3_22, hoa_36 hA' v'.l36, hpa_36 hA' v'.l36, true_and, and_true, kk1_i, kk1_r, kk1_n, kk1_0, kcat_iv, kcat_ref, kcat_null, kisR_ref, kisR_null, ksz_nil, ksz_iv, ksz_ref, ksz_null, ksz_lv, kfit_int, kfit_long, kfit_obj, kfit_objN, kfit_arr, kfit_arrN, knarI, knarZ0, knarZ1, kret_v, kret_n, kret_x, Nat.reduceAdd, Nat.reduceLeDiff, reduceCtorEq, Int.reduceLE, Int.reduceLT, Int.reduceEq, ite_true, ite_false, true_or, or_true, false_implies, true_implies, not_true_eq_false, not_false_eq_true, and_self, eq_self, klc_lt, klc_ge, klc_le, klc_gt, klc_eq, kmu_eq, kmu_f, kmu_i, kmu_j]
    exact this
  · simp only [List.mem_cons, List.mem_nil_iff, or_false] at he
    rcases he with rfl | rfl | rfl
    · have := H J' A' V' C' R' c' l' x' hx' i1 i2 i3 i4 i5 (fun z => absurd (hx.symm.trans z) (by decide))
      rw [hx] at this
      rw [kreh_x (hh := 12) (by rfl) (by decide)]
      intro a
      simp (disch := first | assumption | (unfold kR; decide) | exact klc_R | (unfold kR; omega) | omega | (unfold kL; omega) | exact kcat_null | exact kcat_ref _ | exact kcat_iv _) only [r3_12, r3_13, r3_14, true_and, and_true, kk1_i, kk1_r, kk1_n, kk1_0, kcat_iv, kcat_ref, kcat_null, kisR_ref, kisR_null, ksz_nil, ksz_iv, ksz_ref, ksz_null, ksz_lv, kfit_int, kfit_long, kfit_obj, kfit_objN, kfit_arr, kfit_arrN, knarI, knarZ0, knarZ1, kret_v, kret_n, kret_x, Nat.reduceAdd, Nat.reduceLeDiff, reduceCtorEq, Int.reduceLE, Int.reduceLT, Int.reduceEq, ite_true, ite_false, true_or, or_true, false_implies, true_implies, not_true_eq_false, not_false_eq_true, and_self, eq_self, klc_lt, klc_ge, klc_le, klc_gt, klc_eq, kmu_eq, kmu_f, kmu_i, kmu_j]
      exact this
    · have := H J' A' V' C' R' c' l' x' hx' i1 i2 i3 i4 i5 (fun z => absurd (hx.symm.trans z) (by decide))
      rw [hx] at this
      rw [kreh_x (hh := 15) (by rfl) (by decide)]
      intro a
      simp (disch := first | assumption | (unfold kR; decide) | exact klc_R | (unfold kR; omega) | omega | (unfold kL; omega) | exact kcat_null | exact kcat_ref _ | exact kcat_iv _) only [r3_15, r3_16, r3_17, true_and, and_true, kk1_i, kk1_r, kk1_n, kk1_0, kcat_iv, kcat_ref, kcat_null, kisR_ref, kisR_null, ksz_nil, ksz_iv, ksz_ref, ksz_null, ksz_lv, kfit_int, kfit_long, kfit_obj, kfit_objN, kfit_arr, kfit_arrN, knarI, knarZ0, knarZ1, kret_v, kret_n, kret_x, Nat.reduceAdd, Nat.reduceLeDiff, reduceCtorEq, Int.reduceLE, Int.reduceLT, Int.reduceEq, ite_true, ite_false, true_or, or_true, false_implies, true_implies, not_true_eq_false, not_false_eq_true, and_self, eq_self, klc_lt, klc_ge, klc_le, klc_gt, klc_eq, kmu_eq, kmu_f, kmu_i, kmu_j]
      exact this
    · have := H J' A' V' C' R' c' l' x' hx' i1 i2 i3 i4 i5 (fun z => absurd (hx.symm.trans z) (by decide))
      rw [hx] at this
      rw [kreh_x (hh := 18) (by rfl) (by decide)]
      intro a
      simp (disch := first | assumption | (unfold kR; decide) | exact klc_R | (unfold kR; omega) | omega | (unfold kL; omega) | exact kcat_null | exact kcat_ref _ | exact kcat_iv _) only [r3_18, r3_19, r3_20, true_and, and_true, kk1_i, kk1_r, kk1_n, kk1_0, kcat_iv, kcat_ref, kcat_null, kisR_ref, kisR_null, ksz_nil, ksz_iv, ksz_ref, ksz_null, ksz_lv, kfit_int, kfit_long, kfit_obj, kfit_objN, kfit_arr, kfit_arrN, knarI, knarZ0, knarZ1, kret_v, kret_n, kret_x, Nat.reduceAdd, Nat.reduceLeDiff, reduceCtorEq, Int.reduceLE, Int.reduceLT, Int.reduceEq, ite_true, ite_false, true_or, or_true, false_implies, true_implies, not_true_eq_false, not_false_eq_true, and_self, eq_self, klc_lt, klc_ge, klc_le, klc_gt, klc_eq, kmu_eq, kmu_f, kmu_i, kmu_j]
      exact this
theorem u4 (I : kIv E A V C R t) (ht : t ≤ 600) {k g n b : Int} (hk : kR k) (hg : kR g) (hn : kR n) (hb : b = 0 ∨ b = 1) (hd : 41 ≤ d) (hD : 40 ≤ D) (hc : 121 ≤ c) (hl : 2786 ≤ l) (H : kHel1 E D 133 (fun A => [some (.ref (A 9 0)), some (iv k), some (iv g), some (iv n), some (iv b), none, none, none]) V A R t c l Q) :
    ka_W (kp E) (d, (4, 0, [some (.ref (A 0 0)), some (iv k), some (iv g), some (iv n), some (iv b), some (.ref (A 36 0)), none], []), (kHp J A V C R, c, l)) Q := by
  obtain ⟨hA, v, -⟩ := id I
  simp (disch := first | assumption | (unfold kR; decide) | exact klc_R | (unfold kR; omega) | omega | (unfold kL; omega) | exact kcat_null | exact kcat_ref _ | exact kcat_iv _) only [r4_0, r4_2, r4_3, r4_4, r4_5, r4_6, r4_7, r4_9, ht_0 hA v.l0, true_and, and_true, kk1_i, kk1_r, kk1_n, kk1_0, kcat_iv, kcat_ref, kcat_null, kisR_ref, kisR_null, ksz_nil, ksz_iv, ksz_ref, ksz_null, ksz_lv, kfit_int, kfit_long, kfit_obj, kfit_objN, kfit_arr, kfit_arrN, knarI, knarZ0, knarZ1, kret_v, kret_n, kret_x, Nat.reduceAdd, Nat.reduceLeDiff, reduceCtorEq, Int.reduceLE, Int.reduceLT, Int.reduceEq, ite_true, ite_false, true_or, or_true, false_implies, true_implies, not_true_eq_false, not_false_eq_true, and_self, eq_self, klc_lt, klc_ge, klc_le, klc_gt, klc_eq, kmu_eq, kmu_f, kmu_i, kmu_j, Nat.zero_le, show 1 ≤ d by omega]
  refine t24 I hk hg hn hb (by omega) hD hc hl (fun J' A' V' C' R' c' l' o b i1 i2 i3 i4 i5 i6 i7 => ?_)
  have hI := i1
  obtain ⟨hA', v', -⟩ := hI
  have e36 := (i2 36 0 (by decide) (by decide) (by decide) (by decide) (by decide) (by decide) v.l36).2
  rcases i7 with ⟨w, -⟩ | ⟨-, x', rfl, hx'⟩
  · exact absurd w (by decide)
  rcases i6 with ⟨rfl, e0⟩ | ⟨e, he, rfl, hx⟩
  · have := H J' A' V' (kmu C' 36 0 0 x') R' c' l' x' hx' (kIv_36 i1) i2 i3 i4 i5 (fun _ => kmu_eq)
    rw [e0] at this
    rw [← e36]
    simp (disch := first | assumption | (unfold kR; decide) | exact klc_R | (unfold kR; omega) | omega | (unfold kL; omega) | exact kcat_null | exact kcat_ref _ | exact kcat_iv _) only [kreh_v, r4_12, r4_13, r4_14, r4_33, r4_34, hoa_36 hA' v'.l36, hpa_36 hA' v'.l36, true_and, and_true, kk1_i, kk1_r, kk1_n, kk1_0, kcat_iv, kcat_ref, kcat_null, kisR_ref, kisR_null, ksz_nil, ksz_iv, ksz_ref, ksz_null, ksz_lv, kfit_int, kfit_long, kfit_obj, kfit_objN, kfit_arr, kfit_arrN, knarI, knarZ0, knarZ1, kret_v, kret_n, kret_x, Nat.reduceAdd, Nat.reduceLeDiff, reduceCtorEq, Int.reduceLE, Int.reduceLT, Int.reduceEq, ite_true, ite_false, true_or, or_true, false_implies, true_implies, not_true_eq_false, not_false_eq_true, and_self, eq_self, klc_lt, klc_ge, klc_le, klc_gt, klc_eq, kmu_eq, kmu_f, kmu_i, kmu_j]
    exact this
  · simp only [List.mem_cons, List.mem_nil_iff, or_false] at he
    rcases he with rfl | rfl | rfl | rfl
    · have := H J' A' V' C' R' c' l' x' hx' i1 i2 i3 i4 i5 (fun z => absurd (hx.symm.trans z) (by decide))
      rw [hx] at this
      rw [kreh_x (hh := 17) (by rfl) (by decide)]
      intro a
      simp (disch := first | assumption | (unfold kR; decide) | exact klc_R | (unfold kR; omega) | omega | (unfold kL; omega) | exact kcat_null | exact kcat_ref _ | exact kcat_iv _) only [r4_17, r4_19, r4_20, true_and, and_true, kk1_i, kk1_r, kk1_n, kk1_0, kcat_iv, kcat_ref, kcat_null, kisR_ref, kisR_null, ksz_nil, ksz_iv, ksz_ref, ksz_null, ksz_lv, kfit_int, kfit_long, kfit_obj, kfit_objN, kfit_arr, kfit_arrN, knarI, knarZ0, knarZ1, kret_v, kret_n, kret_x, Nat.reduceAdd, Nat.reduceLeDiff, reduceCtorEq, Int.reduceLE, Int.reduceLT, Int.reduceEq, ite_true, ite_false, true_or, or_true, false_implies, true_implies, not_true_eq_false, not_false_eq_true, and_self, eq_self, klc_lt, klc_ge, klc_le, klc_gt, klc_eq, kmu_eq, kmu_f, kmu_i, kmu_j]
      exact this
    · have := H J' A' V' C' R' c' l' x' hx' i1 i2 i3 i4 i5 (fun z => absurd (hx.symm.trans z) (by decide))
      rw [hx] at this
      rw [kreh_x (hh := 21) (by rfl) (by decide)]
      intro a
      simp (disch := first | assumption | (unfold kR; decide) | exact klc_R | (unfold kR; omega) | omega | (unfold kL; omega) | exact kcat_null | exact kcat_ref _ | exact kcat_iv _) only [r4_21, r4_23, r4_24, true_and, and_true, kk1_i, kk1_r, kk1_n, kk1_0, kcat_iv, kcat_ref, kcat_null, kisR_ref, kisR_null, ksz_nil, ksz_iv, ksz_ref, ksz_null, ksz_lv, kfit_int, kfit_long, kfit_obj, kfit_objN, kfit_arr, kfit_arrN, knarI, knarZ0, knarZ1, kret_v, kret_n, kret_x, Nat.reduceAdd, Nat.reduceLeDiff, reduceCtorEq, Int.reduceLE, Int.reduceLT, Int.reduceEq, ite_true, ite_false, true_or, or_true, false_implies, true_implies, not_true_eq_false, not_false_eq_true, and_self, eq_self, klc_lt, klc_ge, klc_le, klc_gt, klc_eq, kmu_eq, kmu_f, kmu_i, kmu_j]
      exact this
    · have := H J' A' V' C' R' c' l' x' hx' i1 i2 i3 i4 i5 (fun z => absurd (hx.symm.trans z) (by decide))
      rw [hx] at this
      rw [kreh_x (hh := 25) (by rfl) (by decide)]
      intro a
      simp (disch := first | assumption | (unfold kR; decide) | exact klc_R | (unfold kR; omega) | omega | (unfold kL; omega) | exact kcat_null | exact kcat_ref _ | exact kcat_iv _) only [r4_25, r4_27, r4_28, true_and, and_true, kk1_i, kk1_r, kk1_n, kk1_0, kcat_iv, kcat_ref, kcat_null, kisR_ref, kisR_null, ksz_nil, ksz_iv, ksz_ref, ksz_null, ksz_lv, kfit_int, kfit_long, kfit_obj, kfit_objN, kfit_arr, kfit_arrN, knarI, knarZ0, knarZ1, kret_v, kret_n, kret_x, Nat.reduceAdd, Nat.reduceLeDiff, reduceCtorEq, Int.reduceLE, Int.reduceLT, Int.reduceEq, ite_true, ite_false, true_or, or_true, false_implies, true_implies, not_true_eq_false, not_false_eq_true, and_self, eq_self, klc_lt, klc_ge, klc_le, klc_gt, klc_eq, kmu_eq, kmu_f, kmu_i, kmu_j]
      exact this
    · have := H J' A' V' C' R' c' l' x' hx' i1 i2 i3 i4 i5 (fun z => absurd (hx.symm.trans z) (by decide))
      rw [hx] at this
      rw [kreh_x (hh := 29) (by rfl) (by decide)]
      intro a
      simp (disch := first | assumption | (unfold kR; decide) | exact klc_R | (unfold kR; omega) | omega | (unfold kL; omega) | exact kcat_null | exact kcat_ref _ | exact kcat_iv _) only [r4_29, r4_31, r4_32, true_and, and_true, kk1_i, kk1_r, kk1_n, kk1_0, kcat_iv, kcat_ref, kcat_null, kisR_ref, kisR_null, ksz_nil, ksz_iv, ksz_ref, ksz_null, ksz_lv, kfit_int, kfit_long, kfit_obj, kfit_objN, kfit_arr, kfit_arrN, knarI, knarZ0, knarZ1, kret_v, kret_n, kret_x, Nat.reduceAdd, Nat.reduceLeDiff, reduceCtorEq, Int.reduceLE, Int.reduceLT, Int.reduceEq, ite_true, ite_false, true_or, or_true, false_implies, true_implies, not_true_eq_false, not_false_eq_true, and_self, eq_self, klc_lt, klc_ge, klc_le, klc_gt, klc_eq, kmu_eq, kmu_f, kmu_i, kmu_j]
      exact this
theorem u5 (I : kIv E A V C R t) (ht : t ≤ 600) {k x : Int} (hk : kR k) (hx : kR x) (hd : 41 ≤ d) (hD : 40 ≤ D) (hc : 121 ≤ c) (hl : 2786 ≤ l) (H : kHel1 E D 135 (fun A => [some (.ref (A 9 0)), some (iv k), some (iv x)]) V A R t c l Q) :
    ka_W (kp E) (d, (5, 0, [some (.ref (A 0 0)), some (iv k), some (iv x), some (.ref (A 36 0)), none], []), (kHp J A V C R, c, l)) Q := by
  obtain ⟨hA, v, -⟩ := id I
  simp (disch := first | assumption | (unfold kR; decide) | exact klc_R | (unfold kR; omega) | omega | (unfold kL; omega) | exact kcat_null | exact kcat_ref _ | exact kcat_iv _) only [r5_0, r5_1, r5_2, r5_3, r5_4, r5_5, ht_0 hA v.l0, true_and, and_true, kk1_i, kk1_r, kk1_n, kk1_0, kcat_iv, kcat_ref, kcat_null, kisR_ref, kisR_null, ksz_nil, ksz_iv, ksz_ref, ksz_null, ksz_lv, kfit_int, kfit_long, kfit_obj, kfit_objN, kfit_arr, kfit_arrN, knarI, knarZ0, knarZ1, kret_v, kret_n, kret_x, Nat.reduceAdd, Nat.reduceLeDiff, reduceCtorEq, Int.reduceLE, Int.reduceLT, Int.reduceEq, ite_true, ite_false, true_or, or_true, false_implies, true_implies, not_true_eq_false, not_false_eq_true, and_self, eq_self, klc_lt, klc_ge, klc_le, klc_gt, klc_eq, kmu_eq, kmu_f, kmu_i, kmu_j, Nat.zero_le, show 1 ≤ d by omega]
  refine t26 I hk hx (by omega) hD hc hl (fun J' A' V' C' R' c' l' o b i1 i2 i3 i4 i5 i6 i7 => ?_)
  have hI := i1
  obtain ⟨hA', v', -⟩ := hI
  have e36 := (i2 36 0 (by decide) (by decide) (by decide) (by decide) (by decide) (by decide) v.l36).2
  rcases i7 with ⟨w, -⟩ | ⟨-, x', rfl, hx'⟩
  · exact absurd w (by decide)
  rcases i6 with ⟨rfl, e0⟩ | ⟨e, he, rfl, hx⟩
  · have := H J' A' V' (kmu C' 36 0 0 x') R' c' l' x' hx' (kIv_36 i1) i2 i3 i4 i5 (fun _ => kmu_eq)
    rw [e0] at this
    rw [← e36]
    simp (disch := first | assumption | (unfold kR; decide) | exact klc_R | (unfold kR; omega) | omega | (unfold kL; omega) | exact kcat_null | exact kcat_ref _ | exact kcat_iv _) only [kreh_v, r5_8, r5_9, r5_10, r5_29, r5_30, hoa_36 hA' v'.l36, hpa_36 hA' v'.l36, true_and, and_true, kk1_i, kk1_r, kk1_n, kk1_0, kcat_iv, kcat_ref, kcat_null, kisR_ref, kisR_null, ksz_nil, ksz_iv, ksz_ref, ksz_null, ksz_lv, kfit_int, kfit_long, kfit_obj, kfit_objN, kfit_arr, kfit_arrN, knarI, knarZ0, knarZ1, kret_v, kret_n, kret_x, Nat.reduceAdd, Nat.reduceLeDiff, reduceCtorEq, Int.reduceLE, Int.reduceLT, Int.reduceEq, ite_true, ite_false, true_or, or_true, false_implies, true_implies, not_true_eq_false, not_false_eq_true, and_self, eq_self, klc_lt, klc_ge, klc_le, klc_gt, klc_eq, kmu_eq, kmu_f, kmu_i, kmu_j]
    exact this
  · simp only [List.mem_cons, List.mem_nil_iff, or_false] at he
    rcases he with rfl | rfl | rfl | rfl
    · have := H J' A' V' C' R' c' l' x' hx' i1 i2 i3 i4 i5 (fun z => absurd (hx.symm.trans z) (by decide))
      rw [hx] at this
      rw [kreh_x (hh := 13) (by rfl) (by decide)]
      intro a
      simp (disch := first | assumption | (unfold kR; decide) | exact klc_R | (unfold kR; omega) | omega | (unfold kL; omega) | exact kcat_null | exact kcat_ref _ | exact kcat_iv _) only [r5_13, r5_15, r5_16, true_and, and_true, kk1_i, kk1_r, kk1_n, kk1_0, kcat_iv, kcat_ref, kcat_null, kisR_ref, kisR_null, ksz_nil, ksz_iv, ksz_ref, ksz_null, ksz_lv, kfit_int, kfit_long, kfit_obj, kfit_objN, kfit_arr, kfit_arrN, knarI, knarZ0, knarZ1, kret_v, kret_n, kret_x, Nat.reduceAdd, Nat.reduceLeDiff, reduceCtorEq, Int.reduceLE, Int.reduceLT, Int.reduceEq, ite_true, ite_false, true_or, or_true, false_implies, true_implies, not_true_eq_false, not_false_eq_true, and_self, eq_self, klc_lt, klc_ge, klc_le, klc_gt, klc_eq, kmu_eq, kmu_f, kmu_i, kmu_j]
      exact this
    · have := H J' A' V' C' R' c' l' x' hx' i1 i2 i3 i4 i5 (fun z => absurd (hx.symm.trans z) (by decide))
      rw [hx] at this
      rw [kreh_x (hh := 17) (by rfl) (by decide)]
      intro a
      simp (disch := first | assumption | (unfold kR; decide) | exact klc_R | (unfold kR; omega) | omega | (unfold kL; omega) | exact kcat_null | exact kcat_ref _ | exact kcat_iv _) only [r5_17, r5_19, r5_20, true_and, and_true, kk1_i, kk1_r, kk1_n, kk1_0, kcat_iv, kcat_ref, kcat_null, kisR_ref, kisR_null, ksz_nil, ksz_iv, ksz_ref, ksz_null, ksz_lv, kfit_int, kfit_long, kfit_obj, kfit_objN, kfit_arr, kfit_arrN, knarI, knarZ0, knarZ1, kret_v, kret_n, kret_x, Nat.reduceAdd, Nat.reduceLeDiff, reduceCtorEq, Int.reduceLE, Int.reduceLT, Int.reduceEq, ite_true, ite_false, true_or, or_true, false_implies, true_implies, not_true_eq_false, not_false_eq_true, and_self, eq_self, klc_lt, klc_ge, klc_le, klc_gt, klc_eq, kmu_eq, kmu_f, kmu_i, kmu_j]
      exact this
    · have := H J' A' V' C' R' c' l' x' hx' i1 i2 i3 i4 i5 (fun z => absurd (hx.symm.trans z) (by decide))
      rw [hx] at this
      rw [kreh_x (hh := 21) (by rfl) (by decide)]
      intro a
      simp (disch := first | assumption | (unfold kR; decide) | exact klc_R | (unfold kR; omega) | omega | (unfold kL; omega) | exact kcat_null | exact kcat_ref _ | exact kcat_iv _) only [r5_21, r5_23, r5_24, true_and, and_true, kk1_i, kk1_r, kk1_n, kk1_0, kcat_iv, kcat_ref, kcat_null, kisR_ref, kisR_null, ksz_nil, ksz_iv, ksz_ref, ksz_null, ksz_lv, kfit_int, kfit_long, kfit_obj, kfit_objN, kfit_arr, kfit_arrN, knarI, knarZ0, knarZ1, kret_v, kret_n, kret_x, Nat.reduceAdd, Nat.reduceLeDiff, reduceCtorEq, Int.reduceLE, Int.reduceLT, Int.reduceEq, ite_true, ite_false, true_or, or_true, false_implies, true_implies, not_true_eq_false, not_false_eq_true, and_self, eq_self, klc_lt, klc_ge, klc_le, klc_gt, klc_eq, kmu_eq, kmu_f, kmu_i, kmu_j]
      exact this
    · have := H J' A' V' C' R' c' l' x' hx' i1 i2 i3 i4 i5 (fun z => absurd (hx.symm.trans z) (by decide))
      rw [hx] at this
      rw [kreh_x (hh := 25) (by rfl) (by decide)]
      intro a
      simp (disch := first | assumption | (unfold kR; decide) | exact klc_R | (unfold kR; omega) | omega | (unfold kL; omega) | exact kcat_null | exact kcat_ref _ | exact kcat_iv _) only [r5_25, r5_27, r5_28, true_and, and_true, kk1_i, kk1_r, kk1_n, kk1_0, kcat_iv, kcat_ref, kcat_null, kisR_ref, kisR_null, ksz_nil, ksz_iv, ksz_ref, ksz_null, ksz_lv, kfit_int, kfit_long, kfit_obj, kfit_objN, kfit_arr, kfit_arrN, knarI, knarZ0, knarZ1, kret_v, kret_n, kret_x, Nat.reduceAdd, Nat.reduceLeDiff, reduceCtorEq, Int.reduceLE, Int.reduceLT, Int.reduceEq, ite_true, ite_false, true_or, or_true, false_implies, true_implies, not_true_eq_false, not_false_eq_true, and_self, eq_self, klc_lt, klc_ge, klc_le, klc_gt, klc_eq, kmu_eq, kmu_f, kmu_i, kmu_j]
      exact this
theorem u6 (I : kIv E A V C R t) (ht : t ≤ 600) {x : Int} (hx : kR x) (hd : 41 ≤ d) (hD : 40 ≤ D) (hc : 121 ≤ c) (hl : 2786 ≤ l) (H : kHel0 E D 136 (fun A => [some (.ref (A 9 0)), some (iv x)]) V A R t c l Q) :
    ka_W (kp E) (d, (6, 0, [some (.ref (A 0 0)), some (iv x), none], []), (kHp J A V C R, c, l)) Q := by
  obtain ⟨hA, v, -⟩ := id I
  simp (disch := first | assumption | (unfold kR; decide) | exact klc_R | (unfold kR; omega) | omega | (unfold kL; omega) | exact kcat_null | exact kcat_ref _ | exact kcat_iv _) only [r6_0, r6_1, r6_2, ht_0 hA v.l0, true_and, and_true, kk1_i, kk1_r, kk1_n, kk1_0, kcat_iv, kcat_ref, kcat_null, kisR_ref, kisR_null, ksz_nil, ksz_iv, ksz_ref, ksz_null, ksz_lv, kfit_int, kfit_long, kfit_obj, kfit_objN, kfit_arr, kfit_arrN, knarI, knarZ0, knarZ1, kret_v, kret_n, kret_x, Nat.reduceAdd, Nat.reduceLeDiff, reduceCtorEq, Int.reduceLE, Int.reduceLT, Int.reduceEq, ite_true, ite_false, true_or, or_true, false_implies, true_implies, not_true_eq_false, not_false_eq_true, and_self, eq_self, klc_lt, klc_ge, klc_le, klc_gt, klc_eq, kmu_eq, kmu_f, kmu_i, kmu_j, Nat.zero_le, show 1 ≤ d by omega]
  refine t27 I hx (by omega) hD hc hl (fun J' A' V' C' R' c' l' o b i1 i2 i3 i4 i5 i6 i7 => ?_)
  have hI := i1
  obtain ⟨hA', v', -⟩ := hI
  rcases i7 with ⟨-, rfl⟩ | ⟨w, -⟩
  rotate_left
  · exact absurd w (by decide)
  rcases i6 with ⟨rfl, e0⟩ | ⟨e, he, rfl, hx⟩
  · have := H J' A' V' C' R' c' l' i1 i2 i3 i4 i5
    rw [e0] at this
    simp (disch := first | assumption | (unfold kR; decide) | exact klc_R | (unfold kR; omega) | omega | (unfold kL; omega) | exact kcat_null | exact kcat_ref _ | exact kcat_iv _) only [kreh_n, r6_5, r6_14, r6_15, true_and, and_true, kk1_i, kk1_r, kk1_n, kk1_0, kcat_iv, kcat_ref, kcat_null, kisR_ref, kisR_null, ksz_nil, ksz_iv, ksz_ref, ksz_null, ksz_lv, kfit_int, kfit_long, kfit_obj, kfit_objN, kfit_arr, kfit_arrN, knarI, knarZ0, knarZ1, kret_v, kret_n, kret_x, Nat.reduceAdd, Nat.reduceLeDiff, reduceCtorEq, Int.reduceLE, Int.reduceLT, Int.reduceEq, ite_true, ite_false, true_or, or_true, false_implies, true_implies, not_true_eq_false, not_false_eq_true, and_self, eq_self, klc_lt, klc_ge, klc_le, klc_gt, klc_eq, kmu_eq, kmu_f, kmu_i, kmu_j]
    exact this
  · simp only [List.mem_cons, List.mem_nil_iff, or_false] at he
    rcases he with rfl | rfl
    · have := H J' A' V' C' R' c' l' i1 i2 i3 i4 i5
      rw [hx] at this
      rw [kreh_x (hh := 8) (by rfl) (by decide)]
      intro a
      simp (disch := first | assumption | (unfold kR; decide) | exact klc_R | (unfold kR; omega) | omega | (unfold kL; omega) | exact kcat_null | exact kcat_ref _ | exact kcat_iv _) only [r6_8, r6_9, r6_10, true_and, and_true, kk1_i, kk1_r, kk1_n, kk1_0, kcat_iv, kcat_ref, kcat_null, kisR_ref, kisR_null, ksz_nil, ksz_iv, ksz_ref, ksz_null, ksz_lv, kfit_int, kfit_long, kfit_obj, kfit_objN, kfit_arr, kfit_arrN, knarI, knarZ0, knarZ1, kret_v, kret_n, kret_x, Nat.reduceAdd, Nat.reduceLeDiff, reduceCtorEq, Int.reduceLE, Int.reduceLT, Int.reduceEq, ite_true, ite_false, true_or, or_true, false_implies, true_implies, not_true_eq_false, not_false_eq_true, and_self, eq_self, klc_lt, klc_ge, klc_le, klc_gt, klc_eq, kmu_eq, kmu_f, kmu_i, kmu_j]
      exact this
    · have := H J' A' V' C' R' c' l' i1 i2 i3 i4 i5
      rw [hx] at this
      rw [kreh_x (hh := 11) (by rfl) (by decide)]
      intro a
      simp (disch := first | assumption | (unfold kR; decide) | exact klc_R | (unfold kR; omega) | omega | (unfold kL; omega) | exact kcat_null | exact kcat_ref _ | exact kcat_iv _) only [r6_11, r6_12, r6_13, true_and, and_true, kk1_i, kk1_r, kk1_n, kk1_0, kcat_iv, kcat_ref, kcat_null, kisR_ref, kisR_null, ksz_nil, ksz_iv, ksz_ref, ksz_null, ksz_lv, kfit_int, kfit_long, kfit_obj, kfit_objN, kfit_arr, kfit_arrN, knarI, knarZ0, knarZ1, kret_v, kret_n, kret_x, Nat.reduceAdd, Nat.reduceLeDiff, reduceCtorEq, Int.reduceLE, Int.reduceLT, Int.reduceEq, ite_true, ite_false, true_or, or_true, false_implies, true_implies, not_true_eq_false, not_false_eq_true, and_self, eq_self, klc_lt, klc_ge, klc_le, klc_gt, klc_eq, kmu_eq, kmu_f, kmu_i, kmu_j]
      exact this
theorem u7 (I : kIv E A V C R t) (ht : t ≤ 600) {x y : Int} (hx : kR x) (hy : kR y) (hd : 41 ≤ d) (hD : 40 ≤ D) (hc : 121 ≤ c) (hl : 2786 ≤ l) (H : kHel0 E D 137 (fun A => [some (.ref (A 9 0)), some (iv x), some (iv y)]) V A R t c l Q) :
    ka_W (kp E) (d, (7, 0, [some (.ref (A 0 0)), some (iv x), some (iv y), none], []), (kHp J A V C R, c, l)) Q := by
  obtain ⟨hA, v, -⟩ := id I
  simp (disch := first | assumption | (unfold kR; decide) | exact klc_R | (unfold kR; omega) | omega | (unfold kL; omega) | exact kcat_null | exact kcat_ref _ | exact kcat_iv _) only [r7_0, r7_1, r7_2, r7_3, ht_0 hA v.l0, true_and, and_true, kk1_i, kk1_r, kk1_n, kk1_0, kcat_iv, kcat_ref, kcat_null, kisR_ref, kisR_null, ksz_nil, ksz_iv, ksz_ref, ksz_null, ksz_lv, kfit_int, kfit_long, kfit_obj, kfit_objN, kfit_arr, kfit_arrN, knarI, knarZ0, knarZ1, kret_v, kret_n, kret_x, Nat.reduceAdd, Nat.reduceLeDiff, reduceCtorEq, Int.reduceLE, Int.reduceLT, Int.reduceEq, ite_true, ite_false, true_or, or_true, false_implies, true_implies, not_true_eq_false, not_false_eq_true, and_self, eq_self, klc_lt, klc_ge, klc_le, klc_gt, klc_eq, kmu_eq, kmu_f, kmu_i, kmu_j, Nat.zero_le, show 1 ≤ d by omega]
  refine t28 I hx hy (by omega) hD hc hl (fun J' A' V' C' R' c' l' o b i1 i2 i3 i4 i5 i6 i7 => ?_)
  have hI := i1
  obtain ⟨hA', v', -⟩ := hI
  rcases i7 with ⟨-, rfl⟩ | ⟨w, -⟩
  rotate_left
  · exact absurd w (by decide)
  rcases i6 with ⟨rfl, e0⟩ | ⟨e, he, rfl, hx⟩
  · have := H J' A' V' C' R' c' l' i1 i2 i3 i4 i5
    rw [e0] at this
    simp (disch := first | assumption | (unfold kR; decide) | exact klc_R | (unfold kR; omega) | omega | (unfold kL; omega) | exact kcat_null | exact kcat_ref _ | exact kcat_iv _) only [kreh_n, r7_6, r7_12, r7_13, true_and, and_true, kk1_i, kk1_r, kk1_n, kk1_0, kcat_iv, kcat_ref, kcat_null, kisR_ref, kisR_null, ksz_nil, ksz_iv, ksz_ref, ksz_null, ksz_lv, kfit_int, kfit_long, kfit_obj, kfit_objN, kfit_arr, kfit_arrN, knarI, knarZ0, knarZ1, kret_v, kret_n, kret_x, Nat.reduceAdd, Nat.reduceLeDiff, reduceCtorEq, Int.reduceLE, Int.reduceLT, Int.reduceEq, ite_true, ite_false, true_or, or_true, false_implies, true_implies, not_true_eq_false, not_false_eq_true, and_self, eq_self, klc_lt, klc_ge, klc_le, klc_gt, klc_eq, kmu_eq, kmu_f, kmu_i, kmu_j]
    exact this
  · simp only [List.mem_cons, List.mem_nil_iff, or_false] at he
    rcases he with rfl
    · have := H J' A' V' C' R' c' l' i1 i2 i3 i4 i5
      rw [hx] at this
      rw [kreh_x (hh := 9) (by rfl) (by decide)]
      intro a
      simp (disch := first | assumption | (unfold kR; decide) | exact klc_R | (unfold kR; omega) | omega | (unfold kL; omega) | exact kcat_null | exact kcat_ref _ | exact kcat_iv _) only [r7_9, r7_10, r7_11, true_and, and_true, kk1_i, kk1_r, kk1_n, kk1_0, kcat_iv, kcat_ref, kcat_null, kisR_ref, kisR_null, ksz_nil, ksz_iv, ksz_ref, ksz_null, ksz_lv, kfit_int, kfit_long, kfit_obj, kfit_objN, kfit_arr, kfit_arrN, knarI, knarZ0, knarZ1, kret_v, kret_n, kret_x, Nat.reduceAdd, Nat.reduceLeDiff, reduceCtorEq, Int.reduceLE, Int.reduceLT, Int.reduceEq, ite_true, ite_false, true_or, or_true, false_implies, true_implies, not_true_eq_false, not_false_eq_true, and_self, eq_self, klc_lt, klc_ge, klc_le, klc_gt, klc_eq, kmu_eq, kmu_f, kmu_i, kmu_j]
      exact this
theorem u8 (I : kIv E A V C R t) (ht : t ≤ 600) {k : Int} (hk : kR k) (hd : 41 ≤ d) (hD : 40 ≤ D) (hc : 121 ≤ c) (hl : 2786 ≤ l) (H : kHel1 E D 141 (fun A => [some (.ref (A 9 0)), some (iv k)]) V A R t c l Q) :
    ka_W (kp E) (d, (8, 0, [some (.ref (A 0 0)), some (iv k), some (.ref (A 36 0)), none], []), (kHp J A V C R, c, l)) Q := by
  obtain ⟨hA, v, -⟩ := id I
  simp (disch := first | assumption | (unfold kR; decide) | exact klc_R | (unfold kR; omega) | omega | (unfold kL; omega) | exact kcat_null | exact kcat_ref _ | exact kcat_iv _) only [r8_0, r8_1, r8_2, r8_3, r8_4, ht_0 hA v.l0, true_and, and_true, kk1_i, kk1_r, kk1_n, kk1_0, kcat_iv, kcat_ref, kcat_null, kisR_ref, kisR_null, ksz_nil, ksz_iv, ksz_ref, ksz_null, ksz_lv, kfit_int, kfit_long, kfit_obj, kfit_objN, kfit_arr, kfit_arrN, knarI, knarZ0, knarZ1, kret_v, kret_n, kret_x, Nat.reduceAdd, Nat.reduceLeDiff, reduceCtorEq, Int.reduceLE, Int.reduceLT, Int.reduceEq, ite_true, ite_false, true_or, or_true, false_implies, true_implies, not_true_eq_false, not_false_eq_true, and_self, eq_self, klc_lt, klc_ge, klc_le, klc_gt, klc_eq, kmu_eq, kmu_f, kmu_i, kmu_j, Nat.zero_le, show 1 ≤ d by omega]
  refine t29 I hk (by omega) hD hc hl (fun J' A' V' C' R' c' l' o b i1 i2 i3 i4 i5 i6 i7 => ?_)
  have hI := i1
  obtain ⟨hA', v', -⟩ := hI
  have e36 := (i2 36 0 (by decide) (by decide) (by decide) (by decide) (by decide) (by decide) v.l36).2
  rcases i7 with ⟨w, -⟩ | ⟨-, x', rfl, hx'⟩
  · exact absurd w (by decide)
  rcases i6 with ⟨rfl, e0⟩ | ⟨e, he, rfl, hx⟩
  · have := H J' A' V' (kmu C' 36 0 0 x') R' c' l' x' hx' (kIv_36 i1) i2 i3 i4 i5 (fun _ => kmu_eq)
    rw [e0] at this
    rw [← e36]
    simp (disch := first | assumption | (unfold kR; decide) | exact klc_R | (unfold kR; omega) | omega | (unfold kL; omega) | exact kcat_null | exact kcat_ref _ | exact kcat_iv _) only [kreh_v, r8_7, r8_8, r8_9, r8_15, r8_16, hoa_36 hA' v'.l36, hpa_36 hA' v'.l36, true_and, and_true, kk1_i, kk1_r, kk1_n, kk1_0, kcat_iv, kcat_ref, kcat_null, kisR_ref, kisR_null, ksz_nil, ksz_iv, ksz_ref, ksz_null, ksz_lv, kfit_int, kfit_long, kfit_obj, kfit_objN, kfit_arr, kfit_arrN, knarI, knarZ0, knarZ1, kret_v, kret_n, kret_x, Nat.reduceAdd, Nat.reduceLeDiff, reduceCtorEq, Int.reduceLE, Int.reduceLT, Int.reduceEq, ite_true, ite_false, true_or, or_true, false_implies, true_implies, not_true_eq_false, not_false_eq_true, and_self, eq_self, klc_lt, klc_ge, klc_le, klc_gt, klc_eq, kmu_eq, kmu_f, kmu_i, kmu_j]
    exact this
  · simp only [List.mem_cons, List.mem_nil_iff, or_false] at he
    rcases he with rfl
    · have := H J' A' V' C' R' c' l' x' hx' i1 i2 i3 i4 i5 (fun z => absurd (hx.symm.trans z) (by decide))
      rw [hx] at this
      rw [kreh_x (hh := 12) (by rfl) (by decide)]
      intro a
      simp (disch := first | assumption | (unfold kR; decide) | exact klc_R | (unfold kR; omega) | omega | (unfold kL; omega) | exact kcat_null | exact kcat_ref _ | exact kcat_iv _) only [r8_12, r8_13, r8_14, true_and, and_true, kk1_i, kk1_r, kk1_n, kk1_0, kcat_iv, kcat_ref, kcat_null, kisR_ref, kisR_null, ksz_nil, ksz_iv, ksz_ref, ksz_null, ksz_lv, kfit_int, kfit_long, kfit_obj, kfit_objN, kfit_arr, kfit_arrN, knarI, knarZ0, knarZ1, kret_v, kret_n, kret_x, Nat.reduceAdd, Nat.reduceLeDiff, reduceCtorEq, Int.reduceLE, Int.reduceLT, Int.reduceEq, ite_true, ite_false, true_or, or_true, false_implies, true_implies, not_true_eq_false, not_false_eq_true, and_self, eq_self, klc_lt, klc_ge, klc_le, klc_gt, klc_eq, kmu_eq, kmu_f, kmu_i, kmu_j]
      exact this
theorem u9 (I : kIv E A V C R t) (ht : t ≤ 600) {g n : Int} (hg : kR g) (hn : kR n) (hd : 41 ≤ d) (hD : 40 ≤ D) (hc : 121 ≤ c) (hl : 2786 ≤ l) (H : kHel1 E D 155 (fun A => [some (.ref (A 9 0)), some (iv g), some (iv n)]) V A R t c l Q) :
    ka_W (kp E) (d, (9, 0, [some (.ref (A 0 0)), some (iv g), some (iv n), some (.ref (A 36 0)), none], []), (kHp J A V C R, c, l)) Q := by
  obtain ⟨hA, v, -⟩ := id I
  simp (disch := first | assumption | (unfold kR; decide) | exact klc_R | (unfold kR; omega) | omega | (unfold kL; omega) | exact kcat_null | exact kcat_ref _ | exact kcat_iv _) only [r9_0, r9_1, r9_2, r9_3, r9_4, r9_5, ht_0 hA v.l0, true_and, and_true, kk1_i, kk1_r, kk1_n, kk1_0, kcat_iv, kcat_ref, kcat_null, kisR_ref, kisR_null, ksz_nil, ksz_iv, ksz_ref, ksz_null, ksz_lv, kfit_int, kfit_long, kfit_obj, kfit_objN, kfit_arr, kfit_arrN, knarI, knarZ0, knarZ1, kret_v, kret_n, kret_x, Nat.reduceAdd, Nat.reduceLeDiff, reduceCtorEq, Int.reduceLE, Int.reduceLT, Int.reduceEq, ite_true, ite_false, true_or, or_true, false_implies, true_implies, not_true_eq_false, not_false_eq_true, and_self, eq_self, klc_lt, klc_ge, klc_le, klc_gt, klc_eq, kmu_eq, kmu_f, kmu_i, kmu_j, Nat.zero_le, show 1 ≤ d by omega]
  refine t30 I ht hg hn (by omega) hD hc hl (fun J' A' V' C' R' c' l' o b i1 i2 i3 i4 i5 i6 i7 => ?_)
  have hI := i1
  obtain ⟨hA', v', -⟩ := hI
  have e36 := (i2 36 0 (by decide) (by decide) (by decide) (by decide) (by decide) (by decide) v.l36).2
  rcases i7 with ⟨w, -⟩ | ⟨-, x', rfl, hx'⟩
  · exact absurd w (by decide)
  rcases i6 with ⟨rfl, e0⟩ | ⟨e, he, rfl, hx⟩
  · have := H J' A' V' (kmu C' 36 0 0 x') R' c' l' x' hx' (kIv_36 i1) i2 i3 i4 i5 (fun _ => kmu_eq)
    rw [e0] at this
    rw [← e36]
    simp (disch := first | assumption | (unfold kR; decide) | exact klc_R | (unfold kR; omega) | omega | (unfold kL; omega) | exact kcat_null | exact kcat_ref _ | exact kcat_iv _) only [kreh_v, r9_8, r9_9, r9_10, r9_17, r9_18, hoa_36 hA' v'.l36, hpa_36 hA' v'.l36, true_and, and_true, kk1_i, kk1_r, kk1_n, kk1_0, kcat_iv, kcat_ref, kcat_null, kisR_ref, kisR_null, ksz_nil, ksz_iv, ksz_ref, ksz_null, ksz_lv, kfit_int, kfit_long, kfit_obj, kfit_objN, kfit_arr, kfit_arrN, knarI, knarZ0, knarZ1, kret_v, kret_n, kret_x, Nat.reduceAdd, Nat.reduceLeDiff, reduceCtorEq, Int.reduceLE, Int.reduceLT, Int.reduceEq, ite_true, ite_false, true_or, or_true, false_implies, true_implies, not_true_eq_false, not_false_eq_true, and_self, eq_self, klc_lt, klc_ge, klc_le, klc_gt, klc_eq, kmu_eq, kmu_f, kmu_i, kmu_j]
    exact this
  · simp only [List.mem_cons, List.mem_nil_iff, or_false] at he
    rcases he with rfl
    · have := H J' A' V' C' R' c' l' x' hx' i1 i2 i3 i4 i5 (fun z => absurd (hx.symm.trans z) (by decide))
      rw [hx] at this
      rw [kreh_x (hh := 13) (by rfl) (by decide)]
      intro a
      simp (disch := first | assumption | (unfold kR; decide) | exact klc_R | (unfold kR; omega) | omega | (unfold kL; omega) | exact kcat_null | exact kcat_ref _ | exact kcat_iv _) only [r9_13, r9_15, r9_16, true_and, and_true, kk1_i, kk1_r, kk1_n, kk1_0, kcat_iv, kcat_ref, kcat_null, kisR_ref, kisR_null, ksz_nil, ksz_iv, ksz_ref, ksz_null, ksz_lv, kfit_int, kfit_long, kfit_obj, kfit_objN, kfit_arr, kfit_arrN, knarI, knarZ0, knarZ1, kret_v, kret_n, kret_x, Nat.reduceAdd, Nat.reduceLeDiff, reduceCtorEq, Int.reduceLE, Int.reduceLT, Int.reduceEq, ite_true, ite_false, true_or, or_true, false_implies, true_implies, not_true_eq_false, not_false_eq_true, and_self, eq_self, klc_lt, klc_ge, klc_le, klc_gt, klc_eq, kmu_eq, kmu_f, kmu_i, kmu_j]
      exact this
theorem u10 (I : kIv E A V C R t) (ht : t ≤ 600) {k w : Int} (hk : kR k) (hw : kR w) (hd : 41 ≤ d) (hD : 40 ≤ D) (hc : 121 ≤ c) (hl : 2786 ≤ l) (H : kHel1 E D 156 (fun A => [some (.ref (A 9 0)), some (iv k), some (iv w), none, none]) V A R t c l Q) :
    ka_W (kp E) (d, (10, 0, [some (.ref (A 0 0)), some (iv k), some (iv w), some (.ref (A 36 0)), none], []), (kHp J A V C R, c, l)) Q := by
  obtain ⟨hA, v, -⟩ := id I
  simp (disch := first | assumption | (unfold kR; decide) | exact klc_R | (unfold kR; omega) | omega | (unfold kL; omega) | exact kcat_null | exact kcat_ref _ | exact kcat_iv _) only [r10_0, r10_1, r10_2, r10_3, r10_4, r10_5, ht_0 hA v.l0, true_and, and_true, kk1_i, kk1_r, kk1_n, kk1_0, kcat_iv, kcat_ref, kcat_null, kisR_ref, kisR_null, ksz_nil, ksz_iv, ksz_ref, ksz_null, ksz_lv, kfit_int, kfit_long, kfit_obj, kfit_objN, kfit_arr, kfit_arrN, knarI, knarZ0, knarZ1, kret_v, kret_n, kret_x, Nat.reduceAdd, Nat.reduceLeDiff, reduceCtorEq, Int.reduceLE, Int.reduceLT, Int.reduceEq, ite_true, ite_false, true_or, or_true, false_implies, true_implies, not_true_eq_false, not_false_eq_true, and_self, eq_self, klc_lt, klc_ge, klc_le, klc_gt, klc_eq, kmu_eq, kmu_f, kmu_i, kmu_j, Nat.zero_le, show 1 ≤ d by omega]
  refine t31 I ht hk hw (by omega) hD hc hl (fun J' A' V' C' R' c' l' o b i1 i2 i3 i4 i5 i6 i7 => ?_)
  have hI := i1
  obtain ⟨hA', v', -⟩ := hI
  have e36 := (i2 36 0 (by decide) (by decide) (by decide) (by decide) (by decide) (by decide) v.l36).2
  rcases i7 with ⟨w, -⟩ | ⟨-, x', rfl, hx'⟩
  · exact absurd w (by decide)
  rcases i6 with ⟨rfl, e0⟩ | ⟨e, he, rfl, hx⟩
  · have := H J' A' V' (kmu C' 36 0 0 x') R' c' l' x' hx' (kIv_36 i1) i2 i3 i4 i5 (fun _ => kmu_eq)
    rw [e0] at this
    rw [← e36]
    simp (disch := first | assumption | (unfold kR; decide) | exact klc_R | (unfold kR; omega) | omega | (unfold kL; omega) | exact kcat_null | exact kcat_ref _ | exact kcat_iv _) only [kreh_v, r10_8, r10_9, r10_10, r10_29, r10_30, hoa_36 hA' v'.l36, hpa_36 hA' v'.l36, true_and, and_true, kk1_i, kk1_r, kk1_n, kk1_0, kcat_iv, kcat_ref, kcat_null, kisR_ref, kisR_null, ksz_nil, ksz_iv, ksz_ref, ksz_null, ksz_lv, kfit_int, kfit_long, kfit_obj, kfit_objN, kfit_arr, kfit_arrN, knarI, knarZ0, knarZ1, kret_v, kret_n, kret_x, Nat.reduceAdd, Nat.reduceLeDiff, reduceCtorEq, Int.reduceLE, Int.reduceLT, Int.reduceEq, ite_true, ite_false, true_or, or_true, false_implies, true_implies, not_true_eq_false, not_false_eq_true, and_self, eq_self, klc_lt, klc_ge, klc_le, klc_gt, klc_eq, kmu_eq, kmu_f, kmu_i, kmu_j]
    exact this
  · simp only [List.mem_cons, List.mem_nil_iff, or_false] at he
    rcases he with rfl | rfl | rfl | rfl
    · have := H J' A' V' C' R' c' l' x' hx' i1 i2 i3 i4 i5 (fun z => absurd (hx.symm.trans z) (by decide))
      rw [hx] at this
      rw [kreh_x (hh := 13) (by rfl) (by decide)]
      intro a
      simp (disch := first | assumption | (unfold kR; decide) | exact klc_R | (unfold kR; omega) | omega | (unfold kL; omega) | exact kcat_null | exact kcat_ref _ | exact kcat_iv _) only [r10_13, r10_15, r10_16, true_and, and_true, kk1_i, kk1_r, kk1_n, kk1_0, kcat_iv, kcat_ref, kcat_null, kisR_ref, kisR_null, ksz_nil, ksz_iv, ksz_ref, ksz_null, ksz_lv, kfit_int, kfit_long, kfit_obj, kfit_objN, kfit_arr, kfit_arrN, knarI, knarZ0, knarZ1, kret_v, kret_n, kret_x, Nat.reduceAdd, Nat.reduceLeDiff, reduceCtorEq, Int.reduceLE, Int.reduceLT, Int.reduceEq, ite_true, ite_false, true_or, or_true, false_implies, true_implies, not_true_eq_false, not_false_eq_true, and_self, eq_self, klc_lt, klc_ge, klc_le, klc_gt, klc_eq, kmu_eq, kmu_f, kmu_i, kmu_j]
      exact this
    · have := H J' A' V' C' R' c' l' x' hx' i1 i2 i3 i4 i5 (fun z => absurd (hx.symm.trans z) (by decide))
      rw [hx] at this
      rw [kreh_x (hh := 17) (by rfl) (by decide)]
      intro a
      simp (disch := first | assumption | (unfold kR; decide) | exact klc_R | (unfold kR; omega) | omega | (unfold kL; omega) | exact kcat_null | exact kcat_ref _ | exact kcat_iv _) only [r10_17, r10_19, r10_20, true_and, and_true, kk1_i, kk1_r, kk1_n, kk1_0, kcat_iv, kcat_ref, kcat_null, kisR_ref, kisR_null, ksz_nil, ksz_iv, ksz_ref, ksz_null, ksz_lv, kfit_int, kfit_long, kfit_obj, kfit_objN, kfit_arr, kfit_arrN, knarI, knarZ0, knarZ1, kret_v, kret_n, kret_x, Nat.reduceAdd, Nat.reduceLeDiff, reduceCtorEq, Int.reduceLE, Int.reduceLT, Int.reduceEq, ite_true, ite_false, true_or, or_true, false_implies, true_implies, not_true_eq_false, not_false_eq_true, and_self, eq_self, klc_lt, klc_ge, klc_le, klc_gt, klc_eq, kmu_eq, kmu_f, kmu_i, kmu_j]
      exact this
    · have := H J' A' V' C' R' c' l' x' hx' i1 i2 i3 i4 i5 (fun z => absurd (hx.symm.trans z) (by decide))
      rw [hx] at this
      rw [kreh_x (hh := 21) (by rfl) (by decide)]
      intro a
      simp (disch := first | assumption | (unfold kR; decide) | exact klc_R | (unfold kR; omega) | omega | (unfold kL; omega) | exact kcat_null | exact kcat_ref _ | exact kcat_iv _) only [r10_21, r10_23, r10_24, true_and, and_true, kk1_i, kk1_r, kk1_n, kk1_0, kcat_iv, kcat_ref, kcat_null, kisR_ref, kisR_null, ksz_nil, ksz_iv, ksz_ref, ksz_null, ksz_lv, kfit_int, kfit_long, kfit_obj, kfit_objN, kfit_arr, kfit_arrN, knarI, knarZ0, knarZ1, kret_v, kret_n, kret_x, Nat.reduceAdd, Nat.reduceLeDiff, reduceCtorEq, Int.reduceLE, Int.reduceLT, Int.reduceEq, ite_true, ite_false, true_or, or_true, false_implies, true_implies, not_true_eq_false, not_false_eq_true, and_self, eq_self, klc_lt, klc_ge, klc_le, klc_gt, klc_eq, kmu_eq, kmu_f, kmu_i, kmu_j]
      exact this
    · have := H J' A' V' C' R' c' l' x' hx' i1 i2 i3 i4 i5 (fun z => absurd (hx.symm.trans z) (by decide))
      rw [hx] at this
      rw [kreh_x (hh := 25) (by rfl) (by decide)]
      intro a
      simp (disch := first | assumption | (unfold kR; decide) | exact klc_R | (unfold kR; omega) | omega | (unfold kL; omega) | exact kcat_null | exact kcat_ref _ | exact kcat_iv _) only [r10_25, r10_27, r10_28, true_and, and_true, kk1_i, kk1_r, kk1_n, kk1_0, kcat_iv, kcat_ref, kcat_null, kisR_ref, kisR_null, ksz_nil, ksz_iv, ksz_ref, ksz_null, ksz_lv, kfit_int, kfit_long, kfit_obj, kfit_objN, kfit_arr, kfit_arrN, knarI, knarZ0, knarZ1, kret_v, kret_n, kret_x, Nat.reduceAdd, Nat.reduceLeDiff, reduceCtorEq, Int.reduceLE, Int.reduceLT, Int.reduceEq, ite_true, ite_false, true_or, or_true, false_implies, true_implies, not_true_eq_false, not_false_eq_true, and_self, eq_self, klc_lt, klc_ge, klc_le, klc_gt, klc_eq, kmu_eq, kmu_f, kmu_i, kmu_j]
      exact this
theorem u11 (I : kIv E A V C R t) (ht : t ≤ 600) {m p : Int} (hm : kR m) (hp : kR p) (hd : 41 ≤ d) (hD : 40 ≤ D) (hc : 121 ≤ c) (hl : 2786 ≤ l) (H : kHel0 E D 158 (fun A => [some (.ref (A 9 0)), some (iv m), some (iv p), none]) V A R t c l Q) :
    ka_W (kp E) (d, (11, 0, [some (.ref (A 0 0)), some (iv m), some (iv p), none], []), (kHp J A V C R, c, l)) Q := by
  obtain ⟨hA, v, -⟩ := id I
  simp (disch := first | assumption | (unfold kR; decide) | exact klc_R | (unfold kR; omega) | omega | (unfold kL; omega) | exact kcat_null | exact kcat_ref _ | exact kcat_iv _) only [r11_0, r11_1, r11_2, r11_3, ht_0 hA v.l0, true_and, and_true, kk1_i, kk1_r, kk1_n, kk1_0, kcat_iv, kcat_ref, kcat_null, kisR_ref, kisR_null, ksz_nil, ksz_iv, ksz_ref, ksz_null, ksz_lv, kfit_int, kfit_long, kfit_obj, kfit_objN, kfit_arr, kfit_arrN, knarI, knarZ0, knarZ1, kret_v, kret_n, kret_x, Nat.reduceAdd, Nat.reduceLeDiff, reduceCtorEq, Int.reduceLE, Int.reduceLT, Int.reduceEq, ite_true, ite_false, true_or, or_true, false_implies, true_implies, not_true_eq_false, not_false_eq_true, and_self, eq_self, klc_lt, klc_ge, klc_le, klc_gt, klc_eq, kmu_eq, kmu_f, kmu_i, kmu_j, Nat.zero_le, show 1 ≤ d by omega]
  refine t32 I ht hm hp (by omega) hD hc hl (fun J' A' V' C' R' c' l' o b i1 i2 i3 i4 i5 i6 i7 => ?_)
  have hI := i1
  obtain ⟨hA', v', -⟩ := hI
  rcases i7 with ⟨-, rfl⟩ | ⟨w, -⟩
  rotate_left
  · exact absurd w (by decide)
  rcases i6 with ⟨rfl, e0⟩ | ⟨e, he, rfl, hx⟩
  · have := H J' A' V' C' R' c' l' i1 i2 i3 i4 i5
    rw [e0] at this
    simp (disch := first | assumption | (unfold kR; decide) | exact klc_R | (unfold kR; omega) | omega | (unfold kL; omega) | exact kcat_null | exact kcat_ref _ | exact kcat_iv _) only [kreh_n, r11_6, r11_18, r11_19, true_and, and_true, kk1_i, kk1_r, kk1_n, kk1_0, kcat_iv, kcat_ref, kcat_null, kisR_ref, kisR_null, ksz_nil, ksz_iv, ksz_ref, ksz_null, ksz_lv, kfit_int, kfit_long, kfit_obj, kfit_objN, kfit_arr, kfit_arrN, knarI, knarZ0, knarZ1, kret_v, kret_n, kret_x, Nat.reduceAdd, Nat.reduceLeDiff, reduceCtorEq, Int.reduceLE, Int.reduceLT, Int.reduceEq, ite_true, ite_false, true_or, or_true, false_implies, true_implies, not_true_eq_false, not_false_eq_true, and_self, eq_self, klc_lt, klc_ge, klc_le, klc_gt, klc_eq, kmu_eq, kmu_f, kmu_i, kmu_j]
    exact this
  · simp only [List.mem_cons, List.mem_nil_iff, or_false] at he
    rcases he with rfl | rfl | rfl
    · have := H J' A' V' C' R' c' l' i1 i2 i3 i4 i5
      rw [hx] at this
      rw [kreh_x (hh := 9) (by rfl) (by decide)]
      intro a
      simp (disch := first | assumption | (unfold kR; decide) | exact klc_R | (unfold kR; omega) | omega | (unfold kL; omega) | exact kcat_null | exact kcat_ref _ | exact kcat_iv _) only [r11_9, r11_10, r11_11, true_and, and_true, kk1_i, kk1_r, kk1_n, kk1_0, kcat_iv, kcat_ref, kcat_null, kisR_ref, kisR_null, ksz_nil, ksz_iv, ksz_ref, ksz_null, ksz_lv, kfit_int, kfit_long, kfit_obj, kfit_objN, kfit_arr, kfit_arrN, knarI, knarZ0, knarZ1, kret_v, kret_n, kret_x, Nat.reduceAdd, Nat.reduceLeDiff, reduceCtorEq, Int.reduceLE, Int.reduceLT, Int.reduceEq, ite_true, ite_false, true_or, or_true, false_implies, true_implies, not_true_eq_false, not_false_eq_true, and_self, eq_self, klc_lt, klc_ge, klc_le, klc_gt, klc_eq, kmu_eq, kmu_f, kmu_i, kmu_j]
      exact this
    · have := H J' A' V' C' R' c' l' i1 i2 i3 i4 i5
      rw [hx] at this
      rw [kreh_x (hh := 12) (by rfl) (by decide)]
      intro a
      simp (disch := first | assumption | (unfold kR; decide) | exact klc_R | (unfold kR; omega) | omega | (unfold kL; omega) | exact kcat_null | exact kcat_ref _ | exact kcat_iv _) only [r11_12, r11_13, r11_14, true_and, and_true, kk1_i, kk1_r, kk1_n, kk1_0, kcat_iv, kcat_ref, kcat_null, kisR_ref, kisR_null, ksz_nil, ksz_iv, ksz_ref, ksz_null, ksz_lv, kfit_int, kfit_long, kfit_obj, kfit_objN, kfit_arr, kfit_arrN, knarI, knarZ0, knarZ1, kret_v, kret_n, kret_x, Nat.reduceAdd, Nat.reduceLeDiff, reduceCtorEq, Int.reduceLE, Int.reduceLT, Int.reduceEq, ite_true, ite_false, true_or, or_true, false_implies, true_implies, not_true_eq_false, not_false_eq_true, and_self, eq_self, klc_lt, klc_ge, klc_le, klc_gt, klc_eq, kmu_eq, kmu_f, kmu_i, kmu_j]
      exact this
    · have := H J' A' V' C' R' c' l' i1 i2 i3 i4 i5
      rw [hx] at this
      rw [kreh_x (hh := 15) (by rfl) (by decide)]
      intro a
      simp (disch := first | assumption | (unfold kR; decide) | exact klc_R | (unfold kR; omega) | omega | (unfold kL; omega) | exact kcat_null | exact kcat_ref _ | exact kcat_iv _) only [r11_15, r11_16, r11_17, true_and, and_true, kk1_i, kk1_r, kk1_n, kk1_0, kcat_iv, kcat_ref, kcat_null, kisR_ref, kisR_null, ksz_nil, ksz_iv, ksz_ref, ksz_null, ksz_lv, kfit_int, kfit_long, kfit_obj, kfit_objN, kfit_arr, kfit_arrN, knarI, knarZ0, knarZ1, kret_v, kret_n, kret_x, Nat.reduceAdd, Nat.reduceLeDiff, reduceCtorEq, Int.reduceLE, Int.reduceLT, Int.reduceEq, ite_true, ite_false, true_or, or_true, false_implies, true_implies, not_true_eq_false, not_false_eq_true, and_self, eq_self, klc_lt, klc_ge, klc_le, klc_gt, klc_eq, kmu_eq, kmu_f, kmu_i, kmu_j]
      exact this
theorem u12 (I : kIv E A V C R t) (ht : t ≤ 600) {m n b : Int} (hm : kR m) (hn : kR n) (hb : b = 0 ∨ b = 1) (hd : 41 ≤ d) (hD : 40 ≤ D) (hc : 121 ≤ c) (hl : 2786 ≤ l) (H : kHel1 E D 162 (fun A => [some (.ref (A 9 0)), some (iv m), some (iv n), some (iv b)]) V A R t c l Q) :
    ka_W (kp E) (d, (12, 0, [some (.ref (A 0 0)), some (iv m), some (iv n), some (iv b), some (.ref (A 36 0)), none], []), (kHp J A V C R, c, l)) Q := by
  obtain ⟨hA, v, -⟩ := id I
  simp (disch := first | assumption | (unfold kR; decide) | exact klc_R | (unfold kR; omega) | omega | (unfold kL; omega) | exact kcat_null | exact kcat_ref _ | exact kcat_iv _) only [r12_0, r12_2, r12_3, r12_4, r12_5, r12_6, r12_7, ht_0 hA v.l0, true_and, and_true, kk1_i, kk1_r, kk1_n, kk1_0, kcat_iv, kcat_ref, kcat_null, kisR_ref, kisR_null, ksz_nil, ksz_iv, ksz_ref, ksz_null, ksz_lv, kfit_int, kfit_long, kfit_obj, kfit_objN, kfit_arr, kfit_arrN, knarI, knarZ0, knarZ1, kret_v, kret_n, kret_x, Nat.reduceAdd, Nat.reduceLeDiff, reduceCtorEq, Int.reduceLE, Int.reduceLT, Int.reduceEq, ite_true, ite_false, true_or, or_true, false_implies, true_implies, not_true_eq_false, not_false_eq_true, and_self, eq_self, klc_lt, klc_ge, klc_le, klc_gt, klc_eq, kmu_eq, kmu_f, kmu_i, kmu_j, Nat.zero_le, show 1 ≤ d by omega]
  refine t33 I ht hm hn hb (by omega) hD hc hl (fun J' A' V' C' R' c' l' o b i1 i2 i3 i4 i5 i6 i7 => ?_)
  have hI := i1
  obtain ⟨hA', v', -⟩ := hI
  have e36 := (i2 36 0 (by decide) (by decide) (by decide) (by decide) (by decide) (by decide) v.l36).2
  rcases i7 with ⟨w, -⟩ | ⟨-, x', rfl, hx'⟩
  · exact absurd w (by decide)
  rcases i6 with ⟨rfl, e0⟩ | ⟨e, he, rfl, hx⟩
  · have := H J' A' V' (kmu C' 36 0 0 x') R' c' l' x' hx' (kIv_36 i1) i2 i3 i4 i5 (fun _ => kmu_eq)
    rw [e0] at this
    rw [← e36]
    simp (disch := first | assumption | (unfold kR; decide) | exact klc_R | (unfold kR; omega) | omega | (unfold kL; omega) | exact kcat_null | exact kcat_ref _ | exact kcat_iv _) only [kreh_v, r12_10, r12_11, r12_12, r12_23, r12_24, hoa_36 hA' v'.l36, hpa_36 hA' v'.l36, true_and, and_true, kk1_i, kk1_r, kk1_n, kk1_0, kcat_iv, kcat_ref, kcat_null, kisR_ref, kisR_null, ksz_nil, ksz_iv, ksz_ref, ksz_null, ksz_lv, kfit_int, kfit_long, kfit_obj, kfit_objN, kfit_arr, kfit_arrN, knarI, knarZ0, knarZ1, kret_v, kret_n, kret_x, Nat.reduceAdd, Nat.reduceLeDiff, reduceCtorEq, Int.reduceLE, Int.reduceLT, Int.reduceEq, ite_true, ite_false, true_or, or_true, false_implies, true_implies, not_true_eq_false, not_false_eq_true, and_self, eq_self, klc_lt, klc_ge, klc_le, klc_gt, klc_eq, kmu_eq, kmu_f, kmu_i, kmu_j]
    exact this
  · simp only [List.mem_cons, List.mem_nil_iff, or_false] at he
    rcases he with rfl | rfl
    · have := H J' A' V' C' R' c' l' x' hx' i1 i2 i3 i4 i5 (fun z => absurd (hx.symm.trans z) (by decide))
      rw [hx] at this
      rw [kreh_x (hh := 15) (by rfl) (by decide)]
      intro a
      simp (disch := first | assumption | (unfold kR; decide) | exact klc_R | (unfold kR; omega) | omega | (unfold kL; omega) | exact kcat_null | exact kcat_ref _ | exact kcat_iv _) only [r12_15, r12_17, r12_18, true_and, and_true, kk1_i, kk1_r, kk1_n, kk1_0, kcat_iv, kcat_ref, kcat_null, kisR_ref, kisR_null, ksz_nil, ksz_iv, ksz_ref, ksz_null, ksz_lv, kfit_int, kfit_long, kfit_obj, kfit_objN, kfit_arr, kfit_arrN, knarI, knarZ0, knarZ1, kret_v, kret_n, kret_x, Nat.reduceAdd, Nat.reduceLeDiff, reduceCtorEq, Int.reduceLE, Int.reduceLT, Int.reduceEq, ite_true, ite_false, true_or, or_true, false_implies, true_implies, not_true_eq_false, not_false_eq_true, and_self, eq_self, klc_lt, klc_ge, klc_le, klc_gt, klc_eq, kmu_eq, kmu_f, kmu_i, kmu_j]
      exact this
    · have := H J' A' V' C' R' c' l' x' hx' i1 i2 i3 i4 i5 (fun z => absurd (hx.symm.trans z) (by decide))
      rw [hx] at this
      rw [kreh_x (hh := 19) (by rfl) (by decide)]
      intro a
      simp (disch := first | assumption | (unfold kR; decide) | exact klc_R | (unfold kR; omega) | omega | (unfold kL; omega) | exact kcat_null | exact kcat_ref _ | exact kcat_iv _) only [r12_19, r12_21, r12_22, true_and, and_true, kk1_i, kk1_r, kk1_n, kk1_0, kcat_iv, kcat_ref, kcat_null, kisR_ref, kisR_null, ksz_nil, ksz_iv, ksz_ref, ksz_null, ksz_lv, kfit_int, kfit_long, kfit_obj, kfit_objN, kfit_arr, kfit_arrN, knarI, knarZ0, knarZ1, kret_v, kret_n, kret_x, Nat.reduceAdd, Nat.reduceLeDiff, reduceCtorEq, Int.reduceLE, Int.reduceLT, Int.reduceEq, ite_true, ite_false, true_or, or_true, false_implies, true_implies, not_true_eq_false, not_false_eq_true, and_self, eq_self, klc_lt, klc_ge, klc_le, klc_gt, klc_eq, kmu_eq, kmu_f, kmu_i, kmu_j]
      exact this
theorem u13 (I : kIv E A V C R t) (ht : t ≤ 600) {m : Int} (hm : kR m) (hd : 41 ≤ d) (hD : 40 ≤ D) (hc : 121 ≤ c) (hl : 2786 ≤ l) (H : kHel1 E D 163 (fun A => [some (.ref (A 9 0)), some (iv m), none, none]) V A R t c l Q) :
    ka_W (kp E) (d, (13, 0, [some (.ref (A 0 0)), some (iv m), some (.ref (A 36 0)), none], []), (kHp J A V C R, c, l)) Q := by
  obtain ⟨hA, v, -⟩ := id I
  simp (disch := first | assumption | (unfold kR; decide) | exact klc_R | (unfold kR; omega) | omega | (unfold kL; omega) | exact kcat_null | exact kcat_ref _ | exact kcat_iv _) only [r13_0, r13_1, r13_2, r13_3, r13_4, ht_0 hA v.l0, true_and, and_true, kk1_i, kk1_r, kk1_n, kk1_0, kcat_iv, kcat_ref, kcat_null, kisR_ref, kisR_null, ksz_nil, ksz_iv, ksz_ref, ksz_null, ksz_lv, kfit_int, kfit_long, kfit_obj, kfit_objN, kfit_arr, kfit_arrN, knarI, knarZ0, knarZ1, kret_v, kret_n, kret_x, Nat.reduceAdd, Nat.reduceLeDiff, reduceCtorEq, Int.reduceLE, Int.reduceLT, Int.reduceEq, ite_true, ite_false, true_or, or_true, false_implies, true_implies, not_true_eq_false, not_false_eq_true, and_self, eq_self, klc_lt, klc_ge, klc_le, klc_gt, klc_eq, kmu_eq, kmu_f, kmu_i, kmu_j, Nat.zero_le, show 1 ≤ d by omega]
  refine t34 I ht hm (by omega) hD hc hl (fun J' A' V' C' R' c' l' o b i1 i2 i3 i4 i5 i6 i7 => ?_)
  have hI := i1
  obtain ⟨hA', v', -⟩ := hI
  have e36 := (i2 36 0 (by decide) (by decide) (by decide) (by decide) (by decide) (by decide) v.l36).2
  rcases i7 with ⟨w, -⟩ | ⟨-, x', rfl, hx'⟩
  · exact absurd w (by decide)
  rcases i6 with ⟨rfl, e0⟩ | ⟨e, he, rfl, hx⟩
  · have := H J' A' V' (kmu C' 36 0 0 x') R' c' l' x' hx' (kIv_36 i1) i2 i3 i4 i5 (fun _ => kmu_eq)
    rw [e0] at this
    rw [← e36]
    simp (disch := first | assumption | (unfold kR; decide) | exact klc_R | (unfold kR; omega) | omega | (unfold kL; omega) | exact kcat_null | exact kcat_ref _ | exact kcat_iv _) only [kreh_v, r13_7, r13_8, r13_9, r13_21, r13_22, hoa_36 hA' v'.l36, hpa_36 hA' v'.l36, true_and, and_true, kk1_i, kk1_r, kk1_n, kk1_0, kcat_iv, kcat_ref, kcat_null, kisR_ref, kisR_null, ksz_nil, ksz_iv, ksz_ref, ksz_null, ksz_lv, kfit_int, kfit_long, kfit_obj, kfit_objN, kfit_arr, kfit_arrN, knarI, knarZ0, knarZ1, kret_v, kret_n, kret_x, Nat.reduceAdd, Nat.reduceLeDiff, reduceCtorEq, Int.reduceLE, Int.reduceLT, Int.reduceEq, ite_true, ite_false, true_or, or_true, false_implies, true_implies, not_true_eq_false, not_false_eq_true, and_self, eq_self, klc_lt, klc_ge, klc_le, klc_gt, klc_eq, kmu_eq, kmu_f, kmu_i, kmu_j]
    exact this
  · simp only [List.mem_cons, List.mem_nil_iff, or_false] at he
    rcases he with rfl | rfl | rfl
    · have := H J' A' V' C' R' c' l' x' hx' i1 i2 i3 i4 i5 (fun z => absurd (hx.symm.trans z) (by decide))
      rw [hx] at this
      rw [kreh_x (hh := 12) (by rfl) (by decide)]
      intro a
      simp (disch := first | assumption | (unfold kR; decide) | exact klc_R | (unfold kR; omega) | omega | (unfold kL; omega) | exact kcat_null | exact kcat_ref _ | exact kcat_iv _) only [r13_12, r13_13, r13_14, true_and, and_true, kk1_i, kk1_r, kk1_n, kk1_0, kcat_iv, kcat_ref, kcat_null, kisR_ref, kisR_null, ksz_nil, ksz_iv, ksz_ref, ksz_null, ksz_lv, kfit_int, kfit_long, kfit_obj, kfit_objN, kfit_arr, kfit_arrN, knarI, knarZ0, knarZ1, kret_v, kret_n, kret_x, Nat.reduceAdd, Nat.reduceLeDiff, reduceCtorEq, Int.reduceLE, Int.reduceLT, Int.reduceEq, ite_true, ite_false, true_or, or_true, false_implies, true_implies, not_true_eq_false, not_false_eq_true, and_self, eq_self, klc_lt, klc_ge, klc_le, klc_gt, klc_eq, kmu_eq, kmu_f, kmu_i, kmu_j]
      exact this
    · have := H J' A' V' C' R' c' l' x' hx' i1 i2 i3 i4 i5 (fun z => absurd (hx.symm.trans z) (by decide))
      rw [hx] at this
      rw [kreh_x (hh := 15) (by rfl) (by decide)]
      intro a
      simp (disch := first | assumption | (unfold kR; decide) | exact klc_R | (unfold kR; omega) | omega | (unfold kL; omega) | exact kcat_null | exact kcat_ref _ | exact kcat_iv _) only [r13_15, r13_16, r13_17, true_and, and_true, kk1_i, kk1_r, kk1_n, kk1_0, kcat_iv, kcat_ref, kcat_null, kisR_ref, kisR_null, ksz_nil, ksz_iv, ksz_ref, ksz_null, ksz_lv, kfit_int, kfit_long, kfit_obj, kfit_objN, kfit_arr, kfit_arrN, knarI, knarZ0, knarZ1, kret_v, kret_n, kret_x, Nat.reduceAdd, Nat.reduceLeDiff, reduceCtorEq, Int.reduceLE, Int.reduceLT, Int.reduceEq, ite_true, ite_false, true_or, or_true, false_implies, true_implies, not_true_eq_false, not_false_eq_true, and_self, eq_self, klc_lt, klc_ge, klc_le, klc_gt, klc_eq, kmu_eq, kmu_f, kmu_i, kmu_j]
      exact this
    · have := H J' A' V' C' R' c' l' x' hx' i1 i2 i3 i4 i5 (fun z => absurd (hx.symm.trans z) (by decide))
      rw [hx] at this
      rw [kreh_x (hh := 18) (by rfl) (by decide)]
      intro a
      simp (disch := first | assumption | (unfold kR; decide) | exact klc_R | (unfold kR; omega) | omega | (unfold kL; omega) | exact kcat_null | exact kcat_ref _ | exact kcat_iv _) only [r13_18, r13_19, r13_20, true_and, and_true, kk1_i, kk1_r, kk1_n, kk1_0, kcat_iv, kcat_ref, kcat_null, kisR_ref, kisR_null, ksz_nil, ksz_iv, ksz_ref, ksz_null, ksz_lv, kfit_int, kfit_long, kfit_obj, kfit_objN, kfit_arr, kfit_arrN, knarI, knarZ0, knarZ1, kret_v, kret_n, kret_x, Nat.reduceAdd, Nat.reduceLeDiff, reduceCtorEq, Int.reduceLE, Int.reduceLT, Int.reduceEq, ite_true, ite_false, true_or, or_true, false_implies, true_implies, not_true_eq_false, not_false_eq_true, and_self, eq_self, klc_lt, klc_ge, klc_le, klc_gt, klc_eq, kmu_eq, kmu_f, kmu_i, kmu_j]
      exact this
theorem u14 (I : kIv E A V C R t) (ht : t ≤ 600) {m : Int} (hm : kR m) (hd : 41 ≤ d) (hD : 40 ≤ D) (hc : 121 ≤ c) (hl : 2786 ≤ l) (H : kHel0 E D 164 (fun A => [some (.ref (A 9 0)), some (iv m), none]) V A R t c l Q) :
    ka_W (kp E) (d, (14, 0, [some (.ref (A 0 0)), some (iv m), none], []), (kHp J A V C R, c, l)) Q := by
  obtain ⟨hA, v, -⟩ := id I
  simp (disch := first | assumption | (unfold kR; decide) | exact klc_R | (unfold kR; omega) | omega | (unfold kL; omega) | exact kcat_null | exact kcat_ref _ | exact kcat_iv _) only [r14_0, r14_1, r14_2, ht_0 hA v.l0, true_and, and_true, kk1_i, kk1_r, kk1_n, kk1_0, kcat_iv, kcat_ref, kcat_null, kisR_ref, kisR_null, ksz_nil, ksz_iv, ksz_ref, ksz_null, ksz_lv, kfit_int, kfit_long, kfit_obj, kfit_objN, kfit_arr, kfit_arrN, knarI, knarZ0, knarZ1, kret_v, kret_n, kret_x, Nat.reduceAdd, Nat.reduceLeDiff, reduceCtorEq, Int.reduceLE, Int.reduceLT, Int.reduceEq, ite_true, ite_false, true_or, or_true, false_implies, true_implies, not_true_eq_false, not_false_eq_true, and_self, eq_self, klc_lt, klc_ge, klc_le, klc_gt, klc_eq, kmu_eq, kmu_f, kmu_i, kmu_j, Nat.zero_le, show 1 ≤ d by omega]
  refine t35 I ht hm (by omega) hD hc hl (fun J' A' V' C' R' c' l' o b i1 i2 i3 i4 i5 i6 i7 => ?_)
  have hI := i1
  obtain ⟨hA', v', -⟩ := hI
  rcases i7 with ⟨-, rfl⟩ | ⟨w, -⟩
  rotate_left
  · exact absurd w (by decide)
  rcases i6 with ⟨rfl, e0⟩ | ⟨e, he, rfl, hx⟩
  · have := H J' A' V' C' R' c' l' i1 i2 i3 i4 i5
    rw [e0] at this
    simp (disch := first | assumption | (unfold kR; decide) | exact klc_R | (unfold kR; omega) | omega | (unfold kL; omega) | exact kcat_null | exact kcat_ref _ | exact kcat_iv _) only [kreh_n, r14_5, r14_14, r14_15, true_and, and_true, kk1_i, kk1_r, kk1_n, kk1_0, kcat_iv, kcat_ref, kcat_null, kisR_ref, kisR_null, ksz_nil, ksz_iv, ksz_ref, ksz_null, ksz_lv, kfit_int, kfit_long, kfit_obj, kfit_objN, kfit_arr, kfit_arrN, knarI, knarZ0, knarZ1, kret_v, kret_n, kret_x, Nat.reduceAdd, Nat.reduceLeDiff, reduceCtorEq, Int.reduceLE, Int.reduceLT, Int.reduceEq, ite_true, ite_false, true_or, or_true, false_implies, true_implies, not_true_eq_false, not_false_eq_true, and_self, eq_self, klc_lt, klc_ge, klc_le, klc_gt, klc_eq, kmu_eq, kmu_f, kmu_i, kmu_j]
    exact this
  · simp only [List.mem_cons, List.mem_nil_iff, or_false] at he
    rcases he with rfl | rfl
    · have := H J' A' V' C' R' c' l' i1 i2 i3 i4 i5
      rw [hx] at this
      rw [kreh_x (hh := 8) (by rfl) (by decide)]
      intro a
      simp (disch := first | assumption | (unfold kR; decide) | exact klc_R | (unfold kR; omega) | omega | (unfold kL; omega) | exact kcat_null | exact kcat_ref _ | exact kcat_iv _) only [r14_8, r14_9, r14_10, true_and, and_true, kk1_i, kk1_r, kk1_n, kk1_0, kcat_iv, kcat_ref, kcat_null, kisR_ref, kisR_null, ksz_nil, ksz_iv, ksz_ref, ksz_null, ksz_lv, kfit_int, kfit_long, kfit_obj, kfit_objN, kfit_arr, kfit_arrN, knarI, knarZ0, knarZ1, kret_v, kret_n, kret_x, Nat.reduceAdd, Nat.reduceLeDiff, reduceCtorEq, Int.reduceLE, Int.reduceLT, Int.reduceEq, ite_true, ite_false, true_or, or_true, false_implies, true_implies, not_true_eq_false, not_false_eq_true, and_self, eq_self, klc_lt, klc_ge, klc_le, klc_gt, klc_eq, kmu_eq, kmu_f, kmu_i, kmu_j]
      exact this
    · have := H J' A' V' C' R' c' l' i1 i2 i3 i4 i5
      rw [hx] at this
      rw [kreh_x (hh := 11) (by rfl) (by decide)]
      intro a
      simp (disch := first | assumption | (unfold kR; decide) | exact klc_R | (unfold kR; omega) | omega | (unfold kL; omega) | exact kcat_null | exact kcat_ref _ | exact kcat_iv _) only [r14_11, r14_12, r14_13, true_and, and_true, kk1_i, kk1_r, kk1_n, kk1_0, kcat_iv, kcat_ref, kcat_null, kisR_ref, kisR_null, ksz_nil, ksz_iv, ksz_ref, ksz_null, ksz_lv, kfit_int, kfit_long, kfit_obj, kfit_objN, kfit_arr, kfit_arrN, knarI, knarZ0, knarZ1, kret_v, kret_n, kret_x, Nat.reduceAdd, Nat.reduceLeDiff, reduceCtorEq, Int.reduceLE, Int.reduceLT, Int.reduceEq, ite_true, ite_false, true_or, or_true, false_implies, true_implies, not_true_eq_false, not_false_eq_true, and_self, eq_self, klc_lt, klc_ge, klc_le, klc_gt, klc_eq, kmu_eq, kmu_f, kmu_i, kmu_j]
      exact this
theorem u15 (I : kIv E A V C R t) (ht : t ≤ 600) {u : Int} (hu : kR u) (hd : 41 ≤ d) (hD : 40 ≤ D) (hc : 121 ≤ c) (hl : 2786 ≤ l) (H : kHel1 E D 166 (fun A => [some (.ref (A 9 0)), some (iv u), none, none]) V A R t c l Q) :
    ka_W (kp E) (d, (15, 0, [some (.ref (A 0 0)), some (iv u), some (.ref (A 36 0)), none], []), (kHp J A V C R, c, l)) Q := by
  obtain ⟨hA, v, -⟩ := id I
  simp (disch := first | assumption | (unfold kR; decide) | exact klc_R | (unfold kR; omega) | omega | (unfold kL; omega) | exact kcat_null | exact kcat_ref _ | exact kcat_iv _) only [r15_0, r15_1, r15_2, r15_3, r15_4, ht_0 hA v.l0, true_and, and_true, kk1_i, kk1_r, kk1_n, kk1_0, kcat_iv, kcat_ref, kcat_null, kisR_ref, kisR_null, ksz_nil, ksz_iv, ksz_ref, ksz_null, ksz_lv, kfit_int, kfit_long, kfit_obj, kfit_objN, kfit_arr, kfit_arrN, knarI, knarZ0, knarZ1, kret_v, kret_n, kret_x, Nat.reduceAdd, Nat.reduceLeDiff, reduceCtorEq, Int.reduceLE, Int.reduceLT, Int.reduceEq, ite_true, ite_false, true_or, or_true, false_implies, true_implies, not_true_eq_false, not_false_eq_true, and_self, eq_self, klc_lt, klc_ge, klc_le, klc_gt, klc_eq, kmu_eq, kmu_f, kmu_i, kmu_j, Nat.zero_le, show 1 ≤ d by omega]
  refine t36 I ht hu (by omega) hD hc hl (fun J' A' V' C' R' c' l' o b i1 i2 i3 i4 i5 i6 i7 => ?_)
  have hI := i1
  obtain ⟨hA', v', -⟩ := hI
  have e36 := (i2 36 0 (by decide) (by decide) (by decide) (by decide) (by decide) (by decide) v.l36).2
  rcases i7 with ⟨w, -⟩ | ⟨-, x', rfl, hx'⟩
  · exact absurd w (by decide)
  rcases i6 with ⟨rfl, e0⟩ | ⟨e, he, rfl, hx⟩
  · have := H J' A' V' (kmu C' 36 0 0 x') R' c' l' x' hx' (kIv_36 i1) i2 i3 i4 i5 (fun _ => kmu_eq)
    rw [e0] at this
    rw [← e36]
    simp (disch := first | assumption | (unfold kR; decide) | exact klc_R | (unfold kR; omega) | omega | (unfold kL; omega) | exact kcat_null | exact kcat_ref _ | exact kcat_iv _) only [kreh_v, r15_7, r15_8, r15_9, r15_18, r15_19, hoa_36 hA' v'.l36, hpa_36 hA' v'.l36, true_and, and_true, kk1_i, kk1_r, kk1_n, kk1_0, kcat_iv, kcat_ref, kcat_null, kisR_ref, kisR_null, ksz_nil, ksz_iv, ksz_ref, ksz_null, ksz_lv, kfit_int, kfit_long, kfit_obj, kfit_objN, kfit_arr, kfit_arrN, knarI, knarZ0, knarZ1, kret_v, kret_n, kret_x, Nat.reduceAdd, Nat.reduceLeDiff, reduceCtorEq, Int.reduceLE, Int.reduceLT, Int.reduceEq, ite_true, ite_false, true_or, or_true, false_implies, true_implies, not_true_eq_false, not_false_eq_true, and_self, eq_self, klc_lt, klc_ge, klc_le, klc_gt, klc_eq, kmu_eq, kmu_f, kmu_i, kmu_j]
    exact this
  · simp only [List.mem_cons, List.mem_nil_iff, or_false] at he
    rcases he with rfl | rfl
    · have := H J' A' V' C' R' c' l' x' hx' i1 i2 i3 i4 i5 (fun z => absurd (hx.symm.trans z) (by decide))
      rw [hx] at this
      rw [kreh_x (hh := 12) (by rfl) (by decide)]
      intro a
      simp (disch := first | assumption | (unfold kR; decide) | exact klc_R | (unfold kR; omega) | omega | (unfold kL; omega) | exact kcat_null | exact kcat_ref _ | exact kcat_iv _) only [r15_12, r15_13, r15_14, true_and, and_true, kk1_i, kk1_r, kk1_n, kk1_0, kcat_iv, kcat_ref, kcat_null, kisR_ref, kisR_null, ksz_nil, ksz_iv, ksz_ref, ksz_null, ksz_lv, kfit_int, kfit_long, kfit_obj, kfit_objN, kfit_arr, kfit_arrN, knarI, knarZ0, knarZ1, kret_v, kret_n, kret_x, Nat.reduceAdd, Nat.reduceLeDiff, reduceCtorEq, Int.reduceLE, Int.reduceLT, Int.reduceEq, ite_true, ite_false, true_or, or_true, false_implies, true_implies, not_true_eq_false, not_false_eq_true, and_self, eq_self, klc_lt, klc_ge, klc_le, klc_gt, klc_eq, kmu_eq, kmu_f, kmu_i, kmu_j]
      exact this
    · have := H J' A' V' C' R' c' l' x' hx' i1 i2 i3 i4 i5 (fun z => absurd (hx.symm.trans z) (by decide))
      rw [hx] at this
      rw [kreh_x (hh := 15) (by rfl) (by decide)]
      intro a
      simp (disch := first | assumption | (unfold kR; decide) | exact klc_R | (unfold kR; omega) | omega | (unfold kL; omega) | exact kcat_null | exact kcat_ref _ | exact kcat_iv _) only [r15_15, r15_16, r15_17, true_and, and_true, kk1_i, kk1_r, kk1_n, kk1_0, kcat_iv, kcat_ref, kcat_null, kisR_ref, kisR_null, ksz_nil, ksz_iv, ksz_ref, ksz_null, ksz_lv, kfit_int, kfit_long, kfit_obj, kfit_objN, kfit_arr, kfit_arrN, knarI, knarZ0, knarZ1, kret_v, kret_n, kret_x, Nat.reduceAdd, Nat.reduceLeDiff, reduceCtorEq, Int.reduceLE, Int.reduceLT, Int.reduceEq, ite_true, ite_false, true_or, or_true, false_implies, true_implies, not_true_eq_false, not_false_eq_true, and_self, eq_self, klc_lt, klc_ge, klc_le, klc_gt, klc_eq, kmu_eq, kmu_f, kmu_i, kmu_j]
      exact this
theorem u16 (I : kIv E A V C R t) (ht : t ≤ 600) {x y : Int} (hx : kR x) (hy : kR y) (hd : 41 ≤ d) (hD : 40 ≤ D) (hc : 121 ≤ c) (hl : 2786 ≤ l) (H : kHel1 E D 167 (fun A => [some (.ref (A 9 0)), some (iv x), some (iv y)]) V A R t c l Q) :
    ka_W (kp E) (d, (16, 0, [some (.ref (A 0 0)), some (iv x), some (iv y), some (.ref (A 36 0)), none], []), (kHp J A V C R, c, l)) Q := by
  obtain ⟨hA, v, -⟩ := id I
  simp (disch := first | assumption | (unfold kR; decide) | exact klc_R | (unfold kR; omega) | omega | (unfold kL; omega) | exact kcat_null | exact kcat_ref _ | exact kcat_iv _) only [r16_0, r16_1, r16_2, r16_3, r16_4, r16_5, ht_0 hA v.l0, true_and, and_true, kk1_i, kk1_r, kk1_n, kk1_0, kcat_iv, kcat_ref, kcat_null, kisR_ref, kisR_null, ksz_nil, ksz_iv, ksz_ref, ksz_null, ksz_lv, kfit_int, kfit_long, kfit_obj, kfit_objN, kfit_arr, kfit_arrN, knarI, knarZ0, knarZ1, kret_v, kret_n, kret_x, Nat.reduceAdd, Nat.reduceLeDiff, reduceCtorEq, Int.reduceLE, Int.reduceLT, Int.reduceEq, ite_true, ite_false, true_or, or_true, false_implies, true_implies, not_true_eq_false, not_false_eq_true, and_self, eq_self, klc_lt, klc_ge, klc_le, klc_gt, klc_eq, kmu_eq, kmu_f, kmu_i, kmu_j, Nat.zero_le, show 1 ≤ d by omega]
  refine t37 I hx hy (by omega) hD hc hl (fun J' A' V' C' R' c' l' o b i1 i2 i3 i4 i5 i6 i7 => ?_)
  have hI := i1
  obtain ⟨hA', v', -⟩ := hI
  have e36 := (i2 36 0 (by decide) (by decide) (by decide) (by decide) (by decide) (by decide) v.l36).2
  rcases i7 with ⟨w, -⟩ | ⟨-, x', rfl, hx'⟩
  · exact absurd w (by decide)
  rcases i6 with ⟨rfl, e0⟩ | ⟨e, he, rfl, hx⟩
  · have := H J' A' V' (kmu C' 36 0 0 x') R' c' l' x' hx' (kIv_36 i1) i2 i3 i4 i5 (fun _ => kmu_eq)
    rw [e0] at this
    rw [← e36]
    simp (disch := first | assumption | (unfold kR; decide) | exact klc_R | (unfold kR; omega) | omega | (unfold kL; omega) | exact kcat_null | exact kcat_ref _ | exact kcat_iv _) only [kreh_v, r16_8, r16_9, r16_10, r16_21, r16_22, hoa_36 hA' v'.l36, hpa_36 hA' v'.l36, true_and, and_true, kk1_i, kk1_r, kk1_n, kk1_0, kcat_iv, kcat_ref, kcat_null, kisR_ref, kisR_null, ksz_nil, ksz_iv, ksz_ref, ksz_null, ksz_lv, kfit_int, kfit_long, kfit_obj, kfit_objN, kfit_arr, kfit_arrN, knarI, knarZ0, knarZ1, kret_v, kret_n, kret_x, Nat.reduceAdd, Nat.reduceLeDiff, reduceCtorEq, Int.reduceLE, Int.reduceLT, Int.reduceEq, ite_true, ite_false, true_or, or_true, false_implies, true_implies, not_true_eq_false, not_false_eq_true, and_self, eq_self, klc_lt, klc_ge, klc_le, klc_gt, klc_eq, kmu_eq, kmu_f, kmu_i, kmu_j]
    exact this
  · simp only [List.mem_cons, List.mem_nil_iff, or_false] at he
    rcases he with rfl | rfl
    · have := H J' A' V' C' R' c' l' x' hx' i1 i2 i3 i4 i5 (fun z => absurd (hx.symm.trans z) (by decide))
      rw [hx] at this
      rw [kreh_x (hh := 13) (by rfl) (by decide)]
      intro a
      simp (disch := first | assumption | (unfold kR; decide) | exact klc_R | (unfold kR; omega) | omega | (unfold kL; omega) | exact kcat_null | exact kcat_ref _ | exact kcat_iv _) only [r16_13, r16_15, r16_16, true_and, and_true, kk1_i, kk1_r, kk1_n, kk1_0, kcat_iv, kcat_ref, kcat_null, kisR_ref, kisR_null, ksz_nil, ksz_iv, ksz_ref, ksz_null, ksz_lv, kfit_int, kfit_long, kfit_obj, kfit_objN, kfit_arr, kfit_arrN, knarI, knarZ0, knarZ1, kret_v, kret_n, kret_x, Nat.reduceAdd, Nat.reduceLeDiff, reduceCtorEq, Int.reduceLE, Int.reduceLT, Int.reduceEq, ite_true, ite_false, true_or, or_true, false_implies, true_implies, not_true_eq_false, not_false_eq_true, and_self, eq_self, klc_lt, klc_ge, klc_le, klc_gt, klc_eq, kmu_eq, kmu_f, kmu_i, kmu_j]
      exact this
    · have := H J' A' V' C' R' c' l' x' hx' i1 i2 i3 i4 i5 (fun z => absurd (hx.symm.trans z) (by decide))
      rw [hx] at this
      rw [kreh_x (hh := 17) (by rfl) (by decide)]
      intro a
      simp (disch := first | assumption | (unfold kR; decide) | exact klc_R | (unfold kR; omega) | omega | (unfold kL; omega) | exact kcat_null | exact kcat_ref _ | exact kcat_iv _) only [r16_17, r16_19, r16_20, true_and, and_true, kk1_i, kk1_r, kk1_n, kk1_0, kcat_iv, kcat_ref, kcat_null, kisR_ref, kisR_null, ksz_nil, ksz_iv, ksz_ref, ksz_null, ksz_lv, kfit_int, kfit_long, kfit_obj, kfit_objN, kfit_arr, kfit_arrN, knarI, knarZ0, knarZ1, kret_v, kret_n, kret_x, Nat.reduceAdd, Nat.reduceLeDiff, reduceCtorEq, Int.reduceLE, Int.reduceLT, Int.reduceEq, ite_true, ite_false, true_or, or_true, false_implies, true_implies, not_true_eq_false, not_false_eq_true, and_self, eq_self, klc_lt, klc_ge, klc_le, klc_gt, klc_eq, kmu_eq, kmu_f, kmu_i, kmu_j]
      exact this
theorem u17 (I : kIv E A V C R t) (ht : t ≤ 600) {m y : Int} (hm : kR m) (hy : kR y) (hd : 41 ≤ d) (hD : 40 ≤ D) (hc : 121 ≤ c) (hl : 2786 ≤ l) (H : kHel1 E D 168 (fun A => [some (.ref (A 9 0)), some (iv m), some (iv y), none, none]) V A R t c l Q) :
    ka_W (kp E) (d, (17, 0, [some (.ref (A 0 0)), some (iv m), some (iv y), some (.ref (A 36 0)), none], []), (kHp J A V C R, c, l)) Q := by
  obtain ⟨hA, v, -⟩ := id I
  simp (disch := first | assumption | (unfold kR; decide) | exact klc_R | (unfold kR; omega) | omega | (unfold kL; omega) | exact kcat_null | exact kcat_ref _ | exact kcat_iv _) only [r17_0, r17_1, r17_2, r17_3, r17_4, r17_5, ht_0 hA v.l0, true_and, and_true, kk1_i, kk1_r, kk1_n, kk1_0, kcat_iv, kcat_ref, kcat_null, kisR_ref, kisR_null, ksz_nil, ksz_iv, ksz_ref, ksz_null, ksz_lv, kfit_int, kfit_long, kfit_obj, kfit_objN, kfit_arr, kfit_arrN, knarI, knarZ0, knarZ1, kret_v, kret_n, kret_x, Nat.reduceAdd, Nat.reduceLeDiff, reduceCtorEq, Int.reduceLE, Int.reduceLT, Int.reduceEq, ite_true, ite_false, true_or, or_true, false_implies, true_implies, not_true_eq_false, not_false_eq_true, and_self, eq_self, klc_lt, klc_ge, klc_le, klc_gt, klc_eq, kmu_eq, kmu_f, kmu_i, kmu_j, Nat.zero_le, show 1 ≤ d by omega]
  refine t38 I hm hy (by omega) hD hc hl (fun J' A' V' C' R' c' l' o b i1 i2 i3 i4 i5 i6 i7 => ?_)
  have hI := i1
  obtain ⟨hA', v', -⟩ := hI
  have e36 := (i2 36 0 (by decide) (by decide) (by decide) (by decide) (by decide) (by decide) v.l36).2
  rcases i7 with ⟨w, -⟩ | ⟨-, x', rfl, hx'⟩
  · exact absurd w (by decide)
  rcases i6 with ⟨rfl, e0⟩ | ⟨e, he, rfl, hx⟩
  · have := H J' A' V' (kmu C' 36 0 0 x') R' c' l' x' hx' (kIv_36 i1) i2 i3 i4 i5 (fun _ => kmu_eq)
    rw [e0] at this
    rw [← e36]
    simp (disch := first | assumption | (unfold kR; decide) | exact klc_R | (unfold kR; omega) | omega | (unfold kL; omega) | exact kcat_null | exact kcat_ref _ | exact kcat_iv _) only [kreh_v, r17_8, r17_9, r17_10, r17_21, r17_22, hoa_36 hA' v'.l36, hpa_36 hA' v'.l36, true_and, and_true, kk1_i, kk1_r, kk1_n, kk1_0, kcat_iv, kcat_ref, kcat_null, kisR_ref, kisR_null, ksz_nil, ksz_iv, ksz_ref, ksz_null, ksz_lv, kfit_int, kfit_long, kfit_obj, kfit_objN, kfit_arr, kfit_arrN, knarI, knarZ0, knarZ1, kret_v, kret_n, kret_x, Nat.reduceAdd, Nat.reduceLeDiff, reduceCtorEq, Int.reduceLE, Int.reduceLT, Int.reduceEq, ite_true, ite_false, true_or, or_true, false_implies, true_implies, not_true_eq_false, not_false_eq_true, and_self, eq_self, klc_lt, klc_ge, klc_le, klc_gt, klc_eq, kmu_eq, kmu_f, kmu_i, kmu_j]
    exact this
  · simp only [List.mem_cons, List.mem_nil_iff, or_false] at he
    rcases he with rfl | rfl
    · have := H J' A' V' C' R' c' l' x' hx' i1 i2 i3 i4 i5 (fun z => absurd (hx.symm.trans z) (by decide))
      rw [hx] at this
      rw [kreh_x (hh := 13) (by rfl) (by decide)]
      intro a
      simp (disch := first | assumption | (unfold kR; decide) | exact klc_R | (unfold kR; omega) | omega | (unfold kL; omega) | exact kcat_null | exact kcat_ref _ | exact kcat_iv _) only [r17_13, r17_15, r17_16, true_and, and_true, kk1_i, kk1_r, kk1_n, kk1_0, kcat_iv, kcat_ref, kcat_null, kisR_ref, kisR_null, ksz_nil, ksz_iv, ksz_ref, ksz_null, ksz_lv, kfit_int, kfit_long, kfit_obj, kfit_objN, kfit_arr, kfit_arrN, knarI, knarZ0, knarZ1, kret_v, kret_n, kret_x, Nat.reduceAdd, Nat.reduceLeDiff, reduceCtorEq, Int.reduceLE, Int.reduceLT, Int.reduceEq, ite_true, ite_false, true_or, or_true, false_implies, true_implies, not_true_eq_false, not_false_eq_true, and_self, eq_self, klc_lt, klc_ge, klc_le, klc_gt, klc_eq, kmu_eq, kmu_f, kmu_i, kmu_j]
      exact this
    · have := H J' A' V' C' R' c' l' x' hx' i1 i2 i3 i4 i5 (fun z => absurd (hx.symm.trans z) (by decide))
      rw [hx] at this
      rw [kreh_x (hh := 17) (by rfl) (by decide)]
      intro a
      simp (disch := first | assumption | (unfold kR; decide) | exact klc_R | (unfold kR; omega) | omega | (unfold kL; omega) | exact kcat_null | exact kcat_ref _ | exact kcat_iv _) only [r17_17, r17_19, r17_20, true_and, and_true, kk1_i, kk1_r, kk1_n, kk1_0, kcat_iv, kcat_ref, kcat_null, kisR_ref, kisR_null, ksz_nil, ksz_iv, ksz_ref, ksz_null, ksz_lv, kfit_int, kfit_long, kfit_obj, kfit_objN, kfit_arr, kfit_arrN, knarI, knarZ0, knarZ1, kret_v, kret_n, kret_x, Nat.reduceAdd, Nat.reduceLeDiff, reduceCtorEq, Int.reduceLE, Int.reduceLT, Int.reduceEq, ite_true, ite_false, true_or, or_true, false_implies, true_implies, not_true_eq_false, not_false_eq_true, and_self, eq_self, klc_lt, klc_ge, klc_le, klc_gt, klc_eq, kmu_eq, kmu_f, kmu_i, kmu_j]
      exact this
theorem u18 (I : kIv E A V C R t) (ht : t ≤ 600) {u y : Int} (hu : kR u) (hy : kR y) (hd : 41 ≤ d) (hD : 40 ≤ D) (hc : 121 ≤ c) (hl : 2786 ≤ l) (H : kHel1 E D 169 (fun A => [some (.ref (A 9 0)), some (iv u), some (iv y)]) V A R t c l Q) :
    ka_W (kp E) (d, (18, 0, [some (.ref (A 0 0)), some (iv u), some (iv y), some (.ref (A 36 0)), none], []), (kHp J A V C R, c, l)) Q := by
  obtain ⟨hA, v, -⟩ := id I
  simp (disch := first | assumption | (unfold kR; decide) | exact klc_R | (unfold kR; omega) | omega | (unfold kL; omega) | exact kcat_null | exact kcat_ref _ | exact kcat_iv _) only [r18_0, r18_1, r18_2, r18_3, r18_4, r18_5, ht_0 hA v.l0, true_and, and_true, kk1_i, kk1_r, kk1_n, kk1_0, kcat_iv, kcat_ref, kcat_null, kisR_ref, kisR_null, ksz_nil, ksz_iv, ksz_ref, ksz_null, ksz_lv, kfit_int, kfit_long, kfit_obj, kfit_objN, kfit_arr, kfit_arrN, knarI, knarZ0, knarZ1, kret_v, kret_n, kret_x, Nat.reduceAdd, Nat.reduceLeDiff, reduceCtorEq, Int.reduceLE, Int.reduceLT, Int.reduceEq, ite_true, ite_false, true_or, or_true, false_implies, true_implies, not_true_eq_false, not_false_eq_true, and_self, eq_self, klc_lt, klc_ge, klc_le, klc_gt, klc_eq, kmu_eq, kmu_f, kmu_i, kmu_j, Nat.zero_le, show 1 ≤ d by omega]
  refine t39 I hu hy (by omega) hD hc hl (fun J' A' V' C' R' c' l' o b i1 i2 i3 i4 i5 i6 i7 => ?_)
  have hI := i1
  obtain ⟨hA', v', -⟩ := hI
  have e36 := (i2 36 0 (by decide) (by decide) (by decide) (by decide) (by decide) (by decide) v.l36).2
  rcases i7 with ⟨w, -⟩ | ⟨-, x', rfl, hx'⟩
  · exact absurd w (by decide)
  rcases i6 with ⟨rfl, e0⟩ | ⟨e, he, rfl, hx⟩
  · have := H J' A' V' (kmu C' 36 0 0 x') R' c' l' x' hx' (kIv_36 i1) i2 i3 i4 i5 (fun _ => kmu_eq)
    rw [e0] at this
    rw [← e36]
    simp (disch := first | assumption | (unfold kR; decide) | exact klc_R | (unfold kR; omega) | omega | (unfold kL; omega) | exact kcat_null | exact kcat_ref _ | exact kcat_iv _) only [kreh_v, r18_8, r18_9, r18_10, r18_21, r18_22, hoa_36 hA' v'.l36, hpa_36 hA' v'.l36, true_and, and_true, kk1_i, kk1_r, kk1_n, kk1_0, kcat_iv, kcat_ref, kcat_null, kisR_ref, kisR_null, ksz_nil, ksz_iv, ksz_ref, ksz_null, ksz_lv, kfit_int, kfit_long, kfit_obj, kfit_objN, kfit_arr, kfit_arrN, knarI, knarZ0, knarZ1, kret_v, kret_n, kret_x, Nat.reduceAdd, Nat.reduceLeDiff, reduceCtorEq, Int.reduceLE, Int.reduceLT, Int.reduceEq, ite_true, ite_false, true_or, or_true, false_implies, true_implies, not_true_eq_false, not_false_eq_true, and_self, eq_self, klc_lt, klc_ge, klc_le, klc_gt, klc_eq, kmu_eq, kmu_f, kmu_i, kmu_j]
    exact this
  · simp only [List.mem_cons, List.mem_nil_iff, or_false] at he
    rcases he with rfl | rfl
    · have := H J' A' V' C' R' c' l' x' hx' i1 i2 i3 i4 i5 (fun z => absurd (hx.symm.trans z) (by decide))
      rw [hx] at this
      rw [kreh_x (hh := 13) (by rfl) (by decide)]
      intro a
      simp (disch := first | assumption | (unfold kR; decide) | exact klc_R | (unfold kR; omega) | omega | (unfold kL; omega) | exact kcat_null | exact kcat_ref _ | exact kcat_iv _) only [r18_13, r18_15, r18_16, true_and, and_true, kk1_i, kk1_r, kk1_n, kk1_0, kcat_iv, kcat_ref, kcat_null, kisR_ref, kisR_null, ksz_nil, ksz_iv, ksz_ref, ksz_null, ksz_lv, kfit_int, kfit_long, kfit_obj, kfit_objN, kfit_arr, kfit_arrN, knarI, knarZ0, knarZ1, kret_v, kret_n, kret_x, Nat.reduceAdd, Nat.reduceLeDiff, reduceCtorEq, Int.reduceLE, Int.reduceLT, Int.reduceEq, ite_true, ite_false, true_or, or_true, false_implies, true_implies, not_true_eq_false, not_false_eq_true, and_self, eq_self, klc_lt, klc_ge, klc_le, klc_gt, klc_eq, kmu_eq, kmu_f, kmu_i, kmu_j]
      exact this
    · have := H J' A' V' C' R' c' l' x' hx' i1 i2 i3 i4 i5 (fun z => absurd (hx.symm.trans z) (by decide))
      rw [hx] at this
      rw [kreh_x (hh := 17) (by rfl) (by decide)]
      intro a
      simp (disch := first | assumption | (unfold kR; decide) | exact klc_R | (unfold kR; omega) | omega | (unfold kL; omega) | exact kcat_null | exact kcat_ref _ | exact kcat_iv _) only [r18_17, r18_19, r18_20, true_and, and_true, kk1_i, kk1_r, kk1_n, kk1_0, kcat_iv, kcat_ref, kcat_null, kisR_ref, kisR_null, ksz_nil, ksz_iv, ksz_ref, ksz_null, ksz_lv, kfit_int, kfit_long, kfit_obj, kfit_objN, kfit_arr, kfit_arrN, knarI, knarZ0, knarZ1, kret_v, kret_n, kret_x, Nat.reduceAdd, Nat.reduceLeDiff, reduceCtorEq, Int.reduceLE, Int.reduceLT, Int.reduceEq, ite_true, ite_false, true_or, or_true, false_implies, true_implies, not_true_eq_false, not_false_eq_true, and_self, eq_self, klc_lt, klc_ge, klc_le, klc_gt, klc_eq, kmu_eq, kmu_f, kmu_i, kmu_j]
      exact this
theorem u19 (I : kIv E A V C R t) (ht : t ≤ 600) {x y : Int} (hx : kR x) (hy : kR y) (hd : 41 ≤ d) (hD : 40 ≤ D) (hc : 121 ≤ c) (hl : 2786 ≤ l) (H : kHel1 E D 170 (fun A => [some (.ref (A 9 0)), some (iv x), some (iv y)]) V A R t c l Q) :
    ka_W (kp E) (d, (19, 0, [some (.ref (A 0 0)), some (iv x), some (iv y), some (.ref (A 36 0)), none], []), (kHp J A V C R, c, l)) Q := by
  obtain ⟨hA, v, -⟩ := id I
  simp (disch := first | assumption | (unfold kR; decide) | exact klc_R | (unfold kR; omega) | omega | (unfold kL; omega) | exact kcat_null | exact kcat_ref _ | exact kcat_iv _) only [r19_0, r19_1, r19_2, r19_3, r19_4, r19_5, ht_0 hA v.l0, true_and, and_true, kk1_i, kk1_r, kk1_n, kk1_0, kcat_iv, kcat_ref, kcat_null, kisR_ref, kisR_null, ksz_nil, ksz_iv, ksz_ref, ksz_null, ksz_lv, kfit_int, kfit_long, kfit_obj, kfit_objN, kfit_arr, kfit_arrN, knarI, knarZ0, knarZ1, kret_v, kret_n, kret_x, Nat.reduceAdd, Nat.reduceLeDiff, reduceCtorEq, Int.reduceLE, Int.reduceLT, Int.reduceEq, ite_true, ite_false, true_or, or_true, false_implies, true_implies, not_true_eq_false, not_false_eq_true, and_self, eq_self, klc_lt, klc_ge, klc_le, klc_gt, klc_eq, kmu_eq, kmu_f, kmu_i, kmu_j, Nat.zero_le, show 1 ≤ d by omega]
  refine t40 I hx hy (by omega) hD hc hl (fun J' A' V' C' R' c' l' o b i1 i2 i3 i4 i5 i6 i7 => ?_)
  have hI := i1
  obtain ⟨hA', v', -⟩ := hI
  have e36 := (i2 36 0 (by decide) (by decide) (by decide) (by decide) (by decide) (by decide) v.l36).2
  rcases i7 with ⟨w, -⟩ | ⟨-, x', rfl, hx'⟩
  · exact absurd w (by decide)
  rcases i6 with ⟨rfl, e0⟩ | ⟨e, he, rfl, hx⟩
  · have := H J' A' V' (kmu C' 36 0 0 x') R' c' l' x' hx' (kIv_36 i1) i2 i3 i4 i5 (fun _ => kmu_eq)
    rw [e0] at this
    rw [← e36]
    simp (disch := first | assumption | (unfold kR; decide) | exact klc_R | (unfold kR; omega) | omega | (unfold kL; omega) | exact kcat_null | exact kcat_ref _ | exact kcat_iv _) only [kreh_v, r19_8, r19_9, r19_10, r19_17, r19_18, hoa_36 hA' v'.l36, hpa_36 hA' v'.l36, true_and, and_true, kk1_i, kk1_r, kk1_n, kk1_0, kcat_iv, kcat_ref, kcat_null, kisR_ref, kisR_null, ksz_nil, ksz_iv, ksz_ref, ksz_null, ksz_lv, kfit_int, kfit_long, kfit_obj, kfit_objN, kfit_arr, kfit_arrN, knarI, knarZ0, knarZ1, kret_v, kret_n, kret_x, Nat.reduceAdd, Nat.reduceLeDiff, reduceCtorEq, Int.reduceLE, Int.reduceLT, Int.reduceEq, ite_true, ite_false, true_or, or_true, false_implies, true_implies, not_true_eq_false, not_false_eq_true, and_self, eq_self, klc_lt, klc_ge, klc_le, klc_gt, klc_eq, kmu_eq, kmu_f, kmu_i, kmu_j]
    exact this
  · simp only [List.mem_cons, List.mem_nil_iff, or_false] at he
    rcases he with rfl
    · have := H J' A' V' C' R' c' l' x' hx' i1 i2 i3 i4 i5 (fun z => absurd (hx.symm.trans z) (by decide))
      rw [hx] at this
      rw [kreh_x (hh := 13) (by rfl) (by decide)]
      intro a
      simp (disch := first | assumption | (unfold kR; decide) | exact klc_R | (unfold kR; omega) | omega | (unfold kL; omega) | exact kcat_null | exact kcat_ref _ | exact kcat_iv _) only [r19_13, r19_15, r19_16, true_and, and_true, kk1_i, kk1_r, kk1_n, kk1_0, kcat_iv, kcat_ref, kcat_null, kisR_ref, kisR_null, ksz_nil, ksz_iv, ksz_ref, ksz_null, ksz_lv, kfit_int, kfit_long, kfit_obj, kfit_objN, kfit_arr, kfit_arrN, knarI, knarZ0, knarZ1, kret_v, kret_n, kret_x, Nat.reduceAdd, Nat.reduceLeDiff, reduceCtorEq, Int.reduceLE, Int.reduceLT, Int.reduceEq, ite_true, ite_false, true_or, or_true, false_implies, true_implies, not_true_eq_false, not_false_eq_true, and_self, eq_self, klc_lt, klc_ge, klc_le, klc_gt, klc_eq, kmu_eq, kmu_f, kmu_i, kmu_j]
      exact this
end
