/-! The floor: what is let go. -/
/-- a held unit's holder is there -/
def kU1 (R : ka_M) : Prop := ∀ u, 1 ≤ u → u ≤ R 9 0 26 → R 78 0 u = 1 → 1 ≤ R 80 0 u ∧ R 80 0 u ≤ R 9 0 15
section
variable {E : Nat × Nat} {d c l : Nat} {s : ka_S} {h : ka_H} {Q : ka_Q} {J : ka_H} {A : ka_A} {V : ka_V} {C R X : ka_M}
theorem c76 (hA : kJ A V) (v : kLV V) {u : Int} (hd : 1 ≤ d) (hu : V 8 u) (g0 : 0 ≤ C 8 u 1) (g1 : C 8 u 1 < 20) : ka_W (kp E) (d, (76, 0, [some (.ref (A 2 0)), some (.ref (A 8 u))], []), (kHp J A V C R, c, l)) Q ↔ Q (.inl none) (kHp J A V (kmu (g116 C u 0) 29 0 (C 8 u 1) (C 29 0 (C 8 u 1) + 1)) R, c, l) := by
  have e1 : g116 C u 0 8 u 1 = C 8 u 1 := by unfold g116; rw [kmu_j (by decide), kmu_j (by decide), kmu_j (by decide), kmu_j (by decide)]
  have e2 : g116 C u 0 29 = C 29 := by unfold g116; rw [kmu_ff (by decide), kmu_ff (by decide), kmu_ff (by decide), kmu_ff (by decide)]
  simp (disch := first | assumption | (unfold kR; decide) | exact klc_R | (unfold kR; omega) | omega | (unfold kL; omega) | exact kcat_null | exact kcat_ref _ | exact kcat_iv _) only [r76_0, r76_1, r76_2, r76_5, r76_6, r76_9, r76_10, r76_13, r76_14, r76_15, r76_16, r76_17, r76_18, ht_8 hA, ho_2_3 hA v.l2, hg_2_3 hA v.l2, hoa_29 hA v.l29, hga_29 hA v.l29, hpa_29 hA v.l29, ho_8_1 hA, hg_8_1 hA, true_and, and_true, kk1_i, kk1_r, kk1_n, kk1_0, kcat_iv, kcat_ref, kcat_null, kisR_ref, kisR_null, ksz_nil, ksz_iv, ksz_ref, ksz_null, ksz_lv, kfit_int, kfit_long, kfit_obj, kfit_objN, kfit_arr, kfit_arrN, knarI, knarZ0, knarZ1, kret_v, kret_n, kret_x, Nat.reduceAdd, Nat.reduceLeDiff, reduceCtorEq, Int.reduceLE, Int.reduceLT, Int.reduceEq, ite_true, ite_false, true_or, or_true, false_implies, true_implies, not_true_eq_false, not_false_eq_true, and_self, eq_self, klc_lt, klc_ge, klc_le, klc_gt, klc_eq, kmu_eq, kmu_f, kmu_i, kmu_j, c116 hA hu, e1, e2, hd, Nat.zero_le]
theorem g116_o {u x : Int} : (∀ f, f ≠ 8 → g116 C u x f = C f) ∧ (∀ u', u' ≠ u → g116 C u x 8 u' = C 8 u') ∧ (∀ j, j ≤ 2 → g116 C u x 8 u j = C 8 u j) ∧ g116 C u x 8 u 3 = x ∧ g116 C u x 8 u 4 = -1 ∧ g116 C u x 8 u 5 = -1 ∧ g116 C u x 8 u 6 = -1 := by
  unfold g116
  refine ⟨fun f a => by rw [kmu_ff a, kmu_ff a, kmu_ff a, kmu_ff a], fun u' a => by rw [kmu_ii a, kmu_ii a, kmu_ii a, kmu_ii a], fun j a => by rw [kmu_j (by omega), kmu_j (by omega), kmu_j (by omega), kmu_j (by omega)], ?_, ?_, ?_, ?_⟩
  · rw [kmu_j (by decide), kmu_j (by decide), kmu_j (by decide), kmu_eq]
  · rw [kmu_j (by decide), kmu_j (by decide), kmu_eq]
  · rw [kmu_j (by decide), kmu_eq]
  · rw [kmu_eq]
theorem klg_ud {m p u : Int} : kUd X (klg m p u X) u := by
  unfold klg
  split
  · refine ⟨?_, ?_, fun j hj => ⟨?_, ?_, ?_⟩⟩
    · rw [kmu_ff (by decide), kmu_ff (by decide)]
    · rw [kmu_f (by decide), kmu_f (by decide)]
    · rw [kmu_f (by decide), kmu_j hj]
    · rw [kmu_j hj, kmu_f (by decide)]
    · rw [kmu_f (by decide), kmu_f (by decide)]
  · exact ⟨rfl, rfl, fun j hj => ⟨rfl, rfl, rfl⟩⟩
/-- a held unit becomes loose on both sides; the program's count for (m, p) is already 0 -/
theorem kRF_lg (rw : kRW V X) {m p u : Int} (F : kRF V (kmu C 24 m p (khu X m p)) X) (u1 : 1 ≤ u) (u2 : u ≤ X 9 0 26) (h : X 78 0 u = 1 ∧ X 80 0 u = m ∧ X 81 0 u = p) :
    kRF V (kmu (kmu (g116 C u 0) 29 0 (X 77 0 u) (C 29 0 (X 77 0 u) + 1)) 24 m p (khu (klg m p u X) m p)) (klg m p u X) := by
  have B26 := rw.i26
  have B77 := rw.a77 (j := u) (by omega) (by omega)
  have ud : kUd X (klg m p u X) u := klg_ud
  have hu := fun m' p' => khu_u ud u1 u2 m' p'
  have h9 := fun g' => f149_u ud u1 u2 g'
  have e : klg m p u X = kmu (kmu X 78 0 u 0) 80 0 u 0 := if_pos h
  obtain ⟨o1, o2, o3, o4, o5, o6, o7⟩ := g116_o (C := C) (u := u) (x := 0)
  have F' := F
  obtain ⟨F1, F2, F3, F4, F5, F6, F7, F8⟩ := F'
  have e78 : klg m p u X 78 0 u = 0 := by rw [e, kmu_f (by decide), kmu_eq]
  refine kRF_unit F u1 u2 (by omega) (fun f a b c' => by rw [e, kmu_ff b, kmu_ff a]) ud (fun f a b c' => ?_) (fun u' a => ?_) (fun j a => ?_) ?_ ?_ ?_ ?_ (fun g' a b => ?_) (fun m' p' a b a' b' z => ?_)
  · rw [kmu_ff b, kmu_ff c', o1 f a, kmu_ff b]
  · rw [kmu_ff (by decide), kmu_ff (by decide), o2 u' a, kmu_ff (by decide)]
  · rw [kmu_f (by decide), kmu_f (by decide), o3 j a, kmu_f (by decide)]
  · rw [kmu_f (by decide), kmu_f (by decide), o4, e78]
  · rw [kmu_f (by decide), kmu_f (by decide), o5, e78, if_neg (by decide)]
  · rw [kmu_f (by decide), kmu_f (by decide), o6, e78, if_neg (by decide)]
  · rw [kmu_f (by decide), kmu_f (by decide), o7, e78, if_neg (by decide)]
  · have h9' := h9 g'
    have F8' := (F8 g' a b).2
    rw [kmu_f (by decide)] at F8'
    rw [h9', e78, ← F8', kmu_f (by decide), kb_f (show ¬ (X 77 0 u = g' ∧ X 78 0 u = 0) by omega)]
    by_cases z : g' = X 77 0 u
    · rw [z, kmu_eq, kb_t ⟨rfl, rfl⟩]; omega
    · rw [kmu_j z, o1 29 (by decide), kb_f (fun y => z y.1.symm)]
      omega
  · by_cases y : m' = m ∧ p' = p
    · rw [y.1, y.2, kmu_eq]
    · have F6' := (F6 m' p' a b a' b').2.2.2.1 z
      have e24 : kmu C 24 m p (khu X m p) 24 m' p' = C 24 m' p' := by
        unfold kmu
        rw [if_neg (fun w => y ⟨w.2.1, w.2.2⟩)]
      rw [e24] at F6'
      have e24' : ∀ x, kmu (kmu (g116 C u 0) 29 0 (X 77 0 u) (C 29 0 (X 77 0 u) + 1)) 24 m p x 24 m' p' = C 24 m' p' := by
        intro x
        rw [show kmu (kmu (g116 C u 0) 29 0 (X 77 0 u) (C 29 0 (X 77 0 u) + 1)) 24 m p x 24 m' p' = kmu (g116 C u 0) 29 0 (X 77 0 u) (C 29 0 (X 77 0 u) + 1) 24 m' p' by
          show (if 24 = 24 ∧ m' = m ∧ p' = p then x else _) = _
          rw [if_neg (fun w => y ⟨w.2.1, w.2.2⟩)], kmu_f (by decide), o1 24 (by decide)]
      rw [e24', hu m' p', ← F6', e78, kb_f (show ¬ ((0:Int) = 1 ∧ klg m p u X 80 0 u = m' ∧ klg m p u X 81 0 u = p') by omega), kb_f (show ¬ (X 78 0 u = 1 ∧ X 80 0 u = m' ∧ X 81 0 u = p') from fun w => y ⟨by omega, by omega⟩)]
      omega
theorem kU1.lg (h : kU1 X) {m p u : Int} : kU1 (klg m p u X) := by
  intro j a b c'
  unfold klg at b c' ⊢
  split at b
  · rename_i e
    rw [if_pos e] at c' ⊢
    rw [kmu_f (by decide), kmu_f (by decide)] at b
    by_cases z : j = u
    · subst z
      rw [kmu_f (by decide), kmu_eq] at c'
      omega
    · rw [kmu_f (by decide), kmu_j z] at c'
      rw [kmu_j z, kmu_f (by decide), kmu_f (by decide), kmu_f (by decide)]
      exact h j a b c'
  · rename_i e
    rw [if_neg e] at c' ⊢
    exact h j a b c'
theorem c75_l (hA : kJ A V) (v : kLV V) {m p : Int} (hd : 3 ≤ d) (m0 : 1 ≤ m) (p0 : 0 ≤ p) (p5 : p < 5) (hm : V 4 m) :
    ∀ (n : Nat) (i : Int) (C X : ka_M) (l4 : Option Value), kRW V X → kU1 X → kRF V (kmu C 24 m p (khu X m p)) X → 0 ≤ i → i + n = X 9 0 26 →
    (∀ C', kFl C C' → C' 23 = C 23 → C' 28 = C 28 → C' 24 = C 24 → kRF V (kmu C' 24 m p (khu (kfd (klg m p) n (i + 1) X) m p)) (kfd (klg m p) n (i + 1) X) → Q (.inl none) (kHp J A V C' R, c, l)) →
    ka_W (kp E) (d, (75, 39, [some (.ref (A 2 0)), some (.ref (A 4 m)), some (iv p), some (iv i), l4], []), (kHp J A V C R, c, l)) Q
  | n, i, C, X, l4, rw, hU, F, i0, hn, H => by
    have B26 := rw.i26
    have F' := F
    obtain ⟨F1, F2, F3, F4, F5, F6, F7, F8⟩ := F'
    rw [kmu_f (by decide)] at F3 F4
    have F2' : kLs V C 2 := F2.c (kmu_ff (by decide)).symm (kmu_ff (by decide)).symm
    have v102 : V 10 2 := v.2.2.2
    cases n with
    | zero =>
      have := H C kFl_rfl rfl rfl rfl F
      simp (disch := first | assumption | (unfold kR; decide) | exact klc_R | (unfold kR; omega) | omega | (unfold kL; omega) | exact kcat_null | exact kcat_ref _ | exact kcat_iv _) only [r75_39, r75_40, r75_41, r75_44, r75_47, r75_85, ho_2_1 hA v.l2, hg_2_1 hA v.l2, ht_10 hA, true_and, and_true, kk1_i, kk1_r, kk1_n, kk1_0, kcat_iv, kcat_ref, kcat_null, kisR_ref, kisR_null, ksz_nil, ksz_iv, ksz_ref, ksz_null, ksz_lv, kfit_int, kfit_long, kfit_obj, kfit_objN, kfit_arr, kfit_arrN, knarI, knarZ0, knarZ1, kret_v, kret_n, kret_x, Nat.reduceAdd, Nat.reduceLeDiff, reduceCtorEq, Int.reduceLE, Int.reduceLT, Int.reduceEq, ite_true, ite_false, true_or, or_true, false_implies, true_implies, not_true_eq_false, not_false_eq_true, and_self, eq_self, klc_lt, klc_ge, klc_le, klc_gt, klc_eq, kmu_eq, kmu_f, kmu_i, kmu_j, c180 hA v102, F4, show X 9 0 26 ≤ i by omega, Nat.zero_le, show 1 ≤ d by omega]
      exact this
    | succ n =>
      obtain ⟨U1, U2, U3, U4, U5, U6, U7, U8, U9⟩ := F7 (i + 1) (by omega) (by omega)
      rw [Int.add_sub_cancel] at U2
      rw [kmu_f (show (33:Nat) ≠ 24 by decide), kmu_f (show (10:Nat) ≠ 24 by decide)] at U2
      rw [kmu_f (by decide)] at U4 U6 U7 U8
      have B78 := rw.a78 (j := i + 1) (by omega) (by omega)
      have B77 := rw.a77 (j := i + 1) (by omega) (by omega)
      have B81 := rw.a81 (j := i + 1) (by omega) (by omega)
      have B80 := rw.a80 (j := i + 1) (by omega) (by omega)
      have q182 := fun {Q} => c182_2 (E := E) (d := d - 1) (c := c) (l := l) (Q := Q) (J := J) (R := R) hA v F2' (x := i) (y := i + 1) (by omega) i0 (by omega) U2 (by omega)
      have hv4 : 0 ≤ C 8 (i + 1) 4 → V 4 (C 8 (i + 1) 4) := by
        intro z
        rw [U7] at z ⊢
        by_cases y : X 78 0 (i + 1) = 1
        · rw [if_pos y]
          have := hU (i + 1) (by omega) (by omega) y
          exact (F5 _ this.1 this.2).1
        · rw [if_neg y] at z
          omega
      have hk5 : kR (C 8 (i + 1) 5) := by
        rw [U8]
        unfold kR
        split <;> omega
      have q111 := fun {Q} => c111 (E := E) (d := d - 1) (c := c) (l := l) (Q := Q) (J := J) (R := R) hA (u := i + 1) (m := m) (p := p) U1 hm (by omega) hv4 (by unfold kR; omega) hk5
      have hc : (C 8 (i + 1) 4 = m ∧ C 8 (i + 1) 5 = p) ↔ (X 78 0 (i + 1) = 1 ∧ X 80 0 (i + 1) = m ∧ X 81 0 (i + 1) = p) := by
        rw [U7, U8]
        by_cases y : X 78 0 (i + 1) = 1
        · rw [if_pos y, if_pos y]; simp [y]
        · rw [if_neg y, if_neg y]
          constructor
          · rintro ⟨a, b⟩; omega
          · rintro ⟨a, b⟩; exact absurd a y
      have hstep : kfd (klg m p) (n + 1) (i + 1) X = kfd (klg m p) n (i + 1 + 1) (klg m p (i + 1) X) := rfl
      rw [hstep] at H
      have o := klg_o (V := V) (m := m) (p := p) (u := i + 1) rw
      have t9 := o.2 9 (by decide) (by decide) (by decide) (by decide) (by decide)
      by_cases c1 : X 78 0 (i + 1) = 1 ∧ X 80 0 (i + 1) = m ∧ X 81 0 (i + 1) = p
      · have L := kRF_lg rw F (by omega) (by omega) c1
        have ih := c75_l hA v hd m0 p0 p5 hm n (i + 1) (kmu (g116 C (i + 1) 0) 29 0 (X 77 0 (i + 1)) (C 29 0 (X 77 0 (i + 1)) + 1)) (klg m p (i + 1) X) (some (.ref (A 8 (i + 1)))) o.1 hU.lg L (by omega) (by rw [t9]; omega) (fun C' h1 h2 h3 h4 h5 => H C' (kFl.trans (by
            unfold g116
            exact ((((kFl_rfl.mu (by omega)).mu (by omega)).mu (by omega)).mu (by omega)).mu (by omega)) h1) (h2.trans (by rw [kmu_ff (by decide), g116_o.1 23 (by decide)])) (h3.trans (by rw [kmu_ff (by decide), g116_o.1 28 (by decide)])) (h4.trans (by rw [kmu_ff (by decide), g116_o.1 24 (by decide)])) h5)
        have q76 := fun {Q} => c76 (E := E) (d := d - 1) (c := c) (l := l) (Q := Q) (J := J) (C := C) (R := R) hA v (u := i + 1) (by omega) U1 (by rw [U4]; omega) (by rw [U4]; omega)
        rw [U4] at q76
        rw [r75_39]
        simp (disch := first | assumption | (unfold kR; decide) | exact klc_R | (unfold kR; omega) | omega | (unfold kL; omega) | exact kcat_null | exact kcat_ref _ | exact kcat_iv _) only [r75_40, r75_41, r75_44, r75_47, r75_50, r75_51, r75_54, r75_55, r75_58, r75_61, r75_63, r75_65, r75_66, r75_67, r75_70, r75_73, r75_74, r75_76, r75_79, r75_82, ho_2_1 hA v.l2, hg_2_1 hA v.l2, ht_10 hA, ht_8 hA, ht_2 hA v.l2, true_and, and_true, kk1_i, kk1_r, kk1_n, kk1_0, kcat_iv, kcat_ref, kcat_null, kisR_ref, kisR_null, ksz_nil, ksz_iv, ksz_ref, ksz_null, ksz_lv, kfit_int, kfit_long, kfit_obj, kfit_objN, kfit_arr, kfit_arrN, knarI, knarZ0, knarZ1, kret_v, kret_n, kret_x, Nat.reduceAdd, Nat.reduceLeDiff, reduceCtorEq, Int.reduceLE, Int.reduceLT, Int.reduceEq, ite_true, ite_false, true_or, or_true, false_implies, true_implies, not_true_eq_false, not_false_eq_true, and_self, eq_self, klc_lt, klc_ge, klc_le, klc_gt, klc_eq, kmu_eq, kmu_f, kmu_i, kmu_j, c180 hA v102, q182, q111, hc, q76, F4, c1, show ¬ X 9 0 26 ≤ i by omega, Nat.zero_le, show 1 ≤ d by omega]
        exact ih
      · have e : klg m p (i + 1) X = X := if_neg c1
        rw [e] at H
        have ih := c75_l hA v hd m0 p0 p5 hm n (i + 1) C X (some (.ref (A 8 (i + 1)))) rw hU F (by omega) (by omega) H
        rw [r75_39]
        simp (disch := first | assumption | (unfold kR; decide) | exact klc_R | (unfold kR; omega) | omega | (unfold kL; omega) | exact kcat_null | exact kcat_ref _ | exact kcat_iv _) only [r75_40, r75_41, r75_44, r75_47, r75_50, r75_51, r75_54, r75_55, r75_58, r75_61, r75_63, r75_65, r75_66, r75_67, r75_70, r75_73, r75_74, r75_76, r75_79, r75_82, ho_2_1 hA v.l2, hg_2_1 hA v.l2, ht_10 hA, ht_8 hA, ht_2 hA v.l2, true_and, and_true, kk1_i, kk1_r, kk1_n, kk1_0, kcat_iv, kcat_ref, kcat_null, kisR_ref, kisR_null, ksz_nil, ksz_iv, ksz_ref, ksz_null, ksz_lv, kfit_int, kfit_long, kfit_obj, kfit_objN, kfit_arr, kfit_arrN, knarI, knarZ0, knarZ1, kret_v, kret_n, kret_x, Nat.reduceAdd, Nat.reduceLeDiff, reduceCtorEq, Int.reduceLE, Int.reduceLT, Int.reduceEq, ite_true, ite_false, true_or, or_true, false_implies, true_implies, not_true_eq_false, not_false_eq_true, and_self, eq_self, klc_lt, klc_ge, klc_le, klc_gt, klc_eq, kmu_eq, kmu_f, kmu_i, kmu_j, c180 hA v102, q182, q111, hc, F4, c1, show ¬ X 9 0 26 ≤ i by omega, Nat.zero_le, show 1 ≤ d by omega]
        exact ih
/-- behind the pass nothing is held for (m, p) -/
theorem klg_none {m p : Int} (h26 : 0 ≤ X 9 0 26) (rw : kRW V X) : khu (kfd (klg m p) (X 9 0 26).toNat 1 X) m p = 0 ∧ kU1 (kfd (klg m p) (X 9 0 26).toNat 1 X) = kU1 (kfd (klg m p) (X 9 0 26).toNat 1 X) := by
  have z := kfd_inv (P := fun u Y => Y 9 0 26 = X 9 0 26 ∧ ∀ j, 1 ≤ j → j < u → ¬ (Y 78 0 j = 1 ∧ Y 80 0 j = m ∧ Y 81 0 j = p)) (f := klg m p) (X 9 0 26).toNat 1 X (fun u Y u1 u2 ⟨y1, y2⟩ => by
    have ud : kUd Y (klg m p u Y) u := klg_ud
    refine ⟨ud.2.1.trans y1, fun j a b w => ?_⟩
    by_cases e : j = u
    · subst e
      unfold klg at w
      split at w
      · rw [kmu_f (by decide), kmu_eq] at w
        omega
      · rename_i e; exact e w
    · obtain ⟨x1, x2, x3⟩ := ud.2.2 j e
      rw [x1, x2, x3] at w
      exact y2 j a (by omega) w) ⟨rfl, fun j a b => by omega⟩
  refine ⟨?_, rfl⟩
  unfold khu
  rw [z.1]
  exact (kcn_0 _).mpr (fun j a b => z.2 j a (by omega))
theorem kU1_lgs {m p : Int} (n : Nat) (hU : kU1 X) : kU1 (kfd (klg m p) n 1 X) := by
  exact kfd_inv (P := fun _ Y => kU1 Y) (f := klg m p) n 1 X (fun u Y _ _ y => y.lg) hU
/-- loosen -/
theorem c75 (hA : kJ A V) (v : kLV V) (rw : kRW V X) (hU : kU1 X) (F : kRF V C X) {m p : Int} (hd : 3 ≤ d) (m0 : 1 ≤ m) (m1 : m ≤ X 9 0 15) (p0 : 0 ≤ p) (p1 : p < X 70 0 m) (hs : ¬ X 68 0 m = 1) (hb : X 55 0 (X 72 0 (5 * m + p)) ≤ 999000)
    (H : ∀ C', kFl C C' → kRF V C' (f154 X m p) → Q (.inl none) (kHp J A V C' R, c, l)) :
    ka_W (kp E) (d, (75, 0, [some (.ref (A 2 0)), some (.ref (A 4 m)), some (iv p), none, none], []), (kHp J A V C R, c, l)) Q := by
  have B26 := rw.i26
  have B15 := rw.i15
  have B70 := rw.a70 (j := m) (by omega) (by omega)
  have B72 := rw.a72 (j := 5 * m + p) (by omega) (by omega)
  have B75 := rw.a75 (j := 5 * m + p) (by omega) (by omega)
  have B55 := rw.a55 (j := X 72 0 (5 * m + p)) (by omega) (by omega)
  have F' := F
  obtain ⟨F1, F2, F3, F4, F5, F6, F7, F8⟩ := F'
  obtain ⟨M1, M2, M3, ⟨r1, r2, r3, r4⟩, -⟩ := F5 m m0 m1
  obtain ⟨P1, P2, P3, P4, P5⟩ := F6 m p m0 m1 p0 p1
  have P5' := P5 (fun z => by omega)
  obtain ⟨G1, G2⟩ := F8 (X 72 0 (5 * m + p)) (by omega) (by omega)
  have L := kRF_pl F (m := m) (p := p) (g := X 72 0 (5 * m + p)) (a := X 55 0 (X 72 0 (5 * m + p)) + X 75 0 (5 * m + p)) (b := 0) p0 (by omega) rw
  have rw1 : kRW V (kmu (kmu X 55 0 (X 72 0 (5 * m + p)) (X 55 0 (X 72 0 (5 * m + p)) + X 75 0 (5 * m + p))) 75 0 (5 * m + p) 0) := (rw.pa55 (by omega) (by omega)).pa75 (by omega) (by omega)
  have hU1 : kU1 (kmu (kmu X 55 0 (X 72 0 (5 * m + p)) (X 55 0 (X 72 0 (5 * m + p)) + X 75 0 (5 * m + p))) 75 0 (5 * m + p) 0) := by
    unfold kU1
    rw [kmu_ff (show (9:Nat) ≠ 75 by decide), kmu_ff (show (9:Nat) ≠ 55 by decide), kmu_ff (show (78:Nat) ≠ 75 by decide), kmu_ff (show (78:Nat) ≠ 55 by decide), kmu_ff (show (80:Nat) ≠ 75 by decide), kmu_ff (show (80:Nat) ≠ 55 by decide)]
    exact hU
  unfold f154 at H
  dsimp only at H
  have x26 : kmu (kmu X 55 0 (X 72 0 (5 * m + p)) (X 55 0 (X 72 0 (5 * m + p)) + X 75 0 (5 * m + p))) 75 0 (5 * m + p) 0 9 0 26 = X 9 0 26 := by rw [kmu_f (by decide), kmu_f (by decide)]
  have x15 : kmu (kmu X 55 0 (X 72 0 (5 * m + p)) (X 55 0 (X 72 0 (5 * m + p)) + X 75 0 (5 * m + p))) 75 0 (5 * m + p) 0 9 0 15 = X 9 0 15 := by rw [kmu_f (by decide), kmu_f (by decide)]
  have x68 : kmu (kmu X 55 0 (X 72 0 (5 * m + p)) (X 55 0 (X 72 0 (5 * m + p)) + X 75 0 (5 * m + p))) 75 0 (5 * m + p) 0 68 = X 68 := by rw [kmu_ff (by decide), kmu_ff (by decide)]
  have x70 : kmu (kmu X 55 0 (X 72 0 (5 * m + p)) (X 55 0 (X 72 0 (5 * m + p)) + X 75 0 (5 * m + p))) 75 0 (5 * m + p) 0 70 = X 70 := by rw [kmu_ff (by decide), kmu_ff (by decide)]
  have hnone := klg_none (m := m) (p := p) (by rw [x26]; omega) rw1
  rw [x26] at hnone
  generalize hg : X 72 0 (5 * m + p) = g at *
  generalize hX1 : kmu (kmu X 55 0 g (X 55 0 g + X 75 0 (5 * m + p))) 75 0 (5 * m + p) 0 = X1 at *
  -- the count is put right for the relation
  have L' : kRF V (kmu (kmu (kmu (kmu C 28 0 g (X 55 0 g + X 75 0 (5 * m + p))) 23 m p 0) 24 m p 0) 24 m p (khu X1 m p)) X1 := by
    rw [kmu_mu]
    obtain ⟨L1, L2, L3, L4, L5, L6, L7, L8⟩ := L
    have cc : ∀ f, f ≠ 24 → (kmu (kmu (kmu C 28 0 g (X 55 0 g + X 75 0 (5 * m + p))) 23 m p 0) 24 m p (khu X1 m p)) f = (kmu (kmu C 28 0 g (X 55 0 g + X 75 0 (5 * m + p))) 23 m p 0) f := fun f hf => kmu_ff hf
    have c10 := cc 10 (by decide)
    have c33 := cc 33 (by decide)
    refine ⟨L1.c c10 c33, L2.c c10 c33, by rw [c10]; exact L3, by rw [c10]; exact L4, fun m' a b => ?_, fun m' p' a b a' b' => ?_, fun u a b => ?_, fun g' a b => ?_⟩
    · exact (L5 m' a b).c (cc 4 (by decide)) (cc 6 (by decide)) c10 c33 rfl rfl rfl rfl rfl rfl rfl
    · obtain ⟨y1, y2, y3, y4, y5⟩ := L6 m' p' a b a' b'
      unfold kRp
      rw [cc 20 (by decide), cc 21 (by decide), cc 22 (by decide), cc 23 (by decide)]
      refine ⟨y1, y2, y3, fun z => ?_, y5⟩
      by_cases e : m' = m ∧ p' = p
      · rw [e.1, e.2, kmu_eq]
      · rw [← y4 z]
        show (if 24 = 24 ∧ m' = m ∧ p' = p then _ else _) = _
        rw [if_neg (fun w => e ⟨w.2.1, w.2.2⟩)]
    · exact (L7 u a b).c (by rw [cc 8 (by decide)]) c10 c33 rfl rfl rfl rfl rfl
    · rw [cc 28 (by decide), cc 29 (by decide)]; exact L8 g' a b
  have z := c75_l (E := E) (d := d) (c := c) (l := l) (Q := Q) (J := J) (R := R) hA v (m := m) (p := p) hd m0 p0 (by omega) M1 (X 9 0 26).toNat 0 (kmu (kmu (kmu C 28 0 g (X 55 0 g + X 75 0 (5 * m + p))) 23 m p 0) 24 m p 0) X1 none rw1 hU1 L' (by omega) (by rw [x26]; omega) (fun C' h1 h2 h3 h4 h5 => by
    rw [show (0 : Int) + 1 = 1 from rfl, hnone.1] at h5
    have e0 : C' 24 m p = 0 := by rw [h4, kmu_eq]
    have e : kmu C' 24 m p 0 = C' := by
      have := kmu_self (M := C') (f := 24) (i := m) (j := p)
      rwa [e0] at this
    rw [e] at h5
    exact H C' (kFl.trans (((kFl_rfl.mu (by omega)).mu (by omega)).mu (by omega)) h1) h5)
  simp (disch := first | assumption | (unfold kR; decide) | exact klc_R | (unfold kR; omega) | omega | (unfold kL; omega) | exact kcat_null | exact kcat_ref _ | exact kcat_iv _) only [r75_0, r75_1, r75_4, r75_5, r75_8, r75_11, r75_12, r75_13, r75_14, r75_15, r75_16, r75_19, r75_20, r75_21, r75_22, r75_23, r75_24, r75_27, r75_28, r75_29, r75_30, r75_31, r75_34, r75_35, r75_36, r75_37, r75_38, ho_2_2 hA v.l2, hg_2_2 hA v.l2, hoa_28 hA v.l28, hga_28 hA v.l28, hpa_28 hA v.l28, ho_4_4 hA, hg_4_4 hA, ho_6_2 hA, hg_6_2 hA, hoa_20 hA, hga_20 hA, hpa_20 hA, ho_4_5 hA, hg_4_5 hA, hoa_23 hA, hga_23 hA, hpa_23 hA, ho_4_6 hA, hg_4_6 hA, hoa_24 hA, hga_24 hA, hpa_24 hA, true_and, and_true, kk1_i, kk1_r, kk1_n, kk1_0, kcat_iv, kcat_ref, kcat_null, kisR_ref, kisR_null, ksz_nil, ksz_iv, ksz_ref, ksz_null, ksz_lv, kfit_int, kfit_long, kfit_obj, kfit_objN, kfit_arr, kfit_arrN, knarI, knarZ0, knarZ1, kret_v, kret_n, kret_x, Nat.reduceAdd, Nat.reduceLeDiff, reduceCtorEq, Int.reduceLE, Int.reduceLT, Int.reduceEq, ite_true, ite_false, true_or, or_true, false_implies, true_implies, not_true_eq_false, not_false_eq_true, and_self, eq_self, klc_lt, klc_ge, klc_le, klc_gt, klc_eq, kmu_eq, kmu_f, kmu_i, kmu_j, P1, P5', G1]
  exact z
end
