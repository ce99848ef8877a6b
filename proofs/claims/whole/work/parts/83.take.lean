/-! The floor: pieces and units are taken. -/
section
variable {E : Nat × Nat} {d c l : Nat} {s : ka_S} {h : ka_H} {Q : ka_Q} {J : ka_H} {A : ka_A} {V : ka_V} {C R X : ka_M}
/-- the reference's standing numbers of units -/
def kUs (R : ka_M) : Prop := ∀ u, 1 ≤ u → u ≤ R 9 0 26 → R 78 0 u = 1 → 1 ≤ R 80 0 u ∧ R 80 0 u ≤ R 9 0 15 ∧ R 68 0 (R 80 0 u) = 0 ∧ 0 ≤ R 81 0 u ∧ R 81 0 u < R 70 0 (R 80 0 u)
theorem c78 (hA : kJ A V) (v : kLV V) {m p : Int} (hd : 2 ≤ d) (hm : V 4 m) (h3 : V 23 m) (h4 : V 24 m) (hr : kRc V C (100 + m)) (p0 : 0 ≤ p) (p1 : p < 5) (g0 : 0 ≤ C 20 (100 + m) p) (g1 : C 20 (100 + m) p < 20) (hn : kR (C 21 (100 + m) p - (C 23 m p + C 24 m p))) (hl : kR (C 28 0 (C 20 (100 + m) p))) :
    ka_W (kp E) (d, (78, 0, [some (.ref (A 2 0)), some (.ref (A 4 m)), some (iv p), none, none], []), (kHp J A V C R, c, l)) Q ↔
    Q (.inl none) (kHp J A V (kmu (kmu C 28 0 (C 20 (100 + m) p) (C 28 0 (C 20 (100 + m) p) - (if C 28 0 (C 20 (100 + m) p) < C 21 (100 + m) p - (C 23 m p + C 24 m p) then C 28 0 (C 20 (100 + m) p) else C 21 (100 + m) p - (C 23 m p + C 24 m p)))) 23 m p (C 23 m p + (if C 28 0 (C 20 (100 + m) p) < C 21 (100 + m) p - (C 23 m p + C 24 m p) then C 28 0 (C 20 (100 + m) p) else C 21 (100 + m) p - (C 23 m p + C 24 m p)))) R, c, l) := by
  obtain ⟨r1, r2, r3, r4⟩ := hr
  simp (disch := first | assumption | (unfold kR; decide) | exact klc_R | (unfold kR; omega) | omega | (unfold kL; omega) | exact kcat_null | exact kcat_ref _ | exact kcat_iv _) only [r78_0, r78_1, r78_4, r78_7, r78_8, r78_9, r78_10, r78_11, r78_12, r78_15, r78_16, r78_19, r78_20, r78_21, r78_24, r78_26, r78_27, r78_30, r78_31, r78_32, r78_33, r78_35, r78_36, r78_37, r78_38, r78_41, r78_42, r78_43, r78_44, r78_46, r78_47, r78_48, ho_4_4 hA, hg_4_4 hA, ho_6_2 hA, hg_6_2 hA, hoa_20 hA, hga_20 hA, hpa_20 hA, ht_4 hA, ho_2_2 hA v.l2, hg_2_2 hA v.l2, hoa_28 hA v.l28, hga_28 hA v.l28, hpa_28 hA v.l28, ho_4_5 hA, hg_4_5 hA, hoa_23 hA, hga_23 hA, hpa_23 hA, true_and, and_true, kk1_i, kk1_r, kk1_n, kk1_0, kcat_iv, kcat_ref, kcat_null, kisR_ref, kisR_null, ksz_nil, ksz_iv, ksz_ref, ksz_null, ksz_lv, kfit_int, kfit_long, kfit_obj, kfit_objN, kfit_arr, kfit_arrN, knarI, knarZ0, knarZ1, kret_v, kret_n, kret_x, Nat.reduceAdd, Nat.reduceLeDiff, reduceCtorEq, Int.reduceLE, Int.reduceLT, Int.reduceEq, ite_true, ite_false, true_or, or_true, false_implies, true_implies, not_true_eq_false, not_false_eq_true, and_self, eq_self, klc_lt, klc_ge, klc_le, klc_gt, klc_eq, kmu_eq, kmu_f, kmu_i, kmu_j, c86 hA, show 1 ≤ d by omega, show 1 ≤ d - 1 by omega, Nat.zero_le]
theorem kmu_ii {M : ka_M} {f f' : Nat} {i i' j x : Int} (h : i' ≠ i) : kmu M f i j x f' i' = M f' i' := by
  funext j'
  exact kmu_i h
/-- one unit is taken by the program, too -/
theorem kRF_tk (rw : kRW V X) (F : kRF V C X) {m p g u need : Int} (m0 : 1 ≤ m) (m1 : m ≤ X 9 0 15) (hs : X 68 0 m = 0) (p0 : 0 ≤ p) (p1 : p < X 70 0 m) (u1 : 1 ≤ u) (u2 : u ≤ X 9 0 26) (hn : 0 < need) (h1 : X 77 0 u = g) (h2 : X 78 0 u = 0) (g0 : 0 ≤ g) (g1 : g < 20) :
    kRF V (kmu (kmu (g114 C u m p) 29 0 g (C 29 0 g - 1)) 24 m p (C 24 m p + 1)) (ktk m p g u (X, need)).1 := by
  have e : (ktk m p g u (X, need)) = (kmu (kmu (kmu X 78 0 u 1) 80 0 u m) 81 0 u p, need + -1) := if_pos ⟨hn, h1, h2⟩
  have ud : kUd X (ktk m p g u (X, need)).1 u := ktk_ud (a := (X, need))
  have hu := fun m' p' => khu_u ud u1 u2 m' p'
  have h9 := fun g' => f149_u ud u1 u2 g'
  rw [e] at hu h9 ud ⊢
  dsimp only at hu h9 ud ⊢
  have F' := F
  obtain ⟨F1, F2, F3, F4, F5, F6, F7, F8⟩ := F'
  obtain ⟨y1, y2, y3, y4, y5, y6, y7, y8, y9⟩ := F7 u u1 u2
  have e78 : kmu (kmu (kmu X 78 0 u 1) 80 0 u m) 81 0 u p 78 0 u = 1 := by rw [kmu_f (by decide), kmu_f (by decide), kmu_eq]
  have e80 : kmu (kmu (kmu X 78 0 u 1) 80 0 u m) 81 0 u p 80 0 u = m := by rw [kmu_f (by decide), kmu_eq]
  have e81 : kmu (kmu (kmu X 78 0 u 1) 80 0 u m) 81 0 u p 81 0 u = p := kmu_eq
  refine kRF_unit F u1 u2 (by omega) (fun f a b c' => by rw [kmu_ff c', kmu_ff b, kmu_ff a]) ud (fun f a b c' => ?_) (fun u' a => ?_) (fun j a => ?_) ?_ ?_ ?_ ?_ (fun g' a b => ?_) (fun m' p' a b a' b' z => ?_)
  · unfold g114
    rw [kmu_ff b, kmu_ff c', kmu_ff a, kmu_ff a, kmu_ff a]
  · unfold g114
    rw [kmu_ff (by decide), kmu_ff (by decide), kmu_ii a, kmu_ii a, kmu_ii a]
  · unfold g114
    rw [kmu_f (by decide), kmu_f (by decide), kmu_j (by omega), kmu_j (by omega), kmu_j (by omega)]
  · unfold g114
    rw [e78, kmu_f (by decide), kmu_f (by decide), kmu_j (by decide), kmu_j (by decide), kmu_eq]
  · unfold g114
    rw [e78, if_pos rfl, e80, kmu_f (by decide), kmu_f (by decide), kmu_j (by decide), kmu_eq]
  · unfold g114
    rw [e78, if_pos rfl, e81, kmu_f (by decide), kmu_f (by decide), kmu_eq]
  · unfold g114
    rw [e78, if_neg (by decide), kmu_f (by decide), kmu_f (by decide), kmu_j (by decide), kmu_j (by decide), kmu_j (by decide), y9, if_neg (by omega)]
  · have h9' := h9 g'
    rw [e78, kb_f (show ¬ (X 77 0 u = g' ∧ (1:Int) = 0) by omega)] at h9'
    have F8' := (F8 g' a b).2
    rw [h9', ← F8', kmu_f (by decide)]
    by_cases z : g' = g
    · rw [z, kmu_eq, kb_t ⟨h1, h2⟩]; omega
    · unfold g114
      rw [kmu_j z, kmu_f (by decide), kmu_f (by decide), kmu_f (by decide), kb_f (fun y => z (y.1.symm.trans h1))]
      omega
  · have hu' := hu m' p'
    rw [e78, e80, e81, kb_f (show ¬ (X 78 0 u = 1 ∧ X 80 0 u = m' ∧ X 81 0 u = p') by omega)] at hu'
    have F6' := (F6 m' p' a b a' b').2.2.2.1 z
    rw [hu', ← F6']
    by_cases z : m' = m ∧ p' = p
    · rw [z.1, z.2, kmu_eq, kb_t ⟨rfl, rfl, rfl⟩]; omega
    · rw [kb_f (fun y => z ⟨y.2.1.symm, y.2.2.symm⟩)]
      have e24 : kmu (kmu (g114 C u m p) 29 0 g (C 29 0 g - 1)) 24 m p (C 24 m p + 1) 24 m' p' = C 24 m' p' := by
        unfold kmu g114
        rw [if_neg (fun y => z ⟨y.2.1, y.2.2⟩)]
        rfl
      rw [e24]
      omega
/-- where no loose unit is left, or nothing is needed, taking goes on in vain -/
theorem ktk_vain {m p g : Int} {a : ka_M × Int} : ∀ (n : Nat) (u : Int), (∀ j, u ≤ j → j < u + n → ¬ (0 < a.2 ∧ a.1 77 0 j = g ∧ a.1 78 0 j = 0)) → kfd (ktk m p g) n u a = a
  | 0, u, _ => rfl
  | n + 1, u, H => by
    unfold kfd
    have e : ktk m p g u a = a := if_neg (H u (by omega) (by omega))
    rw [e]
    exact ktk_vain n (u + 1) (fun j a b => H j (by omega) (by omega))
theorem c79_l (hA : kJ A V) (v : kLV V) {m p g : Int} (hd : 3 ≤ d) (p0 : 0 ≤ p) (g0 : 0 ≤ g) (g1 : g < 20) :
    ∀ (n : Nat) (i : Int) (C : ka_M) (a : ka_M × Int) (l5 : Option Value), kRW V a.1 → kRF V C a.1 → 1 ≤ m → m ≤ a.1 9 0 15 → a.1 68 0 m = 0 → p < a.1 70 0 m → a.1 72 0 (5 * m + p) = g → 0 ≤ i → i + n = a.1 9 0 26 → a.2 = C 21 (100 + m) p - (C 23 m p + C 24 m p) → 0 ≤ a.2 → a.2 ≤ 9 →
    (∀ C', kFl C C' → C' 23 = C 23 → C' 28 = C 28 → kRF V C' (kfd (ktk m p g) n (i + 1) a).1 → Q (.inl none) (kHp J A V C' R, c, l)) →
    ka_W (kp E) (d, (79, 13, [some (.ref (A 2 0)), some (.ref (A 4 m)), some (iv p), some (iv g), some (iv i), l5], []), (kHp J A V C R, c, l)) Q
  | n, i, C, a, l5, rw, F, m0, m1, hs, p1, hg, i0, hn, ha, a0, a9, H => by
    have B26 := rw.i26
    have B15 := rw.i15
    have B70 := rw.a70 (j := m) (by omega) (by omega)
    have F' := F
    obtain ⟨F1, F2, F3, F4, F5, F6, F7, F8⟩ := F'
    obtain ⟨M1, M2, M3, M4, M5, M6, M7, M8, M9, M10, M11, M12, M13, M14⟩ := F5 m m0 m1
    obtain ⟨P1, P2, P3, P4, P5⟩ := F6 m p m0 m1 p0 p1
    obtain ⟨r1, r2, r3, r4⟩ := M4
    have hc29 := (F8 g g0 g1).2
    have B149 := f149_b rw g
    have v102 : V 10 2 := v.2.2.2
    by_cases c1 : a.1 9 0 26 ≤ i
    · have e : n = 0 := by omega
      subst e
      have := H C kFl_rfl rfl rfl F
      simp (disch := first | assumption | (unfold kR; decide) | exact klc_R | (unfold kR; omega) | omega | (unfold kL; omega) | exact kcat_null | exact kcat_ref _ | exact kcat_iv _) only [r79_13, r79_15, r79_16, r79_19, r79_22, r79_106, ho_2_1 hA v.l2, hg_2_1 hA v.l2, ht_10 hA, true_and, and_true, kk1_i, kk1_r, kk1_n, kk1_0, kcat_iv, kcat_ref, kcat_null, kisR_ref, kisR_null, ksz_nil, ksz_iv, ksz_ref, ksz_null, ksz_lv, kfit_int, kfit_long, kfit_obj, kfit_objN, kfit_arr, kfit_arrN, knarI, knarZ0, knarZ1, kret_v, kret_n, kret_x, Nat.reduceAdd, Nat.reduceLeDiff, reduceCtorEq, Int.reduceLE, Int.reduceLT, Int.reduceEq, ite_true, ite_false, true_or, or_true, false_implies, true_implies, not_true_eq_false, not_false_eq_true, and_self, eq_self, klc_lt, klc_ge, klc_le, klc_gt, klc_eq, kmu_eq, kmu_f, kmu_i, kmu_j, c180 hA v102, F4, c1, Nat.zero_le, show 1 ≤ d by omega]
      exact this
    · by_cases c2 : C 29 0 g ≤ 0
      · have e : kfd (ktk m p g) n (i + 1) a = a := ktk_vain n (i + 1) (fun j j1 j2 z => by
          have := (kcn_0 (p := fun u => a.1 77 0 u = g ∧ a.1 78 0 u = 0) (a.1 9 0 26).toNat).mp (by show f149 a.1 g = 0; omega) j (by omega) (by omega)
          exact this z.2)
        have := H C kFl_rfl rfl rfl (by rw [e]; exact F)
        simp (disch := first | assumption | (unfold kR; decide) | exact klc_R | (unfold kR; omega) | omega | (unfold kL; omega) | exact kcat_null | exact kcat_ref _ | exact kcat_iv _) only [r79_13, r79_15, r79_16, r79_19, r79_22, r79_25, r79_26, r79_29, r79_30, r79_31, r79_106, ho_2_1 hA v.l2, hg_2_1 hA v.l2, ht_10 hA, ho_2_3 hA v.l2, hg_2_3 hA v.l2, hoa_29 hA v.l29, hga_29 hA v.l29, true_and, and_true, kk1_i, kk1_r, kk1_n, kk1_0, kcat_iv, kcat_ref, kcat_null, kisR_ref, kisR_null, ksz_nil, ksz_iv, ksz_ref, ksz_null, ksz_lv, kfit_int, kfit_long, kfit_obj, kfit_objN, kfit_arr, kfit_arrN, knarI, knarZ0, knarZ1, kret_v, kret_n, kret_x, Nat.reduceAdd, Nat.reduceLeDiff, reduceCtorEq, Int.reduceLE, Int.reduceLT, Int.reduceEq, ite_true, ite_false, true_or, or_true, false_implies, true_implies, not_true_eq_false, not_false_eq_true, and_self, eq_self, klc_lt, klc_ge, klc_le, klc_gt, klc_eq, kmu_eq, kmu_f, kmu_i, kmu_j, c180 hA v102, F4, c1, c2, Nat.zero_le, show 1 ≤ d by omega]
        exact this
      · by_cases c3 : C 21 (100 + m) p - (C 23 m p + C 24 m p) ≤ 0
        · have e : kfd (ktk m p g) n (i + 1) a = a := ktk_vain n (i + 1) (fun j j1 j2 z => by omega)
          have := H C kFl_rfl rfl rfl (by rw [e]; exact F)
          simp (disch := first | assumption | (unfold kR; decide) | exact klc_R | (unfold kR; omega) | omega | (unfold kL; omega) | exact kcat_null | exact kcat_ref _ | exact kcat_iv _) only [r79_13, r79_15, r79_16, r79_19, r79_22, r79_25, r79_26, r79_29, r79_30, r79_31, r79_34, r79_35, r79_36, r79_39, r79_106, ho_2_1 hA v.l2, hg_2_1 hA v.l2, ht_10 hA, ho_2_3 hA v.l2, hg_2_3 hA v.l2, hoa_29 hA v.l29, hga_29 hA v.l29, ht_4 hA, true_and, and_true, kk1_i, kk1_r, kk1_n, kk1_0, kcat_iv, kcat_ref, kcat_null, kisR_ref, kisR_null, ksz_nil, ksz_iv, ksz_ref, ksz_null, ksz_lv, kfit_int, kfit_long, kfit_obj, kfit_objN, kfit_arr, kfit_arrN, knarI, knarZ0, knarZ1, kret_v, kret_n, kret_x, Nat.reduceAdd, Nat.reduceLeDiff, reduceCtorEq, Int.reduceLE, Int.reduceLT, Int.reduceEq, ite_true, ite_false, true_or, or_true, false_implies, true_implies, not_true_eq_false, not_false_eq_true, and_self, eq_self, klc_lt, klc_ge, klc_le, klc_gt, klc_eq, kmu_eq, kmu_f, kmu_i, kmu_j, c180 hA v102, c86 hA, F4, c1, c2, c3, Nat.zero_le, show 1 ≤ d by omega, show 1 ≤ d - 1 by omega]
          exact this
        · cases n with
          | zero => omega
          | succ n =>
            obtain ⟨U1, U2, U3, U4, U5, U6, U7, U8, U9⟩ := F7 (i + 1) (by omega) (by omega)
            rw [Int.add_sub_cancel] at U2
            have B78 := rw.a78 (j := i + 1) (by omega) (by omega)
            have B77 := rw.a77 (j := i + 1) (by omega) (by omega)
            have q182 := fun {Q} => c182_2 (E := E) (d := d - 1) (c := c) (l := l) (Q := Q) (J := J) (R := R) hA v F2 (x := i) (y := i + 1) (by omega) i0 (by omega) U2 (by omega)
            have hstep : kfd (ktk m p g) (n + 1) (i + 1) a = kfd (ktk m p g) n (i + 1 + 1) (ktk m p g (i + 1) a) := rfl
            rw [hstep] at H
            by_cases c4 : a.1 78 0 (i + 1) = 0 ∧ a.1 77 0 (i + 1) = g
            · obtain ⟨c5, c6⟩ := c4
              have T := kRF_tk rw F (m := m) (p := p) (g := g) (u := i + 1) (need := a.2) m0 m1 hs p0 p1 (by omega) (by omega) (by omega) c6 c5 g0 g1
              have o := ktk_o (V := V) (m := m) (p := p) (g := g) (u := i + 1) (a := a) m0 (by omega) p0 (by omega) rw (by omega) (by omega)
              have e : ktk m p g (i + 1) a = (kmu (kmu (kmu a.1 78 0 (i + 1) 1) 80 0 (i + 1) m) 81 0 (i + 1) p, a.2 + -1) := if_pos ⟨by omega, c6, c5⟩
              have e2 : (ktk m p g (i + 1) a).2 = a.2 - 1 := by rw [e]; omega
              have t15 := o.2.1 9 (by decide) (by decide) (by decide) (by decide) (by decide)
              have t68 := o.2.1 68 (by decide) (by decide) (by decide) (by decide) (by decide)
              have t70 := o.2.1 70 (by decide) (by decide) (by decide) (by decide) (by decide)
              have t72 := o.2.1 72 (by decide) (by decide) (by decide) (by decide) (by decide)
              have ih := c79_l hA v hd p0 g0 g1 n (i + 1) (kmu (kmu (g114 C (i + 1) m p) 29 0 g (C 29 0 g - 1)) 24 m p (C 24 m p + 1)) (ktk m p g (i + 1) a) (some (.ref (A 8 (i + 1)))) o.1 T m0 (by rw [t15]; exact m1) (by rw [t68]; exact hs) (by rw [t70]; exact p1) (by rw [t72]; exact hg) (by omega) (by rw [t15]; omega) (by
                unfold g114
                rw [e2, kmu_f (by decide), kmu_f (by decide), kmu_f (by decide), kmu_f (by decide), kmu_f (by decide), kmu_f (by decide), kmu_f (by decide), kmu_f (by decide), kmu_f (by decide), kmu_f (by decide), kmu_eq]
                omega) (by omega) (by omega) (fun C' h1 h2 h3 h4 => H C' (kFl.trans (by
                  unfold g114
                  exact ((((kFl_rfl.mu (by omega)).mu (by omega)).mu (by omega)).mu (by omega)).mu (by omega)) h1) (h2.trans (by unfold g114; rw [kmu_ff (by decide), kmu_ff (by decide), kmu_ff (by decide), kmu_ff (by decide), kmu_ff (by decide)])) (h3.trans (by unfold g114; rw [kmu_ff (by decide), kmu_ff (by decide), kmu_ff (by decide), kmu_ff (by decide), kmu_ff (by decide)])) h4)
              rw [r79_13]
              simp (disch := first | assumption | (unfold kR; decide) | exact klc_R | (unfold kR; omega) | omega | (unfold kL; omega) | exact kcat_null | exact kcat_ref _ | exact kcat_iv _) only [r79_15, r79_16, r79_19, r79_22, r79_25, r79_26, r79_29, r79_30, r79_31, r79_34, r79_35, r79_36, r79_39, r79_42, r79_43, r79_46, r79_48, r79_51, r79_54, r79_56, r79_58, r79_61, r79_64, r79_66, r79_69, r79_70, r79_73, r79_75, r79_76, r79_77, r79_80, r79_81, r79_84, r79_85, r79_86, r79_87, r79_88, r79_89, r79_90, r79_91, r79_94, r79_95, r79_96, r79_97, r79_98, r79_99, r79_100, r79_103, ho_2_1 hA v.l2, hg_2_1 hA v.l2, ht_10 hA, ho_2_3 hA v.l2, hg_2_3 hA v.l2, hoa_29 hA v.l29, hga_29 hA v.l29, hpa_29 hA v.l29, ht_4 hA, ht_8 hA, ho_8_3 hA, hg_8_3 hA, ho_8_1 hA, hg_8_1 hA, ho_4_6 hA, hg_4_6 hA, hoa_24 hA, hga_24 hA, hpa_24 hA, true_and, and_true, kk1_i, kk1_r, kk1_n, kk1_0, kcat_iv, kcat_ref, kcat_null, kisR_ref, kisR_null, ksz_nil, ksz_iv, ksz_ref, ksz_null, ksz_lv, kfit_int, kfit_long, kfit_obj, kfit_objN, kfit_arr, kfit_arrN, knarI, knarZ0, knarZ1, kret_v, kret_n, kret_x, Nat.reduceAdd, Nat.reduceLeDiff, reduceCtorEq, Int.reduceLE, Int.reduceLT, Int.reduceEq, ite_true, ite_false, true_or, or_true, false_implies, true_implies, not_true_eq_false, not_false_eq_true, and_self, eq_self, klc_lt, klc_ge, klc_le, klc_gt, klc_eq, kmu_eq, kmu_f, kmu_i, kmu_j, c180 hA v102, c86 hA, q182, c114 hA U1, F4, c1, c2, c3, U6, U4, c5, c6, Nat.zero_le, show 1 ≤ d by omega, show 1 ≤ d - 1 by omega]
              unfold g114 at ih ⊢
              simp (disch := first | assumption | (unfold kR; decide) | exact klc_R | (unfold kR; omega) | omega | (unfold kL; omega) | exact kcat_null | exact kcat_ref _ | exact kcat_iv _) only [r79_15, r79_16, r79_19, r79_22, r79_25, r79_26, r79_29, r79_30, r79_31, r79_34, r79_35, r79_36, r79_39, r79_42, r79_43, r79_46, r79_48, r79_51, r79_54, r79_56, r79_58, r79_61, r79_64, r79_66, r79_69, r79_70, r79_73, r79_75, r79_76, r79_77, r79_80, r79_81, r79_84, r79_85, r79_86, r79_87, r79_88, r79_89, r79_90, r79_91, r79_94, r79_95, r79_96, r79_97, r79_98, r79_99, r79_100, r79_103, ho_2_1 hA v.l2, hg_2_1 hA v.l2, ht_10 hA, ho_2_3 hA v.l2, hg_2_3 hA v.l2, hoa_29 hA v.l29, hga_29 hA v.l29, hpa_29 hA v.l29, ht_4 hA, ht_8 hA, ho_8_3 hA, hg_8_3 hA, ho_8_1 hA, hg_8_1 hA, ho_4_6 hA, hg_4_6 hA, hoa_24 hA, hga_24 hA, hpa_24 hA, true_and, and_true, kk1_i, kk1_r, kk1_n, kk1_0, kcat_iv, kcat_ref, kcat_null, kisR_ref, kisR_null, ksz_nil, ksz_iv, ksz_ref, ksz_null, ksz_lv, kfit_int, kfit_long, kfit_obj, kfit_objN, kfit_arr, kfit_arrN, knarI, knarZ0, knarZ1, kret_v, kret_n, kret_x, Nat.reduceAdd, Nat.reduceLeDiff, reduceCtorEq, Int.reduceLE, Int.reduceLT, Int.reduceEq, ite_true, ite_false, true_or, or_true, false_implies, true_implies, not_true_eq_false, not_false_eq_true, and_self, eq_self, klc_lt, klc_ge, klc_le, klc_gt, klc_eq, kmu_eq, kmu_f, kmu_i, kmu_j, c1]
              exact ih
            · have e : ktk m p g (i + 1) a = a := if_neg (fun z => c4 ⟨z.2.2, z.2.1⟩)
              rw [e] at H
              have ih := fun l5 => c79_l hA v hd p0 g0 g1 n (i + 1) C a l5 rw F m0 m1 hs p1 hg (by omega) (by omega) ha a0 a9 H
              rw [r79_13]
              by_cases c5 : a.1 78 0 (i + 1) = 0
              · have c6 : ¬ a.1 77 0 (i + 1) = g := fun z => c4 ⟨c5, z⟩
                simp (disch := first | assumption | (unfold kR; decide) | exact klc_R | (unfold kR; omega) | omega | (unfold kL; omega) | exact kcat_null | exact kcat_ref _ | exact kcat_iv _) only [r79_15, r79_16, r79_19, r79_22, r79_25, r79_26, r79_29, r79_30, r79_31, r79_34, r79_35, r79_36, r79_39, r79_42, r79_43, r79_46, r79_48, r79_51, r79_54, r79_56, r79_58, r79_61, r79_64, r79_66, r79_69, r79_70, r79_73, r79_75, r79_76, r79_77, r79_80, r79_81, r79_84, r79_85, r79_86, r79_87, r79_88, r79_89, r79_90, r79_91, r79_94, r79_95, r79_96, r79_97, r79_98, r79_99, r79_100, r79_103, ho_2_1 hA v.l2, hg_2_1 hA v.l2, ht_10 hA, ho_2_3 hA v.l2, hg_2_3 hA v.l2, hoa_29 hA v.l29, hga_29 hA v.l29, hpa_29 hA v.l29, ht_4 hA, ht_8 hA, ho_8_3 hA, hg_8_3 hA, ho_8_1 hA, hg_8_1 hA, ho_4_6 hA, hg_4_6 hA, hoa_24 hA, hga_24 hA, hpa_24 hA, true_and, and_true, kk1_i, kk1_r, kk1_n, kk1_0, kcat_iv, kcat_ref, kcat_null, kisR_ref, kisR_null, ksz_nil, ksz_iv, ksz_ref, ksz_null, ksz_lv, kfit_int, kfit_long, kfit_obj, kfit_objN, kfit_arr, kfit_arrN, knarI, knarZ0, knarZ1, kret_v, kret_n, kret_x, Nat.reduceAdd, Nat.reduceLeDiff, reduceCtorEq, Int.reduceLE, Int.reduceLT, Int.reduceEq, ite_true, ite_false, true_or, or_true, false_implies, true_implies, not_true_eq_false, not_false_eq_true, and_self, eq_self, klc_lt, klc_ge, klc_le, klc_gt, klc_eq, kmu_eq, kmu_f, kmu_i, kmu_j, c180 hA v102, c86 hA, q182, F4, c1, c2, c3, U6, U4, c5, c6, Nat.zero_le, show 1 ≤ d by omega, show 1 ≤ d - 1 by omega]
                exact ih _
              · simp (disch := first | assumption | (unfold kR; decide) | exact klc_R | (unfold kR; omega) | omega | (unfold kL; omega) | exact kcat_null | exact kcat_ref _ | exact kcat_iv _) only [r79_15, r79_16, r79_19, r79_22, r79_25, r79_26, r79_29, r79_30, r79_31, r79_34, r79_35, r79_36, r79_39, r79_42, r79_43, r79_46, r79_48, r79_51, r79_54, r79_56, r79_58, r79_61, r79_64, r79_66, r79_69, r79_70, r79_73, r79_75, r79_76, r79_77, r79_80, r79_81, r79_84, r79_85, r79_86, r79_87, r79_88, r79_89, r79_90, r79_91, r79_94, r79_95, r79_96, r79_97, r79_98, r79_99, r79_100, r79_103, ho_2_1 hA v.l2, hg_2_1 hA v.l2, ht_10 hA, ho_2_3 hA v.l2, hg_2_3 hA v.l2, hoa_29 hA v.l29, hga_29 hA v.l29, hpa_29 hA v.l29, ht_4 hA, ht_8 hA, ho_8_3 hA, hg_8_3 hA, ho_8_1 hA, hg_8_1 hA, ho_4_6 hA, hg_4_6 hA, hoa_24 hA, hga_24 hA, hpa_24 hA, true_and, and_true, kk1_i, kk1_r, kk1_n, kk1_0, kcat_iv, kcat_ref, kcat_null, kisR_ref, kisR_null, ksz_nil, ksz_iv, ksz_ref, ksz_null, ksz_lv, kfit_int, kfit_long, kfit_obj, kfit_objN, kfit_arr, kfit_arrN, knarI, knarZ0, knarZ1, kret_v, kret_n, kret_x, Nat.reduceAdd, Nat.reduceLeDiff, reduceCtorEq, Int.reduceLE, Int.reduceLT, Int.reduceEq, ite_true, ite_false, true_or, or_true, false_implies, true_implies, not_true_eq_false, not_false_eq_true, and_self, eq_self, klc_lt, klc_ge, klc_le, klc_gt, klc_eq, kmu_eq, kmu_f, kmu_i, kmu_j, c180 hA v102, c86 hA, q182, F4, c1, c2, c3, U6, U4, c5, Nat.zero_le, show 1 ≤ d by omega, show 1 ≤ d - 1 by omega]
                exact ih _
end
