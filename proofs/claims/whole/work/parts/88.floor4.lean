/-! The floor: fail, who is first, sums. -/
section
variable {E : Nat × Nat} {d c l : Nat} {s : ka_S} {h : ka_H} {Q : ka_Q} {J : ka_H} {A : ka_A} {V : ka_V} {C R X : ka_M}
theorem kRF_v24 (F : kRF V C X) {m p x : Int} : kRF V (kmu (kmu C 24 m p x) 24 m p (khu X m p)) X := by
  rw [kmu_mu]
  have cc : ∀ f, f ≠ 24 → (kmu C 24 m p (khu X m p)) f = C f := fun f hf => kmu_ff hf
  refine kRF_f F (cc 8 (by decide)) (cc 10 (by decide)) (cc 33 (by decide)) (fun j _ => rfl) rfl rfl rfl rfl rfl (fun m' a b h => h.c (cc 4 (by decide)) (cc 6 (by decide)) (cc 10 (by decide)) (cc 33 (by decide)) rfl rfl rfl rfl rfl rfl rfl) (fun m' p' a b a' b' => ?_) (fun g a b => ?_) (cc 29 (by decide))
  · obtain ⟨y1, y2, y3, y4, y5⟩ := F.2.2.2.2.2.1 m' p' a b a' b'
    unfold kRp
    rw [cc 20 (by decide), cc 21 (by decide), cc 22 (by decide), cc 23 (by decide)]
    refine ⟨y1, y2, y3, fun z => ?_, y5⟩
    by_cases e : m' = m ∧ p' = p
    · rw [e.1, e.2, kmu_eq]
    · rw [← y4 z]
      show (if 24 = 24 ∧ m' = m ∧ p' = p then _ else _) = _
      rw [if_neg (fun w => e ⟨w.2.1, w.2.2⟩)]
  · rw [cc 28 (by decide)]; exact (F.2.2.2.2.2.2.2 g a b).1
theorem kRF_23 (F : kRF V C X) {m p b : Int} (p0 : 0 ≤ p) (p5 : p < 5) (rw : kRW V X) : kRF V (kmu C 23 m p b) (kmu X 75 0 (5 * m + p) b) := by
  have G := (F.2.2.2.2.2.2.2 0 (by omega) (by omega)).1
  have := kRF_pl F (m := m) (p := p) (g := 0) (a := X 55 0 0) (b := b) p0 p5 rw
  have e1 : kmu C 28 0 0 (X 55 0 0) = C := by
    have := kmu_self (M := C) (f := 28) (i := 0) (j := 0)
    rwa [G] at this
  have e2 : kmu X 55 0 0 (X 55 0 0) = X := kmu_self
  rw [e1, e2] at this
  exact this
theorem f160_none {m p : Int} (h26 : 0 ≤ X 9 0 26) : khu (f160 X m p) m p = 0 := by
  have x26 : f160 X m p 9 0 26 = X 9 0 26 := by
    unfold f160
    rw [ksb_ff (by decide) (by decide), kmu_f (by decide)]
  unfold khu
  rw [x26]
  refine (kcn_0 _).mpr (fun j a b w => ?_)
  unfold f160 at w
  by_cases e : 1 ≤ j ∧ j ≤ X 9 0 26 ∧ kbs X m p j
  · rw [ksb_78t e] at w
    omega
  · rw [ksb_78f e, ksb_80f e, ksb_ff (by decide) (by decide), kmu_f (by decide), kmu_f (by decide), kmu_f (by decide)] at w
    exact e ⟨a, by omega, kbs.held j w.1 w.2.1 w.2.2⟩
/-- fail -/
theorem c71 (hA : kJ A V) (v : kLV V) (rw : kRW V X) (hU : kU1 X) (hU2 : kU2 X) (F : kRF V C X) {m p : Int} (hd : 6 ≤ d) (m0 : 1 ≤ m) (m1 : m ≤ X 9 0 15) (p0 : 0 ≤ p) (p1 : p < X 70 0 m) (nd : kND (f160 X m p))
    (H : ∀ C', kFl C C' → kRF V C' (f153 (f160 X m p)) → Q (.inl none) (kHp J A V C' R, c, l)) :
    ka_W (kp E) (d, (71, 0, [some (.ref (A 2 0)), some (.ref (A 4 m)), some (iv p), none, none], []), (kHp J A V C R, c, l)) Q := by
  have B26 := rw.i26
  have B15 := rw.i15
  have B70 := rw.a70 (j := m) (by omega) (by omega)
  obtain ⟨M1, M2, M3, M4, -⟩ := F.2.2.2.2.1 m m0 m1
  have F4 := F.2.2.2.1
  have v102 : V 10 2 := v.2.2.2
  have rw1 : kRW V (kmu X 75 0 (5 * m + p) 0) := rw.pa75 (by omega) (by omega)
  have x26 : kmu X 75 0 (5 * m + p) 0 9 0 26 = X 9 0 26 := kmu_f (by decide)
  have x15 : kmu X 75 0 (5 * m + p) 0 9 0 15 = X 9 0 15 := kmu_f (by decide)
  have hU' : kU1 (kmu X 75 0 (5 * m + p) 0) := hU.cc x26 x15 (kmu_ff (by decide)) (kmu_ff (by decide))
  have hU2' : kU2 (kmu X 75 0 (5 * m + p) 0) := by
    unfold kU2
    rw [x26, kmu_ff (show (78:Nat) ≠ 75 by decide), kmu_ff (show (80:Nat) ≠ 75 by decide)]
    exact hU2
  have L := kRF_v24 (kRF_23 F (m := m) (p := p) (b := 0) p0 (by omega) rw) (m := m) (p := p) (x := 0)
  have e0 : ksb (kmu X 75 0 (5 * m + p) 0) (kbB (kmu X 75 0 (5 * m + p) 0) m p ((X 9 0 26).toNat : Int)) = kmu X 75 0 (5 * m + p) 0 := by
    rw [ksb_c (B' := fun _ => False) (fun j => ⟨fun z => by have h1 := z.1; have h2 := z.2.1; rw [x26] at h2; omega, False.elim⟩), ksb_0]
  have e1 : ksb (kmu X 75 0 (5 * m + p) 0) (kbB (kmu X 75 0 (5 * m + p) 0) m p 0) = f160 X m p := by
    unfold f160
    apply ksb_c
    intro j
    unfold kbB
    rw [x26, kbs_mu]
    constructor
    · rintro ⟨a, b, c'⟩; exact ⟨by omega, b, c'⟩
    · rintro ⟨a, b, c'⟩; exact ⟨by omega, b, c'⟩
  have hend : ∀ C' l4, kFl (kmu (kmu C 23 m p 0) 24 m p 0) C' → C' 24 = kmu (kmu C 23 m p 0) 24 m p 0 24 → kRF V (kmu C' 24 m p (khu (f160 X m p) m p)) (f160 X m p) → ka_W (kp E) (d, (71, 71, [some (.ref (A 2 0)), some (.ref (A 4 m)), some (iv p), some (iv (-1)), l4], []), (kHp J A V C' R, c, l)) Q := by
    intro C' l4 h1 h2 h3
    rw [f160_none B26.1] at h3
    have e2 : C' 24 m p = 0 := by rw [h2, kmu_eq]
    have e3 : kmu C' 24 m p 0 = C' := by
      have := kmu_self (M := C') (f := 24) (i := m) (j := p)
      rwa [e2] at this
    rw [e3] at h3
    have z := c77 (E := E) (d := d - 1) (c := c) (l := l) (J := J) (R := R) (Q := kret E d 71 75 [some (.ref (A 2 0)), some (.ref (A 4 m)), some (iv p), some (iv (-1)), l4] [] Q) hA v (f160_rw rw) h3 nd (by omega) (fun C'' h4 h5 => by
      have := H C'' (kFl.trans ((kFl_rfl.mu (by omega)).mu (by omega)) (h1.trans h4)) h5
      simp (disch := first | assumption | (unfold kR; decide) | exact klc_R | (unfold kR; omega) | omega | (unfold kL; omega) | exact kcat_null | exact kcat_ref _ | exact kcat_iv _) only [r71_75, true_and, and_true, kk1_i, kk1_r, kk1_n, kk1_0, kcat_iv, kcat_ref, kcat_null, kisR_ref, kisR_null, ksz_nil, ksz_iv, ksz_ref, ksz_null, ksz_lv, kfit_int, kfit_long, kfit_obj, kfit_objN, kfit_arr, kfit_arrN, knarI, knarZ0, knarZ1, kret_v, kret_n, kret_x, Nat.reduceAdd, Nat.reduceLeDiff, reduceCtorEq, Int.reduceLE, Int.reduceLT, Int.reduceEq, ite_true, ite_false, true_or, or_true, false_implies, true_implies, not_true_eq_false, not_false_eq_true, and_self, eq_self, klc_lt, klc_ge, klc_le, klc_gt, klc_eq, kmu_eq, kmu_f, kmu_i, kmu_j]
      exact this)
    simp (disch := first | assumption | (unfold kR; decide) | exact klc_R | (unfold kR; omega) | omega | (unfold kL; omega) | exact kcat_null | exact kcat_ref _ | exact kcat_iv _) only [r71_71, r71_72, ht_2 hA v.l2, true_and, and_true, kk1_i, kk1_r, kk1_n, kk1_0, kcat_iv, kcat_ref, kcat_null, kisR_ref, kisR_null, ksz_nil, ksz_iv, ksz_ref, ksz_null, ksz_lv, kfit_int, kfit_long, kfit_obj, kfit_objN, kfit_arr, kfit_arrN, knarI, knarZ0, knarZ1, kret_v, kret_n, kret_x, Nat.reduceAdd, Nat.reduceLeDiff, reduceCtorEq, Int.reduceLE, Int.reduceLT, Int.reduceEq, ite_true, ite_false, true_or, or_true, false_implies, true_implies, not_true_eq_false, not_false_eq_true, and_self, eq_self, klc_lt, klc_ge, klc_le, klc_gt, klc_eq, kmu_eq, kmu_f, kmu_i, kmu_j, Nat.zero_le, show 1 ≤ d by omega]
    exact z
  have z := c71_l (E := E) (d := d) (c := c) (l := l) (Q := Q) (J := J) (R := R) hA v rw1 hU' hU2' (m := m) (p := p) hd m0 (by rw [x15]; exact m1) p0 (by omega) M1 (X 9 0 26).toNat (kmu (kmu C 23 m p 0) 24 m p 0) none (by rw [x26]; omega) (by rw [e0]; exact L) (fun C' h1 h2 h3 => hend C' none h1 h2 (by rw [e1] at h3; exact h3)) (fun C' a h1 h2 h3 => hend C' _ h1 h2 (by rw [e1] at h3; exact h3))
  have e2 : (((X 9 0 26).toNat : Nat) : Int) = X 9 0 26 := by omega
  rw [e2] at z
  simp (disch := first | assumption | (unfold kR; decide) | exact klc_R | (unfold kR; omega) | omega | (unfold kL; omega) | exact kcat_null | exact kcat_ref _ | exact kcat_iv _) only [r71_0, r71_1, r71_4, r71_5, r71_6, r71_7, r71_8, r71_11, r71_12, r71_13, r71_14, r71_15, r71_18, r71_21, r71_22, r71_23, ho_4_5 hA, hg_4_5 hA, hoa_23 hA, hga_23 hA, hpa_23 hA, ho_4_6 hA, hg_4_6 hA, hoa_24 hA, hga_24 hA, hpa_24 hA, ho_2_1 hA v.l2, hg_2_1 hA v.l2, ht_10 hA, true_and, and_true, kk1_i, kk1_r, kk1_n, kk1_0, kcat_iv, kcat_ref, kcat_null, kisR_ref, kisR_null, ksz_nil, ksz_iv, ksz_ref, ksz_null, ksz_lv, kfit_int, kfit_long, kfit_obj, kfit_objN, kfit_arr, kfit_arrN, knarI, knarZ0, knarZ1, kret_v, kret_n, kret_x, Nat.reduceAdd, Nat.reduceLeDiff, reduceCtorEq, Int.reduceLE, Int.reduceLT, Int.reduceEq, ite_true, ite_false, true_or, or_true, false_implies, true_implies, not_true_eq_false, not_false_eq_true, and_self, eq_self, klc_lt, klc_ge, klc_le, klc_gt, klc_eq, kmu_eq, kmu_f, kmu_i, kmu_j, c180 hA v102, F4, Nat.zero_le, show 1 ≤ d by omega]
  exact z
/-- is a making the first open one at its station -/
theorem kas_first {w m : Int} (hs : X 68 0 m = 0) (hw : X 67 0 m = w) : ∀ (n : Nat) (i : Int), i ≤ m → m < i + n → (kas X w n i = m ↔ ∀ j, i ≤ j → j < m → ¬ (X 68 0 j = 0 ∧ X 67 0 j = w))
  | 0, i, h1, h2 => by omega
  | n + 1, i, h1, h2 => by
    unfold kas
    by_cases e : X 68 0 i = 0 ∧ X 67 0 i = w
    · rw [if_pos e]
      constructor
      · intro z j a b; omega
      · intro z
        by_cases y : i = m
        · exact y
        · exact absurd e (z i (Int.le_refl _) (by omega))
    · rw [if_neg e]
      have hne : i ≠ m := fun z => e (by rw [z]; exact ⟨hs, hw⟩)
      rw [kas_first hs hw n (i + 1) (by omega) (by omega)]
      constructor
      · intro z j a b
        by_cases y : j = i
        · rw [y]; exact e
        · exact z j (by omega) b
      · intro z j a b; exact z j (by omega) b
theorem c69_l (hA : kJ A V) (v : kLV V) (rw : kRW V X) (F : kRF V C X) {m : Int} (hd : 3 ≤ d) (m0 : 1 ≤ m) (m1 : m ≤ X 9 0 15) (P : Prop) :
    ∀ (n : Nat) (i : Int) (l3 : Option Value), 0 ≤ i → i + n = m - 1 → (P ↔ ∀ j, i < j → j < m → ¬ (X 68 0 j = 0 ∧ X 67 0 j = X 67 0 m)) →
    (ka_W (kp E) (d, (69, 2, [some (.ref (A 2 0)), some (.ref (A 4 m)), some (iv i), l3], []), (kHp J A V C R, c, l)) Q ↔ Q (.inl (some (iv (kb P)))) (kHp J A V C R, c, l))
  | n, i, l3, i0, hi, hP => by
    have B15 := rw.i15
    have v101 : V 10 1 := v.2.2.1
    obtain ⟨F1, F2, F3, F4, F5, F6, F7, F8⟩ := F
    obtain ⟨M1, M2, M3, M4, M5, M6, M7, M8, M9, M10, M11, M12, M13, M14⟩ := F5 m m0 m1
    have B67m := rw.a67 (j := m) (by omega) (by omega)
    cases n with
    | zero =>
      have : P := hP.mpr (fun j a b => by omega)
      rw [kb_t this]
      simp (disch := first | assumption | (unfold kR; decide) | exact klc_R | (unfold kR; omega) | omega | (unfold kL; omega) | exact kcat_null | exact kcat_ref _ | exact kcat_iv _) only [r69_2, r69_3, r69_4, r69_7, r69_10, r69_13, r69_14, r69_15, r69_18, r69_19, r69_20, r69_61, r69_62, ho_2_0 hA v.l2, hg_2_0 hA v.l2, ht_10 hA, ho_4_0 hA, hg_4_0 hA, true_and, and_true, kk1_i, kk1_r, kk1_n, kk1_0, kcat_iv, kcat_ref, kcat_null, kisR_ref, kisR_null, ksz_nil, ksz_iv, ksz_ref, ksz_null, ksz_lv, kfit_int, kfit_long, kfit_obj, kfit_objN, kfit_arr, kfit_arrN, knarI, knarZ0, knarZ1, kret_v, kret_n, kret_x, Nat.reduceAdd, Nat.reduceLeDiff, reduceCtorEq, Int.reduceLE, Int.reduceLT, Int.reduceEq, ite_true, ite_false, true_or, or_true, false_implies, true_implies, not_true_eq_false, not_false_eq_true, and_self, eq_self, klc_lt, klc_ge, klc_le, klc_gt, klc_eq, kmu_eq, kmu_f, kmu_i, kmu_j, c180 hA v101, F3, M6, show ¬ X 9 0 15 ≤ i by omega, show m - 1 ≤ i by omega, Nat.zero_le, show 1 ≤ d by omega]
    | succ n =>
      obtain ⟨N1, N2, N3, N4, N5, N6, N7, N8, N9, N10, N11, N12, N13, N14⟩ := F5 (i + 1) (by omega) (by omega)
      rw [Int.add_sub_cancel] at N5
      have q182 := fun {Q} => c182_1 (E := E) (d := d - 1) (c := c) (l := l) (Q := Q) (J := J) (R := R) hA v F1 (x := i) (y := i + 1) (by omega) i0 (by omega) N5 (by omega)
      have B68 := rw.a68 (j := i + 1) (by omega) (by omega)
      have B67 := rw.a67 (j := i + 1) (by omega) (by omega)
      rw [r69_2]
      by_cases h1 : X 68 0 (i + 1) = 0
      · by_cases h2 : X 67 0 (i + 1) = X 67 0 m
        · have : ¬ P := fun z => (hP.mp z) (i + 1) (by omega) (by omega) ⟨h1, h2⟩
          rw [kb_f this]
          simp (disch := first | assumption | (unfold kR; decide) | exact klc_R | (unfold kR; omega) | omega | (unfold kL; omega) | exact kcat_null | exact kcat_ref _ | exact kcat_iv _) only [r69_3, r69_4, r69_7, r69_10, r69_13, r69_14, r69_15, r69_18, r69_19, r69_20, r69_23, r69_24, r69_27, r69_28, r69_31, r69_34, r69_35, r69_36, r69_39, r69_42, r69_43, r69_46, r69_47, r69_50, r69_53, r69_54, ho_2_0 hA v.l2, hg_2_0 hA v.l2, ht_10 hA, ho_4_0 hA, hg_4_0 hA, ht_4 hA, ho_4_7 hA, hg_4_7 hA, ho_4_3 hA, hg_4_3 hA, true_and, and_true, kk1_i, kk1_r, kk1_n, kk1_0, kcat_iv, kcat_ref, kcat_null, kisR_ref, kisR_null, ksz_nil, ksz_iv, ksz_ref, ksz_null, ksz_lv, kfit_int, kfit_long, kfit_obj, kfit_objN, kfit_arr, kfit_arrN, knarI, knarZ0, knarZ1, kret_v, kret_n, kret_x, Nat.reduceAdd, Nat.reduceLeDiff, reduceCtorEq, Int.reduceLE, Int.reduceLT, Int.reduceEq, ite_true, ite_false, true_or, or_true, false_implies, true_implies, not_true_eq_false, not_false_eq_true, and_self, eq_self, klc_lt, klc_ge, klc_le, klc_gt, klc_eq, kmu_eq, kmu_f, kmu_i, kmu_j, c180 hA v101, q182, F3, M6, M9, N10, N9, h1, h2, show ¬ X 9 0 15 ≤ i by omega, show ¬ m - 1 ≤ i by omega, Nat.zero_le, show 1 ≤ d by omega]
        · have ih := fun l3 => c69_l hA v rw ⟨F1, F2, F3, F4, F5, F6, F7, F8⟩ hd m0 m1 P n (i + 1) l3 (by omega) (by omega) (by
            rw [hP]
            constructor
            · intro z j a b; exact z j (by omega) b
            · intro z j a b
              by_cases y : j = i + 1
              · rw [y]; exact fun w => h2 w.2
              · exact z j (by omega) b)
          rw [← ih (some (.ref (A 4 (i + 1))))]
          simp (disch := first | assumption | (unfold kR; decide) | exact klc_R | (unfold kR; omega) | omega | (unfold kL; omega) | exact kcat_null | exact kcat_ref _ | exact kcat_iv _) only [r69_3, r69_4, r69_7, r69_10, r69_13, r69_14, r69_15, r69_18, r69_19, r69_20, r69_23, r69_24, r69_27, r69_28, r69_31, r69_34, r69_35, r69_36, r69_39, r69_42, r69_43, r69_46, r69_47, r69_50, r69_53, r69_54, r69_55, r69_58, ho_2_0 hA v.l2, hg_2_0 hA v.l2, ht_10 hA, ho_4_0 hA, hg_4_0 hA, ht_4 hA, ho_4_7 hA, hg_4_7 hA, ho_4_3 hA, hg_4_3 hA, true_and, and_true, kk1_i, kk1_r, kk1_n, kk1_0, kcat_iv, kcat_ref, kcat_null, kisR_ref, kisR_null, ksz_nil, ksz_iv, ksz_ref, ksz_null, ksz_lv, kfit_int, kfit_long, kfit_obj, kfit_objN, kfit_arr, kfit_arrN, knarI, knarZ0, knarZ1, kret_v, kret_n, kret_x, Nat.reduceAdd, Nat.reduceLeDiff, reduceCtorEq, Int.reduceLE, Int.reduceLT, Int.reduceEq, ite_true, ite_false, true_or, or_true, false_implies, true_implies, not_true_eq_false, not_false_eq_true, and_self, eq_self, klc_lt, klc_ge, klc_le, klc_gt, klc_eq, kmu_eq, kmu_f, kmu_i, kmu_j, c180 hA v101, q182, F3, M6, M9, N10, N9, h1, h2, show ¬ X 9 0 15 ≤ i by omega, show ¬ m - 1 ≤ i by omega, Nat.zero_le, show 1 ≤ d by omega]
      · have ih := fun l3 => c69_l hA v rw ⟨F1, F2, F3, F4, F5, F6, F7, F8⟩ hd m0 m1 P n (i + 1) l3 (by omega) (by omega) (by
          rw [hP]
          constructor
          · intro z j a b; exact z j (by omega) b
          · intro z j a b
            by_cases y : j = i + 1
            · rw [y]; exact fun w => h1 w.1
            · exact z j (by omega) b)
        rw [← ih (some (.ref (A 4 (i + 1))))]
        simp (disch := first | assumption | (unfold kR; decide) | exact klc_R | (unfold kR; omega) | omega | (unfold kL; omega) | exact kcat_null | exact kcat_ref _ | exact kcat_iv _) only [r69_3, r69_4, r69_7, r69_10, r69_13, r69_14, r69_15, r69_18, r69_19, r69_20, r69_23, r69_24, r69_27, r69_28, r69_31, r69_34, r69_35, r69_36, r69_39, r69_42, r69_43, r69_46, r69_47, r69_50, r69_53, r69_54, r69_55, r69_58, ho_2_0 hA v.l2, hg_2_0 hA v.l2, ht_10 hA, ho_4_0 hA, hg_4_0 hA, ht_4 hA, ho_4_7 hA, hg_4_7 hA, ho_4_3 hA, hg_4_3 hA, true_and, and_true, kk1_i, kk1_r, kk1_n, kk1_0, kcat_iv, kcat_ref, kcat_null, kisR_ref, kisR_null, ksz_nil, ksz_iv, ksz_ref, ksz_null, ksz_lv, kfit_int, kfit_long, kfit_obj, kfit_objN, kfit_arr, kfit_arrN, knarI, knarZ0, knarZ1, kret_v, kret_n, kret_x, Nat.reduceAdd, Nat.reduceLeDiff, reduceCtorEq, Int.reduceLE, Int.reduceLT, Int.reduceEq, ite_true, ite_false, true_or, or_true, false_implies, true_implies, not_true_eq_false, not_false_eq_true, and_self, eq_self, klc_lt, klc_ge, klc_le, klc_gt, klc_eq, kmu_eq, kmu_f, kmu_i, kmu_j, c180 hA v101, q182, F3, M6, N10, h1, show ¬ X 9 0 15 ≤ i by omega, show ¬ m - 1 ≤ i by omega, Nat.zero_le, show 1 ≤ d by omega]
theorem c69 (hA : kJ A V) (v : kLV V) (rw : kRW V X) (F : kRF V C X) {m : Int} (hd : 3 ≤ d) (m0 : 1 ≤ m) (m1 : m ≤ X 9 0 15) (hs : X 68 0 m = 0) :
    ka_W (kp E) (d, (69, 0, [some (.ref (A 2 0)), some (.ref (A 4 m)), none, none], []), (kHp J A V C R, c, l)) Q ↔ Q (.inl (some (iv (kb (f159 X (X 67 0 m) = m))))) (kHp J A V C R, c, l) := by
  have B15 := rw.i15
  have z := c69_l (E := E) (d := d) (c := c) (l := l) (Q := Q) (J := J) (R := R) hA v rw F hd m0 m1 (f159 X (X 67 0 m) = m) (m - 1).toNat 0 none (by omega) (by omega) (by
    unfold f159
    rw [kas_first hs rfl (X 9 0 15).toNat 1 m0 (by omega)]
    constructor
    · intro z j a b; exact z j (by omega) b
    · intro z j a b; exact z j (by omega) b)
  rw [← z]
  simp (disch := first | assumption | (unfold kR; decide) | exact klc_R | (unfold kR; omega) | omega | (unfold kL; omega) | exact kcat_null | exact kcat_ref _ | exact kcat_iv _) only [r69_0, r69_1, true_and, and_true, kk1_i, kk1_r, kk1_n, kk1_0, kcat_iv, kcat_ref, kcat_null, kisR_ref, kisR_null, ksz_nil, ksz_iv, ksz_ref, ksz_null, ksz_lv, kfit_int, kfit_long, kfit_obj, kfit_objN, kfit_arr, kfit_arrN, knarI, knarZ0, knarZ1, kret_v, kret_n, kret_x, Nat.reduceAdd, Nat.reduceLeDiff, reduceCtorEq, Int.reduceLE, Int.reduceLT, Int.reduceEq, ite_true, ite_false, true_or, or_true, false_implies, true_implies, not_true_eq_false, not_false_eq_true, and_self, eq_self, klc_lt, klc_ge, klc_le, klc_gt, klc_eq, kmu_eq, kmu_f, kmu_i, kmu_j]
/-- sums over a making's parts -/
theorem c87 (hA : kJ A V) (v : kLV V) (rw : kRW V X) (F : kRF V C X) {m : Int} (hd : 2 ≤ d) (m0 : 1 ≤ m) (m1 : m ≤ X 9 0 15) (hs : X 68 0 m = 0) :
    ka_W (kp E) (d, (87, 0, [some (.ref (A 4 m)), none, none], []), (kHp J A V C R, c, l)) Q ↔ Q (.inl (some (iv (f168 X m 4)))) (kHp J A V C R, c, l) := by
  have B15 := rw.i15
  have B70 := rw.a70 (j := m) (by omega) (by omega)
  obtain ⟨F1, F2, F3, F4, F5, F6, F7, F8⟩ := F
  obtain ⟨M1, M2, M3, ⟨r1, r2, r3, r4⟩, M5, M6, M7, M8, M9, M10, M11, M12, M13, M14⟩ := F5 m m0 m1
  obtain ⟨w, -⟩ := kfor (n := X 70 0 m) (f := kms X m 4) (inv := fun p _ => 0 ≤ p) (W := fun p s => ka_W (kp E) (d, (87, 4, [some (.ref (A 4 m)), some (iv s), some (iv p)], []), (kHp J A V C R, c, l)) Q) (fun p s hp p0 => by
    refine ⟨by omega, ?_⟩
    obtain ⟨P1, P2, P3, P4, P5⟩ := F6 m p m0 m1 p0 (by omega)
    have P4' := P4 hs
    have P5' := P5 (fun z => by omega)
    have q := fun {Q} => c85 (E := E) (d := d - 1) (c := c) (l := l) (Q := Q) (J := J) (C := C) (R := R) hA (m := m) (p := p) M1 M2 M3 p0 (by omega)
    rw [P4', P5'] at q
    have e : kms X m 4 p s = s + (X 75 0 (5 * m + p) + khu X m p) := rfl
    rw [e, r87_4]
    simp (disch := first | assumption | (unfold kR; decide) | exact klc_R | (unfold kR; omega) | omega | (unfold kL; omega) | exact kcat_null | exact kcat_ref _ | exact kcat_iv _) only [r87_5, r87_6, r87_9, r87_12, r87_15, r87_16, r87_17, r87_18, r87_21, r87_22, r87_23, r87_26, ho_4_4 hA, hg_4_4 hA, ho_6_5 hA, hg_6_5 hA, ht_4 hA, true_and, and_true, kk1_i, kk1_r, kk1_n, kk1_0, kcat_iv, kcat_ref, kcat_null, kisR_ref, kisR_null, ksz_nil, ksz_iv, ksz_ref, ksz_null, ksz_lv, kfit_int, kfit_long, kfit_obj, kfit_objN, kfit_arr, kfit_arrN, knarI, knarZ0, knarZ1, kret_v, kret_n, kret_x, Nat.reduceAdd, Nat.reduceLeDiff, reduceCtorEq, Int.reduceLE, Int.reduceLT, Int.reduceEq, ite_true, ite_false, true_or, or_true, false_implies, true_implies, not_true_eq_false, not_false_eq_true, and_self, eq_self, klc_lt, klc_ge, klc_le, klc_gt, klc_eq, kmu_eq, kmu_f, kmu_i, kmu_j, q, M13, show ¬ X 70 0 m ≤ p by omega, Nat.zero_le, show 1 ≤ d by omega]) (X 70 0 m).toNat 0 0 (by omega) (by omega)
  have e : f168 X m 4 = kfd (kms X m 4) (X 70 0 m).toNat 0 0 := by
    unfold f168
    rw [if_neg (by decide), if_neg (by decide), if_neg (by decide), if_neg (by decide), if_neg (by decide), if_pos hs]
  rw [e]
  have w2 := w.trans (show _ ↔ Q (.inl (some (iv (kfd (kms X m 4) (X 70 0 m).toNat 0 0)))) (kHp J A V C R, c, l) by
    rw [r87_4]
    simp (disch := first | assumption | (unfold kR; decide) | exact klc_R | (unfold kR; omega) | omega | (unfold kL; omega) | exact kcat_null | exact kcat_ref _ | exact kcat_iv _) only [r87_5, r87_6, r87_9, r87_12, r87_29, r87_30, ho_4_4 hA, hg_4_4 hA, ho_6_5 hA, hg_6_5 hA, true_and, and_true, kk1_i, kk1_r, kk1_n, kk1_0, kcat_iv, kcat_ref, kcat_null, kisR_ref, kisR_null, ksz_nil, ksz_iv, ksz_ref, ksz_null, ksz_lv, kfit_int, kfit_long, kfit_obj, kfit_objN, kfit_arr, kfit_arrN, knarI, knarZ0, knarZ1, kret_v, kret_n, kret_x, Nat.reduceAdd, Nat.reduceLeDiff, reduceCtorEq, Int.reduceLE, Int.reduceLT, Int.reduceEq, ite_true, ite_false, true_or, or_true, false_implies, true_implies, not_true_eq_false, not_false_eq_true, and_self, eq_self, klc_lt, klc_ge, klc_le, klc_gt, klc_eq, kmu_eq, kmu_f, kmu_i, kmu_j, M13, Int.le_refl])
  rw [← w2]
  simp (disch := first | assumption | (unfold kR; decide) | exact klc_R | (unfold kR; omega) | omega | (unfold kL; omega) | exact kcat_null | exact kcat_ref _ | exact kcat_iv _) only [r87_0, r87_1, r87_2, r87_3, true_and, and_true, kk1_i, kk1_r, kk1_n, kk1_0, kcat_iv, kcat_ref, kcat_null, kisR_ref, kisR_null, ksz_nil, ksz_iv, ksz_ref, ksz_null, ksz_lv, kfit_int, kfit_long, kfit_obj, kfit_objN, kfit_arr, kfit_arrN, knarI, knarZ0, knarZ1, kret_v, kret_n, kret_x, Nat.reduceAdd, Nat.reduceLeDiff, reduceCtorEq, Int.reduceLE, Int.reduceLT, Int.reduceEq, ite_true, ite_false, true_or, or_true, false_implies, true_implies, not_true_eq_false, not_false_eq_true, and_self, eq_self, klc_lt, klc_ge, klc_le, klc_gt, klc_eq, kmu_eq, kmu_f, kmu_i, kmu_j]
theorem c88 (hA : kJ A V) (v : kLV V) (rw : kRW V X) (F : kRF V C X) {m : Int} (hd : 3 ≤ d) (m0 : 1 ≤ m) (m1 : m ≤ X 9 0 15) (hs : X 68 0 m = 0) :
    ka_W (kp E) (d, (88, 0, [some (.ref (A 4 m)), none, none], []), (kHp J A V C R, c, l)) Q ↔ Q (.inl (some (iv (f168 X m 5)))) (kHp J A V C R, c, l) := by
  have B15 := rw.i15
  have B70 := rw.a70 (j := m) (by omega) (by omega)
  obtain ⟨F1, F2, F3, F4, F5, F6, F7, F8⟩ := F
  obtain ⟨M1, M2, M3, ⟨r1, r2, r3, r4⟩, M5, M6, M7, M8, M9, M10, M11, M12, M13, M14⟩ := F5 m m0 m1
  obtain ⟨w, -⟩ := kfor (n := X 70 0 m) (f := kms X m 5) (inv := fun p _ => 0 ≤ p) (W := fun p s => ka_W (kp E) (d, (88, 4, [some (.ref (A 4 m)), some (iv s), some (iv p)], []), (kHp J A V C R, c, l)) Q) (fun p s hp p0 => by
    refine ⟨by omega, ?_⟩
    obtain ⟨P1, P2, P3, P4, P5⟩ := F6 m p m0 m1 p0 (by omega)
    have P4' := P4 hs
    have P5' := P5 (fun z => by omega)
    have q := fun {Q} => c86 (E := E) (d := d - 1) (c := c) (l := l) (Q := Q) (J := J) (C := C) (R := R) hA (m := m) (p := p) (by omega) M1 r1 r3 M2 M3 p0 (by omega)
    rw [P2, P4', P5'] at q
    have e : kms X m 5 p s = s + (X 73 0 (5 * m + p) - (X 75 0 (5 * m + p) + khu X m p)) := rfl
    rw [e, r88_4]
    simp (disch := first | assumption | (unfold kR; decide) | exact klc_R | (unfold kR; omega) | omega | (unfold kL; omega) | exact kcat_null | exact kcat_ref _ | exact kcat_iv _) only [r88_5, r88_6, r88_9, r88_12, r88_15, r88_16, r88_17, r88_18, r88_21, r88_22, r88_23, r88_26, ho_4_4 hA, hg_4_4 hA, ho_6_5 hA, hg_6_5 hA, ht_4 hA, true_and, and_true, kk1_i, kk1_r, kk1_n, kk1_0, kcat_iv, kcat_ref, kcat_null, kisR_ref, kisR_null, ksz_nil, ksz_iv, ksz_ref, ksz_null, ksz_lv, kfit_int, kfit_long, kfit_obj, kfit_objN, kfit_arr, kfit_arrN, knarI, knarZ0, knarZ1, kret_v, kret_n, kret_x, Nat.reduceAdd, Nat.reduceLeDiff, reduceCtorEq, Int.reduceLE, Int.reduceLT, Int.reduceEq, ite_true, ite_false, true_or, or_true, false_implies, true_implies, not_true_eq_false, not_false_eq_true, and_self, eq_self, klc_lt, klc_ge, klc_le, klc_gt, klc_eq, kmu_eq, kmu_f, kmu_i, kmu_j, q, M13, show ¬ X 70 0 m ≤ p by omega, Nat.zero_le, show 1 ≤ d by omega]) (X 70 0 m).toNat 0 0 (by omega) (by omega)
  have e : f168 X m 5 = kfd (kms X m 5) (X 70 0 m).toNat 0 0 := by
    unfold f168
    rw [if_neg (by decide), if_neg (by decide), if_neg (by decide), if_neg (by decide), if_neg (by decide), if_pos hs]
  rw [e]
  have w2 := w.trans (show _ ↔ Q (.inl (some (iv (kfd (kms X m 5) (X 70 0 m).toNat 0 0)))) (kHp J A V C R, c, l) by
    rw [r88_4]
    simp (disch := first | assumption | (unfold kR; decide) | exact klc_R | (unfold kR; omega) | omega | (unfold kL; omega) | exact kcat_null | exact kcat_ref _ | exact kcat_iv _) only [r88_5, r88_6, r88_9, r88_12, r88_29, r88_30, ho_4_4 hA, hg_4_4 hA, ho_6_5 hA, hg_6_5 hA, true_and, and_true, kk1_i, kk1_r, kk1_n, kk1_0, kcat_iv, kcat_ref, kcat_null, kisR_ref, kisR_null, ksz_nil, ksz_iv, ksz_ref, ksz_null, ksz_lv, kfit_int, kfit_long, kfit_obj, kfit_objN, kfit_arr, kfit_arrN, knarI, knarZ0, knarZ1, kret_v, kret_n, kret_x, Nat.reduceAdd, Nat.reduceLeDiff, reduceCtorEq, Int.reduceLE, Int.reduceLT, Int.reduceEq, ite_true, ite_false, true_or, or_true, false_implies, true_implies, not_true_eq_false, not_false_eq_true, and_self, eq_self, klc_lt, klc_ge, klc_le, klc_gt, klc_eq, kmu_eq, kmu_f, kmu_i, kmu_j, M13, Int.le_refl])
  rw [← w2]
  simp (disch := first | assumption | (unfold kR; decide) | exact klc_R | (unfold kR; omega) | omega | (unfold kL; omega) | exact kcat_null | exact kcat_ref _ | exact kcat_iv _) only [r88_0, r88_1, r88_2, r88_3, true_and, and_true, kk1_i, kk1_r, kk1_n, kk1_0, kcat_iv, kcat_ref, kcat_null, kisR_ref, kisR_null, ksz_nil, ksz_iv, ksz_ref, ksz_null, ksz_lv, kfit_int, kfit_long, kfit_obj, kfit_objN, kfit_arr, kfit_arrN, knarI, knarZ0, knarZ1, kret_v, kret_n, kret_x, Nat.reduceAdd, Nat.reduceLeDiff, reduceCtorEq, Int.reduceLE, Int.reduceLT, Int.reduceEq, ite_true, ite_false, true_or, or_true, false_implies, true_implies, not_true_eq_false, not_false_eq_true, and_self, eq_self, klc_lt, klc_ge, klc_le, klc_gt, klc_eq, kmu_eq, kmu_f, kmu_i, kmu_j]
end
