/-! A making is done: the walk. -/
section
variable {E : Nat × Nat} {d c l : Nat} {s : ka_S} {h : ka_H} {Q : ka_Q} {J : ka_H} {A A' : ka_A} {V V' : ka_V} {C C' C1 C2 R X X' : ka_M}
theorem c108 (hA : kJ A V) {a : Nat} {n m : Int} (ha : koff A V a) (hm : V 4 m) (hd : 1 ≤ d)
    (H : Q (.inl none) (kHp (ka_up J a (8, [iv n, iv (C 4 m 2), .ref (A 4 m), iv 0, .null, iv (-1), .null])) A V C R, c, l)) :
    ka_W (kp E) (d, (108, 0, [some (.ref a), some (iv n), some (.ref (A 4 m))], []), (kHp (ka_up J a (8, [iv 0, iv 0, .null, iv 0, .null, iv 0, .null])) A V C R, c, l)) Q := by
  simp (disch := first | assumption | (unfold kR; decide) | exact klc_R | (unfold kR; omega) | omega | (unfold kL; omega) | exact kcat_null | exact kcat_ref _ | exact kcat_iv _) only [r108_0, r108_0n, r108_1, r108_4, r108_4n, r108_5, r108_6, r108_9, r108_9n, r108_10, r108_10n, r108_11, r108_14, r108_17, r108_17n, r108_18, r108_18n, r108_19, r108_22, r108_22n, r108_23, r108_24, r108_27, r108_27n, r108_28, r108_29, r108_32, r108_32n, r108_33, r108_34, r108_37, r108_37n, r108_38, r108_39, r108_42, ho_8_0 hA, hp_8_0 hA, ho_4_2 hA, hg_4_2 hA, ho_8_1 hA, hp_8_1 hA, ho_8_2 hA, hp_8_2 hA, hpn_8_2 hA, ho_8_3 hA, hp_8_3 hA, ho_8_4 hA, hp_8_4 hA, hpn_8_4 hA, ho_8_5 hA, hp_8_5 hA, ho_8_6 hA, hp_8_6 hA, hpn_8_6 hA, true_and, and_true, kk1_i, kk1_r, kk1_n, kk1_0, kcat_iv, kcat_ref, kcat_null, kisR_ref, kisR_null, ksz_nil, ksz_iv, ksz_ref, ksz_null, ksz_lv, kfit_int, kfit_long, kfit_obj, kfit_objN, kfit_arr, kfit_arrN, knarI, knarZ0, knarZ1, kret_v, kret_n, kret_x, Nat.reduceAdd, Nat.reduceLeDiff, reduceCtorEq, Int.reduceLE, Int.reduceLT, Int.reduceEq, ite_true, ite_false, true_or, or_true, false_implies, true_implies, not_true_eq_false, not_false_eq_true, and_self, eq_self, klc_lt, klc_ge, klc_le, klc_gt, klc_eq, kmu_eq, kmu_f, kmu_i, kmu_j, ho_4_2 hA hm, hg_4_2 hA hm, kok_off ha, kHp_kupo ha, kok_up, kup_up, List.set_cons_zero, List.set_cons_succ, List.length_cons, List.length_nil, Nat.reduceAdd, Nat.reduceLT, Nat.zero_le, hd]
  exact H
theorem krole_u (hA : kJ A V) {a : Nat} {w g m : Int} (ha : koff A V a) (m0 : 0 ≤ m) (h8 : ¬ V 8 w) (hp : knp V C R 8 w) (hJ : J a = some (8, [iv w, iv g, .ref (A 4 m), iv 0, .null, iv (-1), .null])) :
    ∃ A', kJ A' (kVu V w) ∧ A' 8 w = a ∧ (∀ f j, V f j → A' f j = A f j) ∧ kHp J A V C R = kHp J A' (kVu V w) (kCu C w g m) R := by
  obtain ⟨A1, x1, x2, x3, x4⟩ := kHp_new (J := J) (C := C) (R := R) (f := 8) (i := w) (a := a) (g := fun q => if q = 0 then w else if q = 1 then g else if q = 2 then m else if q = 3 then 0 else -1) hA ha h8 hp rfl (by
    rw [hJ]
    show some (8, [iv w, iv g, .ref (A 4 m), iv 0, .null, iv (-1), .null]) = some (8, [iv w, iv g, kre A (if m < 0 then none else some (4, m)), iv 0, .null, iv (-1), .null])
    rw [if_neg (by omega)]
    rfl) (fun j hj hh => by
      rcases ktgt_inv hh rfl (by decide) with z | z | ⟨-, z, -, z3⟩ | z | z | z | z | z | z
      · omega
      · omega
      · rw [z3] at z
        exact absurd z (by show ¬ ((-1:Int) = w) ; intro y; rw [z3] at hh; rw [← y] at hh; exact absurd hh (by intro hh2; cases hh2))
      · omega
      · omega
      · omega
      · omega
      · omega
      · omega) (V' := kVu V w) (fun _ _ => Iff.rfl)
  refine ⟨A1, x3, x1, fun f j hv => x2 f j (fun z => h8 (z.1 ▸ z.2 ▸ hv)), ?_⟩
  rw [x4]
  rfl
theorem c72_l (hA : kJ A V) (v : kLV V) (rw : kRW V X) (F2 : kLs V C 2) (F4 : C 10 2 1 = X 9 0 26) (F7 : ∀ u, 1 ≤ u → u ≤ X 9 0 26 → kRu V C X u) (hU : kU1 X) {m w : Int} (hd : 3 ≤ d) (m0 : 1 ≤ m) (hm : V 4 m) (hw : X 9 0 26 < w) (hV : ∀ u, 1 ≤ u → u ≤ X 9 0 15 → V 4 u) :
    ∀ (n : Nat) (i : Int) (C1 : ka_M) (l4 : Option Value), 0 ≤ i → i + n = X 9 0 26 → kBd C C1 X m w i →
    (∀ C', kBd C C' X m w (X 9 0 26) → ka_W (kp E) (d, (72, 65, [some (.ref (A 2 0)), some (.ref (A 4 m)), some (.ref (A 8 w)), some (iv (X 9 0 26)), l4], []), (kHp J A V C' R, c, l)) Q) →
    (∀ C' a, kBd C C' X m w (X 9 0 26) → ka_W (kp E) (d, (72, 65, [some (.ref (A 2 0)), some (.ref (A 4 m)), some (.ref (A 8 w)), some (iv (X 9 0 26)), some (.ref a)], []), (kHp J A V C' R, c, l)) Q) →
    ka_W (kp E) (d, (72, 20, [some (.ref (A 2 0)), some (.ref (A 4 m)), some (.ref (A 8 w)), some (iv i), l4], []), (kHp J A V C1 R, c, l)) Q
  | n, i, C1, l4, i0, hn, hb, H1, H2 => by
    have B26 := rw.i26
    have hb' := hb
    obtain ⟨b1, b2⟩ := hb'
    have e10 : C1 10 = C 10 := b1 10 (by decide)
    have e33 : C1 33 = C 33 := b1 33 (by decide)
    have v102 := v.2.2.2
    have es : C1 10 2 1 = X 9 0 26 := by rw [e10]; exact F4
    cases n with
    | zero =>
      have : i = X 9 0 26 := by omega
      subst this
      have := H1 C1 hb
      rw [r72_20]
      simp (disch := first | assumption | (unfold kR; decide) | exact klc_R | (unfold kR; omega) | omega | (unfold kL; omega) | exact kcat_null | exact kcat_ref _ | exact kcat_iv _) only [r72_21, r72_22, r72_25, r72_28, ho_2_1 hA v.l2, hg_2_1 hA v.l2, ht_10 hA, true_and, and_true, kk1_i, kk1_r, kk1_n, kk1_0, kcat_iv, kcat_ref, kcat_null, kisR_ref, kisR_null, ksz_nil, ksz_iv, ksz_ref, ksz_null, ksz_lv, kfit_int, kfit_long, kfit_obj, kfit_objN, kfit_arr, kfit_arrN, knarI, knarZ0, knarZ1, kret_v, kret_n, kret_x, Nat.reduceAdd, Nat.reduceLeDiff, reduceCtorEq, Int.reduceLE, Int.reduceLT, Int.reduceEq, ite_true, ite_false, true_or, or_true, false_implies, true_implies, not_true_eq_false, not_false_eq_true, and_self, eq_self, klc_lt, klc_ge, klc_le, klc_gt, klc_eq, kmu_eq, kmu_f, kmu_i, kmu_j, c180 hA v102, es, Int.le_refl, Nat.zero_le, show 1 ≤ d by omega]
      exact this
    | succ n =>
      obtain ⟨z1, z2, z3, z4, z5, z6, z7, z8, z9⟩ := F7 (i + 1) (by omega) (by omega)
      have ei : i + 1 - 1 = i := by omega
      rw [ei] at z2
      have q182 := fun {Q} => c182_2 (E := E) (d := d - 1) (c := c) (l := l) (Q := Q) (J := J) (R := R) (C := C1) hA v (F2.c e10 e33) (x := i) (y := i + 1) (by omega) i0 (by rw [es]; omega) (by rw [e10, e33]; exact z2) (by omega)
      have e8 : C1 8 (i + 1) = C 8 (i + 1) := (b2 (i + 1)).1 (fun y => by omega)
      have e84 : C1 8 (i + 1) 4 = if X 78 0 (i + 1) = 1 then X 80 0 (i + 1) else -1 := by rw [e8]; exact z7
      have q110 := fun {Q} => c110 (E := E) (d := d - 1) (c := c) (l := l) (Q := Q) (J := J) (R := R) (C := C1) hA (u := i + 1) (m := m) z1 hm (by omega) (fun y => by
        rw [e84] at y ⊢
        split
        · have := hU (i + 1) (by omega) (by omega) (by assumption)
          exact hV _ this.1 this.2
        · rename_i q; rw [if_neg q] at y; omega)
      rw [r72_20]
      by_cases hh : X 78 0 (i + 1) = 1 ∧ X 80 0 (i + 1) = m
      · have e84' : C1 8 (i + 1) 4 = m := by rw [e84, if_pos hh.1]; exact hh.2
        obtain ⟨o1, o2, o3, o4, o5, o6, o7⟩ := g116_o (C := C1) (u := i + 1) (x := 2)
        have nb : kBd C (kmu (g116 C1 (i + 1) 2) 8 (i + 1) 6 w) X m w (i + 1) := by
          refine ⟨fun f hf => by rw [kmu_ff hf, o1 f hf]; exact b1 f hf, fun u => ⟨fun y => ?_, fun y1 y2 y3 y4 => ?_⟩⟩
          · have hne : u ≠ i + 1 := fun e => y ⟨by omega, by omega, by rw [e]; exact hh.1, by rw [e]; exact hh.2⟩
            have : kmu (g116 C1 (i + 1) 2) 8 (i + 1) 6 w 8 u = C1 8 u := by
              funext j
              rw [kmu_i hne, o2 u hne]
            rw [this]
            exact (b2 u).1 (fun t => y ⟨t.1, by omega, t.2.2⟩)
          · by_cases e : u = i + 1
            · subst e
              refine ⟨fun j hj => by rw [kmu_j (by omega), o3 j hj, e8], by rw [kmu_j (by decide)]; exact o4, by rw [kmu_j (by decide)]; exact o5, by rw [kmu_j (by decide)]; exact o6, kmu_eq⟩
            · have : kmu (g116 C1 (i + 1) 2) 8 (i + 1) 6 w 8 u = C1 8 u := by
                funext j
                rw [kmu_i e, o2 u e]
              rw [this]
              exact (b2 u).2 y1 (by omega) y3 y4
        have ih := c72_l hA v rw F2 F4 F7 hU hd m0 hm hw hV n (i + 1) _ (some (.ref (A 8 (i + 1)))) (by omega) (by omega) nb (fun C' t => H2 C' _ t) H2
        simp (disch := first | assumption | (unfold kR; decide) | exact klc_R | (unfold kR; omega) | omega | (unfold kL; omega) | exact kcat_null | exact kcat_ref _ | exact kcat_iv _) only [r72_21, r72_22, r72_25, r72_28, r72_31, r72_32, r72_35, r72_36, r72_39, r72_42, r72_44, r72_46, r72_47, r72_50, r72_53, r72_55, r72_56, r72_59, r72_62, ho_2_1 hA v.l2, hg_2_1 hA v.l2, ht_10 hA, ht_8 hA, true_and, and_true, kk1_i, kk1_r, kk1_n, kk1_0, kcat_iv, kcat_ref, kcat_null, kisR_ref, kisR_null, ksz_nil, ksz_iv, ksz_ref, ksz_null, ksz_lv, kfit_int, kfit_long, kfit_obj, kfit_objN, kfit_arr, kfit_arrN, knarI, knarZ0, knarZ1, kret_v, kret_n, kret_x, Nat.reduceAdd, Nat.reduceLeDiff, reduceCtorEq, Int.reduceLE, Int.reduceLT, Int.reduceEq, ite_true, ite_false, true_or, or_true, false_implies, true_implies, not_true_eq_false, not_false_eq_true, and_self, eq_self, klc_lt, klc_ge, klc_le, klc_gt, klc_eq, kmu_eq, kmu_f, kmu_i, kmu_j, c180 hA v102, es, q182, q110, e84', c115 hA, show ¬ X 9 0 26 ≤ i by omega, show ¬ (1:Int) = 0 by decide, Nat.zero_le, show 1 ≤ d by omega]
        exact ih
      · have e84' : ¬ C1 8 (i + 1) 4 = m := by
          rw [e84]
          split
          · rename_i q; exact fun y => hh ⟨q, y⟩
          · omega
        have nb : kBd C C1 X m w (i + 1) := by
          refine ⟨b1, fun u => ⟨fun y => ?_, fun y1 y2 y3 y4 => ?_⟩⟩
          · exact (b2 u).1 (fun t => y ⟨t.1, by omega, t.2.2⟩)
          · by_cases e : u = i + 1
            · subst e; exact absurd ⟨y3, y4⟩ hh
            · exact (b2 u).2 y1 (by omega) y3 y4
        have ih := c72_l hA v rw F2 F4 F7 hU hd m0 hm hw hV n (i + 1) _ (some (.ref (A 8 (i + 1)))) (by omega) (by omega) nb (fun C' t => H2 C' _ t) H2
        simp (disch := first | assumption | (unfold kR; decide) | exact klc_R | (unfold kR; omega) | omega | (unfold kL; omega) | exact kcat_null | exact kcat_ref _ | exact kcat_iv _) only [r72_21, r72_22, r72_25, r72_28, r72_31, r72_32, r72_35, r72_36, r72_39, r72_42, r72_44, r72_46, r72_47, r72_50, r72_53, r72_55, r72_56, r72_59, r72_62, ho_2_1 hA v.l2, hg_2_1 hA v.l2, ht_10 hA, ht_8 hA, true_and, and_true, kk1_i, kk1_r, kk1_n, kk1_0, kcat_iv, kcat_ref, kcat_null, kisR_ref, kisR_null, ksz_nil, ksz_iv, ksz_ref, ksz_null, ksz_lv, kfit_int, kfit_long, kfit_obj, kfit_objN, kfit_arr, kfit_arrN, knarI, knarZ0, knarZ1, kret_v, kret_n, kret_x, Nat.reduceAdd, Nat.reduceLeDiff, reduceCtorEq, Int.reduceLE, Int.reduceLT, Int.reduceEq, ite_true, ite_false, true_or, or_true, false_implies, true_implies, not_true_eq_false, not_false_eq_true, and_self, eq_self, klc_lt, klc_ge, klc_le, klc_gt, klc_eq, kmu_eq, kmu_f, kmu_i, kmu_j, c180 hA v102, es, q182, q110, e84', show ¬ X 9 0 26 ≤ i by omega, Nat.zero_le, show 1 ≤ d by omega]
        exact ih
theorem c72 (hA : kJ A V) (v : kLV V) (hE : A 34 0 = E.1) (rw : kRW V X) (I : kBI V C X) (fu : kFu X) (hU : kU1 X) (hU3 : kU3 X) {m w : Int} (m0 : 1 ≤ m) (m1 : m ≤ X 9 0 15) (hs : X 68 0 m = 0) (hw : X 9 0 26 + 1 = w) (hw60 : w ≤ 60) (nd : kND (f163b X m)) (rwb : kRW V (f163b X m)) (hd : 7 ≤ d) (hc : 2 ≤ c) (hl : 120 ≤ l)
    (H : ∀ J' A' V' C' c' l', kJ A' V' → kExt V V' A A' → kBI V' C' (f163 X m) → V' 8 w → C' 8 w 0 = w → (∀ f, f ≠ 8 → f ≠ 4 → f ≠ 10 → f ≠ 33 → f ≠ 29 → f ≠ 23 → f ≠ 24 → f ≠ 28 → C' f = C f) → c ≤ c' + 2 → l ≤ l' + 120 → Q (.inl (some (.ref (A' 8 w)))) (kHp J' A' V' C' R, c', l')) :
    ka_W (kp E) (d, (72, 0, [some (.ref (A 2 0)), some (.ref (A 4 m)), none, none, none], []), (kHp J A V C R, c, l)) Q := by
  have B15 := rw.i15
  have B26 := rw.i26
  have B66 := rw.a66 (j := m) (by omega) (by omega)
  have hI := I
  obtain ⟨⟨i0, i32, i10, i3, i4, i8, i23, i20, i6, i33⟩, ⟨K1, K2, K3, K4, K5, K6, K7⟩, F, B, ⟨p0, p1, p2, p3⟩, M⟩ := hI
  obtain ⟨F1, F2, F3, F4, F5, F6, F7, F8⟩ := F
  obtain ⟨M1, M2, M3, ⟨r1, r2, r3, r4⟩, M5, M6, M7, M8, -⟩ := F5 m m0 m1
  have Mm := M m m0 m1
  have B58 := rw.a58 (j := X 66 0 m) (by omega) (by have := rw.i7; omega)
  have v102 := v.2.2.2
  have h8 : ¬ V 8 w := fun z => by have := i8 w z; omega
  have hp8 : knp V C R 8 w := by
    refine knp_8 (fun i z => ?_) (fun i j z q1 q3 => ?_)
    · have := i8 i z
      obtain ⟨-, -, -, -, -, -, -, -, w9⟩ := F7 i (by omega) (by omega)
      rw [w9]
      split
      · have := hU3 i (by omega) (by omega) (by assumption)
        omega
      · omega
    · have ei : i = C 10 2 0 := by
        rcases i33 i z with y | y | y
        · have := K1.2.1; omega
        · have := F1.2.1; omega
        · exact y
      rw [ei]
      by_cases e : (j : Int) < C 10 2 1
      · have := (F7 (j + 1) (by omega) (by omega)).2.1
        have e2 : (j : Int) + 1 - 1 = j := by omega
        rw [e2] at this
        omega
      · rw [F2.2.2.2.2.2 j (by omega) (by rw [ei] at q3; omega)]
        omega
  rw [r72_0]
  refine ⟨by omega, by omega, fun a ha0 => ?_⟩
  have ha := koff_of hA ha0
  have ta : ktg (kHp (ka_up J a (8, [iv 0, iv 0, .null, iv 0, .null, iv 0, .null])) A V C R) a 8 := by rw [ktg_off ha, ktg_up]; trivial
  simp (disch := first | assumption | (unfold kR; decide) | exact klc_R | (unfold kR; omega) | omega | (unfold kL; omega) | exact kcat_null | exact kcat_ref _ | exact kcat_iv _) only [r72_3, r72_4, r72_5, r72_8, r72_11, r72_12, r72_13, r72_14, ho_2_1 hA v.l2, hg_2_1 hA v.l2, ht_10 hA, ht_8 hA, true_and, and_true, kk1_i, kk1_r, kk1_n, kk1_0, kcat_iv, kcat_ref, kcat_null, kisR_ref, kisR_null, ksz_nil, ksz_iv, ksz_ref, ksz_null, ksz_lv, kfit_int, kfit_long, kfit_obj, kfit_objN, kfit_arr, kfit_arrN, knarI, knarZ0, knarZ1, kret_v, kret_n, kret_x, Nat.reduceAdd, Nat.reduceLeDiff, reduceCtorEq, Int.reduceLE, Int.reduceLT, Int.reduceEq, ite_true, ite_false, true_or, or_true, false_implies, true_implies, not_true_eq_false, not_false_eq_true, and_self, eq_self, klc_lt, klc_ge, klc_le, klc_gt, klc_eq, kmu_eq, kmu_f, kmu_i, kmu_j, kHp_upo ha, c180 hA v102, F4, hw, ta, Nat.zero_le, show 1 ≤ d by omega]
  refine c108 hA ha M1 (by omega) ?_
  rw [M8]
  obtain ⟨A1, t1, t2, t3, t4⟩ := krole_u (J := ka_up J a (8, [iv w, iv (X 58 0 (X 66 0 m)), .ref (A 4 m), iv 0, .null, iv (-1), .null])) (C := C) (R := R) (w := w) (g := X 58 0 (X 66 0 m)) (m := m) hA ha (by omega) h8 hp8 kup_at
  rw [t4]
  generalize ka_up J a (8, [iv w, iv (X 58 0 (X 66 0 m)), .ref (A 4 m), iv 0, .null, iv (-1), .null]) = J1
  have vv : ∀ f q, V f q → kVu V w f q := fun f q z => Or.inl z
  have ex : kExt V (kVu V w) A A1 := fun f q _ z => ⟨vv f q z, t3 f q z⟩
  have v1 := ex.lv v
  generalize hg : X 58 0 (X 66 0 m) = g at *
  have cu : ∀ f, f ≠ 8 → kCu C w g m f = C f := by
    intro f hf
    funext i j
    unfold kCu
    rw [if_neg (fun z => hf z.1)]
  have cu8 : ∀ u, u ≠ w → kCu C w g m 8 u = C 8 u := by
    intro u hu
    funext j
    unfold kCu
    rw [if_neg (fun z => hu z.2)]
  have cuw : ∀ j, kCu C w g m 8 w j = if j = 0 then w else if j = 1 then g else if j = 2 then m else if j = 3 then 0 else -1 := by
    intro j
    unfold kCu
    rw [if_pos ⟨rfl, rfl⟩]
  generalize kCu C w g m = C1 at *
  have ru : ∀ u, 1 ≤ u → u ≤ X 9 0 26 → kRu (kVu V w) C1 X u := by
    intro u x y
    obtain ⟨z1, z2⟩ := F7 u x y
    unfold kRu
    rw [cu8 u (by omega), cu 33 (by decide), cu 10 (by decide)]
    exact ⟨vv _ _ z1, z2⟩
  have ls2 : kLs (kVu V w) C1 2 := by
    obtain ⟨q1, q2, q3, q4, q5, q6⟩ := F2
    unfold kLs
    rw [cu 10 (by decide), cu 33 (by decide)]
    exact ⟨q1, q2, q3, q4, fun z => vv _ _ (q5 z), q6⟩
  have e4 : A 4 m = A1 4 m := (t3 4 m M1).symm
  have e2 : A 2 0 = A1 2 0 := (t3 2 0 v.l2).symm
  have v4 : kVu V w 4 m := vv _ _ M1
  have v8 : kVu V w 8 w := Or.inr ⟨rfl, rfl⟩
  have rest : ∀ (l4 : Option Value) C2, kBd C1 C2 X m w (X 9 0 26) → ka_W (kp E) (d, (72, 65, [some (.ref (A1 2 0)), some (.ref (A1 4 m)), some (.ref (A1 8 w)), some (iv (X 9 0 26)), l4], []), (kHp J1 A1 (kVu V w) C2 R, c - 1, l - 7)) Q := by
    intro l4 C2 hb
    obtain ⟨b1, b2⟩ := hb
    have w8 : C2 8 w = C1 8 w := (b2 w).1 (fun y => by omega)
    have w80 : C2 8 w 0 = w := by rw [w8]; exact cuw 0
    have w81 : C2 8 w 1 = g := by rw [w8]; exact cuw 1
    have x10 : kmu (kmu C2 4 m 7 1) 4 m 9 w 10 = C 10 := by rw [kmu_ff (by decide), kmu_ff (by decide), b1 10 (by decide), cu 10 (by decide)]
    have x33 : kmu (kmu C2 4 m 7 1) 4 m 9 w 33 = C 33 := by rw [kmu_ff (by decide), kmu_ff (by decide), b1 33 (by decide), cu 33 (by decide)]
    have L : kAl (kVu V w) (kmu (kmu C2 4 m 7 1) 4 m 9 w) 2 := (I.l2 v).w x10 x33 vv (fun q z => by
      rcases z with z | z
      · exact z
      · omega) (fun q z => by
      rcases z with z | z
      · exact z
      · omega)
    have hE1 : A1 34 0 = E.1 := by rw [(ex 34 0 (by decide) v.l34).2]; exact hE
    have G := fun {Q} H => c184 (E := E) (d := d - 1) (c := c - 1) (l := l - 7) (J := J1) (C := kmu (kmu C2 4 m 7 1) 4 m 9 w) (R := R) (Q := Q) (i := 2) (x := w) t1 v1 hE1 L v8 (by omega) (by omega) (by omega) (by omega) H
    rw [show kLg 2 = 8 from rfl] at G
    have v102' := v1.2.2.2
    simp (disch := first | assumption | (unfold kR; decide) | exact klc_R | (unfold kR; omega) | omega | (unfold kL; omega) | exact kcat_null | exact kcat_ref _ | exact kcat_iv _) only [r72_65, r72_66, r72_67, r72_70, r72_71, r72_72, r72_75, r72_78, r72_79, r72_82, r72_83, ho_4_7 t1 v4, hp_4_7 t1 v4, ho_8_0 t1 v8, hg_8_0 t1 v8, ho_4_9 t1 v4, hp_4_9 t1 v4, ho_2_1 t1 v1.l2, hg_2_1 t1 v1.l2, ht_10 t1 v102', true_and, and_true, kk1_i, kk1_r, kk1_n, kk1_0, kcat_iv, kcat_ref, kcat_null, kisR_ref, kisR_null, ksz_nil, ksz_iv, ksz_ref, ksz_null, ksz_lv, kfit_int, kfit_long, kfit_obj, kfit_objN, kfit_arr, kfit_arrN, knarI, knarZ0, knarZ1, kret_v, kret_n, kret_x, Nat.reduceAdd, Nat.reduceLeDiff, reduceCtorEq, Int.reduceLE, Int.reduceLT, Int.reduceEq, ite_true, ite_false, true_or, or_true, false_implies, true_implies, not_true_eq_false, not_false_eq_true, and_self, eq_self, klc_lt, klc_ge, klc_le, klc_gt, klc_eq, kmu_eq, kmu_f, kmu_i, kmu_j, w80, Nat.zero_le, show 1 ≤ d by omega]
    refine G (fun J3 A3 V3 C4 c3 l3 s1 s2 s3 s4 s5 => ?_)
    have ex3 : kExt V V3 A A3 := by
      intro f q hf hv
      have q1 := vv f q hv
      have q2 := (s2.1 f q (fun y => hf y.1)).mpr q1
      exact ⟨q2, (s2.2.1 f q q2 (fun y => hf y.1)).trans (ex f q hf hv).2⟩
    have v3 := ex3.lv v
    have v8w : V3 8 w := (s2.1 8 w (fun y => absurd y.1 (by decide))).mpr v8
    have e8w : A1 8 w = A3 8 w := (s2.2.1 8 w v8w (fun y => absurd y.1 (by decide))).symm
    have eA3 : A1 2 0 = A3 2 0 := ((ex3 2 0 (by decide) v.l2).2.trans (ex 2 0 (by decide) v.l2).2.symm).symm
    obtain ⟨a1, a2, a3, a4, a5, a6, a7, a8, a9, a10, a11⟩ := s3
    rw [x10] at a1 a4 a5 a6 a7 a8
    rw [x33] at a6
    have c48 : C4 8 = C2 8 := by rw [a9 8 (by decide) (by decide), kmu_ff (by decide), kmu_ff (by decide)]
    have c481 : C4 8 w 1 = g := by rw [c48]; exact w81
    have c429 : C4 29 = C 29 := by rw [a9 29 (by decide) (by decide), kmu_ff (by decide), kmu_ff (by decide), b1 29 (by decide), cu 29 (by decide)]
    have fn : kFn C (kmu C4 29 0 g (C4 29 0 g + 1)) X m w g := by
      have cc : ∀ f, f ≠ 8 → f ≠ 4 → f ≠ 10 → f ≠ 33 → f ≠ 29 → kmu C4 29 0 g (C4 29 0 g + 1) f = C f := fun f h1 h2 h3 h4 h5 => by
        rw [kmu_ff h5, a9 f h3 h4, kmu_ff h2, kmu_ff h2, b1 f h1, cu f h1]
      have c8' : kmu C4 29 0 g (C4 29 0 g + 1) 8 = C2 8 := by rw [kmu_ff (by decide), c48]
      have c4' : kmu C4 29 0 g (C4 29 0 g + 1) 4 = kmu (kmu C2 4 m 7 1) 4 m 9 w 4 := by rw [kmu_ff (by decide), a9 4 (by decide) (by decide)]
      have c24 : C2 4 = C 4 := by rw [b1 4 (by decide), cu 4 (by decide)]
      unfold kFn
      rw [c8', c4', w8]
      refine ⟨cc, fun q j hne => ?_, by rw [kmu_j (by decide), kmu_eq], kmu_eq, fun q => ?_, fun u hu hn => ?_, fun u y1 y2 y3 y4 => ?_, cuw 0, cuw 1, cuw 2, cuw 3, cuw 4, cuw 5, cuw 6⟩
      · by_cases e : q = m
        · rw [kmu_j (by omega), kmu_j (by omega), c24]
        · rw [kmu_i e, kmu_i e, c24]
      · rw [c429]
        by_cases e : q = g
        · rw [e, kmu_eq, if_pos rfl]
        · rw [kmu_j e, if_neg e, c429]
      · rw [(b2 u).1 (fun y => hn ⟨y.1, by omega, y.2.2⟩), cu8 u hu]
      · obtain ⟨k1, k2⟩ := (b2 u).2 y1 (by omega) y3 y4
        exact ⟨fun j hj => by rw [k1 j hj, cu8 u (by omega)], k2⟩
    have BI := kBI_fin (V' := V3) rw I fu m0 m1 hs hw hw60 hg fn (fun f q hf => by rw [s2.1 f q (fun y => hf y.1)]; exact Iff.rfl) (fun q hq => by
      rw [s2.1 33 q (fun y => hq (by omega))]
      constructor
      · rintro (z | z)
        · exact z
        · omega
      · intro z; exact Or.inl z) (by rw [kmu_ff (by decide)]; exact s2.2.2.1) (fun q z b b' => by rw [kmu_ff (by decide)]; exact s2.2.2.2 q z (by omega) (by omega)) (fun q hq => by rw [kmu_ff (by decide), a10 q hq, x10]) (fun q hq => by rw [kmu_ff (by decide), a11 q (by omega), x33]) (by rw [kmu_ff (by decide), a1]; omega) (by rw [kmu_ff (by decide)]; omega) (by rw [kmu_ff (by decide)]; omega) (by rw [kmu_ff (by decide)]; omega) (by
        rw [kmu_ff (by decide)]
        rcases a5 with z | ⟨y1, y2⟩
        · rw [z]; exact p2
        · rw [y2]; exact p2.next (by omega)) (fun j b b' => by rw [kmu_ff (by decide), kmu_ff (by decide)]; exact a6 j b (by omega)) (by rw [kmu_ff (by decide), kmu_ff (by decide), show w - 1 = C 10 2 1 by omega]; exact a7) (fun j b b' => by rw [kmu_ff (by decide)] at b' ⊢; rw [kmu_ff (by decide)]; exact a8 j (by omega) b')
    rw [eA3, e8w]
    simp (disch := first | assumption | (unfold kR; decide) | exact klc_R | (unfold kR; omega) | omega | (unfold kL; omega) | exact kcat_null | exact kcat_ref _ | exact kcat_iv _) only [r72_86, r72_87, r72_88, r72_91, r72_92, r72_95, r72_96, r72_97, r72_98, r72_99, r72_100, r72_101, ho_2_3 s1 v3.l2, hg_2_3 s1 v3.l2, ho_8_1 s1 v8w, hg_8_1 s1 v8w, hoa_29 s1 v3.l29, hga_29 s1 v3.l29, hpa_29 s1 v3.l29, ht_2 s1 v3.l2, true_and, and_true, kk1_i, kk1_r, kk1_n, kk1_0, kcat_iv, kcat_ref, kcat_null, kisR_ref, kisR_null, ksz_nil, ksz_iv, ksz_ref, ksz_null, ksz_lv, kfit_int, kfit_long, kfit_obj, kfit_objN, kfit_arr, kfit_arrN, knarI, knarZ0, knarZ1, kret_v, kret_n, kret_x, Nat.reduceAdd, Nat.reduceLeDiff, reduceCtorEq, Int.reduceLE, Int.reduceLT, Int.reduceEq, ite_true, ite_false, true_or, or_true, false_implies, true_implies, not_true_eq_false, not_false_eq_true, and_self, eq_self, klc_lt, klc_ge, klc_le, klc_gt, klc_eq, kmu_eq, kmu_f, kmu_i, kmu_j, c481, Nat.zero_le, show 1 ≤ d by omega]
    refine c77 s1 v3 (ex3.rw rwb) BI.2.2.1 nd (by omega) (fun C5 g1 g2 => ?_)
    obtain ⟨j1', j2', j3', -⟩ := j153 (E := E) (d := 2) (c := c) (l := l) (Q := Q) (J := J3) (C := C4) s1 v3 (ex3.rw rwb) nd (by omega)
    have BI5 := kBI_Fl BI g2 g1 (ex3.rw rwb) j2'
    have e26 : f153 (f163b X m) 9 0 26 = w := by
      rw [j2' 9 (by decide) (by decide) (by decide) (by decide) (by decide), (f163b_q B26.1).1]
      exact hw
    have c80 : C5 8 w 0 = w := (g2.2.2.2.2.2.2.1 w (by omega) (by rw [e26]; omega)).2.2.1
    have := H J3 A3 V3 C5 c3 l3 s1 ex3 BI5 v8w c80 (fun f h1 h2 h3 h4 h5 h6 h7 h8 => (g1 f h1 h6 h7 h8 h5).trans (fn.1 f h1 h2 h3 h4 h5)) (by omega) (by omega)
    simp (disch := first | assumption | (unfold kR; decide) | exact klc_R | (unfold kR; omega) | omega | (unfold kL; omega) | exact kcat_null | exact kcat_ref _ | exact kcat_iv _) only [r72_104, r72_105, true_and, and_true, kk1_i, kk1_r, kk1_n, kk1_0, kcat_iv, kcat_ref, kcat_null, kisR_ref, kisR_null, ksz_nil, ksz_iv, ksz_ref, ksz_null, ksz_lv, kfit_int, kfit_long, kfit_obj, kfit_objN, kfit_arr, kfit_arrN, knarI, knarZ0, knarZ1, kret_v, kret_n, kret_x, Nat.reduceAdd, Nat.reduceLeDiff, reduceCtorEq, Int.reduceLE, Int.reduceLT, Int.reduceEq, ite_true, ite_false, true_or, or_true, false_implies, true_implies, not_true_eq_false, not_false_eq_true, and_self, eq_self, klc_lt, klc_ge, klc_le, klc_gt, klc_eq, kmu_eq, kmu_f, kmu_i, kmu_j]
    exact this
  have z := c72_l (E := E) (d := d) (c := c - 1) (l := l - 7) (Q := Q) (J := J1) (R := R) (C := C1) t1 v1 (ex.rw rw) ls2 (by rw [cu 10 (by decide)]; exact F4) ru hU (m := m) (w := w) (by omega) m0 v4 (by omega) (fun u x y => vv _ _ (F5 u x y).1) (X 9 0 26).toNat 0 C1 none (by omega) (by omega) ⟨fun _ _ => rfl, fun u => ⟨fun _ => rfl, fun y1 y2 => by omega⟩⟩ (fun C' hb => rest none C' hb) (fun C' b hb => rest _ C' hb)
  rw [e4, e2, ← t2]
  simp (disch := first | assumption | (unfold kR; decide) | exact klc_R | (unfold kR; omega) | omega | (unfold kL; omega) | exact kcat_null | exact kcat_ref _ | exact kcat_iv _) only [r72_17, r72_18, r72_19, true_and, and_true, kk1_i, kk1_r, kk1_n, kk1_0, kcat_iv, kcat_ref, kcat_null, kisR_ref, kisR_null, ksz_nil, ksz_iv, ksz_ref, ksz_null, ksz_lv, kfit_int, kfit_long, kfit_obj, kfit_objN, kfit_arr, kfit_arrN, knarI, knarZ0, knarZ1, kret_v, kret_n, kret_x, Nat.reduceAdd, Nat.reduceLeDiff, reduceCtorEq, Int.reduceLE, Int.reduceLT, Int.reduceEq, ite_true, ite_false, true_or, or_true, false_implies, true_implies, not_true_eq_false, not_false_eq_true, and_self, eq_self, klc_lt, klc_ge, klc_le, klc_gt, klc_eq, kmu_eq, kmu_f, kmu_i, kmu_j]
  exact z
end
