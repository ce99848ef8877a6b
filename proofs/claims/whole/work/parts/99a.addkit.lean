/-! addKit. -/
/-- roles that stood stand on, where they were (but for lists' arrays) -/
def kExt (V V' : ka_V) (A A' : ka_A) : Prop := ∀ f q, f ≠ 33 → V f q → V' f q ∧ A' f q = A f q
section
variable {E : Nat × Nat} {d c l : Nat} {s : ka_S} {h : ka_H} {Q : ka_Q} {J : ka_H} {A A' : ka_A} {V V' : ka_V} {C C' R X X' : ka_M}
theorem kExt_rfl : kExt V V A A := fun f q _ h => ⟨h, rfl⟩
theorem kExt.trans {V'' : ka_V} {A'' : ka_A} (h : kExt V V' A A') (h' : kExt V' V'' A' A'') : kExt V V'' A A'' := fun f q a b => by
  obtain ⟨x1, x2⟩ := h f q a b
  obtain ⟨y1, y2⟩ := h' f q a x1
  exact ⟨y1, y2.trans x2⟩
theorem ksta_33 {f : Nat} (h : ksta f = true) : f ≠ 33 := by
  rintro rfl
  cases h
theorem kra_33 {f : Nat} (h : kra f = true) : f ≠ 33 := by
  rintro rfl
  cases h
theorem kExt.lv (h : kExt V V' A A') (v : kLV V) : kLV V' := ⟨fun f hf => (h f 0 (ksta_33 hf) (v.1 f hf)).1, (h 10 0 (by decide) v.2.1).1, (h 10 1 (by decide) v.2.2.1).1, (h 10 2 (by decide) v.2.2.2).1⟩
theorem kExt.rw (h : kExt V V' A A') (r : kRW V X) : kRW V' X := ⟨fun f hf => (h f 0 (kra_33 hf) (r.1 f hf)).1, r.2⟩
theorem c56 (hA : kJ A V) (v : kLV V) (hE : A 34 0 = E.1) (rw : kRW V X) (I : kBI V C X) {g : Int} (g0 : 0 ≤ g) (g1 : g < 20) (hg : X 56 0 g = -1) (hn : X 9 0 7 < 20) (hd : 7 ≤ d) (hc : 6 ≤ c) (hl : 139 ≤ l)
    (H : ∀ J' A' V' C' c' l', kJ A' V' → kExt V V' A A' → kBI V' C' (f123 X g) → V' 3 (X 9 0 7) → (∀ f, f ≠ 3 → f ≠ 6 → f ≠ 20 → f ≠ 21 → f ≠ 22 → f ≠ 32 → f ≠ 10 → f ≠ 33 → C' f = C f) → c ≤ c' + 6 → l ≤ l' + 139 → Q (.inl (some (.ref (A' 3 (X 9 0 7))))) (kHp J' A' V' C' R, c', l')) :
    ka_W (kp E) (d, (56, 0, [some (.ref (A 1 0)), some (iv g), none], []), (kHp J A V C R, c, l)) Q := by
  have B7 := rw.i7
  have I' := I
  obtain ⟨⟨i0, i32, i10, i3, i4, i8, i23, i20, i6, i33⟩, K, F, B, ⟨p0, p1, p2, p3⟩, M⟩ := I'
  obtain ⟨K1, K2, K3, K4, K5, K6, K7⟩ := K
  obtain ⟨F1, F2, F3, F4, F5, F6, F7, F8⟩ := F
  have v100 : V 10 0 := v.2.1
  generalize hk : X 9 0 7 = k at *
  -- nothing stands there yet
  have h3 : ¬ V 3 k := fun z => by have := i3 k z; omega
  have h6 : ¬ V 6 (4 * k) := fun z => by
    rcases i6 _ z with ⟨k', q, b0, b1, b2, b3, b4⟩ | z
    · have := (K3 k' b0 (by omega)).2.2.2.2.2
      have := rw.a59 (j := k') b0 (by omega)
      omega
    · omega
  have h20 : ¬ V 20 (4 * k) := fun z => h6 (i20 20 _ (by omega) z)
  have h21 : ¬ V 21 (4 * k) := fun z => h6 (i20 21 _ (by omega) z)
  have h22 : ¬ V 22 (4 * k) := fun z => h6 (i20 22 _ (by omega) z)
  have hp6 : knp V C R 6 (4 * k) := by
    refine knp_6 (fun i z w => ?_) (fun i z w => ?_) (fun i z w => ?_) (fun i z w => ?_)
    · rw [i0 i z] at w
      rcases p3 with y | y <;> omega
    · have hi := i3 i z
      have := K3 i hi.1 (by omega)
      have := rw.a59 (j := i) hi.1 (by omega)
      omega
    · rcases i6 i z with ⟨k', q, b0, b1, b2, b3, rfl⟩ | z
      · have hq := (K3 k' b0 (by omega)).2.2.2.2.2
        have := rw.a59 (j := k') b0 (by omega)
        have := (K4 k' q b0 (by omega) b2 (by omega)).2.2.1
        rw [w] at this
        split at this <;> omega
      · have := (F5 (i - 100) (by omega) (by omega)).2.2.2.2.2.2.2.2.2.2.2.2.2
        have e : 100 + (i - 100) = i := by omega
        rw [e, w] at this
        omega
    · have := i4 i z
      omega
  have hp3 : knp V C R 3 k := by
    refine knp_3 (fun i j z hj w => ?_) (fun i j z hi hj w => ?_)
    · rw [i32 i z, K6 j (by omega) (by omega)] at w
      have hne : X 56 0 j ≠ -1 := by omega
      have := B.2.2.1 j (by omega) (by omega) hne
      omega
    · have e : i = C 10 0 0 := by
        rcases i33 i z with y | y | y
        · exact y
        · have := F1.1; omega
        · have := F2.1; omega
      subst e
      by_cases y : (j : Int) < k
      · rw [(K3 j (by omega) y).2.1] at w
        omega
      · rw [K1.2.2.2.2.2 j (by omega) (by omega)] at w
        omega
  rw [r56_0]
  refine ⟨by omega, by omega, fun a ha0 => ?_⟩
  have ha := koff_of hA ha0
  have ta : ktg (kHp (ka_up J a (3, [iv 0, iv 0, .null, iv 0, lv 0])) A V C R) a 3 := by rw [ktg_off ha, ktg_up]; trivial
  simp (disch := first | assumption | (unfold kR; decide) | exact klc_R | (unfold kR; omega) | omega | (unfold kL; omega) | exact kcat_null | exact kcat_ref _ | exact kcat_iv _) only [r56_3, r56_4, r56_5, r56_8, r56_11, r56_12, ho_1_0 hA v.l1, hg_1_0 hA v.l1, ht_10 hA, ht_3 hA, true_and, and_true, kk1_i, kk1_r, kk1_n, kk1_0, kcat_iv, kcat_ref, kcat_null, kisR_ref, kisR_null, ksz_nil, ksz_iv, ksz_ref, ksz_null, ksz_lv, kfit_int, kfit_long, kfit_obj, kfit_objN, kfit_arr, kfit_arrN, knarI, knarZ0, knarZ1, kret_v, kret_n, kret_x, Nat.reduceAdd, Nat.reduceLeDiff, reduceCtorEq, Int.reduceLE, Int.reduceLT, Int.reduceEq, ite_true, ite_false, true_or, or_true, false_implies, true_implies, not_true_eq_false, not_false_eq_true, and_self, eq_self, klc_lt, klc_ge, klc_le, klc_gt, klc_eq, kmu_eq, kmu_f, kmu_i, kmu_j, kHp_upo ha, ta, c180 hA v100, K2, Nat.zero_le, show 1 ≤ d by omega]
  refine c80 hA ha (by omega) (by omega) (by omega) (fun b a1 a2 a3 ob o1 o2 o3 nb m1 m2 m3 n1 n2 n21 n3 n31 n32 => ?_)
  obtain ⟨A1, x1, x2, x3, x4⟩ := krole_k (J := J) (C := C) (R := R) (g := g) hA ha ob o1 o2 o3 nb m1 m2 m3 n1 n2 n21 n3 n31 n32 B7.1 h3 h6 h20 h21 h22 hp6 hp3
  rw [x4]
  generalize ka_up (ka_up (ka_up (ka_up (ka_up J a (3, [iv k, iv g, .ref b, iv 1, lv (-1)])) b (6, [iv 0, .null, .ref a1, .ref a2, .ref a3, iv 0])) a1 kz5) a2 kz5) a3 kz5 = J1
  have w1 : kLV (kVk V k) := ⟨fun f hf => Or.inl (Or.inl (v.1 f hf)), Or.inl (Or.inl v.2.1), Or.inl (Or.inl v.2.2.1), Or.inl (Or.inl v.2.2.2)⟩
  have eA : A 1 0 = A1 1 0 := (x3 1 0 v.l1).symm
  have v3k : kVk V k 3 k := Or.inr ⟨rfl, rfl⟩
  have v32 := w1.l32
  have ex : ∀ {P : Prop}, (∃ t u, t < 1000 ∧ ktg (kHp J1 A1 (kVk V k) (kCk C k g) R) (A1 3 k) t ∧ (u = 2000 + t ∨ (u = 2999 ∧ t < 10)) ∧ kok (kHp J1 A1 (kVk V k) (kCk C k g) R) (A1 32 0) u g.toNat ∧ P) ↔ P := by
    intro P
    have t1 := ht_3 (J := J1) (C := kCk C k g) (R := R) x1 v3k
    have t2 := hoa_32 (J := J1) (C := kCk C k g) (R := R) x1 v32 g0 g1
    constructor
    · rintro ⟨t, u, -, -, -, -, z⟩; exact z
    · intro z; exact ⟨3, 2003, by omega, t1, Or.inl rfl, t2, z⟩
  -- the list
  have e10 : kmu (kCk C k g) 32 0 g k 10 = C 10 := by
    rw [kmu_ff (by decide)]
    funext i j
    unfold kCk kCr
    simp
  have e33 : kmu (kCk C k g) 32 0 g k 33 = C 33 := by
    rw [kmu_ff (by decide)]
    funext i j
    unfold kCk kCr
    simp
  have L : kAl (kVk V k) (kmu (kCk C k g) 32 0 g k) 0 := by
    obtain ⟨l1, l2, l3, l4, l5, l6, l7⟩ := I.l0 v
    unfold kAl kLs
    rw [e10, e33]
    obtain ⟨q1, q2, q3, q4, q5, q6⟩ := l3
    refine ⟨l1, Or.inl (Or.inl l2), ⟨q1, q2, q3, q4, fun z => Or.inl (Or.inl (q5 z)), q6⟩, fun q z a b => ?_, fun q z => ?_, l6, fun j a b => ?_⟩
    · rcases z with (z | z) | z
      · exact l4 q z a b
      · omega
      · omega
    · rcases z with (z | z) | z
      · exact l5 q z
      · omega
      · omega
    · exact ⟨(l7 j a b).1, Or.inl (Or.inl (l7 j a b).2)⟩
  have hE1 : A1 34 0 = E.1 := by rw [x3 34 0 v.l34]; exact hE
  have G := fun {Q} H => c184 (E := E) (d := d - 1) (c := c - 1 - 1 - 1 - 1 - 1) (l := l - 5 - 6 - 5 - 5 - 5) (J := J1) (C := kmu (kCk C k g) 32 0 g k) (R := R) (Q := Q) (i := 0) (x := k) x1 w1 hE1 L (show kVk V k 3 k from v3k) B7.1 (by omega) (by omega) (by omega) H
  rw [show kLg 0 = 3 from rfl] at G
  rw [eA, ← x2]
  simp (disch := first | assumption | (unfold kR; decide) | exact klc_R | (unfold kR; omega) | omega | (unfold kL; omega) | exact kcat_null | exact kcat_ref _ | exact kcat_iv _) only [r56_15, r56_16, r56_17, r56_20, r56_21, r56_22, r56_23, r56_24, r56_27, r56_28, ho_1_1 hA v.l1, hg_1_1 hA v.l1, hoa_32 hA v.l32, hga_32 hA v.l32, hgan_32 hA v.l32, hpa_32 hA v.l32, hpan_32 hA v.l32, ho_1_0 hA v.l1, hg_1_0 hA v.l1, ht_10 hA, ho_1_0 x1 w1.l1, hg_1_0 x1 w1.l1, ho_1_1 x1 w1.l1, hg_1_1 x1 w1.l1, ex, hpa_32 x1 v32, ht_10 x1 w1.2.1, true_and, and_true, kk1_i, kk1_r, kk1_n, kk1_0, kcat_iv, kcat_ref, kcat_null, kisR_ref, kisR_null, ksz_nil, ksz_iv, ksz_ref, ksz_null, ksz_lv, kfit_int, kfit_long, kfit_obj, kfit_objN, kfit_arr, kfit_arrN, knarI, knarZ0, knarZ1, kret_v, kret_n, kret_x, Nat.reduceAdd, Nat.reduceLeDiff, reduceCtorEq, Int.reduceLE, Int.reduceLT, Int.reduceEq, ite_true, ite_false, true_or, or_true, false_implies, true_implies, not_true_eq_false, not_false_eq_true, and_self, eq_self, klc_lt, klc_ge, klc_le, klc_gt, klc_eq, kmu_eq, kmu_f, kmu_i, kmu_j, Nat.zero_le, show 1 ≤ d by omega]
  refine G (fun J2 A2 V2 C2 c2 l2 y1 y2 y3 y4 y5 => ?_)
  have BI := kBI_kit (A := A1) (A' := A2) rw I g0 g1 hg (by omega) (by rw [hk]; exact y2) (by rw [hk]; exact y3)
  have hx : kExt V V2 A A2 := by
    intro f q hf hv
    have h1 : kVk V k f q := Or.inl (Or.inl hv)
    have h2 := (y2.1 f q (fun w => hf w.1)).mpr h1
    exact ⟨h2, (y2.2.1 f q h2 (fun w => hf w.1)).trans (x3 f q hv)⟩
  have v3k2 : V2 3 k := (y2.1 3 k (fun w => absurd w.1 (by decide))).mpr v3k
  have e3 : A1 3 k = A2 3 k := (y2.2.1 3 k v3k2 (fun w => absurd w.1 (by decide))).symm
  have := H J2 A2 V2 C2 c2 l2 y1 hx BI v3k2 (fun f b1 b2 b3 b4 b5 b6 b7 b8 => by
    rw [y3.2.2.2.2.2.2.2.2.1 f b7 b8, kmu_ff b6]
    funext i j
    unfold kCk kCr
    rw [if_neg (fun w => b1 w.1), if_neg (fun w => b2 w.1), if_neg (fun w => by omega)]) (by omega) (by omega)
  rw [e3]
  simp (disch := first | assumption | (unfold kR; decide) | exact klc_R | (unfold kR; omega) | omega | (unfold kL; omega) | exact kcat_null | exact kcat_ref _ | exact kcat_iv _) only [r56_31, r56_32, r56_33, true_and, and_true, kk1_i, kk1_r, kk1_n, kk1_0, kcat_iv, kcat_ref, kcat_null, kisR_ref, kisR_null, ksz_nil, ksz_iv, ksz_ref, ksz_null, ksz_lv, kfit_int, kfit_long, kfit_obj, kfit_objN, kfit_arr, kfit_arrN, knarI, knarZ0, knarZ1, kret_v, kret_n, kret_x, Nat.reduceAdd, Nat.reduceLeDiff, reduceCtorEq, Int.reduceLE, Int.reduceLT, Int.reduceEq, ite_true, ite_false, true_or, or_true, false_implies, true_implies, not_true_eq_false, not_false_eq_true, and_self, eq_self, klc_lt, klc_ge, klc_le, klc_gt, klc_eq, kmu_eq, kmu_f, kmu_i, kmu_j]
  exact this
end
