/-! A making begins: the walk. -/
/-- a unit and the making by which it was made -/
def kU0 (X : ka_M) : Prop := ∀ u, 1 ≤ u → u ≤ X 9 0 26 → 1 ≤ X 79 0 u ∧ X 79 0 u ≤ X 9 0 15 ∧ X 68 0 (X 79 0 u) = 1 ∧ X 71 0 (X 79 0 u) = u
section
variable {E : Nat × Nat} {d c l : Nat} {s : ka_S} {h : ka_H} {Q : ka_Q} {J : ka_H} {A A' : ka_A} {V V' : ka_V} {C C' C1 R X X' : ka_M}
/-- the floor changes, the book doesn't -/
theorem kBI_F (I : kBI V C X) (F' : kRF V C' X') (hC : ∀ f, f = 10 ∨ f = 3 ∨ f = 33 ∨ f = 32 ∨ f = 25 ∨ f = 0 → C' f = C f) (hr : ∀ f q, f = 6 ∨ f = 20 ∨ f = 21 ∨ f = 22 → q < 100 → C' f q = C f q) (rw : kRW V X) (hX : ∀ f, f = 56 ∨ f = 58 ∨ f = 59 ∨ f = 60 ∨ f = 61 ∨ f = 62 ∨ f = 63 ∨ f = 64 ∨ f = 66 → X' f = X f) (h7 : X' 9 0 7 = X 9 0 7) (h15 : X' 9 0 15 = X 9 0 15) : kBI V C' X' := by
  have B7 := rw.i7
  obtain ⟨VI, ⟨K1, K2, K3, K4, K5, K6, K7⟩, F, B, P, M⟩ := I
  have c10 := hC 10 (by omega)
  have c3 := hC 3 (by omega)
  have c33 := hC 33 (by omega)
  refine ⟨?_, ⟨K1.c c10 c33, ?_, fun k b0 b1 => ?_, fun k q b0 b1 q0 q1 => ?_, fun k q p b0 b1 q0 q1 p0 p1 => ?_, fun q b0 b1 => ?_, fun a b0 b1 => ?_⟩, F', ?_, ?_, fun m b0 b1 => ?_⟩
  · unfold kVI
    rw [c10, c3]
    exact VI
  · rw [c10, h7]; exact K2
  · rw [h7] at b1
    rw [c10, c3, c33, hX 58 (by omega), hX 59 (by omega)]
    exact K3 k b0 b1
  · rw [h7] at b1
    rw [hX 59 (by omega)] at q1
    have B59 := rw.a59 (j := k) b0 (by omega)
    rw [hr 6 _ (by omega) (by omega), hX 60 (by omega), hX 61 (by omega)]
    exact K4 k q b0 b1 q0 q1
  · rw [h7] at b1
    rw [hX 59 (by omega)] at q1
    rw [hX 61 (by omega)] at p1
    have B59 := rw.a59 (j := k) b0 (by omega)
    rw [hr 20 _ (by omega) (by omega), hr 21 _ (by omega) (by omega), hr 22 _ (by omega) (by omega), hX 62 (by omega), hX 63 (by omega), hX 64 (by omega)]
    exact K5 k q p b0 b1 q0 q1 p0 p1
  · rw [hC 32 (by omega), hX 56 (by omega)]; exact K6 q b0 b1
  · rw [hC 25 (by omega)]
    obtain ⟨x1, x2, x3⟩ := K7 a b0 b1
    refine ⟨x1, x2, fun q q0 q1 => ?_⟩
    rw [x3 q q0 q1, klead_c (X := X) (hX 56 (by omega)) (hX 59 (by omega)) (hX 61 (by omega)) (hX 62 (by omega)) (hX 64 (by omega))]
  · exact B.c (hX 56 (by omega)) (hX 58 (by omega)) (hX 59 (by omega)) h7
  · unfold kCp3
    rw [c10, hC 0 (by omega)]
    exact P
  · rw [h15] at b1
    rw [hX 66 (by omega), h7]
    exact M m b0 b1
theorem kBI_Fl (I : kBI V C X) (F' : kRF V C' X') (fl : kFl C C') (rw : kRW V X) (hX : kTk X X') : kBI V C' X' :=
  kBI_F I F' (fun f hf => fl f (by omega) (by omega) (by omega) (by omega) (by omega)) (fun f q hf _ => by rw [fl f (by omega) (by omega) (by omega) (by omega) (by omega)]) rw (fun f hf => hX f (by omega) (by omega) (by omega) (by omega) (by omega)) (by rw [hX 9 (by decide) (by decide) (by decide) (by decide) (by decide)]) (by rw [hX 9 (by decide) (by decide) (by decide) (by decide) (by decide)])
theorem kBI.l1 (I : kBI V C X) (v : kLV V) : kAl V C 1 := by
  obtain ⟨⟨i0, i32, i10, i3, i4, i8, i23, i20, i6, i33⟩, K, F, B, ⟨p0, p1, p2, p3⟩, M⟩ := I
  obtain ⟨K1, K2, K3, K4, K5, K6, K7⟩ := K
  obtain ⟨F1, F2, F3, F4, F5, F6, F7, F8⟩ := F
  have := p1.le
  refine ⟨Or.inr (Or.inl rfl), v.2.2.1, F1, fun q a b c' => ?_, fun q a => ?_, by omega, fun j a b => ?_⟩
  · rcases i33 q a with z | z | z
    · have := K1.1; have := K1.2.1; omega
    · exact z
    · have := F2.1; omega
  · rcases i10 q a with rfl | rfl | rfl
    · exact ⟨Or.inl rfl, K1.1, K1.2.1⟩
    · exact ⟨Or.inr (Or.inl rfl), F1.1, F1.2.1⟩
    · exact ⟨Or.inr (Or.inr rfl), F2.1, F2.2.1⟩
  · obtain ⟨k1, -, -, -, k2, -⟩ := F5 (j + 1) (by omega) (by omega)
    have e : j + 1 - 1 = j := by omega
    rw [e] at k2
    rw [k2]
    exact ⟨by omega, k1⟩
theorem kBI.l2 (I : kBI V C X) (v : kLV V) : kAl V C 2 := by
  obtain ⟨⟨i0, i32, i10, i3, i4, i8, i23, i20, i6, i33⟩, K, F, B, ⟨p0, p1, p2, p3⟩, M⟩ := I
  obtain ⟨K1, K2, K3, K4, K5, K6, K7⟩ := K
  obtain ⟨F1, F2, F3, F4, F5, F6, F7, F8⟩ := F
  have := p2.le
  refine ⟨Or.inr (Or.inr rfl), v.2.2.2, F2, fun q a b c' => ?_, fun q a => ?_, by omega, fun j a b => ?_⟩
  · rcases i33 q a with z | z | z
    · have := K1.1; have := K1.2.1; omega
    · have := F1.1; have := F1.2.1; omega
    · exact z
  · rcases i10 q a with rfl | rfl | rfl
    · exact ⟨Or.inl rfl, K1.1, K1.2.1⟩
    · exact ⟨Or.inr (Or.inl rfl), F1.1, F1.2.1⟩
    · exact ⟨Or.inr (Or.inr rfl), F2.1, F2.2.1⟩
  · obtain ⟨k1, k2, -⟩ := F7 (j + 1) (by omega) (by omega)
    have e : j + 1 - 1 = j := by omega
    rw [e] at k2
    rw [k2]
    exact ⟨by omega, k1⟩
/-- a list stands as it stood, with more roles elsewhere -/
theorem kAl.w {i : Int} (h : kAl V C i) (h10 : C' 10 = C 10) (h33 : C' 33 = C 33) (hv : ∀ f q, V f q → V' f q) (hv33 : ∀ q, V' 33 q → V 33 q) (hv10 : ∀ q, V' 10 q → V 10 q) : kAl V' C' i := by
  obtain ⟨l1, l2, ⟨q1, q2, q3, q4, q5, q6⟩, l4, l5, l6, l7⟩ := h
  unfold kAl kLs
  rw [h10, h33]
  exact ⟨l1, hv _ _ l2, ⟨q1, q2, q3, q4, fun z => hv _ _ (q5 z), q6⟩, fun q z a b => l4 q (hv33 q z) a b, fun q z => l5 q (hv10 q z), l6, fun j a b => ⟨(l7 j a b).1, hv _ _ (l7 j a b).2⟩⟩
theorem c68 (hA : kJ A V) (v : kLV V) (hE : A 34 0 = E.1) (rw : kRW V X) (I : kBI V C X) (fr : kFr X) (hU : kU1 X) (hU0 : kU0 X) {k w m : Int} (k0 : 0 ≤ k) (k1 : k < X 9 0 7) (w0 : 0 ≤ w) (w1 : w ≤ 4) (hm : X 9 0 15 + 1 = m) (hm40 : m ≤ 40) (nd : kND (f156b X k w)) (hd : 7 ≤ d) (hc : 8 ≤ c) (hl : 154 ≤ l)
    (H : ∀ J' A' V' C' c' l', kJ A' V' → kExt V V' A A' → kBI V' C' (f156 X k w) → V' 4 m → C' 4 m 0 = m → (∀ f, f ≠ 6 → f ≠ 20 → f ≠ 21 → f ≠ 22 → f ≠ 4 → f ≠ 23 → f ≠ 24 → f ≠ 10 → f ≠ 33 → f ≠ 8 → f ≠ 28 → f ≠ 29 → C' f = C f) → c ≤ c' + 8 → l ≤ l' + 154 → Q (.inl (some (.ref (A' 4 m)))) (kHp J' A' V' C' R, c', l')) :
    ka_W (kp E) (d, (68, 0, [some (.ref (A 2 0)), some (.ref (A 3 k)), some (.ref (A 6 (f138 X k))), some (iv w), none], []), (kHp J A V C R, c, l)) Q := by
  have B7 := rw.i7
  have B15 := rw.i15
  have hI := I
  obtain ⟨⟨i0, i32, i10, i3, i4, i8, i23, i20, i6, i33⟩, ⟨K1, K2, K3, K4, K5, K6, K7⟩, F, B, ⟨p0, p1, p2, p3⟩, M⟩ := hI
  obtain ⟨F1, F2, F3, F4, F5, F6, F7, F8⟩ := F
  obtain ⟨b1, b2, b3, b4⟩ := f138_b rw B (k := k) ⟨k0, by omega⟩
  have b61 := rw.a61 (j := f138 X k) (by omega) (by omega)
  have kq : ∃ q, f138 X k = 4 * k + q ∧ 0 ≤ q ∧ q < X 59 0 k := ⟨f138 X k - 4 * k, by omega, by omega, by omega⟩
  obtain ⟨qr, eq1, eq2, eq3⟩ := kq
  obtain ⟨rc, -, -, r5⟩ := K4 k qr k0 k1 eq2 eq3
  rw [← eq1] at rc r5
  have v101 := v.2.2.1
  obtain ⟨x1, x2, x3, x4, x5, x6⟩ := K3 k k0 k1
  -- nothing stands there yet
  have h4 : ¬ V 4 m := fun z => by have := i4 m z; omega
  have h6 : ¬ V 6 (100 + m) := fun z => by
    rcases i6 _ z with ⟨k', q, c0, c1, c2, c3, c4⟩ | z
    · have h7 := (K3 k' c0 (by omega)).2.2.2.2.2
      have h8 := rw.a59 (j := k') c0 (by omega)
      omega
    · omega
  have h20 : ¬ V 20 (100 + m) := fun z => h6 (i20 20 _ (by omega) z)
  have h21 : ¬ V 21 (100 + m) := fun z => h6 (i20 21 _ (by omega) z)
  have h22 : ¬ V 22 (100 + m) := fun z => h6 (i20 22 _ (by omega) z)
  have h23 : ¬ V 23 m := fun z => h4 (i23 23 _ (by omega) z)
  have h24 : ¬ V 24 m := fun z => h4 (i23 24 _ (by omega) z)
  have hp6 : knp V C R 6 (100 + m) := by
    refine knp_6 (fun i z y => ?_) (fun i z y => ?_) (fun i z y => ?_) (fun i z y => ?_)
    · rw [i0 i z] at y
      rcases p3 with y' | y' <;> omega
    · have hi := i3 i z
      have h7 := K3 i hi.1 (by omega)
      have h8 := rw.a59 (j := i) hi.1 (by omega)
      omega
    · rcases i6 i z with ⟨k', q, c0, c1, c2, c3, rfl⟩ | z
      · have hq := (K3 k' c0 (by omega)).2.2.2.2.2
        have h8 := rw.a59 (j := k') c0 (by omega)
        have h9 := (K4 k' q c0 (by omega) c2 (by omega)).2.2.1
        rw [y] at h9
        split at h9 <;> omega
      · have := (F5 (i - 100) (by omega) (by omega)).2.2.2.2.2.2.2.2.2.2.2.2.2
        have e : 100 + (i - 100) = i := by omega
        rw [e, y] at this
        omega
    · exact h4 (by have : i = m := by omega
                   rw [this] at z; exact z)
  rw [r68_0]
  refine ⟨by omega, by omega, fun a ha0 => ?_⟩
  have ha := koff_of hA ha0
  simp (disch := first | assumption | (unfold kR; decide) | exact klc_R | (unfold kR; omega) | omega | (unfold kL; omega) | exact kcat_null | exact kcat_ref _ | exact kcat_iv _) only [r68_3, r68_4, r68_5, r68_8, r68_11, r68_12, r68_13, r68_14, r68_15, ho_2_0 hA v.l2, hg_2_0 hA v.l2, ht_10 hA, ht_6 hA, true_and, and_true, kk1_i, kk1_r, kk1_n, kk1_0, kcat_iv, kcat_ref, kcat_null, kisR_ref, kisR_null, ksz_nil, ksz_iv, ksz_ref, ksz_null, ksz_lv, kfit_int, kfit_long, kfit_obj, kfit_objN, kfit_arr, kfit_arrN, knarI, knarZ0, knarZ1, kret_v, kret_n, kret_x, Nat.reduceAdd, Nat.reduceLeDiff, reduceCtorEq, Int.reduceLE, Int.reduceLT, Int.reduceEq, ite_true, ite_false, true_or, or_true, false_implies, true_implies, not_true_eq_false, not_false_eq_true, and_self, eq_self, klc_lt, klc_ge, klc_le, klc_gt, klc_eq, kmu_eq, kmu_f, kmu_i, kmu_j, kHp_upo ha, c180 hA v101, F3, hm, ht_6 hA rc.1, Nat.zero_le, show 1 ≤ d by omega]
  refine c104 hA rc (by omega) h6 h20 h21 h22 hp6 (by omega) (by omega) (by omega) (by rw [r5]; exact b61.1) (by rw [r5]; exact b61.2) (fun J1 A1 C1 y1 y2 y3 y4 => ?_)
  obtain ⟨z1, z2⟩ := y3 a _ ha kup_at rfl
  rw [r5] at y4
  have hy := y4
  obtain ⟨u1, u2, u3, u4, u5⟩ := y4
  have ta : ktg (kHp J1 A1 (kVr V (100 + m)) C1 R) a 4 := by rw [ktg_off z1, ← kup_same z2, ktg_up]; trivial
  have e3 : A 3 k = A1 3 k := (y2 3 k x1).symm
  have v3 : kVr V (100 + m) 3 k := Or.inl x1
  rw [e3]
  simp (disch := first | assumption | (unfold kR; decide) | exact klc_R | (unfold kR; omega) | omega | (unfold kL; omega) | exact kcat_null | exact kcat_ref _ | exact kcat_iv _) only [r68_18, r68_19, true_and, and_true, kk1_i, kk1_r, kk1_n, kk1_0, kcat_iv, kcat_ref, kcat_null, kisR_ref, kisR_null, ksz_nil, ksz_iv, ksz_ref, ksz_null, ksz_lv, kfit_int, kfit_long, kfit_obj, kfit_objN, kfit_arr, kfit_arrN, knarI, knarZ0, knarZ1, kret_v, kret_n, kret_x, Nat.reduceAdd, Nat.reduceLeDiff, reduceCtorEq, Int.reduceLE, Int.reduceLT, Int.reduceEq, ite_true, ite_false, true_or, or_true, false_implies, true_implies, not_true_eq_false, not_false_eq_true, and_self, eq_self, klc_lt, klc_ge, klc_le, klc_gt, klc_eq, kmu_eq, kmu_f, kmu_i, kmu_j, ta, Nat.zero_le, show 1 ≤ d by omega]
  rw [← kup_same z2]
  refine c83 y1 z1 v3 (by omega) (by omega) (by omega) (fun a1 a2 o1 o2 n1 n2 n21 j1 j2 => ?_)
  have f30 : C1 3 k 0 = k := by rw [u1 3 (by decide) (by decide) (by decide) (by decide)]; exact x3
  have f31 : C1 3 k 1 = X 58 0 k := by rw [u1 3 (by decide) (by decide) (by decide) (by decide)]; exact x4
  rw [f30, f31]
  have hp4 : knp (kVr V (100 + m)) C1 R 4 m := by
    refine knp_4 (fun i z => ?_) (fun i j z q1 q2 q3 => ?_)
    · have z' : V 8 i := by
        rcases z with z | z
        · exact z
        · omega
      have := i8 i z'
      obtain ⟨-, -, -, -, w5, -, w7, -⟩ := F7 i (by omega) (by omega)
      rw [u1 8 (by decide) (by decide) (by decide) (by decide), w5, w7]
      have w79 := rw.a79 (j := i) (by omega) (by have := rw.i26; omega)
      refine ⟨?_, ?_⟩
      · intro e
        have := (hU0 i (by omega) (by omega)).2.1
        omega
      · split
        · have := hU i (by omega) (by omega) (by assumption)
          omega
        · omega
    · have z' : V 33 i := by
        rcases z with z | z
        · exact z
        · omega
      have ei : i = C 10 1 0 := by
        rcases i33 i z' with y | y | y
        · have := K1.2.1; omega
        · exact y
        · have := F2.1; omega
      rw [u1 33 (by decide) (by decide) (by decide) (by decide), ei]
      by_cases e : (j : Int) < C 10 1 1
      · have := (F5 (j + 1) (by omega) (by omega)).2.2.2.2.1
        have e2 : (j : Int) + 1 - 1 = j := by omega
        rw [e2] at this
        omega
      · rw [F1.2.2.2.2.2 j (by omega) (by rw [ei] at q3; omega)]
        omega
  obtain ⟨A2, t1, t2, t3, t4⟩ := krole_m (J := ka_up (ka_up (ka_up J1 a (4, [iv m, iv k, iv (X 58 0 k), iv w, .ref (A1 6 (100 + m)), .ref a1, .ref a2, iv 0, iv 0, iv 0])) a1 kz5) a2 kz5) (C := C1) (R := R) (m := m) (k := k) (g := X 58 0 k) (w := w) y1 z1 o1 o2 n1 n2 n21 (fun z => by
    rcases z with z | z
    · exact h4 z
    · omega) (fun z => by
    rcases z with z | z
    · exact h23 z
    · omega) (fun z => by
    rcases z with z | z
    · exact h24 z
    · omega) hp4 (by rw [kup_atn n2.symm, kup_atn n1.symm, kup_at]) (by rw [kup_atn n21.symm, kup_at]) (by rw [kup_at])
  rw [t4]
  generalize ka_up (ka_up (ka_up J1 a (4, [iv m, iv k, iv (X 58 0 k), iv w, .ref (A1 6 (100 + m)), .ref a1, .ref a2, iv 0, iv 0, iv 0])) a1 kz5) a2 kz5 = J2
  have vv : ∀ f q, V f q → kVm (kVr V (100 + m)) m f q := fun f q z => Or.inl (Or.inl z)
  have ex : kExt V (kVm (kVr V (100 + m)) m) A A2 := fun f q _ z => ⟨vv f q z, (t3 f q (Or.inl z)).trans (y2 f q z)⟩
  have v2 := ex.lv v
  have e10 : kCm C1 m k (X 58 0 k) w 10 = C 10 := by
    rw [← u1 10 (by decide) (by decide) (by decide) (by decide)]
    funext i j
    unfold kCm
    simp
  have e33 : kCm C1 m k (X 58 0 k) w 33 = C 33 := by
    rw [← u1 33 (by decide) (by decide) (by decide) (by decide)]
    funext i j
    unfold kCm
    simp
  have L : kAl (kVm (kVr V (100 + m)) m) (kCm C1 m k (X 58 0 k) w) 1 := (I.l1 v).w e10 e33 vv (fun q z => by
    rcases z with (z | z) | z
    · exact z
    · omega
    · omega) (fun q z => by
    rcases z with (z | z) | z
    · exact z
    · omega
    · omega)
  have v4m : kVm (kVr V (100 + m)) m 4 m := Or.inr ⟨by omega, rfl⟩
  have hE2 : A2 34 0 = E.1 := by rw [(ex 34 0 (by decide) v.l34).2]; exact hE
  have eA2 : A 2 0 = A2 2 0 := (ex 2 0 (by decide) v.l2).2.symm
  have G := fun {Q} H => c184 (E := E) (d := d - 1) (c := c - 1 - 4 - 1 - 1) (l := l - 10 - 21 - 5 - 5) (J := J2) (C := kCm C1 m k (X 58 0 k) w) (R := R) (Q := Q) (i := 1) (x := m) t1 v2 hE2 L v4m (by omega) (by omega) (by omega) (by omega) H
  rw [show kLg 1 = 4 from rfl] at G
  rw [eA2, ← t2]
  have v102 := v2.2.2.1
  simp (disch := first | assumption | (unfold kR; decide) | exact klc_R | (unfold kR; omega) | omega | (unfold kL; omega) | exact kcat_null | exact kcat_ref _ | exact kcat_iv _) only [r68_22, r68_24, r68_25, r68_28, r68_30, ho_2_0 t1 v2.l2, hg_2_0 t1 v2.l2, ht_10 t1 v102, true_and, and_true, kk1_i, kk1_r, kk1_n, kk1_0, kcat_iv, kcat_ref, kcat_null, kisR_ref, kisR_null, ksz_nil, ksz_iv, ksz_ref, ksz_null, ksz_lv, kfit_int, kfit_long, kfit_obj, kfit_objN, kfit_arr, kfit_arrN, knarI, knarZ0, knarZ1, kret_v, kret_n, kret_x, Nat.reduceAdd, Nat.reduceLeDiff, reduceCtorEq, Int.reduceLE, Int.reduceLT, Int.reduceEq, ite_true, ite_false, true_or, or_true, false_implies, true_implies, not_true_eq_false, not_false_eq_true, and_self, eq_self, klc_lt, klc_ge, klc_le, klc_gt, klc_eq, kmu_eq, kmu_f, kmu_i, kmu_j, Nat.zero_le, show 1 ≤ d by omega]
  refine G (fun J3 A3 V3 C3 c3 l3 s1 s2 s3 s4 s5 => ?_)
  have BI := kBI_mk (A := A2) (A' := A3) rw I fr hU k0 k1 w0 w1 hm hm40 hy s2 s3
  have ex3 : kExt V V3 A A3 := by
    intro f q hf hv
    have q1 := vv f q hv
    have q2 := (s2.1 f q (fun y => hf y.1)).mpr q1
    exact ⟨q2, (s2.2.1 f q q2 (fun y => hf y.1)).trans (ex f q hf hv).2⟩
  have v3' := ex3.lv v
  have v4m3 : V3 4 m := (s2.1 4 m (fun y => absurd y.1 (by decide))).mpr v4m
  have e4m : A2 4 m = A3 4 m := (s2.2.1 4 m v4m3 (fun y => absurd y.1 (by decide))).symm
  have rwb := (f156b_o rw B (k := k) (w := w) ⟨k0, by omega⟩ ⟨w0, w1⟩ (by omega)).1
  have eA3 : A2 2 0 = A3 2 0 := ((ex3 2 0 (by decide) v.l2).2.trans (ex 2 0 (by decide) v.l2).2.symm).symm
  rw [e4m, eA3]
  simp (disch := first | assumption | (unfold kR; decide) | exact klc_R | (unfold kR; omega) | omega | (unfold kL; omega) | exact kcat_null | exact kcat_ref _ | exact kcat_iv _) only [r68_33, r68_34, r68_35, ht_2 s1 v3'.l2, true_and, and_true, kk1_i, kk1_r, kk1_n, kk1_0, kcat_iv, kcat_ref, kcat_null, kisR_ref, kisR_null, ksz_nil, ksz_iv, ksz_ref, ksz_null, ksz_lv, kfit_int, kfit_long, kfit_obj, kfit_objN, kfit_arr, kfit_arrN, knarI, knarZ0, knarZ1, kret_v, kret_n, kret_x, Nat.reduceAdd, Nat.reduceLeDiff, reduceCtorEq, Int.reduceLE, Int.reduceLT, Int.reduceEq, ite_true, ite_false, true_or, or_true, false_implies, true_implies, not_true_eq_false, not_false_eq_true, and_self, eq_self, klc_lt, klc_ge, klc_le, klc_gt, klc_eq, kmu_eq, kmu_f, kmu_i, kmu_j, Nat.zero_le, show 1 ≤ d by omega]
  refine c77 s1 v3' (ex3.rw rwb) BI.2.2.1 nd (by omega) (fun C4 g1 g2 => ?_)
  obtain ⟨j1', j2', j3', -⟩ := j153 (E := E) (d := 2) (c := c) (l := l) (Q := Q) (J := J3) (C := C3) s1 v3' (ex3.rw rwb) nd (by omega)
  have BI4 := kBI_Fl BI g2 g1 (ex3.rw rwb) j2'
  have c40 : C4 4 m 0 = m := by
    rw [g1 4 (by decide) (by decide) (by decide) (by decide) (by decide), s3.2.2.2.2.2.2.2.2.1 4 (by decide) (by decide)]
    unfold kCm
    rw [if_pos ⟨rfl, rfl⟩, if_pos rfl]
  have := H J3 A3 V3 C4 c3 l3 s1 ex3 BI4 v4m3 c40 (fun f h1 h2 h3 h4 h5 h6 h7 h8 h9 h10 h11 h12 => by
    rw [g1 f h10 h6 h7 h11 h12, s3.2.2.2.2.2.2.2.2.1 f h8 h9, ← u1 f h1 h2 h3 h4]
    funext i j
    unfold kCm
    rw [if_neg (fun z => h5 z.1), if_neg (fun z => by omega)]) (by omega) (by omega)
  simp (disch := first | assumption | (unfold kR; decide) | exact klc_R | (unfold kR; omega) | omega | (unfold kL; omega) | exact kcat_null | exact kcat_ref _ | exact kcat_iv _) only [r68_38, r68_40, true_and, and_true, kk1_i, kk1_r, kk1_n, kk1_0, kcat_iv, kcat_ref, kcat_null, kisR_ref, kisR_null, ksz_nil, ksz_iv, ksz_ref, ksz_null, ksz_lv, kfit_int, kfit_long, kfit_obj, kfit_objN, kfit_arr, kfit_arrN, knarI, knarZ0, knarZ1, kret_v, kret_n, kret_x, Nat.reduceAdd, Nat.reduceLeDiff, reduceCtorEq, Int.reduceLE, Int.reduceLT, Int.reduceEq, ite_true, ite_false, true_or, or_true, false_implies, true_implies, not_true_eq_false, not_false_eq_true, and_self, eq_self, klc_lt, klc_ge, klc_le, klc_gt, klc_eq, kmu_eq, kmu_f, kmu_i, kmu_j]
  exact this
end
