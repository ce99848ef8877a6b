/-! The reference's own calls: make, substitute, drop. -/
section
variable {E : Nat × Nat} {d c l : Nat} {s : ka_S} {Q : ka_Q} {J : ka_H} {A : ka_A} {V : ka_V} {C R : ka_M}
theorem f138_b (r : kRW V R) (bk : kBk R) {k : Int} (h1 : 0 ≤ k ∧ k ≤ R 9 0 7 - 1) : 4 * k ≤ f138 R k ∧ f138 R k < 4 * k + R 59 0 k ∧ R 59 0 k ≤ 4 ∧ k < 20 := by
  have B7 := r.i7
  have B59 := r.a59 (j := k) (by omega) (by omega)
  have hr := bk.2.2.2 k (by omega) (by omega)
  have := ktd_b R k 4 0 (by omega) (by omega)
  unfold f138
  omega
/-- make -/
theorem j156_1 (hA : kJ A V) (v : kLV V) (r : kRW V R) {k w : Int} (hd : 2 ≤ d) (hk : kR k) (h1 : ¬ (0 ≤ k ∧ k ≤ R 9 0 7 - 1)) : ka_W (kp E) (d, (156, 0, [some (.ref (A 9 0)), some (iv k), some (iv w), none, none], []), (kHp J A V C R, c, l)) Q ↔ Q (.inl (some (iv 0))) (kHp J A V C (kmu R 9 0 0 1), c, l) := by
  simp (disch := first | assumption | (unfold kR; decide) | exact klc_R | (unfold kR; omega) | omega | (unfold kL; omega) | exact kcat_null | exact kcat_ref _ | exact kcat_iv _) only [r156_0, r156_1, r156_2, r156_3, r156_6, r156_9, r156_10, r156_13, r156_14, r156_15, r156_16, r156_19, r156_22, r156_23, r156_26, r156_27, r156_30, r156_31, r156_34, r156_72, r156_73, r156_76, r156_79, r156_80, ht_9 hA v.l9, ho_9_0 hA v.l9, hp_9_0 hA v.l9, hg_9_0 hA v.l9, true_and, and_true, kk1_i, kk1_r, kk1_n, kk1_0, kcat_iv, kcat_ref, kcat_null, kisR_ref, kisR_null, ksz_nil, ksz_iv, ksz_ref, ksz_null, ksz_lv, kfit_int, kfit_long, kfit_obj, kfit_objN, kfit_arr, kfit_arrN, knarI, knarZ0, knarZ1, kret_v, kret_n, kret_x, Nat.reduceAdd, Nat.reduceLeDiff, reduceCtorEq, Int.reduceLE, Int.reduceLT, Int.reduceEq, ite_true, ite_false, true_or, or_true, false_implies, true_implies, not_true_eq_false, not_false_eq_true, and_self, eq_self, klc_lt, klc_ge, klc_le, klc_gt, klc_eq, kmu_eq, kmu_f, kmu_i, kmu_j, j121 hA v r, show 1 ≤ d by omega, Nat.zero_le, h1]
theorem j156_2 (hA : kJ A V) (v : kLV V) (r : kRW V R) {k w : Int} (hd : 2 ≤ d) (hk : kR k) (hw : kR w) (h1 : 0 ≤ k ∧ k ≤ R 9 0 7 - 1) (h2 : ¬ (0 ≤ w ∧ w ≤ 4)) : ka_W (kp E) (d, (156, 0, [some (.ref (A 9 0)), some (iv k), some (iv w), none, none], []), (kHp J A V C R, c, l)) Q ↔ Q (.inl (some (iv 0))) (kHp J A V C (kmu R 9 0 0 2), c, l) := by
  simp (disch := first | assumption | (unfold kR; decide) | exact klc_R | (unfold kR; omega) | omega | (unfold kL; omega) | exact kcat_null | exact kcat_ref _ | exact kcat_iv _) only [r156_0, r156_1, r156_2, r156_3, r156_6, r156_9, r156_10, r156_13, r156_14, r156_15, r156_16, r156_19, r156_22, r156_23, r156_26, r156_27, r156_30, r156_31, r156_34, r156_72, r156_73, r156_76, r156_79, r156_80, ht_9 hA v.l9, ho_9_0 hA v.l9, hp_9_0 hA v.l9, hg_9_0 hA v.l9, true_and, and_true, kk1_i, kk1_r, kk1_n, kk1_0, kcat_iv, kcat_ref, kcat_null, kisR_ref, kisR_null, ksz_nil, ksz_iv, ksz_ref, ksz_null, ksz_lv, kfit_int, kfit_long, kfit_obj, kfit_objN, kfit_arr, kfit_arrN, knarI, knarZ0, knarZ1, kret_v, kret_n, kret_x, Nat.reduceAdd, Nat.reduceLeDiff, reduceCtorEq, Int.reduceLE, Int.reduceLT, Int.reduceEq, ite_true, ite_false, true_or, or_true, false_implies, true_implies, not_true_eq_false, not_false_eq_true, and_self, eq_self, klc_lt, klc_ge, klc_le, klc_gt, klc_eq, kmu_eq, kmu_f, kmu_i, kmu_j, j121 hA v r, k119, show 1 ≤ d by omega, Nat.zero_le, h1, h2]
theorem f138_c {R' : ka_M} (h1 : R' 9 0 1 = R 9 0 1) (h2 : R' 59 = R 59) (h3 : R' 60 = R 60) (k : Int) : f138 R' k = f138 R k := by
  have : ∀ n q, ktd R' k n q = ktd R k n q := by
    intro n
    induction n with
    | zero => intro q; rfl
    | succ n ih =>
      intro q
      unfold ktd
      rw [h1, h2, h3, ih]
  unfold f138
  rw [this]
theorem j156_3 (hA : kJ A V) (v : kLV V) (r : kRW V R) (bk : kBk R) {k w : Int} (hd : 2 ≤ d) (hk : kR k) (hw : kR w) (h1 : 0 ≤ k ∧ k ≤ R 9 0 7 - 1) (h2 : 0 ≤ w ∧ w ≤ 4) (h3 : R 61 0 (f138 R k) = 0) : ka_W (kp E) (d, (156, 0, [some (.ref (A 9 0)), some (iv k), some (iv w), none, none], []), (kHp J A V C R, c, l)) Q ↔ Q (.inl (some (iv 0))) (kHp J A V C (kmu R 9 0 0 3), c, l) := by
  have F := f138_b r bk h1
  have B := r.a61 (j := f138 R k) (by omega) (by omega)
  have r0 := r.pi0 (x := 0) (by omega) (by omega)
  have q := fun {Q} => j138 (E := E) (d := d - 1) (c := c) (l := l) (Q := Q) (J := J) (C := C) (k := k) hA v r0 (by omega) (by omega)
  rw [f138_c (R := R) (kmu_j (by decide)) (kmu_ff (by decide)) (kmu_ff (by decide))] at q
  simp (disch := first | assumption | (unfold kR; decide) | exact klc_R | (unfold kR; omega) | omega | (unfold kL; omega) | exact kcat_null | exact kcat_ref _ | exact kcat_iv _) only [r156_0, r156_1, r156_2, r156_3, r156_6, r156_9, r156_10, r156_13, r156_14, r156_15, r156_16, r156_19, r156_22, r156_23, r156_26, r156_27, r156_30, r156_31, r156_34, r156_37, r156_38, r156_39, r156_42, r156_43, r156_44, r156_47, r156_48, r156_51, r156_52, r156_55, r156_56, r156_59, r156_61, r156_64, r156_65, r156_68, r156_69, r156_72, r156_73, r156_76, r156_79, r156_80, ht_9 hA v.l9, ho_9_0 hA v.l9, hp_9_0 hA v.l9, hg_9_0 hA v.l9, ho_9_11 hA v.l9, hg_9_11 hA v.l9, hoa_61 hA v.l61, hga_61 hA v.l61, ho_9_15 hA v.l9, hg_9_15 hA v.l9, true_and, and_true, kk1_i, kk1_r, kk1_n, kk1_0, kcat_iv, kcat_ref, kcat_null, kisR_ref, kisR_null, ksz_nil, ksz_iv, ksz_ref, ksz_null, ksz_lv, kfit_int, kfit_long, kfit_obj, kfit_objN, kfit_arr, kfit_arrN, knarI, knarZ0, knarZ1, kret_v, kret_n, kret_x, Nat.reduceAdd, Nat.reduceLeDiff, reduceCtorEq, Int.reduceLE, Int.reduceLT, Int.reduceEq, ite_true, ite_false, true_or, or_true, false_implies, true_implies, not_true_eq_false, not_false_eq_true, and_self, eq_self, klc_lt, klc_ge, klc_le, klc_gt, klc_eq, kmu_eq, kmu_f, kmu_i, kmu_j, j121 hA v r, k119, q, show 1 ≤ d by omega, Nat.zero_le, h1, h2, h3, kmu_mu]
theorem j156_4 (hA : kJ A V) (v : kLV V) (r : kRW V R) (bk : kBk R) {k w : Int} (hd : 2 ≤ d) (hk : kR k) (hw : kR w) (h1 : 0 ≤ k ∧ k ≤ R 9 0 7 - 1) (h2 : 0 ≤ w ∧ w ≤ 4) (h3 : ¬ R 61 0 (f138 R k) = 0) (h4 : R 9 0 15 = 40) : ka_W (kp E) (d, (156, 0, [some (.ref (A 9 0)), some (iv k), some (iv w), none, none], []), (kHp J A V C R, c, l)) Q ↔ Q (.inl (some (iv 0))) (kHp J A V C (kmu R 9 0 0 4), c, l) := by
  have F := f138_b r bk h1
  have B := r.a61 (j := f138 R k) (by omega) (by omega)
  have r0 := r.pi0 (x := 0) (by omega) (by omega)
  have q := fun {Q} => j138 (E := E) (d := d - 1) (c := c) (l := l) (Q := Q) (J := J) (C := C) (k := k) hA v r0 (by omega) (by omega)
  rw [f138_c (R := R) (kmu_j (by decide)) (kmu_ff (by decide)) (kmu_ff (by decide))] at q
  simp (disch := first | assumption | (unfold kR; decide) | exact klc_R | (unfold kR; omega) | omega | (unfold kL; omega) | exact kcat_null | exact kcat_ref _ | exact kcat_iv _) only [r156_0, r156_1, r156_2, r156_3, r156_6, r156_9, r156_10, r156_13, r156_14, r156_15, r156_16, r156_19, r156_22, r156_23, r156_26, r156_27, r156_30, r156_31, r156_34, r156_37, r156_38, r156_39, r156_42, r156_43, r156_44, r156_47, r156_48, r156_51, r156_52, r156_55, r156_56, r156_59, r156_61, r156_64, r156_65, r156_68, r156_69, r156_72, r156_73, r156_76, r156_79, r156_80, ht_9 hA v.l9, ho_9_0 hA v.l9, hp_9_0 hA v.l9, hg_9_0 hA v.l9, ho_9_11 hA v.l9, hg_9_11 hA v.l9, hoa_61 hA v.l61, hga_61 hA v.l61, ho_9_15 hA v.l9, hg_9_15 hA v.l9, true_and, and_true, kk1_i, kk1_r, kk1_n, kk1_0, kcat_iv, kcat_ref, kcat_null, kisR_ref, kisR_null, ksz_nil, ksz_iv, ksz_ref, ksz_null, ksz_lv, kfit_int, kfit_long, kfit_obj, kfit_objN, kfit_arr, kfit_arrN, knarI, knarZ0, knarZ1, kret_v, kret_n, kret_x, Nat.reduceAdd, Nat.reduceLeDiff, reduceCtorEq, Int.reduceLE, Int.reduceLT, Int.reduceEq, ite_true, ite_false, true_or, or_true, false_implies, true_implies, not_true_eq_false, not_false_eq_true, and_self, eq_self, klc_lt, klc_ge, klc_le, klc_gt, klc_eq, kmu_eq, kmu_f, kmu_i, kmu_j, j121 hA v r, k119, q, show 1 ≤ d by omega, Nat.zero_le, h1, h2, h3, h4, kmu_mu]
/-- a part of recipe b is copied to making m -/
def kcp (m b : Int) (p : Int) (R : ka_M) : ka_M := kmu (kmu (kmu R 72 0 (5 * m + p) (R 62 0 (5 * b + p))) 73 0 (5 * m + p) (R 63 0 (5 * b + p))) 74 0 (5 * m + p) (R 64 0 (5 * b + p))
def f156h (R : ka_M) (k w : Int) : ka_M :=
  let m := R 9 0 15 + 1
  kmu (kmu (kmu (kmu (kmu R 9 0 15 m) 66 0 m k) 67 0 m w) 68 0 m 0) 70 0 m (R 61 0 (f138 R k))
/-- all but the offer -/
def f156b (R : ka_M) (k w : Int) : ka_M := kfd (kcp (R 9 0 15 + 1) (f138 R k)) (R 61 0 (f138 R k)).toNat 0 (f156h R k w)
noncomputable def f156 (R : ka_M) (k w : Int) : ka_M := f153 (f156b R k w)
/-- what a copy leaves alone -/
def kCp (R R' : ka_M) : Prop := ∀ f, f ≠ 72 → f ≠ 73 → f ≠ 74 → R' f = R f
theorem f156h_rw (r : kRW V R) (bk : kBk R) {k w : Int} (h1 : 0 ≤ k ∧ k ≤ R 9 0 7 - 1) (h2 : 0 ≤ w ∧ w ≤ 4) (h4 : R 9 0 15 < 40) : kRW V (f156h R k w) := by
  have F := f138_b r bk h1
  have B := r.a61 (j := f138 R k) (by omega) (by omega)
  have B15 := r.i15
  unfold f156h
  exact ((((r.pi15 (by omega) (by omega)).pa66 (by omega) (by omega)).pa67 (by omega) (by omega)).pa68 (by omega) (by omega)).pa70 (by omega) (by omega)
theorem f156h_o {k w : Int} : f156h R k w 9 0 15 = R 9 0 15 + 1 ∧ (∀ j, j ≠ 15 → f156h R k w 9 0 j = R 9 0 j) ∧ ∀ f, f ≠ 9 → f ≠ 66 → f ≠ 67 → f ≠ 68 → f ≠ 70 → f156h R k w f = R f := by
  unfold f156h
  refine ⟨?_, fun j hj => ?_, fun f a b c' d' e => ?_⟩
  · rw [kmu_f (by decide), kmu_f (by decide), kmu_f (by decide), kmu_f (by decide), kmu_eq]
  · rw [kmu_f (by decide), kmu_f (by decide), kmu_f (by decide), kmu_f (by decide), kmu_j hj]
  · rw [kmu_ff e, kmu_ff d', kmu_ff c', kmu_ff b, kmu_ff a]
theorem kcp_o {m b p : Int} (r : kRW V R) (m0 : 1 ≤ m) (m1 : m ≤ 40) (b0 : 0 ≤ b) (b1 : b < 84) (p0 : 0 ≤ p) (p1 : p < 5) : kRW V (kcp m b p R) ∧ kCp R (kcp m b p R) := by
  have B1 := r.a62 (j := 5 * b + p) (by omega) (by omega)
  have B2 := r.a63 (j := 5 * b + p) (by omega) (by omega)
  have B3 := r.a64 (j := 5 * b + p) (by omega) (by omega)
  unfold kcp
  exact ⟨((r.pa72 B1.1 B1.2).pa73 B2.1 B2.2).pa74 B3.1 B3.2, fun f a b c' => by rw [kmu_ff c', kmu_ff b, kmu_ff a]⟩
theorem f156b_o (r : kRW V R) (bk : kBk R) {k w : Int} (h1 : 0 ≤ k ∧ k ≤ R 9 0 7 - 1) (h2 : 0 ≤ w ∧ w ≤ 4) (h4 : R 9 0 15 < 40) : kRW V (f156b R k w) ∧ kCp (f156h R k w) (f156b R k w) := by
  have F := f138_b r bk h1
  have B := r.a61 (j := f138 R k) (by omega) (by omega)
  have B15 := r.i15
  have z := kfd_inv (P := fun p X => 0 ≤ p ∧ kRW V X ∧ kCp (f156h R k w) X) (f := kcp (R 9 0 15 + 1) (f138 R k)) (R 61 0 (f138 R k)).toNat 0 (f156h R k w) (fun p X p0 p1 ⟨_, rX, cX⟩ => by
    obtain ⟨y1, y2⟩ := kcp_o (m := R 9 0 15 + 1) (b := f138 R k) (p := p) rX (by omega) (by omega) (by omega) (by omega) p0 (by omega)
    exact ⟨by omega, y1, fun f a b c' => (y2 f a b c').trans (cX f a b c')⟩) ⟨by omega, f156h_rw r bk h1 h2 h4, fun _ _ _ _ => rfl⟩
  exact ⟨z.2.1, z.2.2⟩
theorem j156_0 (hA : kJ A V) (v : kLV V) (r : kRW V R) (bk : kBk R) {k w : Int} (hd : 3 ≤ d) (hk : kR k) (hw : kR w) (h1 : 0 ≤ k ∧ k ≤ R 9 0 7 - 1) (h2 : 0 ≤ w ∧ w ≤ 4) (h3 : ¬ R 61 0 (f138 R k) = 0) (h4 : R 9 0 15 < 40) (nd : kND (f156b (kmu R 9 0 0 0) k w)) : ka_W (kp E) (d, (156, 0, [some (.ref (A 9 0)), some (iv k), some (iv w), none, none], []), (kHp J A V C R, c, l)) Q ↔ Q (.inl (some (iv (R 9 0 15 + 1)))) (kHp J A V C (f156 (kmu R 9 0 0 0) k w), c, l) := by
  have F := f138_b r bk h1
  have B := r.a61 (j := f138 R k) (by omega) (by omega)
  have B15 := r.i15
  have r0 := r.pi0 (x := 0) (by omega) (by omega)
  have b0 : kBk (kmu R 9 0 0 0) := bk.c (kmu_ff (by decide)) (kmu_ff (by decide)) (kmu_ff (by decide)) (kmu_j (by decide))
  have e138 : f138 (kmu R 9 0 0 0) k = f138 R k := f138_c (kmu_j (by decide)) (kmu_ff (by decide)) (kmu_ff (by decide)) k
  have q := fun {Q} => j138 (E := E) (d := d - 1) (c := c) (l := l) (Q := Q) (J := J) (C := C) (k := k) hA v r0 (by omega) (by omega)
  have r1 := r0.pi15 (x := R 9 0 15 + 1) (by omega) (by omega)
  have q1 := fun {Q} => j138 (E := E) (d := d - 1) (c := c) (l := l) (Q := Q) (J := J) (C := C) (k := k) hA v r1 (by omega) (by omega)
  have e138' : f138 (kmu (kmu R 9 0 0 0) 9 0 15 (R 9 0 15 + 1)) k = f138 R k := (f138_c (kmu_j (by decide)) (kmu_ff (by decide)) (kmu_ff (by decide)) k).trans e138
  rw [e138] at q
  rw [e138'] at q1
  have h1' : 0 ≤ k ∧ k ≤ kmu R 9 0 0 0 9 0 7 - 1 := by rw [kmu_j (by decide)]; exact h1
  have e15 : kmu R 9 0 0 0 9 0 15 = R 9 0 15 := kmu_j (by decide)
  have e61 : kmu R 9 0 0 0 61 = R 61 := kmu_ff (by decide)
  obtain ⟨rb, cb⟩ := f156b_o r0 b0 (k := k) (w := w) h1' h2 (by rw [e15]; exact h4)
  have q2 := fun {Q} => (j153 (E := E) (d := d - 1) (c := c) (l := l) (Q := Q) (J := J) (C := C) hA v rb nd (by omega)).2.2.2
  have t2 := (j153 (E := E) (d := d - 1) (c := c) (l := l) (Q := Q) (J := J) (C := C) hA v rb nd (by omega)).2.1
  -- the copies
  have rh := f156h_rw r0 b0 (k := k) (w := w) h1' h2 (by rw [e15]; exact h4)
  have oh := f156h_o (R := kmu R 9 0 0 0) (k := k) (w := w)
  obtain ⟨w1, -⟩ := kfor (n := R 61 0 (f138 R k)) (f := kcp (R 9 0 15 + 1) (f138 R k)) (inv := fun p X => 0 ≤ p ∧ kRW V X ∧ kCp (f156h (kmu R 9 0 0 0) k w) X) (W := fun p X => ka_W (kp E) (d, (156, 145, [some (.ref (A 9 0)), some (iv k), some (iv w), some (iv (f138 R k)), some (iv p)], []), (kHp J A V C X, c, l)) Q) (fun p X hp ⟨p0, rX, cX⟩ => by
    obtain ⟨y1, y2⟩ := kcp_o (m := R 9 0 15 + 1) (b := f138 R k) (p := p) rX (by omega) (by omega) (by omega) (by omega) p0 (by omega)
    refine ⟨⟨by omega, y1, fun f a b c' => (y2 f a b c').trans (cX f a b c')⟩, ?_⟩
    have x15 : X 9 0 15 = R 9 0 15 + 1 := by rw [cX 9 (by decide) (by decide) (by decide), oh.1, e15]
    have x61 : X 61 = R 61 := by rw [cX 61 (by decide) (by decide) (by decide), oh.2.2 61 (by decide) (by decide) (by decide) (by decide) (by decide), e61]
    unfold kcp
    rw [r156_145]
    simp (disch := first | assumption | (unfold kR; decide) | exact klc_R | (unfold kR; omega) | omega | (unfold kL; omega) | exact kcat_null | exact kcat_ref _ | exact kcat_iv _) only [r156_147, r156_148, r156_151, r156_152, r156_153, r156_156, r156_157, r156_160, r156_161, r156_162, r156_165, r156_166, r156_168, r156_169, r156_170, r156_173, r156_174, r156_175, r156_176, r156_178, r156_179, r156_180, r156_181, r156_182, r156_185, r156_186, r156_187, r156_190, r156_191, r156_193, r156_194, r156_195, r156_198, r156_199, r156_200, r156_201, r156_203, r156_204, r156_205, r156_206, r156_207, r156_210, r156_211, r156_212, r156_215, r156_216, r156_218, r156_219, r156_220, r156_223, r156_224, r156_225, r156_226, r156_228, r156_229, r156_230, r156_231, r156_234, ho_9_11 hA v.l9, hg_9_11 hA v.l9, hoa_61 hA v.l61, hga_61 hA v.l61, hpa_61 hA v.l61, ho_9_22 hA v.l9, hg_9_22 hA v.l9, hoa_72 hA v.l72, hga_72 hA v.l72, hpa_72 hA v.l72, ho_9_15 hA v.l9, hg_9_15 hA v.l9, ho_9_12 hA v.l9, hg_9_12 hA v.l9, hoa_62 hA v.l62, hga_62 hA v.l62, hpa_62 hA v.l62, ho_9_23 hA v.l9, hg_9_23 hA v.l9, hoa_73 hA v.l73, hga_73 hA v.l73, hpa_73 hA v.l73, ho_9_13 hA v.l9, hg_9_13 hA v.l9, hoa_63 hA v.l63, hga_63 hA v.l63, hpa_63 hA v.l63, ho_9_24 hA v.l9, hg_9_24 hA v.l9, hoa_74 hA v.l74, hga_74 hA v.l74, hpa_74 hA v.l74, ho_9_14 hA v.l9, hg_9_14 hA v.l9, hoa_64 hA v.l64, hga_64 hA v.l64, hpa_64 hA v.l64, true_and, and_true, kk1_i, kk1_r, kk1_n, kk1_0, kcat_iv, kcat_ref, kcat_null, kisR_ref, kisR_null, ksz_nil, ksz_iv, ksz_ref, ksz_null, ksz_lv, kfit_int, kfit_long, kfit_obj, kfit_objN, kfit_arr, kfit_arrN, knarI, knarZ0, knarZ1, kret_v, kret_n, kret_x, Nat.reduceAdd, Nat.reduceLeDiff, reduceCtorEq, Int.reduceLE, Int.reduceLT, Int.reduceEq, ite_true, ite_false, true_or, or_true, false_implies, true_implies, not_true_eq_false, not_false_eq_true, and_self, eq_self, klc_lt, klc_ge, klc_le, klc_gt, klc_eq, kmu_eq, kmu_f, kmu_i, kmu_j, x15, x61, show ¬ R 61 0 (f138 R k) ≤ p by omega]) (R 61 0 (f138 R k)).toNat 0 (f156h (kmu R 9 0 0 0) k w) (by omega) ⟨by omega, rh, fun _ _ _ _ => rfl⟩
  have eb : kfd (kcp (R 9 0 15 + 1) (f138 R k)) (R 61 0 (f138 R k)).toNat 0 (f156h (kmu R 9 0 0 0) k w) = f156b (kmu R 9 0 0 0) k w := by
    unfold f156b
    rw [e15, e138, e61]
  rw [eb] at w1
  have x15 : f156b (kmu R 9 0 0 0) k w 9 0 15 = R 9 0 15 + 1 := by rw [cb 9 (by decide) (by decide) (by decide), oh.1, e15]
  have x61 : f156b (kmu R 9 0 0 0) k w 61 = R 61 := by rw [cb 61 (by decide) (by decide) (by decide), oh.2.2 61 (by decide) (by decide) (by decide) (by decide) (by decide), e61]
  have y15 : f153 (f156b (kmu R 9 0 0 0) k w) 9 0 15 = R 9 0 15 + 1 := by rw [t2 9 (by decide) (by decide) (by decide) (by decide) (by decide), x15]
  have w2 := w1.trans (show _ ↔ Q (.inl (some (iv (R 9 0 15 + 1)))) (kHp J A V C (f156 (kmu R 9 0 0 0) k w), c, l) by
    unfold f156
    rw [r156_145]
    simp (disch := first | assumption | (unfold kR; decide) | exact klc_R | (unfold kR; omega) | omega | (unfold kL; omega) | exact kcat_null | exact kcat_ref _ | exact kcat_iv _) only [r156_147, r156_148, r156_151, r156_152, r156_153, r156_237, r156_238, r156_241, r156_242, r156_245, ho_9_11 hA v.l9, hg_9_11 hA v.l9, hoa_61 hA v.l61, hga_61 hA v.l61, ht_9 hA v.l9, ho_9_15 hA v.l9, hg_9_15 hA v.l9, true_and, and_true, kk1_i, kk1_r, kk1_n, kk1_0, kcat_iv, kcat_ref, kcat_null, kisR_ref, kisR_null, ksz_nil, ksz_iv, ksz_ref, ksz_null, ksz_lv, kfit_int, kfit_long, kfit_obj, kfit_objN, kfit_arr, kfit_arrN, knarI, knarZ0, knarZ1, kret_v, kret_n, kret_x, Nat.reduceAdd, Nat.reduceLeDiff, reduceCtorEq, Int.reduceLE, Int.reduceLT, Int.reduceEq, ite_true, ite_false, true_or, or_true, false_implies, true_implies, not_true_eq_false, not_false_eq_true, and_self, eq_self, klc_lt, klc_ge, klc_le, klc_gt, klc_eq, kmu_eq, kmu_f, kmu_i, kmu_j, x15, x61, q2, y15, Int.le_refl, Nat.zero_le, show 1 ≤ d by omega])
  rw [← w2]
  unfold f156h
  dsimp only
  rw [e15, e61, e138]
  simp (disch := first | assumption | (unfold kR; decide) | exact klc_R | (unfold kR; omega) | omega | (unfold kL; omega) | exact kcat_null | exact kcat_ref _ | exact kcat_iv _) only [r156_0, r156_1, r156_2, r156_3, r156_6, r156_9, r156_10, r156_13, r156_14, r156_15, r156_16, r156_19, r156_22, r156_23, r156_26, r156_27, r156_30, r156_31, r156_34, r156_37, r156_38, r156_39, r156_42, r156_43, r156_44, r156_47, r156_48, r156_51, r156_52, r156_55, r156_56, r156_59, r156_61, r156_64, r156_65, r156_68, r156_69, r156_72, r156_73, r156_76, r156_79, r156_80, r156_81, r156_82, r156_83, r156_86, r156_87, r156_88, r156_91, r156_92, r156_93, r156_96, r156_97, r156_98, r156_101, r156_102, r156_105, r156_106, r156_107, r156_108, r156_111, r156_112, r156_115, r156_116, r156_117, r156_118, r156_121, r156_122, r156_125, r156_126, r156_127, r156_128, r156_131, r156_132, r156_135, r156_136, r156_139, r156_140, r156_141, r156_142, r156_143, ht_9 hA v.l9, ho_9_0 hA v.l9, hp_9_0 hA v.l9, hg_9_0 hA v.l9, ho_9_11 hA v.l9, hg_9_11 hA v.l9, hoa_61 hA v.l61, hga_61 hA v.l61, hpa_61 hA v.l61, ho_9_15 hA v.l9, hg_9_15 hA v.l9, hp_9_15 hA v.l9, ho_9_16 hA v.l9, hg_9_16 hA v.l9, hoa_66 hA v.l66, hga_66 hA v.l66, hpa_66 hA v.l66, ho_9_17 hA v.l9, hg_9_17 hA v.l9, hoa_67 hA v.l67, hga_67 hA v.l67, hpa_67 hA v.l67, ho_9_18 hA v.l9, hg_9_18 hA v.l9, hoa_68 hA v.l68, hga_68 hA v.l68, hpa_68 hA v.l68, ho_9_20 hA v.l9, hg_9_20 hA v.l9, hoa_70 hA v.l70, hga_70 hA v.l70, hpa_70 hA v.l70, true_and, and_true, kk1_i, kk1_r, kk1_n, kk1_0, kcat_iv, kcat_ref, kcat_null, kisR_ref, kisR_null, ksz_nil, ksz_iv, ksz_ref, ksz_null, ksz_lv, kfit_int, kfit_long, kfit_obj, kfit_objN, kfit_arr, kfit_arrN, knarI, knarZ0, knarZ1, kret_v, kret_n, kret_x, Nat.reduceAdd, Nat.reduceLeDiff, reduceCtorEq, Int.reduceLE, Int.reduceLT, Int.reduceEq, ite_true, ite_false, true_or, or_true, false_implies, true_implies, not_true_eq_false, not_false_eq_true, and_self, eq_self, klc_lt, klc_ge, klc_le, klc_gt, klc_eq, kmu_eq, kmu_f, kmu_i, kmu_j, j121 hA v r, k119, q, q1, show 1 ≤ d by omega, Nat.zero_le, h1, h2, h3, show ¬ R 9 0 15 = 40 by omega, kmu_mu]
/-- substitute -/
theorem j158_1 (hA : kJ A V) (v : kLV V) (r : kRW V R) {m p : Int} (hd : 2 ≤ d) (hm : kR m) (h1 : ¬ (1 ≤ m ∧ m ≤ R 9 0 15)) : ka_W (kp E) (d, (158, 0, [some (.ref (A 9 0)), some (iv m), some (iv p), none], []), (kHp J A V C R, c, l)) Q ↔ Q (.inl none) (kHp J A V C (kmu R 9 0 0 1), c, l) := by
  simp (disch := first | assumption | (unfold kR; decide) | exact klc_R | (unfold kR; omega) | omega | (unfold kL; omega) | exact kcat_null | exact kcat_ref _ | exact kcat_iv _) only [r158_0, r158_1, r158_2, r158_3, r158_6, r158_9, r158_10, r158_13, r158_14, r158_17, r158_18, r158_21, r158_47, r158_48, r158_51, r158_98, r158_99, r158_102, r158_105, ht_9 hA v.l9, ho_9_0 hA v.l9, hp_9_0 hA v.l9, hg_9_0 hA v.l9, true_and, and_true, kk1_i, kk1_r, kk1_n, kk1_0, kcat_iv, kcat_ref, kcat_null, kisR_ref, kisR_null, ksz_nil, ksz_iv, ksz_ref, ksz_null, ksz_lv, kfit_int, kfit_long, kfit_obj, kfit_objN, kfit_arr, kfit_arrN, knarI, knarZ0, knarZ1, kret_v, kret_n, kret_x, Nat.reduceAdd, Nat.reduceLeDiff, reduceCtorEq, Int.reduceLE, Int.reduceLT, Int.reduceEq, ite_true, ite_false, true_or, or_true, false_implies, true_implies, not_true_eq_false, not_false_eq_true, and_self, eq_self, klc_lt, klc_ge, klc_le, klc_gt, klc_eq, kmu_eq, kmu_f, kmu_i, kmu_j, j157 hA v r, show 1 ≤ d by omega, Nat.zero_le, h1]
theorem j158_2 (hA : kJ A V) (v : kLV V) (r : kRW V R) {m p : Int} (hd : 2 ≤ d) (hm : kR m) (hp : kR p) (h1 : 1 ≤ m ∧ m ≤ R 9 0 15) (h2 : ¬ (1 ≤ p ∧ p ≤ R 70 0 m)) : ka_W (kp E) (d, (158, 0, [some (.ref (A 9 0)), some (iv m), some (iv p), none], []), (kHp J A V C R, c, l)) Q ↔ Q (.inl none) (kHp J A V C (kmu R 9 0 0 2), c, l) := by
  have B := r.i15
  have B70 := r.a70 (j := m) (by omega) (by omega)
  simp (disch := first | assumption | (unfold kR; decide) | exact klc_R | (unfold kR; omega) | omega | (unfold kL; omega) | exact kcat_null | exact kcat_ref _ | exact kcat_iv _) only [r158_0, r158_1, r158_2, r158_3, r158_6, r158_9, r158_10, r158_13, r158_14, r158_17, r158_18, r158_21, r158_24, r158_25, r158_26, r158_27, r158_28, r158_31, r158_32, r158_33, r158_36, r158_39, r158_40, r158_43, r158_44, r158_47, r158_48, r158_51, r158_98, r158_99, r158_102, r158_105, ht_9 hA v.l9, ho_9_0 hA v.l9, hp_9_0 hA v.l9, hg_9_0 hA v.l9, ho_9_20 hA v.l9, hg_9_20 hA v.l9, hoa_70 hA v.l70, hga_70 hA v.l70, true_and, and_true, kk1_i, kk1_r, kk1_n, kk1_0, kcat_iv, kcat_ref, kcat_null, kisR_ref, kisR_null, ksz_nil, ksz_iv, ksz_ref, ksz_null, ksz_lv, kfit_int, kfit_long, kfit_obj, kfit_objN, kfit_arr, kfit_arrN, knarI, knarZ0, knarZ1, kret_v, kret_n, kret_x, Nat.reduceAdd, Nat.reduceLeDiff, reduceCtorEq, Int.reduceLE, Int.reduceLT, Int.reduceEq, ite_true, ite_false, true_or, or_true, false_implies, true_implies, not_true_eq_false, not_false_eq_true, and_self, eq_self, klc_lt, klc_ge, klc_le, klc_gt, klc_eq, kmu_eq, kmu_f, kmu_i, kmu_j, j157 hA v r, k119, show 1 ≤ d by omega, Nat.zero_le, h1, h2, kmu_mu]
theorem j158_3 (hA : kJ A V) (v : kLV V) (r : kRW V R) {m p : Int} (hd : 2 ≤ d) (hm : kR m) (hp : kR p) (h1 : 1 ≤ m ∧ m ≤ R 9 0 15) (h2 : 1 ≤ p ∧ p ≤ R 70 0 m) (h3 : ¬ R 68 0 m = 0 ∨ p ≤ R 69 0 m ∨ R 74 0 (5 * m + p - 1) = -1) : ka_W (kp E) (d, (158, 0, [some (.ref (A 9 0)), some (iv m), some (iv p), none], []), (kHp J A V C R, c, l)) Q ↔ Q (.inl none) (kHp J A V C (kmu R 9 0 0 3), c, l) := by
  have B := r.i15
  have B70 := r.a70 (j := m) (by omega) (by omega)
  have B68 := r.a68 (j := m) (by omega) (by omega)
  have B69 := r.a69 (j := m) (by omega) (by omega)
  have B74 := r.a74 (j := 5 * m + p - 1) (by omega) (by omega)
  by_cases h4 : R 68 0 m = 0
  · by_cases h5 : p ≤ R 69 0 m
    · simp (disch := first | assumption | (unfold kR; decide) | exact klc_R | (unfold kR; omega) | omega | (unfold kL; omega) | exact kcat_null | exact kcat_ref _ | exact kcat_iv _) only [r158_0, r158_1, r158_2, r158_3, r158_6, r158_9, r158_10, r158_13, r158_14, r158_17, r158_18, r158_21, r158_24, r158_25, r158_26, r158_27, r158_28, r158_31, r158_32, r158_33, r158_36, r158_39, r158_40, r158_43, r158_44, r158_47, r158_48, r158_51, r158_54, r158_55, r158_56, r158_59, r158_60, r158_61, r158_64, r158_65, r158_66, r158_69, r158_70, r158_71, r158_74, r158_75, r158_78, r158_79, r158_80, r158_81, r158_82, r158_83, r158_84, r158_85, r158_86, r158_87, r158_90, r158_91, r158_94, r158_95, r158_98, r158_99, r158_102, r158_105, ht_9 hA v.l9, ho_9_0 hA v.l9, hp_9_0 hA v.l9, hg_9_0 hA v.l9, ho_9_20 hA v.l9, hg_9_20 hA v.l9, hoa_70 hA v.l70, hga_70 hA v.l70, ho_9_18 hA v.l9, hg_9_18 hA v.l9, hoa_68 hA v.l68, hga_68 hA v.l68, ho_9_19 hA v.l9, hg_9_19 hA v.l9, hoa_69 hA v.l69, hga_69 hA v.l69, ho_9_24 hA v.l9, hg_9_24 hA v.l9, hoa_74 hA v.l74, hga_74 hA v.l74, true_and, and_true, kk1_i, kk1_r, kk1_n, kk1_0, kcat_iv, kcat_ref, kcat_null, kisR_ref, kisR_null, ksz_nil, ksz_iv, ksz_ref, ksz_null, ksz_lv, kfit_int, kfit_long, kfit_obj, kfit_objN, kfit_arr, kfit_arrN, knarI, knarZ0, knarZ1, kret_v, kret_n, kret_x, Nat.reduceAdd, Nat.reduceLeDiff, reduceCtorEq, Int.reduceLE, Int.reduceLT, Int.reduceEq, ite_true, ite_false, true_or, or_true, false_implies, true_implies, not_true_eq_false, not_false_eq_true, and_self, eq_self, klc_lt, klc_ge, klc_le, klc_gt, klc_eq, kmu_eq, kmu_f, kmu_i, kmu_j, j157 hA v r, k119, show 1 ≤ d by omega, Nat.zero_le, h1, h2, h4, h5, kmu_mu]
    · have h6 := (h3.resolve_left (fun z => z h4)).resolve_left h5
      simp (disch := first | assumption | (unfold kR; decide) | exact klc_R | (unfold kR; omega) | omega | (unfold kL; omega) | exact kcat_null | exact kcat_ref _ | exact kcat_iv _) only [r158_0, r158_1, r158_2, r158_3, r158_6, r158_9, r158_10, r158_13, r158_14, r158_17, r158_18, r158_21, r158_24, r158_25, r158_26, r158_27, r158_28, r158_31, r158_32, r158_33, r158_36, r158_39, r158_40, r158_43, r158_44, r158_47, r158_48, r158_51, r158_54, r158_55, r158_56, r158_59, r158_60, r158_61, r158_64, r158_65, r158_66, r158_69, r158_70, r158_71, r158_74, r158_75, r158_78, r158_79, r158_80, r158_81, r158_82, r158_83, r158_84, r158_85, r158_86, r158_87, r158_90, r158_91, r158_94, r158_95, r158_98, r158_99, r158_102, r158_105, ht_9 hA v.l9, ho_9_0 hA v.l9, hp_9_0 hA v.l9, hg_9_0 hA v.l9, ho_9_20 hA v.l9, hg_9_20 hA v.l9, hoa_70 hA v.l70, hga_70 hA v.l70, ho_9_18 hA v.l9, hg_9_18 hA v.l9, hoa_68 hA v.l68, hga_68 hA v.l68, ho_9_19 hA v.l9, hg_9_19 hA v.l9, hoa_69 hA v.l69, hga_69 hA v.l69, ho_9_24 hA v.l9, hg_9_24 hA v.l9, hoa_74 hA v.l74, hga_74 hA v.l74, true_and, and_true, kk1_i, kk1_r, kk1_n, kk1_0, kcat_iv, kcat_ref, kcat_null, kisR_ref, kisR_null, ksz_nil, ksz_iv, ksz_ref, ksz_null, ksz_lv, kfit_int, kfit_long, kfit_obj, kfit_objN, kfit_arr, kfit_arrN, knarI, knarZ0, knarZ1, kret_v, kret_n, kret_x, Nat.reduceAdd, Nat.reduceLeDiff, reduceCtorEq, Int.reduceLE, Int.reduceLT, Int.reduceEq, ite_true, ite_false, true_or, or_true, false_implies, true_implies, not_true_eq_false, not_false_eq_true, and_self, eq_self, klc_lt, klc_ge, klc_le, klc_gt, klc_eq, kmu_eq, kmu_f, kmu_i, kmu_j, j157 hA v r, k119, show 1 ≤ d by omega, Nat.zero_le, h1, h2, h4, h5, h6, kmu_mu]
  · simp (disch := first | assumption | (unfold kR; decide) | exact klc_R | (unfold kR; omega) | omega | (unfold kL; omega) | exact kcat_null | exact kcat_ref _ | exact kcat_iv _) only [r158_0, r158_1, r158_2, r158_3, r158_6, r158_9, r158_10, r158_13, r158_14, r158_17, r158_18, r158_21, r158_24, r158_25, r158_26, r158_27, r158_28, r158_31, r158_32, r158_33, r158_36, r158_39, r158_40, r158_43, r158_44, r158_47, r158_48, r158_51, r158_54, r158_55, r158_56, r158_59, r158_60, r158_61, r158_64, r158_65, r158_66, r158_69, r158_70, r158_71, r158_74, r158_75, r158_78, r158_79, r158_80, r158_81, r158_82, r158_83, r158_84, r158_85, r158_86, r158_87, r158_90, r158_91, r158_94, r158_95, r158_98, r158_99, r158_102, r158_105, ht_9 hA v.l9, ho_9_0 hA v.l9, hp_9_0 hA v.l9, hg_9_0 hA v.l9, ho_9_20 hA v.l9, hg_9_20 hA v.l9, hoa_70 hA v.l70, hga_70 hA v.l70, ho_9_18 hA v.l9, hg_9_18 hA v.l9, hoa_68 hA v.l68, hga_68 hA v.l68, ho_9_19 hA v.l9, hg_9_19 hA v.l9, hoa_69 hA v.l69, hga_69 hA v.l69, ho_9_24 hA v.l9, hg_9_24 hA v.l9, hoa_74 hA v.l74, hga_74 hA v.l74, true_and, and_true, kk1_i, kk1_r, kk1_n, kk1_0, kcat_iv, kcat_ref, kcat_null, kisR_ref, kisR_null, ksz_nil, ksz_iv, ksz_ref, ksz_null, ksz_lv, kfit_int, kfit_long, kfit_obj, kfit_objN, kfit_arr, kfit_arrN, knarI, knarZ0, knarZ1, kret_v, kret_n, kret_x, Nat.reduceAdd, Nat.reduceLeDiff, reduceCtorEq, Int.reduceLE, Int.reduceLT, Int.reduceEq, ite_true, ite_false, true_or, or_true, false_implies, true_implies, not_true_eq_false, not_false_eq_true, and_self, eq_self, klc_lt, klc_ge, klc_le, klc_gt, klc_eq, kmu_eq, kmu_f, kmu_i, kmu_j, j157 hA v r, k119, show 1 ≤ d by omega, Nat.zero_le, h1, h2, h4, kmu_mu]
def f158b (R : ka_M) (m p : Int) : ka_M :=
  let X := f154 R m (p - 1)
  kmu (kmu X 72 0 (5 * m + p - 1) (X 74 0 (5 * m + p - 1))) 74 0 (5 * m + p - 1) (-1)
noncomputable def f158 (R : ka_M) (m p : Int) : ka_M := f153 (f158b R m p)
theorem j158_0 (hA : kJ A V) (v : kLV V) (r : kRW V R) {m p : Int} (hd : 3 ≤ d) (hm : kR m) (hp : kR p) (h1 : 1 ≤ m ∧ m ≤ R 9 0 15) (h2 : 1 ≤ p ∧ p ≤ R 70 0 m) (h3 : R 68 0 m = 0) (h4 : ¬ p ≤ R 69 0 m) (h5 : ¬ R 74 0 (5 * m + p - 1) = -1) (hb : ∀ g, 0 ≤ g → g < 20 → R 55 0 g ≤ 990000) (nd : kND (f158b (kmu R 9 0 0 0) m p)) : ka_W (kp E) (d, (158, 0, [some (.ref (A 9 0)), some (iv m), some (iv p), none], []), (kHp J A V C R, c, l)) Q ↔ Q (.inl none) (kHp J A V C (f158 (kmu R 9 0 0 0) m p), c, l) := by
  have B := r.i15
  have B70 := r.a70 (j := m) (by omega) (by omega)
  have B69 := r.a69 (j := m) (by omega) (by omega)
  have B74 := r.a74 (j := 5 * m + p - 1) (by omega) (by omega)
  have r0 := r.pi0 (x := 0) (by omega) (by omega)
  have B72 := r.a72 (j := 5 * m + (p - 1)) (by omega) (by omega)
  have q := fun {Q} => j154 (E := E) (d := d - 1) (c := c) (l := l) (Q := Q) (J := J) (C := C) (m := m) (p := p - 1) hA v r0 (by omega) (by omega) (by omega) (by omega) (by rw [kmu_f (show (55:Nat) ≠ 9 by decide), kmu_f (show (72:Nat) ≠ 9 by decide)]; have := hb (R 72 0 (5 * m + (p - 1))) (by omega) (by omega); omega)
  obtain ⟨r1, t1, -⟩ := q (Q := Q)
  have q1 := fun {Q} => (q (Q := Q)).2.2
  have x74 : f154 (kmu R 9 0 0 0) m (p - 1) 74 = R 74 := (t1 74 (by decide) (by decide) (by decide) (by decide) (by decide)).trans (kmu_ff (by decide))
  have r2 : kRW V (f158b (kmu R 9 0 0 0) m p) := by
    unfold f158b
    dsimp only
    rw [x74]
    exact (r1.pa72 (by omega) (by omega)).pa74 (by omega) (by omega)
  have q2 := fun {Q} => (j153 (E := E) (d := d - 1) (c := c) (l := l) (Q := Q) (J := J) (C := C) hA v r2 nd (by omega)).2.2.2
  unfold f158
  have eb : f158b (kmu R 9 0 0 0) m p = kmu (kmu (f154 (kmu R 9 0 0 0) m (p - 1)) 72 0 (5 * m + p - 1) (R 74 0 (5 * m + p - 1))) 74 0 (5 * m + p - 1) (-1) := by
    unfold f158b
    dsimp only
    rw [x74]
  rw [eb] at q2 ⊢
  simp (disch := first | assumption | (unfold kR; decide) | exact klc_R | (unfold kR; omega) | omega | (unfold kL; omega) | exact kcat_null | exact kcat_ref _ | exact kcat_iv _) only [r158_0, r158_1, r158_2, r158_3, r158_6, r158_9, r158_10, r158_13, r158_14, r158_17, r158_18, r158_21, r158_24, r158_25, r158_26, r158_27, r158_28, r158_31, r158_32, r158_33, r158_36, r158_39, r158_40, r158_43, r158_44, r158_47, r158_48, r158_51, r158_54, r158_55, r158_56, r158_59, r158_60, r158_61, r158_64, r158_65, r158_66, r158_69, r158_70, r158_71, r158_74, r158_75, r158_78, r158_79, r158_80, r158_81, r158_82, r158_83, r158_84, r158_85, r158_86, r158_87, r158_90, r158_91, r158_94, r158_95, r158_98, r158_99, r158_102, r158_105, r158_106, r158_107, r158_108, r158_109, r158_110, r158_111, r158_112, r158_113, r158_114, r158_115, r158_116, r158_117, r158_118, r158_119, r158_122, r158_123, r158_126, r158_127, r158_128, r158_131, r158_132, r158_133, r158_134, r158_135, r158_138, r158_139, r158_140, r158_141, r158_142, r158_145, ht_9 hA v.l9, ho_9_0 hA v.l9, hp_9_0 hA v.l9, hg_9_0 hA v.l9, ho_9_20 hA v.l9, hg_9_20 hA v.l9, hoa_70 hA v.l70, hga_70 hA v.l70, hpa_70 hA v.l70, ho_9_18 hA v.l9, hg_9_18 hA v.l9, hoa_68 hA v.l68, hga_68 hA v.l68, hpa_68 hA v.l68, ho_9_19 hA v.l9, hg_9_19 hA v.l9, hoa_69 hA v.l69, hga_69 hA v.l69, hpa_69 hA v.l69, ho_9_24 hA v.l9, hg_9_24 hA v.l9, hoa_74 hA v.l74, hga_74 hA v.l74, hpa_74 hA v.l74, ho_9_22 hA v.l9, hg_9_22 hA v.l9, hoa_72 hA v.l72, hga_72 hA v.l72, hpa_72 hA v.l72, true_and, and_true, kk1_i, kk1_r, kk1_n, kk1_0, kcat_iv, kcat_ref, kcat_null, kisR_ref, kisR_null, ksz_nil, ksz_iv, ksz_ref, ksz_null, ksz_lv, kfit_int, kfit_long, kfit_obj, kfit_objN, kfit_arr, kfit_arrN, knarI, knarZ0, knarZ1, kret_v, kret_n, kret_x, Nat.reduceAdd, Nat.reduceLeDiff, reduceCtorEq, Int.reduceLE, Int.reduceLT, Int.reduceEq, ite_true, ite_false, true_or, or_true, false_implies, true_implies, not_true_eq_false, not_false_eq_true, and_self, eq_self, klc_lt, klc_ge, klc_le, klc_gt, klc_eq, kmu_eq, kmu_f, kmu_i, kmu_j, j157 hA v r, k119, q1, q2, x74, show 1 ≤ d by omega, Nat.zero_le, h1, h2, h3, h4, h5, kmu_mu]
/-- drop -/
theorem j164_1 (hA : kJ A V) (v : kLV V) (r : kRW V R) {m : Int} (hd : 2 ≤ d) (hm : kR m) (h1 : ¬ (1 ≤ m ∧ m ≤ R 9 0 15)) : ka_W (kp E) (d, (164, 0, [some (.ref (A 9 0)), some (iv m), none], []), (kHp J A V C R, c, l)) Q ↔ Q (.inl none) (kHp J A V C (kmu R 9 0 0 1), c, l) := by
  simp (disch := first | assumption | (unfold kR; decide) | exact klc_R | (unfold kR; omega) | omega | (unfold kL; omega) | exact kcat_null | exact kcat_ref _ | exact kcat_iv _) only [r164_0, r164_1, r164_2, r164_3, r164_6, r164_9, r164_10, r164_13, r164_14, r164_17, r164_18, r164_21, r164_24, r164_25, r164_26, r164_29, r164_30, r164_31, r164_34, r164_35, r164_38, r164_39, r164_42, r164_43, r164_46, r164_49, ht_9 hA v.l9, ho_9_0 hA v.l9, hp_9_0 hA v.l9, hg_9_0 hA v.l9, ho_9_18 hA v.l9, hg_9_18 hA v.l9, hoa_68 hA v.l68, hga_68 hA v.l68, true_and, and_true, kk1_i, kk1_r, kk1_n, kk1_0, kcat_iv, kcat_ref, kcat_null, kisR_ref, kisR_null, ksz_nil, ksz_iv, ksz_ref, ksz_null, ksz_lv, kfit_int, kfit_long, kfit_obj, kfit_objN, kfit_arr, kfit_arrN, knarI, knarZ0, knarZ1, kret_v, kret_n, kret_x, Nat.reduceAdd, Nat.reduceLeDiff, reduceCtorEq, Int.reduceLE, Int.reduceLT, Int.reduceEq, ite_true, ite_false, true_or, or_true, false_implies, true_implies, not_true_eq_false, not_false_eq_true, and_self, eq_self, klc_lt, klc_ge, klc_le, klc_gt, klc_eq, kmu_eq, kmu_f, kmu_i, kmu_j, j157 hA v r, show 1 ≤ d by omega, Nat.zero_le, h1]
theorem j164_2 (hA : kJ A V) (v : kLV V) (r : kRW V R) {m : Int} (hd : 2 ≤ d) (hm : kR m) (h1 : 1 ≤ m ∧ m ≤ R 9 0 15) (h2 : ¬ R 68 0 m = 0) : ka_W (kp E) (d, (164, 0, [some (.ref (A 9 0)), some (iv m), none], []), (kHp J A V C R, c, l)) Q ↔ Q (.inl none) (kHp J A V C (kmu R 9 0 0 2), c, l) := by
  have B := r.i15
  have B68 := r.a68 (j := m) (by omega) (by omega)
  simp (disch := first | assumption | (unfold kR; decide) | exact klc_R | (unfold kR; omega) | omega | (unfold kL; omega) | exact kcat_null | exact kcat_ref _ | exact kcat_iv _) only [r164_0, r164_1, r164_2, r164_3, r164_6, r164_9, r164_10, r164_13, r164_14, r164_17, r164_18, r164_21, r164_24, r164_25, r164_26, r164_29, r164_30, r164_31, r164_34, r164_35, r164_38, r164_39, r164_42, r164_43, r164_46, r164_49, ht_9 hA v.l9, ho_9_0 hA v.l9, hp_9_0 hA v.l9, hg_9_0 hA v.l9, ho_9_18 hA v.l9, hg_9_18 hA v.l9, hoa_68 hA v.l68, hga_68 hA v.l68, true_and, and_true, kk1_i, kk1_r, kk1_n, kk1_0, kcat_iv, kcat_ref, kcat_null, kisR_ref, kisR_null, ksz_nil, ksz_iv, ksz_ref, ksz_null, ksz_lv, kfit_int, kfit_long, kfit_obj, kfit_objN, kfit_arr, kfit_arrN, knarI, knarZ0, knarZ1, kret_v, kret_n, kret_x, Nat.reduceAdd, Nat.reduceLeDiff, reduceCtorEq, Int.reduceLE, Int.reduceLT, Int.reduceEq, ite_true, ite_false, true_or, or_true, false_implies, true_implies, not_true_eq_false, not_false_eq_true, and_self, eq_self, klc_lt, klc_ge, klc_le, klc_gt, klc_eq, kmu_eq, kmu_f, kmu_i, kmu_j, j157 hA v r, show 1 ≤ d by omega, Nat.zero_le, h1, h2, kmu_mu]
def f164b (R : ka_M) (m : Int) : ka_M := kfd (fun p R => f154 R m p) (R 70 0 m).toNat 0 (kmu R 68 0 m 2)
noncomputable def f164 (R : ka_M) (m : Int) : ka_M := f153 (f164b R m)
theorem f154_55 (r : kRW V R) {m p : Int} (m0 : 1 ≤ m) (m1 : m ≤ 40) (p0 : 0 ≤ p) (p1 : p < 5) (g : Int) : f154 R m p 55 0 g ≤ R 55 0 g + 9 := by
  have B75 := r.a75 (j := 5 * m + p) (by omega) (by omega)
  have z := kfd_inv (P := fun _ X => X 55 = kmu (kmu R 55 0 (R 72 0 (5 * m + p)) (R 55 0 (R 72 0 (5 * m + p)) + R 75 0 (5 * m + p))) 75 0 (5 * m + p) 0 55) (f := klg m p) (R 9 0 26).toNat 1 (kmu (kmu R 55 0 (R 72 0 (5 * m + p)) (R 55 0 (R 72 0 (5 * m + p)) + R 75 0 (5 * m + p))) 75 0 (5 * m + p) 0) (fun u X _ _ h => by
    unfold klg
    split
    · rw [kmu_ff (by decide), kmu_ff (by decide)]; exact h
    · exact h) rfl
  unfold f154
  rw [z, kmu_ff (by decide)]
  by_cases e : g = R 72 0 (5 * m + p)
  · rw [e, kmu_eq]; omega
  · rw [kmu_j e]; omega
theorem j164_0 (hA : kJ A V) (v : kLV V) (r : kRW V R) {m : Int} (hd : 3 ≤ d) (hm : kR m) (h1 : 1 ≤ m ∧ m ≤ R 9 0 15) (h2 : R 68 0 m = 0) (hb : ∀ g, 0 ≤ g → g < 20 → R 55 0 g ≤ 990000) (nd : kND (f164b (kmu R 9 0 0 0) m)) : ka_W (kp E) (d, (164, 0, [some (.ref (A 9 0)), some (iv m), none], []), (kHp J A V C R, c, l)) Q ↔ Q (.inl none) (kHp J A V C (f164 (kmu R 9 0 0 0) m), c, l) := by
  have B := r.i15
  have B70 := r.a70 (j := m) (by omega) (by omega)
  have r0 := (r.pi0 (x := 0) (by omega) (by omega)).pa68 (j := m) (x := 2) (by omega) (by omega)
  have e70 : kmu R 9 0 0 0 70 = R 70 := kmu_ff (by decide)
  obtain ⟨w1, -, rb, tb, -⟩ := kfor (n := R 70 0 m) (f := fun p R => f154 R m p) (inv := fun p X => 0 ≤ p ∧ kRW V X ∧ kTk (kmu (kmu R 9 0 0 0) 68 0 m 2) X ∧ ∀ g, 0 ≤ g → g < 20 → X 55 0 g ≤ 990000 + 9 * p) (W := fun p X => ka_W (kp E) (d, (164, 59, [some (.ref (A 9 0)), some (iv m), some (iv p)], []), (kHp J A V C X, c, l)) Q) (fun p X hp ⟨p0, rX, tX, bX⟩ => by
    have B72 := rX.a72 (j := 5 * m + p) (by omega) (by omega)
    have bg := bX (X 72 0 (5 * m + p)) (by omega) (by omega)
    have q := fun {Q} => j154 (E := E) (d := d - 1) (c := c) (l := l) (Q := Q) (J := J) (C := C) (m := m) (p := p) hA v rX (by omega) (by omega) p0 (by omega) (by omega)
    obtain ⟨y1, y2, -⟩ := q (Q := Q)
    have q1 := fun {Q} => (q (Q := Q)).2.2
    refine ⟨⟨by omega, y1, tX.trans y2, fun g g0 g1 => by have := f154_55 rX (m := m) (p := p) (by omega) (by omega) p0 (by omega) g; have := bX g g0 g1; omega⟩, ?_⟩
    have x70 : X 70 = R 70 := by rw [tX 70 (by decide) (by decide) (by decide) (by decide) (by decide), kmu_ff (by decide), e70]
    rw [r164_59]
    simp (disch := first | assumption | (unfold kR; decide) | exact klc_R | (unfold kR; omega) | omega | (unfold kL; omega) | exact kcat_null | exact kcat_ref _ | exact kcat_iv _) only [r164_60, r164_61, r164_64, r164_65, r164_66, r164_69, r164_70, r164_71, r164_72, r164_75, r164_78, ho_9_20 hA v.l9, hg_9_20 hA v.l9, hoa_70 hA v.l70, hga_70 hA v.l70, ht_9 hA v.l9, true_and, and_true, kk1_i, kk1_r, kk1_n, kk1_0, kcat_iv, kcat_ref, kcat_null, kisR_ref, kisR_null, ksz_nil, ksz_iv, ksz_ref, ksz_null, ksz_lv, kfit_int, kfit_long, kfit_obj, kfit_objN, kfit_arr, kfit_arrN, knarI, knarZ0, knarZ1, kret_v, kret_n, kret_x, Nat.reduceAdd, Nat.reduceLeDiff, reduceCtorEq, Int.reduceLE, Int.reduceLT, Int.reduceEq, ite_true, ite_false, true_or, or_true, false_implies, true_implies, not_true_eq_false, not_false_eq_true, and_self, eq_self, klc_lt, klc_ge, klc_le, klc_gt, klc_eq, kmu_eq, kmu_f, kmu_i, kmu_j, x70, q1, show ¬ R 70 0 m ≤ p by omega, Nat.zero_le, show 1 ≤ d by omega]) (R 70 0 m).toNat 0 (kmu (kmu R 9 0 0 0) 68 0 m 2) (by omega) ⟨by omega, r0, kTk_rfl, fun g g0 g1 => by rw [kmu_f (by decide), kmu_f (by decide)]; have := hb g g0 g1; omega⟩
  have eb : kfd (fun p R => f154 R m p) (R 70 0 m).toNat 0 (kmu (kmu R 9 0 0 0) 68 0 m 2) = f164b (kmu R 9 0 0 0) m := by
    unfold f164b
    rw [e70]
  rw [eb] at w1 rb tb
  have q2 := fun {Q} => (j153 (E := E) (d := d - 1) (c := c) (l := l) (Q := Q) (J := J) (C := C) hA v rb nd (by omega)).2.2.2
  have x70 : f164b (kmu R 9 0 0 0) m 70 = R 70 := by rw [tb 70 (by decide) (by decide) (by decide) (by decide) (by decide), kmu_ff (by decide), e70]
  have w2 := w1.trans (show _ ↔ Q (.inl none) (kHp J A V C (f164 (kmu R 9 0 0 0) m), c, l) by
    unfold f164
    rw [r164_59]
    simp (disch := first | assumption | (unfold kR; decide) | exact klc_R | (unfold kR; omega) | omega | (unfold kL; omega) | exact kcat_null | exact kcat_ref _ | exact kcat_iv _) only [r164_60, r164_61, r164_64, r164_65, r164_66, r164_81, r164_82, r164_85, ho_9_20 hA v.l9, hg_9_20 hA v.l9, hoa_70 hA v.l70, hga_70 hA v.l70, ht_9 hA v.l9, true_and, and_true, kk1_i, kk1_r, kk1_n, kk1_0, kcat_iv, kcat_ref, kcat_null, kisR_ref, kisR_null, ksz_nil, ksz_iv, ksz_ref, ksz_null, ksz_lv, kfit_int, kfit_long, kfit_obj, kfit_objN, kfit_arr, kfit_arrN, knarI, knarZ0, knarZ1, kret_v, kret_n, kret_x, Nat.reduceAdd, Nat.reduceLeDiff, reduceCtorEq, Int.reduceLE, Int.reduceLT, Int.reduceEq, ite_true, ite_false, true_or, or_true, false_implies, true_implies, not_true_eq_false, not_false_eq_true, and_self, eq_self, klc_lt, klc_ge, klc_le, klc_gt, klc_eq, kmu_eq, kmu_f, kmu_i, kmu_j, x70, q2, Int.le_refl, Nat.zero_le, show 1 ≤ d by omega])
  rw [← w2]
  simp (disch := first | assumption | (unfold kR; decide) | exact klc_R | (unfold kR; omega) | omega | (unfold kL; omega) | exact kcat_null | exact kcat_ref _ | exact kcat_iv _) only [r164_0, r164_1, r164_2, r164_3, r164_6, r164_9, r164_10, r164_13, r164_14, r164_17, r164_18, r164_21, r164_24, r164_25, r164_26, r164_29, r164_30, r164_31, r164_34, r164_35, r164_38, r164_39, r164_42, r164_43, r164_46, r164_49, r164_50, r164_51, r164_54, r164_55, r164_56, r164_57, r164_58, ht_9 hA v.l9, ho_9_0 hA v.l9, hp_9_0 hA v.l9, hg_9_0 hA v.l9, ho_9_18 hA v.l9, hg_9_18 hA v.l9, hoa_68 hA v.l68, hga_68 hA v.l68, hpa_68 hA v.l68, true_and, and_true, kk1_i, kk1_r, kk1_n, kk1_0, kcat_iv, kcat_ref, kcat_null, kisR_ref, kisR_null, ksz_nil, ksz_iv, ksz_ref, ksz_null, ksz_lv, kfit_int, kfit_long, kfit_obj, kfit_objN, kfit_arr, kfit_arrN, knarI, knarZ0, knarZ1, kret_v, kret_n, kret_x, Nat.reduceAdd, Nat.reduceLeDiff, reduceCtorEq, Int.reduceLE, Int.reduceLT, Int.reduceEq, ite_true, ite_false, true_or, or_true, false_implies, true_implies, not_true_eq_false, not_false_eq_true, and_self, eq_self, klc_lt, klc_ge, klc_le, klc_gt, klc_eq, kmu_eq, kmu_f, kmu_i, kmu_j, j157 hA v r, show 1 ≤ d by omega, Nat.zero_le, h1, h2, kmu_mu]
end
