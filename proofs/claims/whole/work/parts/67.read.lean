/-! The reference: a line and a whole text. -/
/-- kits and goods belong together -/
def kBk (R : ka_M) : Prop := R 9 0 7 = kcn (fun q => R 56 0 (q - 1) ≠ -1) 20 ∧ (∀ k, 0 ≤ k → k < R 9 0 7 → R 56 0 (R 58 0 k) = k) ∧ (∀ g, 0 ≤ g → g < 20 → R 56 0 g ≠ -1 → 0 ≤ R 56 0 g ∧ R 56 0 g < R 9 0 7 ∧ R 58 0 (R 56 0 g) = g) ∧ ∀ k, 0 ≤ k → k < R 9 0 7 → 1 ≤ R 59 0 k
theorem kBk.c {R R' : ka_M} (h : kBk R) (h56 : R' 56 = R 56) (h58 : R' 58 = R 58) (h59 : R' 59 = R 59) (h7 : R' 9 0 7 = R 9 0 7) : kBk R' := by
  unfold kBk
  rw [h56, h58, h59, h7]
  exact h
theorem kPK.bk {k : Int} {R R' : ka_M} (h : kPK k R R') (b : kBk R) : kBk R' :=
  b.c (h.1 56 (by decide) (by decide) (by decide) (by decide) (by decide) (by decide)) (h.1 58 (by decide) (by decide) (by decide) (by decide) (by decide) (by decide)) (h.1 59 (by decide) (by decide) (by decide) (by decide) (by decide) (by decide)) (h.2.1 7 (by decide) (by decide) (by decide) (by decide))
theorem kBk.free {R : ka_M} (h : kBk R) {g : Int} (g0 : 0 ≤ g) (g1 : g < 20) (hg : R 56 0 g = -1) : R 9 0 7 < 20 := by
  have := kcn_lt (p := fun q => R 56 0 (q - 1) ≠ -1) (q := fun _ => True) (u := g + 1) 20 (fun _ _ _ _ => trivial) (by omega) (by omega) (by
    show ¬ R 56 0 (g + 1 - 1) ≠ -1
    have e : g + 1 - 1 = g := by omega
    rw [e, hg]
    simp) trivial
  have := (kcn_b (fun _ => True) 20).2
  have := h.1
  omega
section
variable {V : ka_V} {R : ka_M}
theorem f123_rw (r : kRW V R) {g : Int} (g0 : 0 ≤ g) (g1 : g < 20) (hk : R 9 0 7 < 20) : kRW V (f123 R g) := by
  have B := r.i7
  unfold f123
  exact (((((r.pa58 g0 (by omega)).pa59 (by omega) (by omega)).pa60 (by omega) (by omega)).pa61 (by omega) (by omega)).pa56 (by omega) (by omega)).pi7 (by omega) (by omega)
theorem f123_bk (r : kRW V R) (h : kBk R) {g : Int} (g0 : 0 ≤ g) (g1 : g < 20) (hg : R 56 0 g = -1) : kBk (f123 R g) := by
  have hk := h.free g0 g1 hg
  have B := r.i7
  obtain ⟨h1, h2, h3, h4⟩ := h
  have e7 : f123 R g 9 0 7 = R 9 0 7 + 1 := kmu_eq
  have e56 : ∀ q, f123 R g 56 0 q = if q = g then R 9 0 7 else R 56 0 q := by
    intro q
    unfold f123
    rw [kmu_f (by decide)]
    by_cases e : q = g
    · subst e; rw [kmu_eq, if_pos rfl]
    · rw [kmu_j e, kmu_f (by decide), kmu_f (by decide), kmu_f (by decide), kmu_f (by decide), if_neg e]
  have e58 : ∀ q, f123 R g 58 0 q = if q = R 9 0 7 then g else R 58 0 q := by
    intro q
    unfold f123
    rw [kmu_f (by decide), kmu_f (by decide), kmu_f (by decide), kmu_f (by decide), kmu_f (by decide)]
    by_cases e : q = R 9 0 7
    · subst e; rw [kmu_eq, if_pos rfl]
    · rw [kmu_j e, if_neg e]
  have e59 : ∀ q, f123 R g 59 0 q = if q = R 9 0 7 then 1 else R 59 0 q := by
    intro q
    unfold f123
    rw [kmu_f (by decide), kmu_f (by decide), kmu_f (by decide), kmu_f (by decide)]
    by_cases e : q = R 9 0 7
    · subst e; rw [kmu_eq, if_pos rfl]
    · rw [kmu_j e, if_neg e, kmu_f (by decide)]
  have hc := kcn_u (p := fun q => R 56 0 (q - 1) ≠ -1) (q := fun q => f123 R g 56 0 (q - 1) ≠ -1) (u := g + 1) 20 (by omega) (by omega) (fun j a b c => by
    show R 56 0 (j - 1) ≠ -1 ↔ f123 R g 56 0 (j - 1) ≠ -1
    rw [e56, if_neg (by omega)])
  have e : g + 1 - 1 = g := by omega
  rw [kb_t (show f123 R g 56 0 (g + 1 - 1) ≠ -1 by rw [e, e56, if_pos rfl]; omega), kb_f (show ¬ R 56 0 (g + 1 - 1) ≠ -1 by rw [e, hg]; simp)] at hc
  refine ⟨by rw [e7, hc, ← h1]; omega, fun k k0 k1 => ?_, fun q q0 q1 hq => ?_, fun k k0 k1 => ?_⟩
  · rw [e7] at k1
    rw [e58]
    by_cases z : k = R 9 0 7
    · rw [if_pos z, e56, if_pos rfl, z]
    · rw [if_neg z, e56]
      have := h2 k k0 (by omega)
      rw [if_neg (fun y => by rw [y, hg] at this; omega)]
      exact this
  · rw [e56] at hq ⊢
    rw [e7]
    by_cases z : q = g
    · rw [if_pos z, e58, if_pos rfl]
      exact ⟨B.1, by omega, z.symm⟩
    · rw [if_neg z] at hq ⊢
      obtain ⟨y1, y2, y3⟩ := h3 q q0 q1 hq
      rw [e58, if_neg (by omega)]
      exact ⟨y1, by omega, y3⟩
  · rw [e7] at k1
    rw [e59]
    split
    · omega
    · exact h4 k k0 (by omega)
theorem kpl_o {k : Int} (k0 : 0 ≤ k) (k1 : k < 20) : ∀ (m : Nat) (n : Int) (R : ka_M), kRW V R → n + m = 5 → R 59 0 k = 1 → R 61 0 (4 * k) = n → R 9 0 39 ≤ R 9 0 3 →
    kRW V (kpl k m R).1 ∧ kPK k R (kpl k m R).1 ∧ R 9 0 39 ≤ (kpl k m R).1 9 0 39 ∧ (kpl k m R).1 9 0 39 ≤ (kpl k m R).1 9 0 3 ∧ ((kpl k m R).2 = 0 ∨ (kpl k m R).2 = 1)
  | 0, n, R, r, hn, h59, h61, ha => by
    have a1 := f144_at (R := R) (x := 10) (by omega) ha
    exact ⟨f144_rw r (by omega), f144_ps.pk, a1.2, a1.1, f144_01⟩
  | m + 1, n, R, r, hn, h59, h61, ha => by
    have hb : 4 * k + R 59 0 k - 1 = 4 * k := by omega
    by_cases h1 : f142 R = 32
    · simp only [kpl, if_pos h1]
      obtain ⟨o1, o2, o3, o4, o5, o6⟩ := f146_o r (k := k) k0 k1 (by omega) (by rw [hb]; omega) ha
      rw [hb] at o6
      have e59 := o2.1 59 (by decide) (by decide) (by decide) (by decide) (by decide) (by decide)
      generalize f146 R k = X at *
      by_cases h2 : X.2 = 0
      · rw [kth_0 h2]
        exact ⟨o1, o2, o3, o4, Or.inl rfl⟩
      · rw [kth_1 h2]
        obtain ⟨i1, i2, i3, i4, i5⟩ := kpl_o k0 k1 m (n + 1) X.1 o1 (by omega) (by rw [e59]; exact h59) (by rw [o6 (by omega)]; omega) o4
        exact ⟨i1, o2.trans i2, by omega, i4, i5⟩
    · simp only [kpl, if_neg h1]
      have a1 := f144_at (R := R) (x := 10) (by omega) ha
      exact ⟨f144_rw r (by omega), f144_ps.pk, a1.2, a1.1, f144_01⟩
end
/-- how a line's reading ends -/
def kLo (R R' : ka_M) (V : ka_V) (b : Int) : Prop := kRW V R' ∧ kBk R' ∧ R' 9 0 3 = R 9 0 3 ∧ R' 9 0 39 ≤ R' 9 0 3 ∧ R 9 0 7 ≤ R' 9 0 7 ∧ (b = 0 ∨ b = 1) ∧ (b = 1 → R 9 0 39 < R' 9 0 39)
section
variable {E : Nat × Nat} {d c l : Nat} {s : ka_S} {Q : ka_Q} {J : ka_H} {A : ka_A} {V : ka_V} {C R : ka_M}
theorem f123_61 {g : Int} : f123 R g 61 0 (4 * R 9 0 7) = 0 := by
  unfold f123
  rw [kmu_f (by decide), kmu_f (by decide), kmu_eq]
theorem f123_59 {g : Int} : f123 R g 59 0 (R 9 0 7) = 1 := by
  unfold f123
  rw [kmu_f (by decide), kmu_f (by decide), kmu_f (by decide), kmu_f (by decide), kmu_eq]
theorem f123_9 {g j : Int} (h : j ≠ 7) : f123 R g 9 0 j = R 9 0 j := by
  unfold f123
  rw [kmu_j h, kmu_f (by decide), kmu_f (by decide), kmu_f (by decide), kmu_f (by decide), kmu_f (by decide)]
theorem f123_7 {g : Int} : f123 R g 9 0 7 = R 9 0 7 + 1 := kmu_eq
theorem f144_up {x : Int} (h : ¬ (f144 R x).2 = 0) : R 9 0 39 < (f144 R x).1 9 0 39 := by
  unfold f144 at h ⊢
  split at h
  · rename_i e
    rw [if_pos e]
    simp only [kmu_eq]
    omega
  · exact absurd rfl h
theorem j147 (hA : kJ A V) (v : kLV V) (r : kRW V R) (b : kBk R) (hd : 4 ≤ d) (ha : R 9 0 39 ≤ R 9 0 3) :
    kLo R (f147 R).1 V (f147 R).2 ∧ (ka_W (kp E) (d, (147, 0, [some (.ref (A 9 0)), none, none], []), (kHp J A V C R, c, l)) Q ↔ Q (.inl (some (iv (f147 R).2))) (kHp J A V C (f147 R).1, c, l)) := by
  have d1 : 1 ≤ d := by omega
  have q1 := fun {Q} => j144 (E := E) (d := d - 1) (c := c) (l := l) (Q := Q) (J := J) (C := C) (x := 75) hA v r (by omega) (by omega) (by omega)
  have r1 := f144_rw r (x := 75) (by omega)
  have a1 := f144_at (R := R) (x := 75) (by omega) ha
  have u1 := f144_up (R := R) (x := 75)
  have p1 := f144_ps (R := R) (x := 75)
  have z1 := f144_01 (R := R) (x := 75)
  unfold f147
  generalize f144 R 75 = X1 at *
  have b1 := p1.pk (k := 0) |>.bk b
  have t1 := p1.2 3 (by decide) (by decide) (by decide) (by decide)
  have s1 := p1.2 7 (by decide) (by decide) (by decide) (by decide)
  by_cases h1 : X1.2 = 0
  · rw [kth_0 h1]
    dsimp only
    refine ⟨⟨r1, b1, t1, a1.1, by omega, Or.inl rfl, fun h => absurd h (by decide)⟩, ?_⟩
    simp (disch := first | assumption | (unfold kR; decide) | exact klc_R | (unfold kR; omega) | omega | (unfold kL; omega) | exact kcat_null | exact kcat_ref _ | exact kcat_iv _) only [r147_0, r147_1, r147_3, r147_6, r147_9, r147_10, r147_12, r147_15, r147_18, r147_19, r147_20, r147_22, r147_25, r147_28, r147_29, ht_9 hA v.l9, true_and, and_true, kk1_i, kk1_r, kk1_n, kk1_0, kcat_iv, kcat_ref, kcat_null, kisR_ref, kisR_null, ksz_nil, ksz_iv, ksz_ref, ksz_null, ksz_lv, kfit_int, kfit_long, kfit_obj, kfit_objN, kfit_arr, kfit_arrN, knarI, knarZ0, knarZ1, kret_v, kret_n, kret_x, Nat.reduceAdd, Nat.reduceLeDiff, reduceCtorEq, Int.reduceLE, Int.reduceLT, Int.reduceEq, ite_true, ite_false, true_or, or_true, false_implies, true_implies, not_true_eq_false, not_false_eq_true, and_self, eq_self, klc_lt, klc_ge, klc_le, klc_gt, klc_eq, kmu_eq, kmu_f, kmu_i, kmu_j, q1, h1, Nat.zero_le, d1]
  · rw [kth_1 h1]
    have q2 := fun {Q} => j144 (E := E) (d := d - 1) (c := c) (l := l) (Q := Q) (J := J) (C := C) (x := 32) hA v r1 (by omega) (by omega) (by omega)
    have r2 := f144_rw r1 (x := 32) (by omega)
    have a2 := f144_at (R := X1.1) (x := 32) (by omega) a1.1
    have p2 := p1.trans (f144_ps (R := X1.1) (x := 32))
    have z2 := f144_01 (R := X1.1) (x := 32)
    generalize f144 X1.1 32 = X2 at *
    have b2 := p2.pk (k := 0) |>.bk b
    have t2 := p2.2 3 (by decide) (by decide) (by decide) (by decide)
    have s2 := p2.2 7 (by decide) (by decide) (by decide) (by decide)
    by_cases h2 : X2.2 = 0
    · rw [kth_0 h2]
      dsimp only
      refine ⟨⟨r2, b2, t2, a2.1, by omega, Or.inl rfl, fun h => absurd h (by decide)⟩, ?_⟩
      simp (disch := first | assumption | (unfold kR; decide) | exact klc_R | (unfold kR; omega) | omega | (unfold kL; omega) | exact kcat_null | exact kcat_ref _ | exact kcat_iv _) only [r147_0, r147_1, r147_3, r147_6, r147_9, r147_10, r147_12, r147_15, r147_18, r147_19, r147_20, r147_22, r147_25, r147_28, r147_29, ht_9 hA v.l9, true_and, and_true, kk1_i, kk1_r, kk1_n, kk1_0, kcat_iv, kcat_ref, kcat_null, kisR_ref, kisR_null, ksz_nil, ksz_iv, ksz_ref, ksz_null, ksz_lv, kfit_int, kfit_long, kfit_obj, kfit_objN, kfit_arr, kfit_arrN, knarI, knarZ0, knarZ1, kret_v, kret_n, kret_x, Nat.reduceAdd, Nat.reduceLeDiff, reduceCtorEq, Int.reduceLE, Int.reduceLT, Int.reduceEq, ite_true, ite_false, true_or, or_true, false_implies, true_implies, not_true_eq_false, not_false_eq_true, and_self, eq_self, klc_lt, klc_ge, klc_le, klc_gt, klc_eq, kmu_eq, kmu_f, kmu_i, kmu_j, q1, q2, h1, h2, Nat.zero_le, d1]
    · rw [kth_1 h2]
      have q3 := fun {Q} => j145 (E := E) (d := d - 1) (c := c) (l := l) (Q := Q) (J := J) (C := C) (lo := 0) (hi := 19) hA v r2 (by omega) a2.1 (by unfold kR; omega) (by unfold kR; omega)
      have r3 := f145_rw r2 (lo := 0) (hi := 19) a2.1
      have a3 := f145_at (R := X2.1) (lo := 0) (hi := 19) a2.1
      have p3 := p2.trans (f145_ps (R := X2.1) (lo := 0) (hi := 19))
      have z3 := f145_01 (R := X2.1) (lo := 0) (hi := 19)
      have i3 := f145_in (R := X2.1) (lo := 0) (hi := 19)
      generalize f145 X2.1 0 19 = X3 at *
      have b3 := p3.pk (k := 0) |>.bk b
      have t3 := p3.2 3 (by decide) (by decide) (by decide) (by decide)
      have s3 := p3.2 7 (by decide) (by decide) (by decide) (by decide)
      have u1 := u1 h1
      by_cases h3 : X3.2 = 0
      · rw [kth_0 h3]
        dsimp only
        refine ⟨⟨r3, b3, t3, a3.1, by omega, Or.inl rfl, fun h => absurd h (by decide)⟩, ?_⟩
        simp (disch := first | assumption | (unfold kR; decide) | exact klc_R | (unfold kR; omega) | omega | (unfold kL; omega) | exact kcat_null | exact kcat_ref _ | exact kcat_iv _) only [r147_0, r147_1, r147_3, r147_6, r147_9, r147_10, r147_12, r147_15, r147_18, r147_19, r147_20, r147_22, r147_25, r147_28, r147_29, ht_9 hA v.l9, true_and, and_true, kk1_i, kk1_r, kk1_n, kk1_0, kcat_iv, kcat_ref, kcat_null, kisR_ref, kisR_null, ksz_nil, ksz_iv, ksz_ref, ksz_null, ksz_lv, kfit_int, kfit_long, kfit_obj, kfit_objN, kfit_arr, kfit_arrN, knarI, knarZ0, knarZ1, kret_v, kret_n, kret_x, Nat.reduceAdd, Nat.reduceLeDiff, reduceCtorEq, Int.reduceLE, Int.reduceLT, Int.reduceEq, ite_true, ite_false, true_or, or_true, false_implies, true_implies, not_true_eq_false, not_false_eq_true, and_self, eq_self, klc_lt, klc_ge, klc_le, klc_gt, klc_eq, kmu_eq, kmu_f, kmu_i, kmu_j, q1, q2, q3, h1, h2, h3, Nat.zero_le, d1]
      · rw [kth_1 h3]
        obtain ⟨g0, g1⟩ := i3 h3
        have B42 := r3.i42
        have B7 := r3.i7
        have B56 := r3.a56 (j := X3.1 9 0 41) g0 (by omega)
        by_cases h4 : X3.1 56 0 (X3.1 9 0 41) = -1
        · rw [if_pos h4]
          have hk := b3.free g0 (by omega) h4
          have r4 := f123_rw r3 g0 (by omega) hk
          have b4 := f123_bk r3 b3 g0 (by omega) h4
          have q4 := fun {Q} => j123 (E := E) (d := d - 1) (c := c) (l := l) (Q := Q) (J := J) (C := C) (g := X3.1 9 0 41) hA v r3 g0 (by omega) hk
          have e59 : f123 X3.1 (X3.1 9 0 41) 59 0 (X3.1 9 0 7) = 1 := f123_59
          have e61 : f123 X3.1 (X3.1 9 0 41) 61 0 (4 * X3.1 9 0 7) = 0 := f123_61
          have e39 : f123 X3.1 (X3.1 9 0 41) 9 0 39 = X3.1 9 0 39 := f123_9 (by decide)
          have e3 : f123 X3.1 (X3.1 9 0 41) 9 0 3 = X3.1 9 0 3 := f123_9 (by decide)
          have e7 : f123 X3.1 (X3.1 9 0 41) 9 0 7 = X3.1 9 0 7 + 1 := f123_7
          generalize f123 X3.1 (X3.1 9 0 41) = Y at *
          generalize X3.1 9 0 7 = k at *
          have hb : 4 * k + Y 59 0 k - 1 = 4 * k := by omega
          have q5 := fun {Q} => j146 (E := E) (d := d - 1) (c := c) (l := l) (Q := Q) (J := J) (C := C) (k := k) hA v r4 (by omega) B7.1 hk (by omega) (by rw [hb]; omega) (by omega)
          obtain ⟨o1, o2, o3, o4, o5, o6⟩ := f146_o r4 (k := k) B7.1 hk (by omega) (by rw [hb]; omega) (by omega)
          rw [hb] at o6
          have f59 := o2.1 59 (by decide) (by decide) (by decide) (by decide) (by decide) (by decide)
          have t5 := o2.2.1 3 (by decide) (by decide) (by decide) (by decide)
          have s5 := o2.2.1 7 (by decide) (by decide) (by decide) (by decide)
          have b5 := o2.bk b4
          generalize f146 Y k = X5 at *
          by_cases h5 : X5.2 = 0
          · rw [kth_0 h5]
            dsimp only
            refine ⟨⟨o1, b5, by omega, o4, by omega, Or.inl rfl, fun h => absurd h (by decide)⟩, ?_⟩
            simp (disch := first | assumption | (unfold kR; decide) | exact klc_R | (unfold kR; omega) | omega | (unfold kL; omega) | exact kcat_null | exact kcat_ref _ | exact kcat_iv _) only [r147_0, r147_1, r147_3, r147_6, r147_9, r147_10, r147_12, r147_15, r147_18, r147_19, r147_20, r147_22, r147_25, r147_28, r147_29, r147_30, r147_31, r147_34, r147_35, r147_38, r147_39, r147_40, r147_43, r147_44, r147_45, r147_48, r147_51, r147_52, r147_53, r147_54, r147_57, r147_60, r147_61, r147_62, r147_63, r147_64, r147_81, r147_82, r147_83, r147_86, r147_89, r147_90, ht_9 hA v.l9, ho_9_6 hA v.l9, hg_9_6 hA v.l9, hoa_56 hA v.l56, hga_56 hA v.l56, ho_9_41 hA v.l9, hg_9_41 hA v.l9, ho_9_42 hA v.l9, hg_9_42 hA v.l9, true_and, and_true, kk1_i, kk1_r, kk1_n, kk1_0, kcat_iv, kcat_ref, kcat_null, kisR_ref, kisR_null, ksz_nil, ksz_iv, ksz_ref, ksz_null, ksz_lv, kfit_int, kfit_long, kfit_obj, kfit_objN, kfit_arr, kfit_arrN, knarI, knarZ0, knarZ1, kret_v, kret_n, kret_x, Nat.reduceAdd, Nat.reduceLeDiff, reduceCtorEq, Int.reduceLE, Int.reduceLT, Int.reduceEq, ite_true, ite_false, true_or, or_true, false_implies, true_implies, not_true_eq_false, not_false_eq_true, and_self, eq_self, klc_lt, klc_ge, klc_le, klc_gt, klc_eq, kmu_eq, kmu_f, kmu_i, kmu_j, q1, q2, q3, q4, q5, h1, h2, h3, h4, h5, Nat.zero_le, d1]
          · rw [kth_1 h5]
            have q6 := j147_l (E := E) (d := d) (c := c) (l := l) (Q := Q) (J := J) (C := C) (k := k) hA v hd B7.1 hk 4 1 X5.1 o1 (by omega) (by omega) (by rw [f59]; exact e59) (by rw [o6 (by omega)]; omega) o4
            obtain ⟨i1, i2, i3, i4, i5⟩ := kpl_o B7.1 hk 4 1 X5.1 o1 (by omega) (by rw [f59]; exact e59) (by rw [o6 (by omega)]; omega) o4
            have t6 := i2.2.1 3 (by decide) (by decide) (by decide) (by decide)
            have s6 := i2.2.1 7 (by decide) (by decide) (by decide) (by decide)
            refine ⟨⟨i1, i2.bk b5, by omega, i4, by omega, i5, fun _ => by omega⟩, ?_⟩
            rw [← q6]
            simp (disch := first | assumption | (unfold kR; decide) | exact klc_R | (unfold kR; omega) | omega | (unfold kL; omega) | exact kcat_null | exact kcat_ref _ | exact kcat_iv _) only [r147_0, r147_1, r147_3, r147_6, r147_9, r147_10, r147_12, r147_15, r147_18, r147_19, r147_20, r147_22, r147_25, r147_28, r147_29, r147_30, r147_31, r147_34, r147_35, r147_38, r147_39, r147_40, r147_43, r147_44, r147_45, r147_48, r147_51, r147_52, r147_53, r147_54, r147_57, r147_60, r147_61, r147_62, ht_9 hA v.l9, ho_9_6 hA v.l9, hg_9_6 hA v.l9, hoa_56 hA v.l56, hga_56 hA v.l56, ho_9_41 hA v.l9, hg_9_41 hA v.l9, ho_9_42 hA v.l9, hg_9_42 hA v.l9, true_and, and_true, kk1_i, kk1_r, kk1_n, kk1_0, kcat_iv, kcat_ref, kcat_null, kisR_ref, kisR_null, ksz_nil, ksz_iv, ksz_ref, ksz_null, ksz_lv, kfit_int, kfit_long, kfit_obj, kfit_objN, kfit_arr, kfit_arrN, knarI, knarZ0, knarZ1, kret_v, kret_n, kret_x, Nat.reduceAdd, Nat.reduceLeDiff, reduceCtorEq, Int.reduceLE, Int.reduceLT, Int.reduceEq, ite_true, ite_false, true_or, or_true, false_implies, true_implies, not_true_eq_false, not_false_eq_true, and_self, eq_self, klc_lt, klc_ge, klc_le, klc_gt, klc_eq, kmu_eq, kmu_f, kmu_i, kmu_j, q1, q2, q3, q4, h1, h2, h3, h4, Nat.zero_le, d1]
            rw [r147_63]
            simp (disch := first | assumption | (unfold kR; decide) | exact klc_R | (unfold kR; omega) | omega | (unfold kL; omega) | exact kcat_null | exact kcat_ref _ | exact kcat_iv _) only [r147_64, r147_81, r147_82, r147_83, r147_86, r147_89, r147_90, r147_91, r147_94, ht_9 hA v.l9, true_and, and_true, kk1_i, kk1_r, kk1_n, kk1_0, kcat_iv, kcat_ref, kcat_null, kisR_ref, kisR_null, ksz_nil, ksz_iv, ksz_ref, ksz_null, ksz_lv, kfit_int, kfit_long, kfit_obj, kfit_objN, kfit_arr, kfit_arrN, knarI, knarZ0, knarZ1, kret_v, kret_n, kret_x, Nat.reduceAdd, Nat.reduceLeDiff, reduceCtorEq, Int.reduceLE, Int.reduceLT, Int.reduceEq, ite_true, ite_false, true_or, or_true, false_implies, true_implies, not_true_eq_false, not_false_eq_true, and_self, eq_self, klc_lt, klc_ge, klc_le, klc_gt, klc_eq, kmu_eq, kmu_f, kmu_i, kmu_j, q5, h5, Nat.zero_le, d1, Int.zero_add]
        · rw [if_neg h4]
          dsimp only
          refine ⟨⟨r3.pi40 B42.1 B42.2, (kPS_rfl.mu (by omega)).pk (k := 0) |>.bk b3, by rw [kmu_j (by decide)]; exact t3, by rw [kmu_j (by decide), kmu_j (by decide)]; exact a3.1, by rw [kmu_j (by decide)]; omega, Or.inl rfl, fun h => absurd h (by decide)⟩, ?_⟩
          simp (disch := first | assumption | (unfold kR; decide) | exact klc_R | (unfold kR; omega) | omega | (unfold kL; omega) | exact kcat_null | exact kcat_ref _ | exact kcat_iv _) only [r147_0, r147_1, r147_3, r147_6, r147_9, r147_10, r147_12, r147_15, r147_18, r147_19, r147_20, r147_22, r147_25, r147_28, r147_29, r147_30, r147_31, r147_34, r147_35, r147_38, r147_39, r147_40, r147_43, r147_44, r147_45, r147_48, r147_51, ht_9 hA v.l9, ho_9_6 hA v.l9, hg_9_6 hA v.l9, hoa_56 hA v.l56, hga_56 hA v.l56, ho_9_41 hA v.l9, hg_9_41 hA v.l9, ho_9_42 hA v.l9, hg_9_42 hA v.l9, true_and, and_true, kk1_i, kk1_r, kk1_n, kk1_0, kcat_iv, kcat_ref, kcat_null, kisR_ref, kisR_null, ksz_nil, ksz_iv, ksz_ref, ksz_null, ksz_lv, kfit_int, kfit_long, kfit_obj, kfit_objN, kfit_arr, kfit_arrN, knarI, knarZ0, knarZ1, kret_v, kret_n, kret_x, Nat.reduceAdd, Nat.reduceLeDiff, reduceCtorEq, Int.reduceLE, Int.reduceLT, Int.reduceEq, ite_true, ite_false, true_or, or_true, false_implies, true_implies, not_true_eq_false, not_false_eq_true, and_self, eq_self, klc_lt, klc_ge, klc_le, klc_gt, klc_eq, kmu_eq, kmu_f, kmu_i, kmu_j, q1, q2, q3, j143 hA v, h1, h2, h3, h4, Nat.zero_le, d1]
end
