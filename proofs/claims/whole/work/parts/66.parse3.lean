/-! The reference: a line, a text. -/
/-- what reading a part of kit k leaves alone -/
def kPK (k : Int) (R R' : ka_M) : Prop := (∀ f, f ≠ 9 → f ≠ 61 → f ≠ 62 → f ≠ 63 → f ≠ 64 → f ≠ 87 → R' f = R f) ∧ (∀ j, j ≠ 39 → j ≠ 40 → j ≠ 41 → j ≠ 42 → R' 9 0 j = R 9 0 j) ∧ ∀ b, b ≠ 4 * k + R 59 0 k - 1 → R' 61 0 b = R 61 0 b
theorem kPK_rfl {k : Int} {R : ka_M} : kPK k R R := ⟨fun _ _ _ _ _ _ _ => rfl, fun _ _ _ _ _ => rfl, fun _ _ => rfl⟩
theorem kPK.trans {k : Int} {R R' R'' : ka_M} (h : kPK k R R') (h' : kPK k R' R'') : kPK k R R'' :=
  ⟨fun f a b c d e g => (h'.1 f a b c d e g).trans (h.1 f a b c d e g), fun j a b c d => (h'.2.1 j a b c d).trans (h.2.1 j a b c d), fun b hb => (h'.2.2 b (by rw [h.1 59 (by decide) (by decide) (by decide) (by decide) (by decide) (by decide)]; exact hb)).trans (h.2.2 b hb)⟩
theorem kPS.pk {k : Int} {R R' : ka_M} (h : kPS R R') : kPK k R R' := ⟨fun f a _ _ _ _ _ => h.1 f a, h.2, fun b _ => by rw [h.1 61 (by decide)]⟩
section
variable {V : ka_V} {R : ka_M}
theorem f125_pk {k to : Int} : kPK k R (f125 R to) := ⟨fun f _ _ _ _ _ a => f125_ps f a, fun j _ _ _ _ => by rw [f125_ps 9 (by decide)], fun b _ => by rw [f125_ps 61 (by decide)]⟩
theorem f130_pk {k g n : Int} : kPK k R (f130 R k g n) := ⟨fun f _ a b c d _ => f130_ps f a b c d, fun j _ _ _ _ => by rw [f130_ps 9 (by decide) (by decide) (by decide) (by decide)], fun b hb => by
  unfold f130
  rw [kmu_j hb, kmu_f (by decide), kmu_f (by decide), kmu_f (by decide)]⟩
theorem kPK.mu9 {k : Int} {R R' : ka_M} (h : kPK k R R') {j x : Int} (hj : j = 39 ∨ j = 40 ∨ j = 41 ∨ j = 42) : kPK k R (kmu R' 9 0 j x) := h.trans (kPS_rfl.mu hj).pk
theorem kPK.mu64 {k : Int} {R R' : ka_M} (h : kPK k R R') {j x : Int} : kPK k R (kmu R' 64 0 j x) := h.trans ⟨fun f _ _ _ _ a _ => kmu_ff a, fun j _ _ _ _ => kmu_f (by decide), fun b _ => kmu_f (by decide)⟩
/-- how the part's reading ends -/
def kPo (k : Int) (R R' : ka_M) (V : ka_V) (b : Int) : Prop := kRW V R' ∧ kPK k R R' ∧ R 9 0 39 ≤ R' 9 0 39 ∧ R' 9 0 39 ≤ R' 9 0 3 ∧ (b = 0 ∨ b = 1) ∧ (b = 1 → R' 61 0 (4 * k + R 59 0 k - 1) = R 61 0 (4 * k + R 59 0 k - 1) + 1)
theorem f146c_o (r : kRW V R) {k : Int} (k0 : 0 ≤ k) (k1 : k < 20) (hr : 1 ≤ R 59 0 k) (hp : 1 ≤ R 61 0 (4 * k + R 59 0 k - 1)) (n0 : 0 ≤ R 9 0 41) (n1 : R 9 0 41 ≤ 19) (ha : R 9 0 39 ≤ R 9 0 3) :
    kRW V (f146c R k).1 ∧ kPK k R (f146c R k).1 ∧ (f146c R k).1 9 0 39 = R 9 0 39 ∧ (f146c R k).1 61 = R 61 ∧ ((f146c R k).2 = 0 ∨ (f146c R k).2 = 1) := by
  have B4 := r.i42
  unfold f146c
  split
  · dsimp only
    exact ⟨r.pi40 B4.1 B4.2, kPK_rfl.mu9 (by omega), by rw [kmu_j (by decide)], by rw [kmu_ff (by decide)], Or.inl rfl⟩
  · split
    · dsimp only
      exact ⟨(f125_rw r).pi40 B4.1 B4.2, f125_pk.mu9 (by omega), by rw [kmu_j (by decide), f125_ps 9 (by decide)], by rw [kmu_ff (by decide), f125_ps 61 (by decide)], Or.inl rfl⟩
    · dsimp only
      exact ⟨(f125_rw r).pa64 (by omega) n1, f125_pk.mu64, by rw [kmu_f (by decide), f125_ps 9 (by decide)], by rw [kmu_ff (by decide), f125_ps 61 (by decide)], Or.inr rfl⟩
theorem f146b_o (r : kRW V R) {k n : Int} (k0 : 0 ≤ k) (k1 : k < 20) (hr : 1 ≤ R 59 0 k) (hp : R 61 0 (4 * k + R 59 0 k - 1) < 5) (g0 : 0 ≤ R 9 0 41) (g1 : R 9 0 41 ≤ 19) (n0 : 0 ≤ n) (n1 : n ≤ 9) (ha : R 9 0 39 ≤ R 9 0 3) :
    kPo k R (f146b R k n).1 V (f146b R k n).2 := by
  have B := r.a59 (j := k) (by omega) (by omega)
  have B2 := r.a61 (j := 4 * k + R 59 0 k - 1) (by omega) (by omega)
  have B4 := r.i42
  unfold f146b
  split
  · dsimp only
    refine ⟨(f125_rw r).pi40 B4.1 B4.2, f125_pk.mu9 (by omega), ?_, ?_, Or.inl rfl, fun h => absurd h (by decide)⟩
    · rw [kmu_j (by decide), f125_ps 9 (by decide)]; exact Int.le_refl _
    · rw [kmu_j (by decide), kmu_j (by decide), f125_ps 9 (by decide)]; exact ha
  · have r1 := f125_rw r (to := R 58 0 k)
    have r2 : kRW V (f130 (f125 R (R 58 0 k)) k (R 9 0 41) n) := f130_rw r1 g0 g1 n0 n1 k0 k1 (by rw [f125_ps 59 (by decide)]; exact hr) (by rw [f125_ps 59 (by decide), f125_ps 61 (by decide)]; exact hp)
    have e9 : f130 (f125 R (R 58 0 k)) k (R 9 0 41) n 9 = R 9 := by rw [f130_ps 9 (by decide) (by decide) (by decide) (by decide), f125_ps 9 (by decide)]
    have e59 : f130 (f125 R (R 58 0 k)) k (R 9 0 41) n 59 = R 59 := by rw [f130_ps 59 (by decide) (by decide) (by decide) (by decide), f125_ps 59 (by decide)]
    have e61 : f130 (f125 R (R 58 0 k)) k (R 9 0 41) n 61 0 (4 * k + R 59 0 k - 1) = R 61 0 (4 * k + R 59 0 k - 1) + 1 := by
      have := f130_61 (R := f125 R (R 58 0 k)) (k := k) (g := R 9 0 41) (n := n)
      rwa [f125_ps 59 (by decide), f125_ps 61 (by decide)] at this
    have pk2 : kPK k R (f130 (f125 R (R 58 0 k)) k (R 9 0 41) n) := f125_pk.trans f130_pk
    split
    · rename_i h3
      have lt := f144_lt (x := 47) (by decide) h3
      rw [e9] at lt
      have B39 := r.i39
      have B3 := r.i3
      have r3 : kRW V (kmu (f130 (f125 R (R 58 0 k)) k (R 9 0 41) n) 9 0 39 (R 9 0 39 + 1)) := r2.pi39 (by omega) (by omega)
      have a3 : kmu (f130 (f125 R (R 58 0 k)) k (R 9 0 41) n) 9 0 39 (R 9 0 39 + 1) 9 0 39 ≤ kmu (f130 (f125 R (R 58 0 k)) k (R 9 0 41) n) 9 0 39 (R 9 0 39 + 1) 9 0 3 := by
        rw [kmu_eq, kmu_j (by decide), e9]
        omega
      have r4 := f145_rw r3 (lo := 0) (hi := 19) a3
      have at4 := f145_at (R := kmu (f130 (f125 R (R 58 0 k)) k (R 9 0 41) n) 9 0 39 (R 9 0 39 + 1)) (lo := 0) (hi := 19) a3
      have z01 := f145_01 (R := kmu (f130 (f125 R (R 58 0 k)) k (R 9 0 41) n) 9 0 39 (R 9 0 39 + 1)) (lo := 0) (hi := 19)
      have ps := f145_ps (R := kmu (f130 (f125 R (R 58 0 k)) k (R 9 0 41) n) 9 0 39 (R 9 0 39 + 1)) (lo := 0) (hi := 19)
      have zin := f145_in (R := kmu (f130 (f125 R (R 58 0 k)) k (R 9 0 41) n) 9 0 39 (R 9 0 39 + 1)) (lo := 0) (hi := 19)
      have f59 : (f145 (kmu (f130 (f125 R (R 58 0 k)) k (R 9 0 41) n) 9 0 39 (R 9 0 39 + 1)) 0 19).1 59 = R 59 := by rw [ps.1 59 (by decide), kmu_ff (by decide), e59]
      have f61 : (f145 (kmu (f130 (f125 R (R 58 0 k)) k (R 9 0 41) n) 9 0 39 (R 9 0 39 + 1)) 0 19).1 61 0 (4 * k + R 59 0 k - 1) = R 61 0 (4 * k + R 59 0 k - 1) + 1 := by rw [ps.1 61 (by decide), kmu_ff (by decide), e61]
      have pk3 := (pk2.mu9 (j := 39) (x := R 9 0 39 + 1) (by omega)).trans ps.pk
      rw [kmu_eq] at at4
      generalize f145 (kmu (f130 (f125 R (R 58 0 k)) k (R 9 0 41) n) 9 0 39 (R 9 0 39 + 1)) 0 19 = X at *
      by_cases h4 : X.2 = 0
      · rw [kth_0 h4]
        dsimp only
        exact ⟨r4, pk3, by omega, at4.1, Or.inl rfl, fun h => absurd h (by decide)⟩
      · rw [kth_1 h4]
        obtain ⟨o1, o2, o3, o4, o5⟩ := f146c_o r4 (k := k) k0 k1 (by rw [f59]; exact hr) (by rw [f59, f61]; omega) (zin h4).1 (zin h4).2 at4.1
        have e3 : (f146c X.1 k).1 9 0 3 = X.1 9 0 3 := o2.2.1 3 (by decide) (by decide) (by decide) (by decide)
        exact ⟨o1, pk3.trans o2, by rw [o3]; omega, by rw [o3, e3]; exact at4.1, o5, fun _ => by rw [o4, f61]⟩
    · dsimp only
      refine ⟨r2, pk2, ?_, ?_, Or.inr rfl, fun _ => e61⟩
      · rw [e9]; exact Int.le_refl _
      · rw [e9]; exact ha
theorem f146_o (r : kRW V R) {k : Int} (k0 : 0 ≤ k) (k1 : k < 20) (hr : 1 ≤ R 59 0 k) (hp : R 61 0 (4 * k + R 59 0 k - 1) < 5) (ha : R 9 0 39 ≤ R 9 0 3) :
    kPo k R (f146 R k).1 V (f146 R k).2 := by
  have r1 := f144_rw r (x := 32) (by omega)
  have a1 := f144_at (R := R) (x := 32) (by omega) ha
  have p1 := f144_ps (R := R) (x := 32)
  unfold f146
  generalize f144 R 32 = X1 at *
  by_cases h1 : X1.2 = 0
  · rw [kth_0 h1]
    dsimp only
    exact ⟨r1, p1.pk, a1.2, a1.1, Or.inl rfl, fun h => absurd h (by decide)⟩
  · rw [kth_1 h1]
    have r2 := f145_rw r1 (lo := 1) (hi := 9) a1.1
    have a2 := f145_at (R := X1.1) (lo := 1) (hi := 9) a1.1
    have p2 := p1.trans (f145_ps (R := X1.1) (lo := 1) (hi := 9))
    have i2 := f145_in (R := X1.1) (lo := 1) (hi := 9)
    generalize f145 X1.1 1 9 = X2 at *
    by_cases h2 : X2.2 = 0
    · rw [kth_0 h2]
      dsimp only
      exact ⟨r2, p2.pk, by omega, a2.1, Or.inl rfl, fun h => absurd h (by decide)⟩
    · rw [kth_1 h2]
      have r3 := f144_rw r2 (x := 42) (by omega)
      have a3 := f144_at (R := X2.1) (x := 42) (by omega) a2.1
      have p3 := p2.trans (f144_ps (R := X2.1) (x := 42))
      generalize f144 X2.1 42 = X3 at *
      by_cases h3 : X3.2 = 0
      · rw [kth_0 h3]
        dsimp only
        exact ⟨r3, p3.pk, by omega, a3.1, Or.inl rfl, fun h => absurd h (by decide)⟩
      · rw [kth_1 h3]
        have r4 := f145_rw r3 (lo := 0) (hi := 19) a3.1
        have a4 := f145_at (R := X3.1) (lo := 0) (hi := 19) a3.1
        have p4 := p3.trans (f145_ps (R := X3.1) (lo := 0) (hi := 19))
        have i4 := f145_in (R := X3.1) (lo := 0) (hi := 19)
        generalize f145 X3.1 0 19 = X4 at *
        by_cases h4 : X4.2 = 0
        · rw [kth_0 h4]
          dsimp only
          exact ⟨r4, p4.pk, by omega, a4.1, Or.inl rfl, fun h => absurd h (by decide)⟩
        · rw [kth_1 h4]
          have e59 := p4.1 59 (by decide)
          have e61 := p4.1 61 (by decide)
          obtain ⟨o1, o2, o3, o4, o5, o6⟩ := f146b_o r4 (k := k) (n := X2.1 9 0 41) k0 k1 (by rw [e59]; exact hr) (by rw [e59, e61]; exact hp) (i4 h4).1 (i4 h4).2 (by have := (i2 h2).1; omega) (i2 h2).2 a4.1
          rw [e59, e61] at o6
          exact ⟨o1, p4.pk.trans o2, by omega, o4, o5, o6⟩
end
/-- the parts behind the first, and the line's end -/
noncomputable def kpl (k : Int) : Nat → ka_M → ka_M × Int
  | 0, R => f144 R 10
  | m + 1, R => if f142 R = 32 then kth (f146 R k) (kpl k m) else f144 R 10
noncomputable def f147 (R : ka_M) : ka_M × Int :=
  kth (f144 R 75) (fun R1 => kth (f144 R1 32) (fun R2 => kth (f145 R2 0 19) (fun R3 =>
    if R3 56 0 (R3 9 0 41) = -1 then kth (f146 (f123 R3 (R3 9 0 41)) (R3 9 0 7)) (kpl (R3 9 0 7) 4) else (kmu R3 9 0 40 (R3 9 0 42), 0))))
section
variable {E : Nat × Nat} {d c l : Nat} {s : ka_S} {Q : ka_Q} {J : ka_H} {A : ka_A} {V : ka_V} {C R : ka_M}
theorem j147_l (hA : kJ A V) (v : kLV V) {k : Int} (hd : 4 ≤ d) (k0 : 0 ≤ k) (k1 : k < 20) :
    ∀ (m : Nat) (n : Int) (R : ka_M), kRW V R → 1 ≤ n → n + m = 5 → R 59 0 k = 1 → R 61 0 (4 * k) = n → R 9 0 39 ≤ R 9 0 3 →
    (ka_W (kp E) (d, (147, 63, [some (.ref (A 9 0)), some (iv k), some (iv n)], []), (kHp J A V C R, c, l)) Q ↔ Q (.inl (some (iv (kpl k m R).2))) (kHp J A V C (kpl k m R).1, c, l))
  | 0, n, R, r, n1, hn, h59, h61, ha => by
    have e : n = 5 := by omega
    subst e
    have z01 := f144_01 (R := R) (x := 10)
    have hz : narrow .boolean (iv (f144 R 10).2) = iv (f144 R 10).2 := by rcases z01 with h | h <;> rw [h] <;> rfl
    simp (disch := first | assumption | (unfold kR; decide) | exact klc_R | (unfold kR; omega) | omega | (unfold kL; omega) | exact kcat_null | exact kcat_ref _ | exact kcat_iv _) only [r147_63, r147_64, r147_67, r147_68, r147_69, r147_97, r147_98, r147_100, r147_103, ht_9 hA v.l9, true_and, and_true, kk1_i, kk1_r, kk1_n, kk1_0, kcat_iv, kcat_ref, kcat_null, kisR_ref, kisR_null, ksz_nil, ksz_iv, ksz_ref, ksz_null, ksz_lv, kfit_int, kfit_long, kfit_obj, kfit_objN, kfit_arr, kfit_arrN, knarI, knarZ0, knarZ1, kret_v, kret_n, kret_x, Nat.reduceAdd, Nat.reduceLeDiff, reduceCtorEq, Int.reduceLE, Int.reduceLT, Int.reduceEq, ite_true, ite_false, true_or, or_true, false_implies, true_implies, not_true_eq_false, not_false_eq_true, and_self, eq_self, klc_lt, klc_ge, klc_le, klc_gt, klc_eq, kmu_eq, kmu_f, kmu_i, kmu_j, j144 hA v r, Nat.zero_le, show 1 ≤ d by omega, Int.le_refl, kpl, hz, show ¬ ((5:Int) = 0) by decide]
  | m + 1, n, R, r, n1, hn, h59, h61, ha => by
    have B := f142_b r
    have d1 : 1 ≤ d := by omega
    have hb : 4 * k + R 59 0 k - 1 = 4 * k := by omega
    have z01 := f144_01 (R := R) (x := 10)
    have hz : narrow .boolean (iv (f144 R 10).2) = iv (f144 R 10).2 := by rcases z01 with h | h <;> rw [h] <;> rfl
    by_cases h1 : f142 R = 32
    · simp only [kpl, if_pos h1]
      have q1 := fun {Q} => j146 (E := E) (d := d - 1) (c := c) (l := l) (Q := Q) (J := J) (C := C) (k := k) hA v r (by omega) k0 k1 (by omega) (by rw [hb]; omega) ha
      obtain ⟨o1, o2, o3, o4, o5, o6⟩ := f146_o r (k := k) k0 k1 (by omega) (by rw [hb]; omega) ha
      rw [hb] at o6
      have e59 := o2.1 59 (by decide) (by decide) (by decide) (by decide) (by decide) (by decide)
      generalize f146 R k = X at *
      by_cases h2 : X.2 = 0
      · rw [kth_0 h2]
        simp (disch := first | assumption | (unfold kR; decide) | exact klc_R | (unfold kR; omega) | omega | (unfold kL; omega) | exact kcat_null | exact kcat_ref _ | exact kcat_iv _) only [r147_63, r147_64, r147_67, r147_68, r147_69, r147_72, r147_73, r147_76, r147_78, r147_81, r147_82, r147_83, r147_86, r147_89, r147_90, ht_9 hA v.l9, true_and, and_true, kk1_i, kk1_r, kk1_n, kk1_0, kcat_iv, kcat_ref, kcat_null, kisR_ref, kisR_null, ksz_nil, ksz_iv, ksz_ref, ksz_null, ksz_lv, kfit_int, kfit_long, kfit_obj, kfit_objN, kfit_arr, kfit_arrN, knarI, knarZ0, knarZ1, kret_v, kret_n, kret_x, Nat.reduceAdd, Nat.reduceLeDiff, reduceCtorEq, Int.reduceLE, Int.reduceLT, Int.reduceEq, ite_true, ite_false, true_or, or_true, false_implies, true_implies, not_true_eq_false, not_false_eq_true, and_self, eq_self, klc_lt, klc_ge, klc_le, klc_gt, klc_eq, kmu_eq, kmu_f, kmu_i, kmu_j, j142 hA v r, q1, h1, h2, Nat.zero_le, d1, show ¬ n = 0 by omega, show ¬ 5 ≤ n by omega]
      · rw [kth_1 h2]
        have ih := j147_l hA v hd k0 k1 m (n + 1) X.1 o1 (by omega) (by omega) (by rw [e59]; exact h59) (by rw [o6 (by omega)]; omega) o4
        rw [← ih, r147_63]
        simp (disch := first | assumption | (unfold kR; decide) | exact klc_R | (unfold kR; omega) | omega | (unfold kL; omega) | exact kcat_null | exact kcat_ref _ | exact kcat_iv _) only [r147_64, r147_67, r147_68, r147_69, r147_72, r147_73, r147_76, r147_78, r147_81, r147_82, r147_83, r147_86, r147_89, r147_90, r147_91, r147_94, ht_9 hA v.l9, true_and, and_true, kk1_i, kk1_r, kk1_n, kk1_0, kcat_iv, kcat_ref, kcat_null, kisR_ref, kisR_null, ksz_nil, ksz_iv, ksz_ref, ksz_null, ksz_lv, kfit_int, kfit_long, kfit_obj, kfit_objN, kfit_arr, kfit_arrN, knarI, knarZ0, knarZ1, kret_v, kret_n, kret_x, Nat.reduceAdd, Nat.reduceLeDiff, reduceCtorEq, Int.reduceLE, Int.reduceLT, Int.reduceEq, ite_true, ite_false, true_or, or_true, false_implies, true_implies, not_true_eq_false, not_false_eq_true, and_self, eq_self, klc_lt, klc_ge, klc_le, klc_gt, klc_eq, kmu_eq, kmu_f, kmu_i, kmu_j, j142 hA v r, q1, h1, h2, Nat.zero_le, d1, show ¬ n = 0 by omega, show ¬ 5 ≤ n by omega]
    · simp only [kpl, if_neg h1]
      simp (disch := first | assumption | (unfold kR; decide) | exact klc_R | (unfold kR; omega) | omega | (unfold kL; omega) | exact kcat_null | exact kcat_ref _ | exact kcat_iv _) only [r147_63, r147_64, r147_67, r147_68, r147_69, r147_72, r147_73, r147_76, r147_78, r147_97, r147_98, r147_100, r147_103, ht_9 hA v.l9, true_and, and_true, kk1_i, kk1_r, kk1_n, kk1_0, kcat_iv, kcat_ref, kcat_null, kisR_ref, kisR_null, ksz_nil, ksz_iv, ksz_ref, ksz_null, ksz_lv, kfit_int, kfit_long, kfit_obj, kfit_objN, kfit_arr, kfit_arrN, knarI, knarZ0, knarZ1, kret_v, kret_n, kret_x, Nat.reduceAdd, Nat.reduceLeDiff, reduceCtorEq, Int.reduceLE, Int.reduceLT, Int.reduceEq, ite_true, ite_false, true_or, or_true, false_implies, true_implies, not_true_eq_false, not_false_eq_true, and_self, eq_self, klc_lt, klc_ge, klc_le, klc_gt, klc_eq, kmu_eq, kmu_f, kmu_i, kmu_j, j142 hA v r, j144 hA v r, h1, Nat.zero_le, d1, show ¬ n = 0 by omega, show ¬ 5 ≤ n by omega, hz]
end
