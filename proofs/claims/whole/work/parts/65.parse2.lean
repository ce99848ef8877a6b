/-! The reference: a part and a line of a text. -/
def kth (x : ka_M × Int) (f : ka_M → ka_M × Int) : ka_M × Int := if x.2 = 0 then (x.1, 0) else f x.1
theorem kth_0 {x : ka_M × Int} {f : ka_M → ka_M × Int} (h : x.2 = 0) : kth x f = (x.1, 0) := if_pos h
theorem kth_1 {x : ka_M × Int} {f : ka_M → ka_M × Int} (h : ¬ x.2 = 0) : kth x f = f x.1 := if_neg h
def f131 (R : ka_M) (k : Int) : Int := 5 * (4 * k + R 59 0 k - 1) + R 61 0 (4 * k + R 59 0 k - 1) - 1
noncomputable def f146c (R : ka_M) (k : Int) : ka_M × Int :=
  if R 62 0 (f131 R k) = R 9 0 41 then (kmu R 9 0 40 (R 9 0 42), 0)
  else if kfars R (R 58 0 k) 20 (R 9 0 41) ≠ -1 then (kmu (f125 R (R 58 0 k)) 9 0 40 (R 9 0 42), 0)
  else (kmu (f125 R (R 58 0 k)) 64 0 (f131 R k) (R 9 0 41), 1)
noncomputable def f146b (R : ka_M) (k n : Int) : ka_M × Int :=
  if kfars R (R 58 0 k) 20 (R 9 0 41) ≠ -1 then (kmu (f125 R (R 58 0 k)) 9 0 40 (R 9 0 42), 0)
  else if f142 (f130 (f125 R (R 58 0 k)) k (R 9 0 41) n) = 47 then
    kth (f145 (kmu (f130 (f125 R (R 58 0 k)) k (R 9 0 41) n) 9 0 39 (R 9 0 39 + 1)) 0 19) (fun R => f146c R k)
  else (f130 (f125 R (R 58 0 k)) k (R 9 0 41) n, 1)
noncomputable def f146 (R : ka_M) (k : Int) : ka_M × Int :=
  kth (f144 R 32) (fun R1 => kth (f145 R1 1 9) (fun R2 => kth (f144 R2 42) (fun R3 => kth (f145 R3 0 19) (fun R4 => f146b R4 k (R2 9 0 41)))))
/-- only the reading's own numbers change -/
def kPS (R R' : ka_M) : Prop := (∀ f, f ≠ 9 → R' f = R f) ∧ ∀ j, j ≠ 39 → j ≠ 40 → j ≠ 41 → j ≠ 42 → R' 9 0 j = R 9 0 j
theorem kPS_rfl {R : ka_M} : kPS R R := ⟨fun _ _ => rfl, fun _ _ _ _ _ => rfl⟩
theorem kPS.mu {R R' : ka_M} (h : kPS R R') {j x : Int} (hj : j = 39 ∨ j = 40 ∨ j = 41 ∨ j = 42) : kPS R (kmu R' 9 0 j x) :=
  ⟨fun f hf => (kmu_ff hf).trans (h.1 f hf), fun j' a b c d => (kmu_j (by omega)).trans (h.2 j' a b c d)⟩
theorem kPS.trans {R R' R'' : ka_M} (h : kPS R R') (h' : kPS R' R'') : kPS R R'' :=
  ⟨fun f hf => (h'.1 f hf).trans (h.1 f hf), fun j a b c d => (h'.2 j a b c d).trans (h.2 j a b c d)⟩
section
variable {E : Nat × Nat} {d c l : Nat} {s : ka_S} {Q : ka_Q} {J : ka_H} {A : ka_A} {V : ka_V} {C R : ka_M}
theorem f144_ps {x : Int} : kPS R (f144 R x).1 := by
  unfold f144
  split
  · exact kPS_rfl.mu (by omega)
  · exact kPS_rfl.mu (by omega)
theorem f145_ps {lo hi : Int} : kPS R (f145 R lo hi).1 := by
  unfold f145
  dsimp only
  split
  · exact ((kPS_rfl.mu (by omega)).mu (by omega)).mu (by omega)
  · split
    · exact ((kPS_rfl.mu (by omega)).mu (by omega)).mu (by omega)
    · exact (((kPS_rfl.mu (by omega)).mu (by omega)).mu (by omega)).mu (by omega)
theorem f144_01 {x : Int} : (f144 R x).2 = 0 ∨ (f144 R x).2 = 1 := by
  unfold f144
  split <;> simp
theorem f145_01 {lo hi : Int} : (f145 R lo hi).2 = 0 ∨ (f145 R lo hi).2 = 1 := by
  unfold f145
  dsimp only
  split
  · simp
  · split <;> simp
theorem f144_at {x : Int} (x0 : 0 ≤ x) (ha : R 9 0 39 ≤ R 9 0 3) : (f144 R x).1 9 0 39 ≤ (f144 R x).1 9 0 3 ∧ R 9 0 39 ≤ (f144 R x).1 9 0 39 := by
  unfold f144
  split
  · rename_i h
    have := f144_lt x0 h
    simp only [kmu_eq, kmu_j (show (3:Int) ≠ 39 by decide)]
    omega
  · simp only [kmu_j (show (3:Int) ≠ 40 by decide), kmu_j (show (39:Int) ≠ 40 by decide)]
    omega
theorem f145_at {lo hi : Int} (ha : R 9 0 39 ≤ R 9 0 3) : (f145 R lo hi).1 9 0 39 ≤ (f145 R lo hi).1 9 0 3 ∧ R 9 0 39 ≤ (f145 R lo hi).1 9 0 39 := by
  have z := kscan_b (R := R) (b := R 9 0 39) (R 9 0 3 - R 9 0 39).toNat (R 9 0 39) 0 ha (by omega) (by omega)
  unfold f145
  dsimp only
  split
  · simp only [kmu_eq, kmu_j (show (3:Int) ≠ 40 by decide), kmu_j (show (39:Int) ≠ 40 by decide), kmu_j (show (3:Int) ≠ 39 by decide), kmu_j (show (3:Int) ≠ 42 by decide)]
    omega
  · split
    · simp only [kmu_eq, kmu_j (show (3:Int) ≠ 41 by decide), kmu_j (show (39:Int) ≠ 41 by decide), kmu_j (show (3:Int) ≠ 39 by decide), kmu_j (show (3:Int) ≠ 42 by decide)]
      omega
    · simp only [kmu_eq, kmu_j (show (3:Int) ≠ 40 by decide), kmu_j (show (39:Int) ≠ 40 by decide), kmu_j (show (3:Int) ≠ 41 by decide), kmu_j (show (39:Int) ≠ 41 by decide), kmu_j (show (3:Int) ≠ 39 by decide), kmu_j (show (3:Int) ≠ 42 by decide)]
      omega
theorem f145_in {lo hi : Int} (h : ¬ (f145 R lo hi).2 = 0) : lo ≤ (f145 R lo hi).1 9 0 41 ∧ (f145 R lo hi).1 9 0 41 ≤ hi := by
  unfold f145 at h ⊢
  dsimp only at h ⊢
  split at h
  · exact absurd rfl h
  · rename_i e
    rw [if_neg e]
    split at h
    · rename_i e2
      rw [if_pos e2]
      simp only [kmu_eq]
      exact e2
    · exact absurd rfl h
theorem f125_ps {to : Int} : ∀ f, f ≠ 87 → f125 R to f = R f := fun f h => ksf_ff h
theorem f125_rw (r : kRW V R) {to : Int} : kRW V (f125 R to) := ksf_rw r (fun j _ _ => kfars_rng 20 j)
theorem f130_rw (r : kRW V R) {k g n : Int} (g0 : 0 ≤ g) (g1 : g ≤ 19) (n0 : 0 ≤ n) (n1 : n ≤ 9) (k0 : 0 ≤ k) (k1 : k < 20) (hr : 1 ≤ R 59 0 k) (hp : R 61 0 (4 * k + R 59 0 k - 1) < 5) : kRW V (f130 R k g n) := by
  have B := r.a59 (j := k) (by omega) (by omega)
  have B2 := r.a61 (j := 4 * k + R 59 0 k - 1) (by omega) (by omega)
  unfold f130
  dsimp only
  exact (((r.pa62 g0 g1).pa63 n0 n1).pa64 (by omega) (by omega)).pa61 (by omega) (by omega)
theorem j146c (hA : kJ A V) (v : kLV V) (r : kRW V R) {k n : Int} (hd : 3 ≤ d) (k0 : 0 ≤ k) (k1 : k < 20) (hr : 1 ≤ R 59 0 k) (hp : 1 ≤ R 61 0 (4 * k + R 59 0 k - 1)) (n0 : 0 ≤ R 9 0 41) (n1 : R 9 0 41 ≤ 19) :
    ka_W (kp E) (d, (146, 111, [some (.ref (A 9 0)), some (iv k), some (iv n)], []), (kHp J A V C R, c, l)) Q ↔ Q (.inl (some (iv (f146c R k).2))) (kHp J A V C (f146c R k).1, c, l) := by
  have B := r.a59 (j := k) (by omega) (by omega)
  have B2 := r.a61 (j := 4 * k + R 59 0 k - 1) (by omega) (by omega)
  have B3 := r.a62 (j := f131 R k) (by unfold f131; omega) (by unfold f131; omega)
  have e131 : 5 * (4 * k + R 59 0 k - 1) + R 61 0 (4 * k + R 59 0 k - 1) - 1 = f131 R k := rfl
  have hf : 0 ≤ f131 R k ∧ f131 R k < 420 := by unfold f131; omega
  have B4 := r.i42
  by_cases h1 : R 62 0 (f131 R k) = R 9 0 41
  · simp only [f146c, if_pos h1]
    simp (disch := first | assumption | (unfold kR; decide) | exact klc_R | (unfold kR; omega) | omega | (unfold kL; omega) | exact kcat_null | exact kcat_ref _ | exact kcat_iv _) only [r146_111, r146_112, r146_115, r146_116, r146_117, r146_120, r146_121, r146_122, r146_125, r146_128, r146_129, r146_130, r146_131, r146_134, r146_137, r146_140, r146_141, r146_142, r146_145, r146_148, ho_9_12 hA v.l9, hg_9_12 hA v.l9, hoa_62 hA v.l62, hga_62 hA v.l62, ht_9 hA v.l9, ho_9_41 hA v.l9, hg_9_41 hA v.l9, ho_9_42 hA v.l9, hg_9_42 hA v.l9, true_and, and_true, kk1_i, kk1_r, kk1_n, kk1_0, kcat_iv, kcat_ref, kcat_null, kisR_ref, kisR_null, ksz_nil, ksz_iv, ksz_ref, ksz_null, ksz_lv, kfit_int, kfit_long, kfit_obj, kfit_objN, kfit_arr, kfit_arrN, knarI, knarZ0, knarZ1, kret_v, kret_n, kret_x, Nat.reduceAdd, Nat.reduceLeDiff, reduceCtorEq, Int.reduceLE, Int.reduceLT, Int.reduceEq, ite_true, ite_false, true_or, or_true, false_implies, true_implies, not_true_eq_false, not_false_eq_true, and_self, eq_self, klc_lt, klc_ge, klc_le, klc_gt, klc_eq, kmu_eq, kmu_f, kmu_i, kmu_j, j131 hA v r, j143 hA v, e131, h1, Nat.zero_le, show 1 ≤ d by omega]
  · by_cases h2 : kfars R (R 58 0 k) 20 (R 9 0 41) ≠ -1
    · simp only [f146c, if_neg h1, if_pos h2]
      simp (disch := first | assumption | (unfold kR; decide) | exact klc_R | (unfold kR; omega) | omega | (unfold kL; omega) | exact kcat_null | exact kcat_ref _ | exact kcat_iv _) only [r146_111, r146_112, r146_115, r146_116, r146_117, r146_120, r146_121, r146_122, r146_125, r146_128, r146_129, r146_130, r146_131, r146_134, r146_137, r146_140, r146_141, r146_142, r146_145, r146_148, ho_9_12 hA v.l9, hg_9_12 hA v.l9, hoa_62 hA v.l62, hga_62 hA v.l62, ht_9 hA v.l9, ho_9_41 hA v.l9, hg_9_41 hA v.l9, ho_9_42 hA v.l9, hg_9_42 hA v.l9, true_and, and_true, kk1_i, kk1_r, kk1_n, kk1_0, kcat_iv, kcat_ref, kcat_null, kisR_ref, kisR_null, ksz_nil, ksz_iv, ksz_ref, ksz_null, ksz_lv, kfit_int, kfit_long, kfit_obj, kfit_objN, kfit_arr, kfit_arrN, knarI, knarZ0, knarZ1, kret_v, kret_n, kret_x, Nat.reduceAdd, Nat.reduceLeDiff, reduceCtorEq, Int.reduceLE, Int.reduceLT, Int.reduceEq, ite_true, ite_false, true_or, or_true, false_implies, true_implies, not_true_eq_false, not_false_eq_true, and_self, eq_self, klc_lt, klc_ge, klc_le, klc_gt, klc_eq, kmu_eq, kmu_f, kmu_i, kmu_j, j131 hA v r, j126 hA v r, j143 hA v, e131, h1, kb_t h2, Nat.zero_le, show 1 ≤ d by omega, show ¬ ((1:Int) = 0) by decide, f125, ksf_f]
    · have r1 := f125_rw r (to := R 58 0 k)
      have e131' : f131 (f125 R (R 58 0 k)) k = f131 R k := by unfold f131; rw [f125_ps 59 (by decide), f125_ps 61 (by decide)]
      have q131 := fun {Q} => j131 (E := E) (d := d - 1) (c := c) (l := l) (Q := Q) (J := J) (C := C) hA v r1 (k := k) (by omega) k0 k1 (by rw [f125_ps 59 (by decide)]; exact hr)
      rw [f125_ps 59 (by decide), f125_ps 61 (by decide), e131] at q131
      simp only [f146c, if_neg h1, if_neg h2]
      simp (disch := first | assumption | (unfold kR; decide) | exact klc_R | (unfold kR; omega) | omega | (unfold kL; omega) | exact kcat_null | exact kcat_ref _ | exact kcat_iv _) only [r146_111, r146_112, r146_115, r146_116, r146_117, r146_120, r146_121, r146_122, r146_125, r146_128, r146_129, r146_130, r146_131, r146_134, r146_137, r146_140, r146_141, r146_142, r146_145, r146_148, r146_149, r146_150, r146_153, r146_154, r146_155, r146_158, r146_159, r146_162, r146_163, r146_164, ho_9_12 hA v.l9, hg_9_12 hA v.l9, hoa_62 hA v.l62, hga_62 hA v.l62, hpa_62 hA v.l62, ht_9 hA v.l9, ho_9_41 hA v.l9, hg_9_41 hA v.l9, ho_9_42 hA v.l9, hg_9_42 hA v.l9, ho_9_14 hA v.l9, hg_9_14 hA v.l9, hoa_64 hA v.l64, hga_64 hA v.l64, hpa_64 hA v.l64, true_and, and_true, kk1_i, kk1_r, kk1_n, kk1_0, kcat_iv, kcat_ref, kcat_null, kisR_ref, kisR_null, ksz_nil, ksz_iv, ksz_ref, ksz_null, ksz_lv, kfit_int, kfit_long, kfit_obj, kfit_objN, kfit_arr, kfit_arrN, knarI, knarZ0, knarZ1, kret_v, kret_n, kret_x, Nat.reduceAdd, Nat.reduceLeDiff, reduceCtorEq, Int.reduceLE, Int.reduceLT, Int.reduceEq, ite_true, ite_false, true_or, or_true, false_implies, true_implies, not_true_eq_false, not_false_eq_true, and_self, eq_self, klc_lt, klc_ge, klc_le, klc_gt, klc_eq, kmu_eq, kmu_f, kmu_i, kmu_j, j131 hA v r, j126 hA v r, e131, q131, h1, kb_f h2, Nat.zero_le, show 1 ≤ d by omega, show ¬ ((1:Int) = 0) by decide, f125_ps]
      done
theorem f130_ps {k g n : Int} : ∀ f, f ≠ 61 → f ≠ 62 → f ≠ 63 → f ≠ 64 → f130 R k g n f = R f := fun f a b c d => by
  unfold f130
  rw [kmu_ff a, kmu_ff d, kmu_ff c, kmu_ff b]
theorem f130_61 {k g n : Int} : f130 R k g n 61 0 (4 * k + R 59 0 k - 1) = R 61 0 (4 * k + R 59 0 k - 1) + 1 := by
  unfold f130
  exact kmu_eq
theorem j146b (hA : kJ A V) (v : kLV V) (r : kRW V R) {k n : Int} (hd : 3 ≤ d) (k0 : 0 ≤ k) (k1 : k < 20) (hr : 1 ≤ R 59 0 k) (hp : R 61 0 (4 * k + R 59 0 k - 1) < 5) (g0 : 0 ≤ R 9 0 41) (g1 : R 9 0 41 ≤ 19) (n0 : 0 ≤ n) (n1 : n ≤ 9) (ha : R 9 0 39 ≤ R 9 0 3) :
    ka_W (kp E) (d, (146, 47, [some (.ref (A 9 0)), some (iv k), some (iv n)], []), (kHp J A V C R, c, l)) Q ↔ Q (.inl (some (iv (f146b R k n).2))) (kHp J A V C (f146b R k n).1, c, l) := by
  have B := r.a59 (j := k) (by omega) (by omega)
  have B2 := r.a61 (j := 4 * k + R 59 0 k - 1) (by omega) (by omega)
  have B4 := r.i42
  by_cases h2 : kfars R (R 58 0 k) 20 (R 9 0 41) ≠ -1
  · simp only [f146b, if_pos h2]
    simp (disch := first | assumption | (unfold kR; decide) | exact klc_R | (unfold kR; omega) | omega | (unfold kL; omega) | exact kcat_null | exact kcat_ref _ | exact kcat_iv _) only [r146_47, r146_48, r146_49, r146_50, r146_53, r146_56, r146_59, r146_60, r146_61, r146_64, r146_67, ho_9_41 hA v.l9, hg_9_41 hA v.l9, ht_9 hA v.l9, ho_9_42 hA v.l9, hg_9_42 hA v.l9, true_and, and_true, kk1_i, kk1_r, kk1_n, kk1_0, kcat_iv, kcat_ref, kcat_null, kisR_ref, kisR_null, ksz_nil, ksz_iv, ksz_ref, ksz_null, ksz_lv, kfit_int, kfit_long, kfit_obj, kfit_objN, kfit_arr, kfit_arrN, knarI, knarZ0, knarZ1, kret_v, kret_n, kret_x, Nat.reduceAdd, Nat.reduceLeDiff, reduceCtorEq, Int.reduceLE, Int.reduceLT, Int.reduceEq, ite_true, ite_false, true_or, or_true, false_implies, true_implies, not_true_eq_false, not_false_eq_true, and_self, eq_self, klc_lt, klc_ge, klc_le, klc_gt, klc_eq, kmu_eq, kmu_f, kmu_i, kmu_j, j126 hA v r, j143 hA v, kb_t h2, Nat.zero_le, show 1 ≤ d by omega, show ¬ ((1:Int) = 0) by decide, f125_ps]
  · have r1 := f125_rw r (to := R 58 0 k)
    have r2 : kRW V (f130 (f125 R (R 58 0 k)) k (R 9 0 41) n) := f130_rw r1 g0 g1 n0 n1 k0 k1 (by rw [f125_ps 59 (by decide)]; exact hr) (by rw [f125_ps 59 (by decide), f125_ps 61 (by decide)]; exact hp)
    have e9 : f130 (f125 R (R 58 0 k)) k (R 9 0 41) n 9 = R 9 := by rw [f130_ps 9 (by decide) (by decide) (by decide) (by decide), f125_ps 9 (by decide)]
    have e59 : f130 (f125 R (R 58 0 k)) k (R 9 0 41) n 59 = R 59 := by rw [f130_ps 59 (by decide) (by decide) (by decide) (by decide), f125_ps 59 (by decide)]
    have e61 : f130 (f125 R (R 58 0 k)) k (R 9 0 41) n 61 0 (4 * k + R 59 0 k - 1) = R 61 0 (4 * k + R 59 0 k - 1) + 1 := by
      have := f130_61 (R := f125 R (R 58 0 k)) (k := k) (g := R 9 0 41) (n := n)
      rwa [f125_ps 59 (by decide), f125_ps 61 (by decide)] at this
    have q130 := fun {Q} => j130 (E := E) (d := d - 1) (c := c) (l := l) (Q := Q) (J := J) (C := C) (g := R 9 0 41) (n := n) hA v r1 (by omega) k0 k1 (by rw [f125_ps 59 (by decide)]; exact hr) (by rw [f125_ps 59 (by decide), f125_ps 61 (by decide)]; exact hp)
    have B5 := f142_b r2
    by_cases h3 : f142 (f130 (f125 R (R 58 0 k)) k (R 9 0 41) n) = 47
    · simp only [f146b, if_neg h2, if_pos h3]
      have lt := f144_lt (x := 47) (by decide) h3
      rw [e9] at lt
      have B39 := r.i39
      have B3 := r.i3
      have r3 : kRW V (kmu (f130 (f125 R (R 58 0 k)) k (R 9 0 41) n) 9 0 39 (R 9 0 39 + 1)) := r2.pi39 (by omega) (by omega)
      have a3 : kmu (f130 (f125 R (R 58 0 k)) k (R 9 0 41) n) 9 0 39 (R 9 0 39 + 1) 9 0 39 ≤ kmu (f130 (f125 R (R 58 0 k)) k (R 9 0 41) n) 9 0 39 (R 9 0 39 + 1) 9 0 3 := by
        rw [kmu_eq, kmu_j (by decide), e9]
        omega
      have q145 := fun {Q} => j145 (E := E) (d := d - 1) (c := c) (l := l) (Q := Q) (J := J) (C := C) hA v r3 (lo := 0) (hi := 19) (by omega) a3 (by unfold kR; omega) (by unfold kR; omega)
      have r4 := f145_rw r3 (lo := 0) (hi := 19) a3
      have z01 := f145_01 (R := kmu (f130 (f125 R (R 58 0 k)) k (R 9 0 41) n) 9 0 39 (R 9 0 39 + 1)) (lo := 0) (hi := 19)
      have ps := f145_ps (R := kmu (f130 (f125 R (R 58 0 k)) k (R 9 0 41) n) 9 0 39 (R 9 0 39 + 1)) (lo := 0) (hi := 19)
      have zin := f145_in (R := kmu (f130 (f125 R (R 58 0 k)) k (R 9 0 41) n) 9 0 39 (R 9 0 39 + 1)) (lo := 0) (hi := 19)
      have f59 : (f145 (kmu (f130 (f125 R (R 58 0 k)) k (R 9 0 41) n) 9 0 39 (R 9 0 39 + 1)) 0 19).1 59 = R 59 := by rw [ps.1 59 (by decide), kmu_ff (by decide), e59]
      have f61 : (f145 (kmu (f130 (f125 R (R 58 0 k)) k (R 9 0 41) n) 9 0 39 (R 9 0 39 + 1)) 0 19).1 61 0 (4 * k + R 59 0 k - 1) = R 61 0 (4 * k + R 59 0 k - 1) + 1 := by rw [ps.1 61 (by decide), kmu_ff (by decide), e61]
      generalize hX : f145 (kmu (f130 (f125 R (R 58 0 k)) k (R 9 0 41) n) 9 0 39 (R 9 0 39 + 1)) 0 19 = X at *
      by_cases h4 : X.2 = 0
      · rw [kth_0 h4]
        simp (disch := first | assumption | (unfold kR; decide) | exact klc_R | (unfold kR; omega) | omega | (unfold kL; omega) | exact kcat_null | exact kcat_ref _ | exact kcat_iv _) only [r146_47, r146_48, r146_49, r146_50, r146_53, r146_56, r146_59, r146_60, r146_61, r146_64, r146_67, r146_68, r146_69, r146_70, r146_71, r146_74, r146_75, r146_78, r146_79, r146_82, r146_84, r146_87, r146_88, r146_89, r146_90, r146_91, r146_94, r146_95, r146_96, r146_99, r146_100, r146_101, r146_103, r146_106, r146_109, r146_110, ho_9_41 hA v.l9, hg_9_41 hA v.l9, ht_9 hA v.l9, ho_9_42 hA v.l9, hg_9_42 hA v.l9, ho_9_39 hA v.l9, hg_9_39 hA v.l9, hp_9_39 hA v.l9, true_and, and_true, kk1_i, kk1_r, kk1_n, kk1_0, kcat_iv, kcat_ref, kcat_null, kisR_ref, kisR_null, ksz_nil, ksz_iv, ksz_ref, ksz_null, ksz_lv, kfit_int, kfit_long, kfit_obj, kfit_objN, kfit_arr, kfit_arrN, knarI, knarZ0, knarZ1, kret_v, kret_n, kret_x, Nat.reduceAdd, Nat.reduceLeDiff, reduceCtorEq, Int.reduceLE, Int.reduceLT, Int.reduceEq, ite_true, ite_false, true_or, or_true, false_implies, true_implies, not_true_eq_false, not_false_eq_true, and_self, eq_self, klc_lt, klc_ge, klc_le, klc_gt, klc_eq, kmu_eq, kmu_f, kmu_i, kmu_j, j126 hA v r, j142 hA v r2, q130, q145, hX, h3, h4, kb_f h2, Nat.zero_le, show 1 ≤ d by omega, f125_ps, e9]
      · rw [kth_1 h4]
        have q := fun {Q} => j146c (E := E) (d := d) (c := c) (l := l) (Q := Q) (J := J) (C := C) hA v r4 (k := k) (n := n) hd k0 k1 (by rw [f59]; exact hr) (by rw [f59, f61]; omega) (zin h4).1 (zin h4).2
        simp (disch := first | assumption | (unfold kR; decide) | exact klc_R | (unfold kR; omega) | omega | (unfold kL; omega) | exact kcat_null | exact kcat_ref _ | exact kcat_iv _) only [r146_47, r146_48, r146_49, r146_50, r146_53, r146_56, r146_59, r146_60, r146_61, r146_64, r146_67, r146_68, r146_69, r146_70, r146_71, r146_74, r146_75, r146_78, r146_79, r146_82, r146_84, r146_87, r146_88, r146_89, r146_90, r146_91, r146_94, r146_95, r146_96, r146_99, r146_100, r146_101, r146_103, r146_106, r146_109, r146_110, ho_9_41 hA v.l9, hg_9_41 hA v.l9, ht_9 hA v.l9, ho_9_42 hA v.l9, hg_9_42 hA v.l9, ho_9_39 hA v.l9, hg_9_39 hA v.l9, hp_9_39 hA v.l9, true_and, and_true, kk1_i, kk1_r, kk1_n, kk1_0, kcat_iv, kcat_ref, kcat_null, kisR_ref, kisR_null, ksz_nil, ksz_iv, ksz_ref, ksz_null, ksz_lv, kfit_int, kfit_long, kfit_obj, kfit_objN, kfit_arr, kfit_arrN, knarI, knarZ0, knarZ1, kret_v, kret_n, kret_x, Nat.reduceAdd, Nat.reduceLeDiff, reduceCtorEq, Int.reduceLE, Int.reduceLT, Int.reduceEq, ite_true, ite_false, true_or, or_true, false_implies, true_implies, not_true_eq_false, not_false_eq_true, and_self, eq_self, klc_lt, klc_ge, klc_le, klc_gt, klc_eq, kmu_eq, kmu_f, kmu_i, kmu_j, j126 hA v r, j142 hA v r2, q130, q145, hX, h3, h4, kb_f h2, Nat.zero_le, show 1 ≤ d by omega, f125_ps, e9, q]
    · simp only [f146b, if_neg h2, if_neg h3]
      simp (disch := first | assumption | (unfold kR; decide) | exact klc_R | (unfold kR; omega) | omega | (unfold kL; omega) | exact kcat_null | exact kcat_ref _ | exact kcat_iv _) only [r146_47, r146_48, r146_49, r146_50, r146_53, r146_56, r146_59, r146_60, r146_61, r146_64, r146_67, r146_68, r146_69, r146_70, r146_71, r146_74, r146_75, r146_78, r146_79, r146_82, r146_84, r146_87, r146_88, ho_9_41 hA v.l9, hg_9_41 hA v.l9, ht_9 hA v.l9, ho_9_42 hA v.l9, hg_9_42 hA v.l9, true_and, and_true, kk1_i, kk1_r, kk1_n, kk1_0, kcat_iv, kcat_ref, kcat_null, kisR_ref, kisR_null, ksz_nil, ksz_iv, ksz_ref, ksz_null, ksz_lv, kfit_int, kfit_long, kfit_obj, kfit_objN, kfit_arr, kfit_arrN, knarI, knarZ0, knarZ1, kret_v, kret_n, kret_x, Nat.reduceAdd, Nat.reduceLeDiff, reduceCtorEq, Int.reduceLE, Int.reduceLT, Int.reduceEq, ite_true, ite_false, true_or, or_true, false_implies, true_implies, not_true_eq_false, not_false_eq_true, and_self, eq_self, klc_lt, klc_ge, klc_le, klc_gt, klc_eq, kmu_eq, kmu_f, kmu_i, kmu_j, j126 hA v r, j142 hA v r2, q130, h3, kb_f h2, Nat.zero_le, show 1 ≤ d by omega, f125_ps]
theorem j146 (hA : kJ A V) (v : kLV V) (r : kRW V R) {k : Int} (hd : 3 ≤ d) (k0 : 0 ≤ k) (k1 : k < 20) (hr : 1 ≤ R 59 0 k) (hp : R 61 0 (4 * k + R 59 0 k - 1) < 5) (ha : R 9 0 39 ≤ R 9 0 3) :
    ka_W (kp E) (d, (146, 0, [some (.ref (A 9 0)), some (iv k), none], []), (kHp J A V C R, c, l)) Q ↔ Q (.inl (some (iv (f146 R k).2))) (kHp J A V C (f146 R k).1, c, l) := by
  have d1 : 1 ≤ d := by omega
  have q1 := fun {Q} => j144 (E := E) (d := d - 1) (c := c) (l := l) (Q := Q) (J := J) (C := C) (x := 32) hA v r (by omega) (by omega) (by omega)
  have r1 := f144_rw r (x := 32) (by omega)
  have a1 := (f144_at (R := R) (x := 32) (by omega) ha).1
  have p1 := f144_ps (R := R) (x := 32)
  have z1 := f144_01 (R := R) (x := 32)
  unfold f146
  generalize f144 R 32 = X1 at *
  by_cases h1 : X1.2 = 0
  · rw [kth_0 h1]
    simp (disch := first | assumption | (unfold kR; decide) | exact klc_R | (unfold kR; omega) | omega | (unfold kL; omega) | exact kcat_null | exact kcat_ref _ | exact kcat_iv _) only [r146_0, r146_1, r146_3, r146_6, r146_9, r146_10, r146_11, r146_13, r146_16, r146_19, r146_20, ht_9 hA v.l9, true_and, and_true, kk1_i, kk1_r, kk1_n, kk1_0, kcat_iv, kcat_ref, kcat_null, kisR_ref, kisR_null, ksz_nil, ksz_iv, ksz_ref, ksz_null, ksz_lv, kfit_int, kfit_long, kfit_obj, kfit_objN, kfit_arr, kfit_arrN, knarI, knarZ0, knarZ1, kret_v, kret_n, kret_x, Nat.reduceAdd, Nat.reduceLeDiff, reduceCtorEq, Int.reduceLE, Int.reduceLT, Int.reduceEq, ite_true, ite_false, true_or, or_true, false_implies, true_implies, not_true_eq_false, not_false_eq_true, and_self, eq_self, klc_lt, klc_ge, klc_le, klc_gt, klc_eq, kmu_eq, kmu_f, kmu_i, kmu_j, q1, h1, Nat.zero_le, d1]
  · rw [kth_1 h1]
    have q2 := fun {Q} => j145 (E := E) (d := d - 1) (c := c) (l := l) (Q := Q) (J := J) (C := C) (lo := 1) (hi := 9) hA v r1 (by omega) a1 (by unfold kR; omega) (by unfold kR; omega)
    have r2 := f145_rw r1 (lo := 1) (hi := 9) a1
    have a2 := (f145_at (R := X1.1) (lo := 1) (hi := 9) a1).1
    have p2 := p1.trans (f145_ps (R := X1.1) (lo := 1) (hi := 9))
    have z2 := f145_01 (R := X1.1) (lo := 1) (hi := 9)
    have i2 := f145_in (R := X1.1) (lo := 1) (hi := 9)
    generalize f145 X1.1 1 9 = X2 at *
    by_cases h2 : X2.2 = 0
    · rw [kth_0 h2]
      simp (disch := first | assumption | (unfold kR; decide) | exact klc_R | (unfold kR; omega) | omega | (unfold kL; omega) | exact kcat_null | exact kcat_ref _ | exact kcat_iv _) only [r146_0, r146_1, r146_3, r146_6, r146_9, r146_10, r146_11, r146_13, r146_16, r146_19, r146_20, ht_9 hA v.l9, true_and, and_true, kk1_i, kk1_r, kk1_n, kk1_0, kcat_iv, kcat_ref, kcat_null, kisR_ref, kisR_null, ksz_nil, ksz_iv, ksz_ref, ksz_null, ksz_lv, kfit_int, kfit_long, kfit_obj, kfit_objN, kfit_arr, kfit_arrN, knarI, knarZ0, knarZ1, kret_v, kret_n, kret_x, Nat.reduceAdd, Nat.reduceLeDiff, reduceCtorEq, Int.reduceLE, Int.reduceLT, Int.reduceEq, ite_true, ite_false, true_or, or_true, false_implies, true_implies, not_true_eq_false, not_false_eq_true, and_self, eq_self, klc_lt, klc_ge, klc_le, klc_gt, klc_eq, kmu_eq, kmu_f, kmu_i, kmu_j, q1, q2, h1, h2, Nat.zero_le, d1]
    · rw [kth_1 h2]
      have q3 := fun {Q} => j144 (E := E) (d := d - 1) (c := c) (l := l) (Q := Q) (J := J) (C := C) (x := 42) hA v r2 (by omega) (by omega) (by omega)
      have r3 := f144_rw r2 (x := 42) (by omega)
      have a3 := (f144_at (R := X2.1) (x := 42) (by omega) a2).1
      have p3 := p2.trans (f144_ps (R := X2.1) (x := 42))
      have z3 := f144_01 (R := X2.1) (x := 42)
      generalize f144 X2.1 42 = X3 at *
      by_cases h3 : X3.2 = 0
      · rw [kth_0 h3]
        simp (disch := first | assumption | (unfold kR; decide) | exact klc_R | (unfold kR; omega) | omega | (unfold kL; omega) | exact kcat_null | exact kcat_ref _ | exact kcat_iv _) only [r146_0, r146_1, r146_3, r146_6, r146_9, r146_10, r146_11, r146_13, r146_16, r146_19, r146_20, r146_21, r146_22, r146_25, r146_26, r146_27, r146_29, r146_32, r146_35, r146_36, r146_37, r146_39, r146_42, r146_45, r146_46, ht_9 hA v.l9, ho_9_41 hA v.l9, hg_9_41 hA v.l9, true_and, and_true, kk1_i, kk1_r, kk1_n, kk1_0, kcat_iv, kcat_ref, kcat_null, kisR_ref, kisR_null, ksz_nil, ksz_iv, ksz_ref, ksz_null, ksz_lv, kfit_int, kfit_long, kfit_obj, kfit_objN, kfit_arr, kfit_arrN, knarI, knarZ0, knarZ1, kret_v, kret_n, kret_x, Nat.reduceAdd, Nat.reduceLeDiff, reduceCtorEq, Int.reduceLE, Int.reduceLT, Int.reduceEq, ite_true, ite_false, true_or, or_true, false_implies, true_implies, not_true_eq_false, not_false_eq_true, and_self, eq_self, klc_lt, klc_ge, klc_le, klc_gt, klc_eq, kmu_eq, kmu_f, kmu_i, kmu_j, q1, q2, q3, h1, h2, h3, Nat.zero_le, d1]
      · rw [kth_1 h3]
        have q4 := fun {Q} => j145 (E := E) (d := d - 1) (c := c) (l := l) (Q := Q) (J := J) (C := C) (lo := 0) (hi := 19) hA v r3 (by omega) a3 (by unfold kR; omega) (by unfold kR; omega)
        have r4 := f145_rw r3 (lo := 0) (hi := 19) a3
        have a4 := (f145_at (R := X3.1) (lo := 0) (hi := 19) a3).1
        have p4 := p3.trans (f145_ps (R := X3.1) (lo := 0) (hi := 19))
        have z4 := f145_01 (R := X3.1) (lo := 0) (hi := 19)
        have i4 := f145_in (R := X3.1) (lo := 0) (hi := 19)
        generalize f145 X3.1 0 19 = X4 at *
        by_cases h4 : X4.2 = 0
        · rw [kth_0 h4]
          simp (disch := first | assumption | (unfold kR; decide) | exact klc_R | (unfold kR; omega) | omega | (unfold kL; omega) | exact kcat_null | exact kcat_ref _ | exact kcat_iv _) only [r146_0, r146_1, r146_3, r146_6, r146_9, r146_10, r146_11, r146_13, r146_16, r146_19, r146_20, r146_21, r146_22, r146_25, r146_26, r146_27, r146_29, r146_32, r146_35, r146_36, r146_37, r146_39, r146_42, r146_45, r146_46, ht_9 hA v.l9, ho_9_41 hA v.l9, hg_9_41 hA v.l9, true_and, and_true, kk1_i, kk1_r, kk1_n, kk1_0, kcat_iv, kcat_ref, kcat_null, kisR_ref, kisR_null, ksz_nil, ksz_iv, ksz_ref, ksz_null, ksz_lv, kfit_int, kfit_long, kfit_obj, kfit_objN, kfit_arr, kfit_arrN, knarI, knarZ0, knarZ1, kret_v, kret_n, kret_x, Nat.reduceAdd, Nat.reduceLeDiff, reduceCtorEq, Int.reduceLE, Int.reduceLT, Int.reduceEq, ite_true, ite_false, true_or, or_true, false_implies, true_implies, not_true_eq_false, not_false_eq_true, and_self, eq_self, klc_lt, klc_ge, klc_le, klc_gt, klc_eq, kmu_eq, kmu_f, kmu_i, kmu_j, q1, q2, q3, q4, h1, h2, h3, h4, Nat.zero_le, d1]
        · rw [kth_1 h4]
          have q5 := fun {Q} => j146b (E := E) (d := d) (c := c) (l := l) (Q := Q) (J := J) (C := C) hA v r4 (k := k) (n := X2.1 9 0 41) hd k0 k1 (by rw [p4.1 59 (by decide)]; exact hr) (by rw [p4.1 59 (by decide), p4.1 61 (by decide)]; exact hp) (i4 h4).1 (i4 h4).2 (by have := (i2 h2).1; omega) (i2 h2).2 a4
          simp (disch := first | assumption | (unfold kR; decide) | exact klc_R | (unfold kR; omega) | omega | (unfold kL; omega) | exact kcat_null | exact kcat_ref _ | exact kcat_iv _) only [r146_0, r146_1, r146_3, r146_6, r146_9, r146_10, r146_11, r146_13, r146_16, r146_19, r146_20, r146_21, r146_22, r146_25, r146_26, r146_27, r146_29, r146_32, r146_35, r146_36, r146_37, r146_39, r146_42, r146_45, r146_46, ht_9 hA v.l9, ho_9_41 hA v.l9, hg_9_41 hA v.l9, true_and, and_true, kk1_i, kk1_r, kk1_n, kk1_0, kcat_iv, kcat_ref, kcat_null, kisR_ref, kisR_null, ksz_nil, ksz_iv, ksz_ref, ksz_null, ksz_lv, kfit_int, kfit_long, kfit_obj, kfit_objN, kfit_arr, kfit_arrN, knarI, knarZ0, knarZ1, kret_v, kret_n, kret_x, Nat.reduceAdd, Nat.reduceLeDiff, reduceCtorEq, Int.reduceLE, Int.reduceLT, Int.reduceEq, ite_true, ite_false, true_or, or_true, false_implies, true_implies, not_true_eq_false, not_false_eq_true, and_self, eq_self, klc_lt, klc_ge, klc_le, klc_gt, klc_eq, kmu_eq, kmu_f, kmu_i, kmu_j, q1, q2, q3, q4, q5, h1, h2, h3, h4, Nat.zero_le, d1]
end
