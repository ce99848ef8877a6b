/-! The reader: a good that may be led to, and a part. -/
noncomputable def g94 (X : ka_M) (k nt : Int) : ka_M × Int :=
  kth (f145 X 0 19) (fun R => if R 9 0 41 = nt then (kmu R 9 0 40 (R 9 0 42), 0) else if kfars R (R 58 0 k) 20 (R 9 0 41) ≠ -1 then (kmu (f125 R (R 58 0 k)) 9 0 40 (R 9 0 42), 0) else (f125 R (R 58 0 k), 1))
noncomputable def g93 (X : ka_M) (k n : Int) : ka_M × Int :=
  if f142 (f130 X k (X 9 0 41) n) = 47 then kth (g94 (kmu (f130 X k (X 9 0 41) n) 9 0 39 (X 9 0 39 + 1)) k (X 9 0 41)) (fun R => (kmu R 64 0 (f131 R k) (R 9 0 41), 1)) else (f130 X k (X 9 0 41) n, 1)
section
variable {E : Nat × Nat} {d c l : Nat} {s : ka_S} {h : ka_H} {Q : ka_Q} {J : ka_H} {A A' : ka_A} {V V' : ka_V} {C C' R X X' : ka_M}
theorem kRe.q (r : kRe C X) (h5 : C' 5 = C 5) (h31 : C' 31 = C 31) (h3 : X' 9 0 3 = X 9 0 3) (h39 : X' 9 0 39 = X 9 0 39) (h52 : X' 52 = X 52) : kRe C' X' := by
  unfold kRe
  rw [h5, h31, h3, h39, h52]
  exact r
theorem kBI.ps (I : kBI V C X) (hC : ∀ f, f ≠ 5 → C' f = C f) (hX : kPS X X') : kBI V C' X' :=
  kBI_q I (fun f a _ => hC f a) (fun f a _ => hX.1 f a) (hX.2 7 (by decide) (by decide) (by decide) (by decide)) (hX.2 15 (by decide) (by decide) (by decide) (by decide)) (hX.2 26 (by decide) (by decide) (by decide) (by decide))
theorem f131_c {k : Int} (h59 : X' 59 = X 59) (h61 : X' 61 = X 61) : f131 X' k = f131 X k := by
  unfold f131
  rw [h59, h61]
theorem g94_in {k g : Int} (h : X 62 0 (f131 X k) = g) : kth (f145 X 0 19) (fun R => f146c R k) = kth (g94 X k g) (fun R => (kmu R 64 0 (f131 R k) (R 9 0 41), 1)) := by
  have p := f145_ps (R := X) (lo := 0) (hi := 19)
  unfold g94
  generalize f145 X 0 19 = Z at *
  by_cases h1 : Z.2 = 0
  · rw [kth_0 h1, kth_0 h1, kth_0 rfl]
  · rw [kth_1 h1, kth_1 h1]
    have e : Z.1 62 0 (f131 Z.1 k) = g := by
      rw [f131_c (p.1 59 (by decide)) (p.1 61 (by decide)), p.1 62 (by decide)]
      exact h
    unfold f146c
    rw [e]
    by_cases h2 : Z.1 9 0 41 = g
    · rw [if_pos h2, if_pos h2.symm, kth_0 rfl]
    · rw [if_neg h2, if_neg (fun w => h2 w.symm)]
      by_cases h3 : kfars Z.1 (Z.1 58 0 k) 20 (Z.1 9 0 41) ≠ -1
      · rw [if_pos h3, if_pos h3, kth_0 rfl]
      · rw [if_neg h3, if_neg h3, kth_1 (show ¬ (1:Int) = 0 by decide)]
        dsimp only
        rw [f131_c (f125_ps 59 (by decide)) (f125_ps 61 (by decide)), f125_ps 9 (by decide)]
theorem g94_pt {k n : Int} : kth (f145 X 0 19) (fun R => f146b R k n) = kth (g94 X k (-1)) (fun R => g93 R k n) := by
  have i := f145_in (R := X) (lo := 0) (hi := 19)
  unfold g94
  generalize f145 X 0 19 = Z at *
  by_cases h1 : Z.2 = 0
  · rw [kth_0 h1, kth_0 h1, kth_0 rfl]
  · rw [kth_1 h1, kth_1 h1, if_neg (by have := i h1; omega)]
    unfold f146b
    by_cases h3 : kfars Z.1 (Z.1 58 0 k) 20 (Z.1 9 0 41) ≠ -1
    · rw [if_pos h3, if_pos h3, kth_0 rfl]
    · have e1 : ∀ Y : ka_M, kth (Y, 1) (fun R => g93 R k n) = g93 Y k n := fun Y => kth_1 (show ¬ (1:Int) = 0 by decide)
      rw [if_neg h3, if_neg h3, e1]
      unfold g93
      have e9 : f125 Z.1 (Z.1 58 0 k) 9 = Z.1 9 := f125_ps 9 (by decide)
      rw [e9]
      generalize f125 Z.1 (Z.1 58 0 k) = Y at *
      by_cases h4 : f142 (f130 Y k (Z.1 9 0 41) n) = 47
      · rw [if_pos h4, if_pos h4]
        refine g94_in ?_
        have e : f131 (kmu (f130 Y k (Z.1 9 0 41) n) 9 0 39 (Z.1 9 0 39 + 1)) k = 5 * (4 * k + Y 59 0 k - 1) + Y 61 0 (4 * k + Y 59 0 k - 1) := by
          unfold f131
          rw [kmu_ff (by decide), kmu_ff (by decide), f130_ps 59 (by decide) (by decide) (by decide) (by decide), (f130_o (X := Y)).1, if_pos rfl]
          omega
        rw [e, kmu_f (by decide), (f130_o (X := Y)).2.1, if_pos rfl]
      · rw [if_neg h4, if_neg h4]
theorem f146_g {k : Int} : f146 X k = kth (f144 X 32) (fun R1 => kth (f145 R1 1 9) (fun R2 => kth (f144 R2 42) (fun R3 => kth (g94 R3 k (-1)) (fun R => g93 R k (R2 9 0 41))))) := by
  unfold f146
  congr 1
  funext R1
  congr 1
  funext R2
  congr 1
  funext R3
  exact g94_pt
/-- readLedTo -/
theorem c94 (hA : kJ A V) (v : kLV V) (rw : kRW V X) (r : kRe C X) (I : kBI V C X) {k nt : Int} (hd : 3 ≤ d) (k0 : 0 ≤ k) (k1 : k < X 9 0 7) (ha : X 9 0 39 ≤ X 9 0 3) (t0 : -1 ≤ nt) (t1 : nt < 20)
    (H : ∀ C' y, kRe C' (g94 X k nt).1 → kBI V C' (g94 X k nt).1 → kRW V (g94 X k nt).1 → kPK k X (g94 X k nt).1 → (∀ f, f ≠ 9 → f ≠ 87 → (g94 X k nt).1 f = X f) → (g94 X k nt).1 9 0 39 ≤ (g94 X k nt).1 9 0 3 → (∀ f, f ≠ 5 → f ≠ 26 → C' f = C f) → ((g94 X k nt).2 = 0 → y = -1 ∧ C' 5 0 3 = (g94 X k nt).1 9 0 40) → (¬ (g94 X k nt).2 = 0 → y = (g94 X k nt).1 9 0 41 ∧ 0 ≤ y ∧ y < 20 ∧ C' 5 0 3 = C 5 0 3) → Q (.inl (some (iv y))) (kHp J A V C' R, c, l)) :
    ka_W (kp E) (d, (94, 0, [some (.ref (A 5 0)), some (.ref (A 1 0)), some (.ref (A 3 k)), some (iv nt), none, none], []), (kHp J A V C R, c, l)) Q := by
  have r2 := r.2.1
  have B39 := rw.i39
  simp (disch := first | assumption | (unfold kR; decide) | exact klc_R | (unfold kR; omega) | omega | (unfold kL; omega) | exact kcat_null | exact kcat_ref _ | exact kcat_iv _) only [r94_0, r94_1, r94_4, r94_6, r94_7, r94_8, r94_10, ho_5_2 hA v.l5, hg_5_2 hA v.l5, ht_5 hA v.l5, true_and, and_true, kk1_i, kk1_r, kk1_n, kk1_0, kcat_iv, kcat_ref, kcat_null, kisR_ref, kisR_null, ksz_nil, ksz_iv, ksz_ref, ksz_null, ksz_lv, kfit_int, kfit_long, kfit_obj, kfit_objN, kfit_arr, kfit_arrN, knarI, knarZ0, knarZ1, kret_v, kret_n, kret_x, Nat.reduceAdd, Nat.reduceLeDiff, reduceCtorEq, Int.reduceLE, Int.reduceLT, Int.reduceEq, ite_true, ite_false, true_or, or_true, false_implies, true_implies, not_true_eq_false, not_false_eq_true, and_self, eq_self, klc_lt, klc_ge, klc_le, klc_gt, klc_eq, kmu_eq, kmu_f, kmu_i, kmu_j, r2, Nat.zero_le, show 1 ≤ d by omega]
  refine c95 hA v rw r (by omega) ha (by omega) (by omega) (by omega) (by omega) (fun C1 y a1 a2 a3 a4 => ?_)
  have p := f145_ps (R := X) (lo := 0) (hi := 19)
  have i := f145_in (R := X) (lo := 0) (hi := 19)
  have e42 := f145_42 (X := X) (lo := 0) (hi := 19)
  have rw1 := f145_rw rw (lo := 0) (hi := 19) ha
  have at1 := f145_at (R := X) (lo := 0) (hi := 19) ha
  unfold g94 at H
  generalize f145 X 0 19 = Z at *
  have I1 := I.ps a2 p
  have kp1 := p.pk (k := k)
  by_cases h1 : Z.2 = 0
  · rw [kth_0 h1] at H
    obtain ⟨y1, y2⟩ := a3 h1
    have := H C1 y a1 I1 rw1 kp1 (fun f b _ => p.1 f b) at1.1 (fun f b _ => a2 f b) (fun _ => ⟨y1, y2⟩) (fun w => absurd rfl w)
    rw [y1] at this ⊢
    simp (disch := first | assumption | (unfold kR; decide) | exact klc_R | (unfold kR; omega) | omega | (unfold kL; omega) | exact kcat_null | exact kcat_ref _ | exact kcat_iv _) only [r94_13, r94_15, r94_17, r94_18, r94_46, r94_48, true_and, and_true, kk1_i, kk1_r, kk1_n, kk1_0, kcat_iv, kcat_ref, kcat_null, kisR_ref, kisR_null, ksz_nil, ksz_iv, ksz_ref, ksz_null, ksz_lv, kfit_int, kfit_long, kfit_obj, kfit_objN, kfit_arr, kfit_arrN, knarI, knarZ0, knarZ1, kret_v, kret_n, kret_x, Nat.reduceAdd, Nat.reduceLeDiff, reduceCtorEq, Int.reduceLE, Int.reduceLT, Int.reduceEq, ite_true, ite_false, true_or, or_true, false_implies, true_implies, not_true_eq_false, not_false_eq_true, and_self, eq_self, klc_lt, klc_ge, klc_le, klc_gt, klc_eq, kmu_eq, kmu_f, kmu_i, kmu_j]
    exact this
  · rw [kth_1 h1] at H
    obtain ⟨y1, y2⟩ := a4 h1
    obtain ⟨g0, g1⟩ := i h1
    rw [← y1] at g0 g1 H
    by_cases h2 : y = nt
    · rw [if_pos h2] at H
      have := H (kmu C1 5 0 3 (X 9 0 39)) (-1) (by rw [e42]; exact a1.f5) (I1.ps (fun f hf => kmu_ff hf) (kPS_rfl.mu (by omega))) (rw1.pi40 (by rw [e42]; exact B39.1) (by rw [e42]; exact B39.2)) (kp1.mu9 (by omega)) (fun f b _ => (kmu_ff b).trans (p.1 f b)) (by dsimp only; rw [kmu_j (by decide), kmu_j (by decide)]; exact at1.1) (fun f b _ => (kmu_ff b).trans (a2 f b)) (fun _ => ⟨rfl, by dsimp only; rw [kmu_eq, kmu_eq, e42]⟩) (fun w => absurd rfl w)
      simp (disch := first | assumption | (unfold kR; decide) | exact klc_R | (unfold kR; omega) | omega | (unfold kL; omega) | exact kcat_null | exact kcat_ref _ | exact kcat_iv _) only [r94_13, r94_15, r94_17, r94_18, r94_21, r94_23, r94_24, r94_27, r94_28, r94_29, r94_31, r94_34, r94_37, r94_38, r94_40, r94_43, r94_44, r94_45, ht_1 hA v.l1, ht_5 hA v.l5, true_and, and_true, kk1_i, kk1_r, kk1_n, kk1_0, kcat_iv, kcat_ref, kcat_null, kisR_ref, kisR_null, ksz_nil, ksz_iv, ksz_ref, ksz_null, ksz_lv, kfit_int, kfit_long, kfit_obj, kfit_objN, kfit_arr, kfit_arrN, knarI, knarZ0, knarZ1, kret_v, kret_n, kret_x, Nat.reduceAdd, Nat.reduceLeDiff, reduceCtorEq, Int.reduceLE, Int.reduceLT, Int.reduceEq, ite_true, ite_false, true_or, or_true, false_implies, true_implies, not_true_eq_false, not_false_eq_true, and_self, eq_self, klc_lt, klc_ge, klc_le, klc_gt, klc_eq, kmu_eq, kmu_f, kmu_i, kmu_j, h2, show ¬ nt = -1 by omega, c99 hA v, Nat.zero_le, show 1 ≤ d by omega]
      exact this
    · rw [if_neg h2] at H
      have e3 : C1 3 k 1 = Z.1 58 0 k := (I1.new rw1 (k := k) k0 (by rw [p.2 7 (by decide) (by decide) (by decide) (by decide)]; exact k1)).2.2.2.2.1
      obtain ⟨n1, -, -, -, -, n6, n7, -⟩ := I1.new rw1 (k := k) k0 (by rw [p.2 7 (by decide) (by decide) (by decide) (by decide)]; exact k1)
      have q61 := fun {Q} H => c61 (E := E) (d := d - 1) (c := c) (l := l) (Q := Q) (J := J) (R := R) (k := k) (g := y) hA v I1.ld (by omega) n1 (by rw [e3]; exact n6) (by rw [e3]; exact n7) g0 (by omega) H
      have I2 : kBI V (kaf C1 (kfars Z.1 (C1 3 k 1) 20)) (f125 Z.1 (Z.1 58 0 k)) := kBI_q I1 (fun f _ b => kaf_ff b) (fun f _ b => f125_ps f b) (by rw [f125_ps 9 (by decide)]) (by rw [f125_ps 9 (by decide)]) (by rw [f125_ps 9 (by decide)])
      have a5 : kRe (kaf C1 (kfars Z.1 (C1 3 k 1) 20)) (f125 Z.1 (Z.1 58 0 k)) := a1.q (kaf_ff (by decide)) (kaf_ff (by decide)) (by rw [f125_ps 9 (by decide)]) (by rw [f125_ps 9 (by decide)]) (f125_ps 52 (by decide))
      have rw2 : kRW V (f125 Z.1 (Z.1 58 0 k)) := f125_rw rw1
      have kp2 : kPK k X (f125 Z.1 (Z.1 58 0 k)) := kp1.trans f125_pk
      have fr : ∀ f, f ≠ 9 → f ≠ 87 → f125 Z.1 (Z.1 58 0 k) f = X f := fun f a b => (f125_ps f b).trans (p.1 f a)
      have e9 : f125 Z.1 (Z.1 58 0 k) 9 = Z.1 9 := f125_ps 9 (by decide)
      have fc : ∀ f, f ≠ 5 → f ≠ 26 → kaf C1 (kfars Z.1 (C1 3 k 1) 20) f = C f := fun f a b => (kaf_ff b).trans (a2 f a)
      simp (disch := first | assumption | (unfold kR; decide) | exact klc_R | (unfold kR; omega) | omega | (unfold kL; omega) | exact kcat_null | exact kcat_ref _ | exact kcat_iv _) only [r94_13, r94_15, r94_17, r94_18, r94_21, r94_23, r94_24, r94_27, r94_28, r94_29, r94_31, ht_1 hA v.l1, true_and, and_true, kk1_i, kk1_r, kk1_n, kk1_0, kcat_iv, kcat_ref, kcat_null, kisR_ref, kisR_null, ksz_nil, ksz_iv, ksz_ref, ksz_null, ksz_lv, kfit_int, kfit_long, kfit_obj, kfit_objN, kfit_arr, kfit_arrN, knarI, knarZ0, knarZ1, kret_v, kret_n, kret_x, Nat.reduceAdd, Nat.reduceLeDiff, reduceCtorEq, Int.reduceLE, Int.reduceLT, Int.reduceEq, ite_true, ite_false, true_or, or_true, false_implies, true_implies, not_true_eq_false, not_false_eq_true, and_self, eq_self, klc_lt, klc_ge, klc_le, klc_gt, klc_eq, kmu_eq, kmu_f, kmu_i, kmu_j, h2, show ¬ y = -1 by omega, Nat.zero_le, show 1 ≤ d by omega]
      refine q61 ?_
      rw [e3] at *
      by_cases h3 : kfars Z.1 (Z.1 58 0 k) 20 y ≠ -1
      · rw [if_pos h3] at H
        have := H (kmu (kaf C1 (kfars Z.1 (Z.1 58 0 k) 20)) 5 0 3 (X 9 0 39)) (-1) (by rw [e42]; exact a5.f5) (I2.ps (fun f hf => kmu_ff hf) (kPS_rfl.mu (by omega))) (rw2.pi40 (by rw [e42]; exact B39.1) (by rw [e42]; exact B39.2)) (kp2.mu9 (by omega)) (fun f a b => (kmu_ff a).trans (fr f a b)) (by dsimp only; rw [kmu_j (by decide), kmu_j (by decide), e9]; exact at1.1) (fun f a b => (kmu_ff a).trans (fc f a b)) (fun _ => ⟨rfl, by dsimp only; rw [kmu_eq, kmu_eq, e42]⟩) (fun w => absurd rfl w)
        simp (disch := first | assumption | (unfold kR; decide) | exact klc_R | (unfold kR; omega) | omega | (unfold kL; omega) | exact kcat_null | exact kcat_ref _ | exact kcat_iv _) only [r94_34, r94_37, r94_38, r94_40, r94_43, r94_44, r94_45, ht_5 hA v.l5, true_and, and_true, kk1_i, kk1_r, kk1_n, kk1_0, kcat_iv, kcat_ref, kcat_null, kisR_ref, kisR_null, ksz_nil, ksz_iv, ksz_ref, ksz_null, ksz_lv, kfit_int, kfit_long, kfit_obj, kfit_objN, kfit_arr, kfit_arrN, knarI, knarZ0, knarZ1, kret_v, kret_n, kret_x, Nat.reduceAdd, Nat.reduceLeDiff, reduceCtorEq, Int.reduceLE, Int.reduceLT, Int.reduceEq, ite_true, ite_false, true_or, or_true, false_implies, true_implies, not_true_eq_false, not_false_eq_true, and_self, eq_self, klc_lt, klc_ge, klc_le, klc_gt, klc_eq, kmu_eq, kmu_f, kmu_i, kmu_j, kb_t h3, c99 hA v, Nat.zero_le, show 1 ≤ d by omega, show ¬ (1:Int) = 0 by decide]
        exact this
      · rw [if_neg h3] at H
        have := H (kaf C1 (kfars Z.1 (Z.1 58 0 k) 20)) y a5 I2 rw2 kp2 fr (by dsimp only; rw [e9]; exact at1.1) fc (fun w => absurd w (show ¬ (1:Int) = 0 by decide)) (fun _ => ⟨by dsimp only; rw [e9]; exact y1, g0, by omega, by rw [kaf_ff (by decide)]; exact y2⟩)
        simp (disch := first | assumption | (unfold kR; decide) | exact klc_R | (unfold kR; omega) | omega | (unfold kL; omega) | exact kcat_null | exact kcat_ref _ | exact kcat_iv _) only [r94_34, r94_46, r94_48, true_and, and_true, kk1_i, kk1_r, kk1_n, kk1_0, kcat_iv, kcat_ref, kcat_null, kisR_ref, kisR_null, ksz_nil, ksz_iv, ksz_ref, ksz_null, ksz_lv, kfit_int, kfit_long, kfit_obj, kfit_objN, kfit_arr, kfit_arrN, knarI, knarZ0, knarZ1, kret_v, kret_n, kret_x, Nat.reduceAdd, Nat.reduceLeDiff, reduceCtorEq, Int.reduceLE, Int.reduceLT, Int.reduceEq, ite_true, ite_false, true_or, or_true, false_implies, true_implies, not_true_eq_false, not_false_eq_true, and_self, eq_self, klc_lt, klc_ge, klc_le, klc_gt, klc_eq, kmu_eq, kmu_f, kmu_i, kmu_j, kb_f h3]
        exact this
end
