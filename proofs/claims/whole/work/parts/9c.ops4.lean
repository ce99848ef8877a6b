/-! Calls: read, part. -/
section
variable {E : Nat × Nat} {d D yr c l : Nat} {s : ka_S} {h : ka_H} {Q : ka_Q} {J : ka_H} {A A' : ka_A} {V V' : ka_V} {C C' R R' X X' X'' Y Z : ka_M} {t : Int} {ag : ka_A → List (Option Value)} {ex : List (Nat × Int)}
theorem f148_x (hA : kJ A V) (v : kLV V) (rw : kRW V R) (bk : kBk R) (XI : kXI R t) : kXI (f148 R).1 (t + 1) ∧ ((f148 R).1 9 0 0 = 0 ∨ (f148 R).1 9 0 0 = 1) ∧ kR (f148 R).2 := by
  have B3 := rw.i3
  have B7 := rw.i7
  have rw1 : kRW V (kmu R 9 0 39 0) := rw.pi39 (by omega) (by omega)
  have ps : kPS R (kmu R 9 0 39 0) := kPS_rfl.mu (by omega)
  obtain ⟨z1, z2, z3, z4⟩ := krd_y hA v (R 9 0 3).toNat (kmu R 9 0 39 0) rw1 (ps.pk (k := 0) |>.bk bk) (XI.2.2.2.1.ps ps) (by rw [kmu_eq, kmu_j (by decide)]; omega)
  have rd := ps.rd.trans z4
  unfold f148
  dsimp only
  generalize krd (R 9 0 3).toNat (kmu R 9 0 39 0) = Z at *
  have B7' := z1.i7
  have B40 := z1.i40
  have ge := rd.2.2
  have r2 : kRW V (kmu Z.1 9 0 3 0) := z1.pi3 (by omega) (by omega)
  have b2 : ∀ x, kBk (kmu (kmu Z.1 9 0 3 0) 9 0 0 x) := fun x => z2.c (by rw [kmu_ff (by decide), kmu_ff (by decide)]) (by rw [kmu_ff (by decide), kmu_ff (by decide)]) (by rw [kmu_ff (by decide), kmu_ff (by decide)]) (by rw [kmu_j (by decide), kmu_j (by decide)])
  have y2 : ∀ x, kBY (kmu (kmu Z.1 9 0 3 0) 9 0 0 x) := fun x => kBY_c z3 (fun f hf => by rw [kmu_ff (by omega), kmu_ff (by omega)]) (by rw [kmu_j (by decide), kmu_j (by decide)])
  have xf : ∀ x f, f ≠ 9 → f ≠ 56 → f ≠ 58 → f ≠ 59 → f ≠ 60 → f ≠ 61 → f ≠ 62 → f ≠ 63 → f ≠ 64 → f ≠ 87 → kmu (kmu Z.1 9 0 3 0) 9 0 0 x f = R f := fun x f a1 a2 a3 a4 a5 a6 a7 a8 a9 a10 => by
    rw [kmu_ff a1, kmu_ff a1]; exact rd.1 f a1 a2 a3 a4 a5 a6 a7 a8 a9 a10
  have x9 : ∀ x j, j ≠ 0 → j ≠ 3 → j ≠ 7 → j ≠ 39 → j ≠ 40 → j ≠ 41 → j ≠ 42 → kmu (kmu Z.1 9 0 3 0) 9 0 0 x 9 0 j = R 9 0 j := fun x j a1 a2 a3 a4 a5 a6 a7 => by
    rw [kmu_j a1, kmu_j a2]; exact rd.2.1 j a3 a4 a5 a6 a7
  have back : ∀ x, 0 ≤ x → x ≤ 1 → kXI (krb' (Z.1 9 0 7 - R 9 0 7).toNat (kmu (kmu Z.1 9 0 3 0) 9 0 0 x)) (t + 1) ∧ krb' (Z.1 9 0 7 - R 9 0 7).toNat (kmu (kmu Z.1 9 0 3 0) 9 0 0 x) 9 0 0 = x := by
    intro x x0 x1
    have r3 : kRW V (kmu (kmu Z.1 9 0 3 0) 9 0 0 x) := r2.pi0 (by omega) (by omega)
    have e7 : kmu (kmu Z.1 9 0 3 0) 9 0 0 x 9 0 7 = Z.1 9 0 7 := by rw [kmu_j (by decide), kmu_j (by decide)]
    obtain ⟨o1, o2⟩ := krb_o (Z.1 9 0 7 - R 9 0 7).toNat (kmu (kmu Z.1 9 0 3 0) 9 0 0 x)
    obtain ⟨-, -, i3, -⟩ := j148_b (E := (0, 0)) (d := 5) (c := 0) (l := 0) (Q := fun _ _ => True) (J := fun _ => none) (C := R) (had := R 9 0 7) (g := 0) hA v B7.1 (by omega) (Z.1 9 0 7 - R 9 0 7).toNat _ r3 (b2 x) (by rw [e7]; omega)
    have yb := kBY_back (Z.1 9 0 7 - R 9 0 7).toNat _ r3 (b2 x) (by rw [e7]; omega) (y2 x)
    refine ⟨kXI_b XI (by omega) (fun f hf => (o1 f (by omega) (by omega)).trans (xf x f (by omega) (by omega) (by omega) (by omega) (by omega) (by omega) (by omega) (by omega) (by omega) (by omega))) ((o2 15 (by decide)).trans (x9 x 15 (by decide) (by decide) (by decide) (by decide) (by decide) (by decide) (by decide))) ((o2 26 (by decide)).trans (x9 x 26 (by decide) (by decide) (by decide) (by decide) (by decide) (by decide) (by decide))) (by rw [i3]; exact XI.1) yb, (o2 0 (by decide)).trans kmu_eq⟩
  by_cases h1 : Z.2 = 0
  · rw [if_pos h1]
    obtain ⟨b1, b2'⟩ := back 0 (by omega) (by omega)
    exact ⟨b1, Or.inl b2', by unfold kR; dsimp only; omega⟩
  · rw [if_neg h1]
    by_cases h2 : 12 < Z.1 9 0 7
    · rw [if_pos h2]
      obtain ⟨b1, b2'⟩ := back 1 (by omega) (by omega)
      exact ⟨b1, Or.inr b2', by unfold kR; dsimp only; omega⟩
    · rw [if_neg h2]
      refine ⟨kXI_b XI (by omega) (fun f hf => xf 0 f (by omega) (by omega) (by omega) (by omega) (by omega) (by omega) (by omega) (by omega) (by omega) (by omega)) (x9 0 15 (by decide) (by decide) (by decide) (by decide) (by decide) (by decide) (by decide)) (x9 0 26 (by decide) (by decide) (by decide) (by decide) (by decide) (by decide) (by decide)) (by dsimp only; rw [kmu_j (by decide), kmu_j (by decide)]; omega) (y2 0), Or.inl (by dsimp only; exact kmu_eq), by unfold kR; dsimp only; omega⟩
/-- read -/
theorem t22 (I : kIv E A V C R t) (hd : 40 ≤ d) (hD : 40 ≤ D) (hc : 121 ≤ c) (hl : 2786 ≤ l) (H : kEnd E D 148 (fun A => [some (.ref (A 9 0)), none, none]) [(3, 1)] V A R t c l Q) :
    ka_W (kp E) (d, (22, 0, [some (.ref (A 0 0)), none, none], []), (kHp J A V C R, c, l)) Q := by
  have hI := I
  obtain ⟨hA, v, hE, rw, FI, XI⟩ := hI
  have bk := FI.1.2.2.2.1
  obtain ⟨x1, x2, x3⟩ := f148_x hA v rw bk XI
  refine c22 hA v hE rw FI XI.1 (by omega) hc hl (fun J1 A1 V1 C1 c1 l1 a1 a2 a3 a4 a5 => ?_)
  have v1 := a2.lv v
  have hz := fun {Q} {C9} => (j148 (E := E) (d := D) (c := c1) (l := l1) (Q := Q) (J := J1) (C := C9) a1 v1 (a2.rw rw) bk (by omega)).2.2
  have rw1 := (j148 (E := E) (d := D) (c := c1) (l := l1) (Q := Q) (J := J1) (C := C1) a1 v1 (a2.rw rw) bk (by omega)).1
  have iv1 : kIv E A1 V1 C1 (f148 R).1 (t + 1) := ⟨a1, v1, by rw [(a2 34 0 (by decide) (by decide) (by decide) (by decide) (by decide) (by decide) v.l34).2]; exact hE, rw1, a3, x1⟩
  refine ⟨fun e => ?_, fun e => ?_⟩
  · exact H J1 A1 V1 C1 (f148 R).1 c1 l1 _ _ iv1 a2 (by omega) (by omega) (fun _ Q' z => hz.mpr z) (Or.inl ⟨rfl, e⟩) (Or.inr ⟨rfl, _, rfl, x3⟩)
  · exact H J1 A1 V1 C1 (f148 R).1 c1 l1 (.inr 3) (some (iv (f148 R).2)) iv1 a2 (by omega) (by omega) (fun _ Q' z => hz.mpr z) (Or.inr ⟨(3, 1), by simp, rfl, e⟩) (Or.inr ⟨rfl, _, rfl, x3⟩)
theorem krgM_o {φ : Int → Int} {to : Int} (hφ : φ = kfars R to 20) : ∀ (n : Nat) (p g : Int) (Y : ka_M), kRW V Y → 0 ≤ p → p + n ≤ 20 → 0 ≤ g → g < 20 → φ g = n → kRW V (krgM R φ n p g Y) ∧ (∀ f, f ≠ 9 → f ≠ 85 → krgM R φ n p g Y f = Y f) ∧ ∀ j, j ≠ 36 → krgM R φ n p g Y 9 0 j = Y 9 0 j
  | 0, p, g, Y, r, _, _, _, _, _ => ⟨r, fun _ _ _ => rfl, fun _ _ => rfl⟩
  | n + 1, p, g, Y, r, p0, p1, g0, g1, hg => by
    have hk := krg_nx (R := R) (to := to) (g := g) (n := n) (by rw [← hφ, hg]; omega)
    obtain ⟨x0, x1, x2, x3⟩ := knx_spec (R := R) (φ := kfars R to 20) (g := g) 20 0 (by omega) hk
    rw [← hφ] at x0 x1 x2
    have r1 : kRW V (kmu (kmu Y 85 0 p g) 9 0 36 (p + 1)) := (r.pa85 (j := p) g0 (by omega)).pi36 (by omega) (by omega)
    obtain ⟨i1, i2, i3⟩ := krgM_o hφ n (p + 1) (knx R φ g 20 0) (kmu (kmu Y 85 0 p g) 9 0 36 (p + 1)) r1 (by omega) (by omega) x0 x1 (by rw [x2, hg]; omega)
    unfold krgM
    exact ⟨i1, fun f a b => (i2 f a b).trans (by rw [kmu_ff a, kmu_ff b]), fun j a => (i3 j a).trans (by rw [kmu_j a, kmu_f (by decide)])⟩
/-- what the ring's keeping changes -/
theorem f127_o (rw : kRW V X) {k g : Int} (k0 : 0 ≤ k) (k1 : k < 20) (g0 : 0 ≤ g) (g1 : g < 20) (hg : kfars X (X 58 0 k) 20 g ≠ -1) : kRW V (f127 X k g) ∧ (∀ f, f ≠ 9 → f ≠ 85 → f ≠ 87 → f127 X k g f = X f) ∧ ∀ j, j ≠ 36 → f127 X k g 9 0 j = X 9 0 j := by
  have B58 := rw.a58 (j := k) k0 (by omega)
  have B2 := kfars_rng (R := X) (to := X 58 0 k) 20 g
  have B19 := kfars_19 (R := X) (to := X 58 0 k) g0 g1
  have r1 : kRW V (kmu (kmu (f125 X (X 58 0 k)) 85 0 0 (X 58 0 k)) 9 0 36 1) := ((f125_rw rw).pa85 (by omega) (by omega)).pi36 (by omega) (by omega)
  obtain ⟨i1, i2, i3⟩ := krgM_o (R := X) (φ := kfars X (X 58 0 k) 20) (to := X 58 0 k) rfl (kfars X (X 58 0 k) 20 g).toNat 1 g _ r1 (by omega) (by omega) g0 g1 (by omega)
  unfold f127
  exact ⟨i1, fun f a b c' => (i2 f a b).trans (by rw [kmu_ff a, kmu_ff b]; exact f125_ps f c'), fun j a => (i3 j a).trans (by rw [kmu_j a, kmu_f (by decide), f125_ps 9 (by decide)])⟩
/-- refuseRing, where makesRing has measured -/
theorem c50 (hA : kJ A V) (v : kLV V) {k g to : Int} (hd : 3 ≤ d) (L : kLd C X) (hk : V 3 k) (e3 : C 3 k 1 = to) (t0 : 0 ≤ to) (t1 : to < 20) (h0 : 0 ≤ g) (h1 : g < 20) (hg : kfars X to 20 g ≠ -1)
    (H : ∀ C', (∀ f, f ≠ 7 → f ≠ 27 → f ≠ 26 → C' f = C f) → kRg C' (krgM X (kfars X to 20) (kfars X to 20 g).toNat 1 g (kmu (kmu (f125 X to) 85 0 0 to) 9 0 36 1)) → Q (.inl (some (iv (- krgM X (kfars X to 20) (kfars X to 20 g).toNat 1 g (kmu (kmu (f125 X to) 85 0 0 to) 9 0 36 1) 9 0 36)))) (kHp J A V C' R, c, l)) :
    ka_W (kp E) (d, (50, 0, [some (.ref (A 0 0)), some (.ref (A 3 k)), some (iv g)], []), (kHp J A V (kaf C (kfars X to 20)) R, c, l)) Q := by
  simp (disch := first | assumption | (unfold kR; decide) | exact klc_R | (unfold kR; omega) | omega | (unfold kL; omega) | exact kcat_null | exact kcat_ref _ | exact kcat_iv _) only [r50_0, r50_1, r50_4, r50_5, r50_8, r50_9, r50_10, ho_0_2 hA v.l0, hg_0_2 hA v.l0, ho_0_0 hA v.l0, hg_0_0 hA v.l0, ht_7 hA v.l7, true_and, and_true, kk1_i, kk1_r, kk1_n, kk1_0, kcat_iv, kcat_ref, kcat_null, kisR_ref, kisR_null, ksz_nil, ksz_iv, ksz_ref, ksz_null, ksz_lv, kfit_int, kfit_long, kfit_obj, kfit_objN, kfit_arr, kfit_arrN, knarI, knarZ0, knarZ1, kret_v, kret_n, kret_x, Nat.reduceAdd, Nat.reduceLeDiff, reduceCtorEq, Int.reduceLE, Int.reduceLT, Int.reduceEq, ite_true, ite_false, true_or, or_true, false_implies, true_implies, not_true_eq_false, not_false_eq_true, and_self, eq_self, klc_lt, klc_ge, klc_le, klc_gt, klc_eq, kmu_eq, kmu_f, kmu_i, kmu_j, Nat.zero_le, show 1 ≤ d by omega]
  refine c107 hA v (by omega) L hk e3 t0 t1 h0 h1 hg (fun C1 a1 a2 => ?_)
  have rg : kRg (kaf C1 (kfars X to 20)) (krgM X (kfars X to 20) (kfars X to 20 g).toNat 1 g (kmu (kmu (f125 X to) 85 0 0 to) 9 0 36 1)) := kRg_c a2 (kaf_ff (by decide)) (kaf_ff (by decide)) rfl rfl
  have := H (kaf C1 (kfars X to 20)) (fun f b1 b2 b3 => (kaf_ff b3).trans (a1 f b1 b2)) rg
  have e7 := rg.1
  generalize krgM X (kfars X to 20) (kfars X to 20 g).toNat 1 g (kmu (kmu (f125 X to) 85 0 0 to) 9 0 36 1) = W at *
  simp (disch := first | assumption | (unfold kR; decide) | exact klc_R | (unfold kR; omega) | omega | (unfold kL; omega) | exact kcat_null | exact kcat_ref _ | exact kcat_iv _) only [r50_13, r50_14, r50_17, r50_20, r50_21, ho_0_2 hA v.l0, hg_0_2 hA v.l0, ho_7_1 hA v.l7, hg_7_1 hA v.l7, true_and, and_true, kk1_i, kk1_r, kk1_n, kk1_0, kcat_iv, kcat_ref, kcat_null, kisR_ref, kisR_null, ksz_nil, ksz_iv, ksz_ref, ksz_null, ksz_lv, kfit_int, kfit_long, kfit_obj, kfit_objN, kfit_arr, kfit_arrN, knarI, knarZ0, knarZ1, kret_v, kret_n, kret_x, Nat.reduceAdd, Nat.reduceLeDiff, reduceCtorEq, Int.reduceLE, Int.reduceLT, Int.reduceEq, ite_true, ite_false, true_or, or_true, false_implies, true_implies, not_true_eq_false, not_false_eq_true, and_self, eq_self, klc_lt, klc_ge, klc_le, klc_gt, klc_eq, kmu_eq, kmu_f, kmu_i, kmu_j, e7]
  exact this
end
