/-! The reference: offer and letGo. -/
/-- one unit's standing changes -/
def kUd (R R' : ka_M) (u : Int) : Prop := R' 77 = R 77 ∧ R' 9 0 26 = R 9 0 26 ∧ ∀ j, j ≠ u → R' 78 0 j = R 78 0 j ∧ R' 80 0 j = R 80 0 j ∧ R' 81 0 j = R 81 0 j
section
variable {R R' : ka_M} {u : Int}
theorem khu_u (h : kUd R R' u) (u1 : 1 ≤ u) (u2 : u ≤ R 9 0 26) (m p : Int) : khu R' m p = khu R m p + kb (R' 78 0 u = 1 ∧ R' 80 0 u = m ∧ R' 81 0 u = p) - kb (R 78 0 u = 1 ∧ R 80 0 u = m ∧ R 81 0 u = p) := by
  unfold khu
  rw [h.2.1]
  exact kcn_u (p := fun u => R 78 0 u = 1 ∧ R 80 0 u = m ∧ R 81 0 u = p) (q := fun u => R' 78 0 u = 1 ∧ R' 80 0 u = m ∧ R' 81 0 u = p) (R 9 0 26).toNat u1 (by omega) (fun j a b c => by
    obtain ⟨h1, h2, h3⟩ := h.2.2 j a
    show R 78 0 j = 1 ∧ R 80 0 j = m ∧ R 81 0 j = p ↔ R' 78 0 j = 1 ∧ R' 80 0 j = m ∧ R' 81 0 j = p
    rw [h1, h2, h3])
theorem f149_u (h : kUd R R' u) (u1 : 1 ≤ u) (u2 : u ≤ R 9 0 26) (g : Int) : f149 R' g = f149 R g + kb (R 77 0 u = g ∧ R' 78 0 u = 0) - kb (R 77 0 u = g ∧ R 78 0 u = 0) := by
  unfold f149
  rw [h.2.1, h.1]
  exact kcn_u (p := fun u => R 77 0 u = g ∧ R 78 0 u = 0) (q := fun u => R 77 0 u = g ∧ R' 78 0 u = 0) (R 9 0 26).toNat u1 (by omega) (fun j a b c => by
    obtain ⟨h1, h2, h3⟩ := h.2.2 j a
    show R 77 0 j = g ∧ R 78 0 j = 0 ↔ R 77 0 j = g ∧ R' 78 0 j = 0
    rw [h1])
end
theorem ktk_ud {m p g u : Int} {a : ka_M × Int} : kUd a.1 (ktk m p g u a).1 u := by
  unfold ktk
  split
  · dsimp only
    refine ⟨?_, ?_, fun j hj => ⟨?_, ?_, ?_⟩⟩
    · rw [kmu_ff (by decide), kmu_ff (by decide), kmu_ff (by decide)]
    · rw [kmu_f (by decide), kmu_f (by decide), kmu_f (by decide)]
    · rw [kmu_f (by decide), kmu_f (by decide), kmu_j hj]
    · rw [kmu_f (by decide), kmu_j hj, kmu_f (by decide)]
    · rw [kmu_j hj, kmu_f (by decide), kmu_f (by decide)]
  · exact ⟨rfl, rfl, fun j hj => ⟨rfl, rfl, rfl⟩⟩
theorem ktk_75 {m p g u : Int} {a : ka_M × Int} : (ktk m p g u a).1 75 = a.1 75 := by
  unfold ktk
  split
  · dsimp only
    rw [kmu_ff (by decide), kmu_ff (by decide), kmu_ff (by decide)]
  · rfl
theorem ktk_26 {m p g u : Int} {a : ka_M × Int} : (ktk m p g u a).1 9 0 26 = a.1 9 0 26 := ktk_ud.2.1
theorem ktk_hu {m p g u : Int} {a : ka_M × Int} (u1 : 1 ≤ u) (u2 : u ≤ a.1 9 0 26) (m' p' : Int) : khu (ktk m p g u a).1 m' p' = khu a.1 m' p' + (if m' = m ∧ p' = p then a.2 - (ktk m p g u a).2 else 0) := by
  rw [khu_u ktk_ud u1 u2]
  unfold ktk
  split
  · rename_i h
    dsimp only
    rw [kmu_f (show (78:Nat) ≠ 81 by decide), kmu_f (show (78:Nat) ≠ 80 by decide), kmu_eq, kmu_f (show (80:Nat) ≠ 81 by decide), kmu_eq, kmu_eq, kb_f (show ¬ (a.1 78 0 u = 1 ∧ a.1 80 0 u = m' ∧ a.1 81 0 u = p') by omega)]
    by_cases e : m' = m ∧ p' = p
    · rw [if_pos e, kb_t ⟨rfl, e.1.symm, e.2.symm⟩]
      omega
    · rw [if_neg e, kb_f (fun z => e ⟨z.2.1.symm, z.2.2.symm⟩)]
      omega
  · split <;> omega
/-- what a making holds never passes what it needs -/
def kND (R : ka_M) : Prop := ∀ m p, 1 ≤ m → m ≤ R 9 0 15 → 0 ≤ p → p < R 70 0 m → R 68 0 m = 0 → f151 R m p ≤ R 73 0 (5 * m + p)
section
variable {E : Nat × Nat} {d c l : Nat} {s : ka_S} {Q : ka_Q} {J : ka_H} {A : ka_A} {V : ka_V} {C R : ka_M}
theorem f152_hu (r : kRW V R) {m p : Int} (m0 : 1 ≤ m) (m1 : m ≤ 40) (p0 : 0 ≤ p) (p1 : p < 5) (hn : f151 R m p ≤ R 73 0 (5 * m + p)) : f151 (f152 R m p) m p ≤ R 73 0 (5 * m + p) ∧ ∀ m' p', 0 ≤ p' → p' < 5 → ¬ (m' = m ∧ p' = p) → f151 (f152 R m p) m' p' = f151 R m' p' := by
  have B := r.i26
  have hk : ktn R m p = if R 73 0 (5 * m + p) - f151 R m p < R 55 0 (R 72 0 (5 * m + p)) then R 73 0 (5 * m + p) - f151 R m p else R 55 0 (R 72 0 (5 * m + p)) := rfl
  have f1 : ∀ R m p, f151 R m p = R 75 0 (5 * m + p) + khu R m p := fun _ _ _ => rfl
  unfold f152
  dsimp only
  generalize R 72 0 (5 * m + p) = g at *
  have hk1 : ktn R m p ≤ R 73 0 (5 * m + p) - f151 R m p := by
    rw [hk]
    split <;> omega
  generalize ktn R m p = n at *
  -- over the units
  have z := kfd_inv (P := fun u a => a.1 9 0 26 = R 9 0 26 ∧ 0 ≤ a.2 ∧ (∀ j, a.1 75 0 j = kmu R 75 0 (5 * m + p) (R 75 0 (5 * m + p) + n) 75 0 j) ∧ (khu a.1 m p + a.2 = khu R m p + (R 73 0 (5 * m + p) - f151 R m p - n)) ∧ ∀ m' p', ¬ (m' = m ∧ p' = p) → khu a.1 m' p' = khu R m' p') (f := ktk m p g) (R 9 0 26).toNat 1 (kmu (kmu R 55 0 g (R 55 0 g - n)) 75 0 (5 * m + p) (R 75 0 (5 * m + p) + n), R 73 0 (5 * m + p) - f151 R m p - n) (fun u a u1 u2 ⟨y1, y2, y3, y4, y5⟩ => by
    have hu := ktk_hu (m := m) (p := p) (g := g) (u := u) (a := a) u1 (by omega)
    refine ⟨ktk_26.trans y1, ?_, fun j => by rw [ktk_75]; exact y3 j, ?_, fun m' p' h => ?_⟩
    · unfold ktk
      split
      · rename_i h; dsimp only; omega
      · exact y2
    · rw [hu m p, if_pos ⟨rfl, rfl⟩]
      omega
    · rw [hu m' p', if_neg h, y5 m' p' h]
      omega) (by
    have eh : ∀ m' p', khu (kmu (kmu R 55 0 g (R 55 0 g - n)) 75 0 (5 * m + p) (R 75 0 (5 * m + p) + n)) m' p' = khu R m' p' := by
      intro m' p'
      unfold khu
      rw [kmu_f (show (9:Nat) ≠ 75 by decide), kmu_f (show (9:Nat) ≠ 55 by decide)]
      apply kcn_c
      intro j _ _
      rw [kmu_f (show (78:Nat) ≠ 75 by decide), kmu_f (show (78:Nat) ≠ 55 by decide), kmu_f (show (80:Nat) ≠ 75 by decide), kmu_f (show (80:Nat) ≠ 55 by decide), kmu_f (show (81:Nat) ≠ 75 by decide), kmu_f (show (81:Nat) ≠ 55 by decide)]
    dsimp only
    refine ⟨by rw [kmu_f (by decide), kmu_f (by decide)], by show 0 ≤ R 73 0 (5 * m + p) - f151 R m p - n; omega, fun j => ?_, by rw [eh], fun m' p' _ => eh m' p'⟩
    by_cases e : j = 5 * m + p
    · subst e; rw [kmu_eq, kmu_eq]
    · rw [kmu_j e, kmu_j e, kmu_f (by decide)])
  obtain ⟨-, z2, z3, z4, z5⟩ := z
  generalize kfd (ktk m p g) (R 9 0 26).toNat 1 (kmu (kmu R 55 0 g (R 55 0 g - n)) 75 0 (5 * m + p) (R 75 0 (5 * m + p) + n), R 73 0 (5 * m + p) - f151 R m p - n) = X at *
  refine ⟨?_, fun m' p' q0 q1 h => ?_⟩
  · rw [f1 X.1, z3, kmu_eq]
    have := f1 R m p
    omega
  · rw [f1, f1, z3, z5 m' p' h, kmu_j (by omega)]
theorem f152_nd (r : kRW V R) (nd : kND R) {m p : Int} (m0 : 1 ≤ m) (m1 : m ≤ 40) (p0 : 0 ≤ p) (p1 : p < 5) (hn : f151 R m p ≤ R 73 0 (5 * m + p)) (t : kTk R (f152 R m p)) : kND (f152 R m p) := by
  obtain ⟨h1, h2⟩ := f152_hu r m0 m1 p0 p1 hn
  intro m' p' a b c' d' e
  rw [t 9 (by decide) (by decide) (by decide) (by decide) (by decide)] at b
  rw [t 70 (by decide) (by decide) (by decide) (by decide) (by decide)] at d'
  rw [t 68 (by decide) (by decide) (by decide) (by decide) (by decide)] at e
  rw [t 73 (by decide) (by decide) (by decide) (by decide) (by decide)]
  have B := r.i15
  have B70 := r.a70 (j := m') (by omega) (by omega)
  by_cases z : m' = m ∧ p' = p
  · rw [z.1, z.2]
    exact h1
  · rw [h2 m' p' c' (by omega) z]
    exact nd m' p' a b c' d' e
/-- what a making is offered -/
noncomputable def kof (m : Int) (R : ka_M) : ka_M := if R 68 0 m = 0 then kfd (fun p R => f152 R m p) (R 70 0 m).toNat 0 R else R
noncomputable def f153 (R : ka_M) : ka_M := kfd kof (R 9 0 15).toNat 1 R
theorem j153_m (hA : kJ A V) (v : kLV V) (r : kRW V R) (nd : kND R) {m : Int} (hd : 2 ≤ d) (m0 : 1 ≤ m) (m1 : m ≤ R 9 0 15) (l2 : Option Value) :
    kRW V (kof m R) ∧ kTk R (kof m R) ∧ kND (kof m R) ∧ ∃ x, (ka_W (kp E) (d, (153, 2, [some (.ref (A 9 0)), some (iv m), l2], []), (kHp J A V C R, c, l)) Q ↔ ka_W (kp E) (d, (153, 2, [some (.ref (A 9 0)), some (iv (m + 1)), some (iv x)], []), (kHp J A V C (kof m R), c, l)) Q) := by
  have B := r.i15
  have B70 := r.a70 (j := m) (by omega) (by omega)
  have B68 := r.a68 (j := m) (by omega) (by omega)
  unfold kof
  by_cases h : R 68 0 m = 0
  · rw [if_pos h]
    obtain ⟨w, -, x1, x2, x3⟩ := kfor (n := R 70 0 m) (f := fun p R => f152 R m p) (inv := fun p X => 0 ≤ p ∧ kRW V X ∧ kTk R X ∧ kND X) (W := fun p X => ka_W (kp E) (d, (153, 12, [some (.ref (A 9 0)), some (iv m), some (iv p)], []), (kHp J A V C X, c, l)) Q) (fun p X hp ⟨p0, rX, tX, nX⟩ => by
      have e70 := tX 70 (by decide) (by decide) (by decide) (by decide) (by decide)
      have e68 := tX 68 (by decide) (by decide) (by decide) (by decide) (by decide)
      have e9 := tX 9 (by decide) (by decide) (by decide) (by decide) (by decide)
      have hn := nX m p m0 (by rw [e9]; exact m1) p0 (by rw [e70]; exact hp) (by rw [e68]; exact h)
      have q := fun {Q} => j152 (E := E) (d := d - 1) (c := c) (l := l) (Q := Q) (J := J) (C := C) hA v rX (m := m) (p := p) (by omega) m0 (by omega) p0 (by omega) hn
      obtain ⟨o1, o2, -⟩ := q (Q := Q)
      refine ⟨⟨by omega, o1, tX.trans o2, f152_nd rX nX m0 (by omega) p0 (by omega) hn o2⟩, ?_⟩
      have q3 := fun {Q} => (q (Q := Q)).2.2
      rw [r153_12]
      simp (disch := first | assumption | (unfold kR; decide) | exact klc_R | (unfold kR; omega) | omega | (unfold kL; omega) | exact kcat_null | exact kcat_ref _ | exact kcat_iv _) only [r153_13, r153_14, r153_17, r153_18, r153_19, r153_22, r153_23, r153_26, r153_27, r153_28, r153_31, r153_32, r153_33, r153_34, r153_37, r153_40, ho_9_20 hA v.l9, hg_9_20 hA v.l9, hoa_70 hA v.l70, hga_70 hA v.l70, ho_9_18 hA v.l9, hg_9_18 hA v.l9, hoa_68 hA v.l68, hga_68 hA v.l68, ht_9 hA v.l9, true_and, and_true, kk1_i, kk1_r, kk1_n, kk1_0, kcat_iv, kcat_ref, kcat_null, kisR_ref, kisR_null, ksz_nil, ksz_iv, ksz_ref, ksz_null, ksz_lv, kfit_int, kfit_long, kfit_obj, kfit_objN, kfit_arr, kfit_arrN, knarI, knarZ0, knarZ1, kret_v, kret_n, kret_x, Nat.reduceAdd, Nat.reduceLeDiff, reduceCtorEq, Int.reduceLE, Int.reduceLT, Int.reduceEq, ite_true, ite_false, true_or, or_true, false_implies, true_implies, not_true_eq_false, not_false_eq_true, and_self, eq_self, klc_lt, klc_ge, klc_le, klc_gt, klc_eq, kmu_eq, kmu_f, kmu_i, kmu_j, e70, e68, h, q3, show ¬ R 70 0 m ≤ p by omega, Nat.zero_le, show 1 ≤ d by omega]) (R 70 0 m).toNat 0 R (by omega) ⟨by omega, r, kTk_rfl, nd⟩
    refine ⟨x1, x2, x3, R 70 0 m, ?_⟩
    have e70 := x2 70 (by decide) (by decide) (by decide) (by decide) (by decide)
    rw [r153_2]
    simp (disch := first | assumption | (unfold kR; decide) | exact klc_R | (unfold kR; omega) | omega | (unfold kL; omega) | exact kcat_null | exact kcat_ref _ | exact kcat_iv _) only [r153_3, r153_4, r153_7, r153_10, r153_11, ho_9_15 hA v.l9, hg_9_15 hA v.l9, true_and, and_true, kk1_i, kk1_r, kk1_n, kk1_0, kcat_iv, kcat_ref, kcat_null, kisR_ref, kisR_null, ksz_nil, ksz_iv, ksz_ref, ksz_null, ksz_lv, kfit_int, kfit_long, kfit_obj, kfit_objN, kfit_arr, kfit_arrN, knarI, knarZ0, knarZ1, kret_v, kret_n, kret_x, Nat.reduceAdd, Nat.reduceLeDiff, reduceCtorEq, Int.reduceLE, Int.reduceLT, Int.reduceEq, ite_true, ite_false, true_or, or_true, false_implies, true_implies, not_true_eq_false, not_false_eq_true, and_self, eq_self, klc_lt, klc_ge, klc_le, klc_gt, klc_eq, kmu_eq, kmu_f, kmu_i, kmu_j, show ¬ R 9 0 15 < m by omega, w]
    rw [r153_12]
    simp (disch := first | assumption | (unfold kR; decide) | exact klc_R | (unfold kR; omega) | omega | (unfold kL; omega) | exact kcat_null | exact kcat_ref _ | exact kcat_iv _) only [r153_13, r153_14, r153_17, r153_18, r153_19, r153_22, r153_23, r153_26, r153_27, r153_28, r153_31, r153_32, r153_33, r153_34, r153_37, r153_40, r153_43, r153_46, ho_9_20 hA v.l9, hg_9_20 hA v.l9, hoa_70 hA v.l70, hga_70 hA v.l70, ho_9_18 hA v.l9, hg_9_18 hA v.l9, hoa_68 hA v.l68, hga_68 hA v.l68, ht_9 hA v.l9, true_and, and_true, kk1_i, kk1_r, kk1_n, kk1_0, kcat_iv, kcat_ref, kcat_null, kisR_ref, kisR_null, ksz_nil, ksz_iv, ksz_ref, ksz_null, ksz_lv, kfit_int, kfit_long, kfit_obj, kfit_objN, kfit_arr, kfit_arrN, knarI, knarZ0, knarZ1, kret_v, kret_n, kret_x, Nat.reduceAdd, Nat.reduceLeDiff, reduceCtorEq, Int.reduceLE, Int.reduceLT, Int.reduceEq, ite_true, ite_false, true_or, or_true, false_implies, true_implies, not_true_eq_false, not_false_eq_true, and_self, eq_self, klc_lt, klc_ge, klc_le, klc_gt, klc_eq, kmu_eq, kmu_f, kmu_i, kmu_j, e70, Int.le_refl]
  · rw [if_neg h]
    refine ⟨r, kTk_rfl, nd, 0, ?_⟩
    rw [r153_2]
    simp (disch := first | assumption | (unfold kR; decide) | exact klc_R | (unfold kR; omega) | omega | (unfold kL; omega) | exact kcat_null | exact kcat_ref _ | exact kcat_iv _) only [r153_3, r153_4, r153_7, r153_10, r153_11, ho_9_15 hA v.l9, hg_9_15 hA v.l9, true_and, and_true, kk1_i, kk1_r, kk1_n, kk1_0, kcat_iv, kcat_ref, kcat_null, kisR_ref, kisR_null, ksz_nil, ksz_iv, ksz_ref, ksz_null, ksz_lv, kfit_int, kfit_long, kfit_obj, kfit_objN, kfit_arr, kfit_arrN, knarI, knarZ0, knarZ1, kret_v, kret_n, kret_x, Nat.reduceAdd, Nat.reduceLeDiff, reduceCtorEq, Int.reduceLE, Int.reduceLT, Int.reduceEq, ite_true, ite_false, true_or, or_true, false_implies, true_implies, not_true_eq_false, not_false_eq_true, and_self, eq_self, klc_lt, klc_ge, klc_le, klc_gt, klc_eq, kmu_eq, kmu_f, kmu_i, kmu_j, show ¬ R 9 0 15 < m by omega]
    by_cases z : R 70 0 m ≤ 0
    · rw [r153_12]
      simp (disch := first | assumption | (unfold kR; decide) | exact klc_R | (unfold kR; omega) | omega | (unfold kL; omega) | exact kcat_null | exact kcat_ref _ | exact kcat_iv _) only [r153_13, r153_14, r153_17, r153_18, r153_19, r153_22, r153_23, r153_26, r153_27, r153_28, r153_31, r153_32, r153_33, r153_34, r153_37, r153_40, r153_43, r153_46, ho_9_20 hA v.l9, hg_9_20 hA v.l9, hoa_70 hA v.l70, hga_70 hA v.l70, ho_9_18 hA v.l9, hg_9_18 hA v.l9, hoa_68 hA v.l68, hga_68 hA v.l68, ht_9 hA v.l9, true_and, and_true, kk1_i, kk1_r, kk1_n, kk1_0, kcat_iv, kcat_ref, kcat_null, kisR_ref, kisR_null, ksz_nil, ksz_iv, ksz_ref, ksz_null, ksz_lv, kfit_int, kfit_long, kfit_obj, kfit_objN, kfit_arr, kfit_arrN, knarI, knarZ0, knarZ1, kret_v, kret_n, kret_x, Nat.reduceAdd, Nat.reduceLeDiff, reduceCtorEq, Int.reduceLE, Int.reduceLT, Int.reduceEq, ite_true, ite_false, true_or, or_true, false_implies, true_implies, not_true_eq_false, not_false_eq_true, and_self, eq_self, klc_lt, klc_ge, klc_le, klc_gt, klc_eq, kmu_eq, kmu_f, kmu_i, kmu_j, z]
    · rw [r153_12]
      simp (disch := first | assumption | (unfold kR; decide) | exact klc_R | (unfold kR; omega) | omega | (unfold kL; omega) | exact kcat_null | exact kcat_ref _ | exact kcat_iv _) only [r153_13, r153_14, r153_17, r153_18, r153_19, r153_22, r153_23, r153_26, r153_27, r153_28, r153_31, r153_32, r153_33, r153_34, r153_37, r153_40, r153_43, r153_46, ho_9_20 hA v.l9, hg_9_20 hA v.l9, hoa_70 hA v.l70, hga_70 hA v.l70, ho_9_18 hA v.l9, hg_9_18 hA v.l9, hoa_68 hA v.l68, hga_68 hA v.l68, ht_9 hA v.l9, true_and, and_true, kk1_i, kk1_r, kk1_n, kk1_0, kcat_iv, kcat_ref, kcat_null, kisR_ref, kisR_null, ksz_nil, ksz_iv, ksz_ref, ksz_null, ksz_lv, kfit_int, kfit_long, kfit_obj, kfit_objN, kfit_arr, kfit_arrN, knarI, knarZ0, knarZ1, kret_v, kret_n, kret_x, Nat.reduceAdd, Nat.reduceLeDiff, reduceCtorEq, Int.reduceLE, Int.reduceLT, Int.reduceEq, ite_true, ite_false, true_or, or_true, false_implies, true_implies, not_true_eq_false, not_false_eq_true, and_self, eq_self, klc_lt, klc_ge, klc_le, klc_gt, klc_eq, kmu_eq, kmu_f, kmu_i, kmu_j, z, h]
theorem j153_l (hA : kJ A V) (v : kLV V) (hd : 2 ≤ d) : ∀ (n : Nat) (m : Int) (R : ka_M) (l2 : Option Value), kRW V R → kND R → 1 ≤ m → m + n = R 9 0 15 + 1 →
    kRW V (kfd kof n m R) ∧ kTk R (kfd kof n m R) ∧ kND (kfd kof n m R) ∧ (ka_W (kp E) (d, (153, 2, [some (.ref (A 9 0)), some (iv m), l2], []), (kHp J A V C R, c, l)) Q ↔ Q (.inl none) (kHp J A V C (kfd kof n m R), c, l))
  | 0, m, R, l2, r, nd, m0, hm => by
    have B := r.i15
    refine ⟨r, kTk_rfl, nd, ?_⟩
    unfold kfd
    simp (disch := first | assumption | (unfold kR; decide) | exact klc_R | (unfold kR; omega) | omega | (unfold kL; omega) | exact kcat_null | exact kcat_ref _ | exact kcat_iv _) only [r153_2, r153_3, r153_4, r153_7, r153_49, ho_9_15 hA v.l9, hg_9_15 hA v.l9, true_and, and_true, kk1_i, kk1_r, kk1_n, kk1_0, kcat_iv, kcat_ref, kcat_null, kisR_ref, kisR_null, ksz_nil, ksz_iv, ksz_ref, ksz_null, ksz_lv, kfit_int, kfit_long, kfit_obj, kfit_objN, kfit_arr, kfit_arrN, knarI, knarZ0, knarZ1, kret_v, kret_n, kret_x, Nat.reduceAdd, Nat.reduceLeDiff, reduceCtorEq, Int.reduceLE, Int.reduceLT, Int.reduceEq, ite_true, ite_false, true_or, or_true, false_implies, true_implies, not_true_eq_false, not_false_eq_true, and_self, eq_self, klc_lt, klc_ge, klc_le, klc_gt, klc_eq, kmu_eq, kmu_f, kmu_i, kmu_j, show R 9 0 15 < m by omega]
  | n + 1, m, R, l2, r, nd, m0, hm => by
    obtain ⟨o1, o2, o3, x, o4⟩ := j153_m (E := E) (d := d) (c := c) (l := l) (Q := Q) (J := J) (C := C) hA v r nd hd m0 (by omega) l2
    have e9 := o2 9 (by decide) (by decide) (by decide) (by decide) (by decide)
    obtain ⟨i1, i2, i3, i4⟩ := j153_l hA v hd n (m + 1) (kof m R) (some (iv x)) o1 o3 (by omega) (by rw [e9]; omega)
    exact ⟨i1, o2.trans i2, i3, o4.trans i4⟩
theorem j153 (hA : kJ A V) (v : kLV V) (r : kRW V R) (nd : kND R) (hd : 2 ≤ d) : kRW V (f153 R) ∧ kTk R (f153 R) ∧ kND (f153 R) ∧ (ka_W (kp E) (d, (153, 0, [some (.ref (A 9 0)), none, none], []), (kHp J A V C R, c, l)) Q ↔ Q (.inl none) (kHp J A V C (f153 R), c, l)) := by
  have B := r.i15
  obtain ⟨i1, i2, i3, i4⟩ := j153_l (E := E) (d := d) (c := c) (l := l) (Q := Q) (J := J) (C := C) hA v hd (R 9 0 15).toNat 1 R none r nd (by omega) (by omega)
  refine ⟨i1, i2, i3, ?_⟩
  unfold f153
  rw [← i4]
  simp (disch := first | assumption | (unfold kR; decide) | exact klc_R | (unfold kR; omega) | omega | (unfold kL; omega) | exact kcat_null | exact kcat_ref _ | exact kcat_iv _) only [r153_0, r153_1, true_and, and_true, kk1_i, kk1_r, kk1_n, kk1_0, kcat_iv, kcat_ref, kcat_null, kisR_ref, kisR_null, ksz_nil, ksz_iv, ksz_ref, ksz_null, ksz_lv, kfit_int, kfit_long, kfit_obj, kfit_objN, kfit_arr, kfit_arrN, knarI, knarZ0, knarZ1, kret_v, kret_n, kret_x, Nat.reduceAdd, Nat.reduceLeDiff, reduceCtorEq, Int.reduceLE, Int.reduceLT, Int.reduceEq, ite_true, ite_false, true_or, or_true, false_implies, true_implies, not_true_eq_false, not_false_eq_true, and_self, eq_self, klc_lt, klc_ge, klc_le, klc_gt, klc_eq, kmu_eq, kmu_f, kmu_i, kmu_j]
/-- a held unit becomes loose -/
def klg (m p : Int) (u : Int) (R : ka_M) : ka_M := if R 78 0 u = 1 ∧ R 80 0 u = m ∧ R 81 0 u = p then kmu (kmu R 78 0 u 0) 80 0 u 0 else R
def f154 (R : ka_M) (m p : Int) : ka_M :=
  let q := 5 * m + p
  kfd (klg m p) (R 9 0 26).toNat 1 (kmu (kmu R 55 0 (R 72 0 q) (R 55 0 (R 72 0 q) + R 75 0 q)) 75 0 q 0)
theorem klg_o {m p u : Int} (r : kRW V R) : kRW V (klg m p u R) ∧ kTk R (klg m p u R) := by
  unfold klg
  split
  · exact ⟨(r.pa78 (by omega) (by omega)).pa80 (by omega) (by omega), (kTk_rfl.mu (by omega)).mu (by omega)⟩
  · exact ⟨r, kTk_rfl⟩
theorem j154 (hA : kJ A V) (v : kLV V) (r : kRW V R) {m p : Int} (m0 : 1 ≤ m) (m1 : m ≤ 40) (p0 : 0 ≤ p) (p1 : p < 5) (hb : R 55 0 (R 72 0 (5 * m + p)) ≤ 999000) :
    kRW V (f154 R m p) ∧ kTk R (f154 R m p) ∧ (ka_W (kp E) (d, (154, 0, [some (.ref (A 9 0)), some (iv m), some (iv p), none, none], []), (kHp J A V C R, c, l)) Q ↔ Q (.inl none) (kHp J A V C (f154 R m p), c, l)) := by
  have B := r.i26
  have B75 := r.a75 (j := 5 * m + p) (by omega) (by omega)
  have B72 := r.a72 (j := 5 * m + p) (by omega) (by omega)
  have B55 := r.a55 (j := R 72 0 (5 * m + p)) (by omega) (by omega)
  unfold f154
  dsimp only
  generalize hg : R 72 0 (5 * m + p) = g at *
  have r1 : kRW V (kmu (kmu R 55 0 g (R 55 0 g + R 75 0 (5 * m + p))) 75 0 (5 * m + p) 0) := (r.pa55 (by omega) (by omega)).pa75 (by omega) (by omega)
  have t1 : kTk R (kmu (kmu R 55 0 g (R 55 0 g + R 75 0 (5 * m + p))) 75 0 (5 * m + p) 0) := (kTk_rfl.mu (by omega)).mu (by omega)
  generalize hR1 : kmu (kmu R 55 0 g (R 55 0 g + R 75 0 (5 * m + p))) 75 0 (5 * m + p) 0 = R1 at *
  obtain ⟨w, -, x1, x2⟩ := kfor (n := R 9 0 26 + 1) (f := klg m p) (inv := fun u X => 1 ≤ u ∧ kRW V X ∧ kTk R X) (W := fun u X => ka_W (kp E) (d, (154, 36, [some (.ref (A 9 0)), some (iv m), some (iv p), some (iv (5 * m + p)), some (iv u)], []), (kHp J A V C X, c, l)) Q) (fun u X hu ⟨u1, rX, tX⟩ => by
    obtain ⟨y1, y2⟩ := klg_o (m := m) (p := p) (u := u) rX
    refine ⟨⟨by omega, y1, tX.trans y2⟩, ?_⟩
    have B78 := rX.a78 (j := u) (by omega) (by omega)
    have B80 := rX.a80 (j := u) (by omega) (by omega)
    have B81 := rX.a81 (j := u) (by omega) (by omega)
    have e9 : X 9 0 26 = R 9 0 26 := by rw [tX 9 (by decide) (by decide) (by decide) (by decide) (by decide)]
    have c1 : ¬ R 9 0 26 < u := by omega
    unfold klg
    rw [r154_36]
    by_cases h1 : X 78 0 u = 1
    · by_cases h2 : X 80 0 u = m
      · by_cases h3 : X 81 0 u = p
        · rw [if_pos ⟨h1, h2, h3⟩]
          simp (disch := first | assumption | (unfold kR; decide) | exact klc_R | (unfold kR; omega) | omega | (unfold kL; omega) | exact kcat_null | exact kcat_ref _ | exact kcat_iv _) only [r154_38, r154_39, r154_42, r154_45, r154_46, r154_49, r154_51, r154_52, r154_53, r154_56, r154_57, r154_60, r154_62, r154_63, r154_64, r154_67, r154_68, r154_71, r154_73, r154_74, r154_75, r154_78, r154_81, r154_82, r154_85, r154_87, r154_88, r154_89, r154_90, r154_93, r154_95, r154_96, r154_97, r154_100, ho_9_26 hA v.l9, hg_9_26 hA v.l9, ho_9_28 hA v.l9, hg_9_28 hA v.l9, hoa_78 hA v.l78, hga_78 hA v.l78, hpa_78 hA v.l78, ho_9_30 hA v.l9, hg_9_30 hA v.l9, hoa_80 hA v.l80, hga_80 hA v.l80, hpa_80 hA v.l80, ho_9_31 hA v.l9, hg_9_31 hA v.l9, hoa_81 hA v.l81, hga_81 hA v.l81, hpa_81 hA v.l81, true_and, and_true, kk1_i, kk1_r, kk1_n, kk1_0, kcat_iv, kcat_ref, kcat_null, kisR_ref, kisR_null, ksz_nil, ksz_iv, ksz_ref, ksz_null, ksz_lv, kfit_int, kfit_long, kfit_obj, kfit_objN, kfit_arr, kfit_arrN, knarI, knarZ0, knarZ1, kret_v, kret_n, kret_x, Nat.reduceAdd, Nat.reduceLeDiff, reduceCtorEq, Int.reduceLE, Int.reduceLT, Int.reduceEq, ite_true, ite_false, true_or, or_true, false_implies, true_implies, not_true_eq_false, not_false_eq_true, and_self, eq_self, klc_lt, klc_ge, klc_le, klc_gt, klc_eq, kmu_eq, kmu_f, kmu_i, kmu_j, e9, c1, h1, h2, h3]
        · rw [if_neg (fun z => h3 z.2.2)]
          simp (disch := first | assumption | (unfold kR; decide) | exact klc_R | (unfold kR; omega) | omega | (unfold kL; omega) | exact kcat_null | exact kcat_ref _ | exact kcat_iv _) only [r154_38, r154_39, r154_42, r154_45, r154_46, r154_49, r154_51, r154_52, r154_53, r154_56, r154_57, r154_60, r154_62, r154_63, r154_64, r154_67, r154_68, r154_71, r154_73, r154_74, r154_75, r154_78, r154_81, r154_82, r154_85, r154_87, r154_88, r154_89, r154_90, r154_93, r154_95, r154_96, r154_97, r154_100, ho_9_26 hA v.l9, hg_9_26 hA v.l9, ho_9_28 hA v.l9, hg_9_28 hA v.l9, hoa_78 hA v.l78, hga_78 hA v.l78, hpa_78 hA v.l78, ho_9_30 hA v.l9, hg_9_30 hA v.l9, hoa_80 hA v.l80, hga_80 hA v.l80, hpa_80 hA v.l80, ho_9_31 hA v.l9, hg_9_31 hA v.l9, hoa_81 hA v.l81, hga_81 hA v.l81, hpa_81 hA v.l81, true_and, and_true, kk1_i, kk1_r, kk1_n, kk1_0, kcat_iv, kcat_ref, kcat_null, kisR_ref, kisR_null, ksz_nil, ksz_iv, ksz_ref, ksz_null, ksz_lv, kfit_int, kfit_long, kfit_obj, kfit_objN, kfit_arr, kfit_arrN, knarI, knarZ0, knarZ1, kret_v, kret_n, kret_x, Nat.reduceAdd, Nat.reduceLeDiff, reduceCtorEq, Int.reduceLE, Int.reduceLT, Int.reduceEq, ite_true, ite_false, true_or, or_true, false_implies, true_implies, not_true_eq_false, not_false_eq_true, and_self, eq_self, klc_lt, klc_ge, klc_le, klc_gt, klc_eq, kmu_eq, kmu_f, kmu_i, kmu_j, e9, c1, h1, h2, h3]
      · rw [if_neg (fun z => h2 z.2.1)]
        simp (disch := first | assumption | (unfold kR; decide) | exact klc_R | (unfold kR; omega) | omega | (unfold kL; omega) | exact kcat_null | exact kcat_ref _ | exact kcat_iv _) only [r154_38, r154_39, r154_42, r154_45, r154_46, r154_49, r154_51, r154_52, r154_53, r154_56, r154_57, r154_60, r154_62, r154_63, r154_64, r154_67, r154_68, r154_71, r154_73, r154_74, r154_75, r154_78, r154_81, r154_82, r154_85, r154_87, r154_88, r154_89, r154_90, r154_93, r154_95, r154_96, r154_97, r154_100, ho_9_26 hA v.l9, hg_9_26 hA v.l9, ho_9_28 hA v.l9, hg_9_28 hA v.l9, hoa_78 hA v.l78, hga_78 hA v.l78, hpa_78 hA v.l78, ho_9_30 hA v.l9, hg_9_30 hA v.l9, hoa_80 hA v.l80, hga_80 hA v.l80, hpa_80 hA v.l80, ho_9_31 hA v.l9, hg_9_31 hA v.l9, hoa_81 hA v.l81, hga_81 hA v.l81, hpa_81 hA v.l81, true_and, and_true, kk1_i, kk1_r, kk1_n, kk1_0, kcat_iv, kcat_ref, kcat_null, kisR_ref, kisR_null, ksz_nil, ksz_iv, ksz_ref, ksz_null, ksz_lv, kfit_int, kfit_long, kfit_obj, kfit_objN, kfit_arr, kfit_arrN, knarI, knarZ0, knarZ1, kret_v, kret_n, kret_x, Nat.reduceAdd, Nat.reduceLeDiff, reduceCtorEq, Int.reduceLE, Int.reduceLT, Int.reduceEq, ite_true, ite_false, true_or, or_true, false_implies, true_implies, not_true_eq_false, not_false_eq_true, and_self, eq_self, klc_lt, klc_ge, klc_le, klc_gt, klc_eq, kmu_eq, kmu_f, kmu_i, kmu_j, e9, c1, h1, h2]
    · rw [if_neg (fun z => h1 z.1)]
      simp (disch := first | assumption | (unfold kR; decide) | exact klc_R | (unfold kR; omega) | omega | (unfold kL; omega) | exact kcat_null | exact kcat_ref _ | exact kcat_iv _) only [r154_38, r154_39, r154_42, r154_45, r154_46, r154_49, r154_51, r154_52, r154_53, r154_56, r154_57, r154_60, r154_62, r154_63, r154_64, r154_67, r154_68, r154_71, r154_73, r154_74, r154_75, r154_78, r154_81, r154_82, r154_85, r154_87, r154_88, r154_89, r154_90, r154_93, r154_95, r154_96, r154_97, r154_100, ho_9_26 hA v.l9, hg_9_26 hA v.l9, ho_9_28 hA v.l9, hg_9_28 hA v.l9, hoa_78 hA v.l78, hga_78 hA v.l78, hpa_78 hA v.l78, ho_9_30 hA v.l9, hg_9_30 hA v.l9, hoa_80 hA v.l80, hga_80 hA v.l80, hpa_80 hA v.l80, ho_9_31 hA v.l9, hg_9_31 hA v.l9, hoa_81 hA v.l81, hga_81 hA v.l81, hpa_81 hA v.l81, true_and, and_true, kk1_i, kk1_r, kk1_n, kk1_0, kcat_iv, kcat_ref, kcat_null, kisR_ref, kisR_null, ksz_nil, ksz_iv, ksz_ref, ksz_null, ksz_lv, kfit_int, kfit_long, kfit_obj, kfit_objN, kfit_arr, kfit_arrN, knarI, knarZ0, knarZ1, kret_v, kret_n, kret_x, Nat.reduceAdd, Nat.reduceLeDiff, reduceCtorEq, Int.reduceLE, Int.reduceLT, Int.reduceEq, ite_true, ite_false, true_or, or_true, false_implies, true_implies, not_true_eq_false, not_false_eq_true, and_self, eq_self, klc_lt, klc_ge, klc_le, klc_gt, klc_eq, kmu_eq, kmu_f, kmu_i, kmu_j, e9, c1, h1]) (R 9 0 26).toNat 1 R1 (by omega) ⟨by omega, r1, t1⟩
  refine ⟨x1, x2, ?_⟩
  have e9 : kfd (klg m p) (R 9 0 26).toNat 1 R1 9 0 26 = R 9 0 26 := by rw [x2 9 (by decide) (by decide) (by decide) (by decide) (by decide)]
  generalize kfd (klg m p) (R 9 0 26).toNat 1 R1 = X at *
  have w' := w.trans (show _ ↔ Q (.inl none) (kHp J A V C X, c, l) by
    simp (disch := first | assumption | (unfold kR; decide) | exact klc_R | (unfold kR; omega) | omega | (unfold kL; omega) | exact kcat_null | exact kcat_ref _ | exact kcat_iv _) only [r154_36, r154_38, r154_39, r154_42, r154_103, ho_9_26 hA v.l9, hg_9_26 hA v.l9, true_and, and_true, kk1_i, kk1_r, kk1_n, kk1_0, kcat_iv, kcat_ref, kcat_null, kisR_ref, kisR_null, ksz_nil, ksz_iv, ksz_ref, ksz_null, ksz_lv, kfit_int, kfit_long, kfit_obj, kfit_objN, kfit_arr, kfit_arrN, knarI, knarZ0, knarZ1, kret_v, kret_n, kret_x, Nat.reduceAdd, Nat.reduceLeDiff, reduceCtorEq, Int.reduceLE, Int.reduceLT, Int.reduceEq, ite_true, ite_false, true_or, or_true, false_implies, true_implies, not_true_eq_false, not_false_eq_true, and_self, eq_self, klc_lt, klc_ge, klc_le, klc_gt, klc_eq, kmu_eq, kmu_f, kmu_i, kmu_j, e9, show R 9 0 26 < R 9 0 26 + 1 by omega])
  rw [← w']
  simp (disch := first | assumption | (unfold kR; decide) | exact klc_R | (unfold kR; omega) | omega | (unfold kL; omega) | exact kcat_null | exact kcat_ref _ | exact kcat_iv _) only [r154_0, r154_1, r154_2, r154_3, r154_4, r154_5, r154_6, r154_7, r154_10, r154_11, r154_14, r154_15, r154_16, r154_17, r154_18, r154_19, r154_22, r154_23, r154_24, r154_25, r154_26, r154_27, r154_30, r154_31, r154_32, r154_33, r154_34, ho_9_5 hA v.l9, hg_9_5 hA v.l9, hoa_55 hA v.l55, hga_55 hA v.l55, hpa_55 hA v.l55, ho_9_22 hA v.l9, hg_9_22 hA v.l9, hoa_72 hA v.l72, hga_72 hA v.l72, hpa_72 hA v.l72, ho_9_25 hA v.l9, hg_9_25 hA v.l9, hoa_75 hA v.l75, hga_75 hA v.l75, hpa_75 hA v.l75, true_and, and_true, kk1_i, kk1_r, kk1_n, kk1_0, kcat_iv, kcat_ref, kcat_null, kisR_ref, kisR_null, ksz_nil, ksz_iv, ksz_ref, ksz_null, ksz_lv, kfit_int, kfit_long, kfit_obj, kfit_objN, kfit_arr, kfit_arrN, knarI, knarZ0, knarZ1, kret_v, kret_n, kret_x, Nat.reduceAdd, Nat.reduceLeDiff, reduceCtorEq, Int.reduceLE, Int.reduceLT, Int.reduceEq, ite_true, ite_false, true_or, or_true, false_implies, true_implies, not_true_eq_false, not_false_eq_true, and_self, eq_self, klc_lt, klc_ge, klc_le, klc_gt, klc_eq, kmu_eq, kmu_f, kmu_i, kmu_j, hg, hR1]
end
