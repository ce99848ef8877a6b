/-! Distances: what kfars keeps; the next good on a shortest way; the ring. -/
section
variable {R : ka_M} {to : Int}
theorem kfars_s (n : Nat) (j : Int) : kfars R to (n + 1) j = knxt R (kfars R to n) n j := rfl
/-- a distance once found stays -/
theorem kfars_keep {j : Int} {n : Nat} : ∀ k : Nat, kfars R to n j ≠ -1 → kfars R to (n + k) j = kfars R to n j
  | 0, _ => rfl
  | k + 1, h => by
    have ih := kfars_keep k h
    show knxt R (kfars R to (n + k)) (n + k : Nat) j = _
    rw [knxt_neg (fun z => h (by rw [← ih]; exact z.1)), ih]
/-- a distance m was found at step m -/
theorem kfars_at {j : Int} {m : Nat} : ∀ n : Nat, kfars R to n j = m → m ≤ n ∧ kfars R to m j = m
  | 0, h => by
    have := kfars_rng (R := R) (to := to) 0 j
    have e : m = 0 := by omega
    subst e
    exact ⟨Nat.le_refl _, h⟩
  | n + 1, h => by
    by_cases z : kfars R to n j = -1 ∧ khit R (kfars R to n) n j 0
    · rw [kfars_s, knxt_pos z] at h
      have e : m = n + 1 := by omega
      subst e
      refine ⟨Nat.le_refl _, ?_⟩
      rw [kfars_s, knxt_pos z]
      omega
    · rw [kfars_s, knxt_neg z] at h
      have := kfars_at n h
      exact ⟨by omega, this.2⟩
theorem kfars_full {j : Int} : ∀ n : Nat, 0 ≤ j → j < 20 → kfars R to n j = n → (n : Int) + 1 ≤ kcn (fun q => 0 ≤ kfars R to n (q - 1)) 20
  | 0, h0, h1, h => by
    have := kcn_lt (p := fun _ => False) (q := fun q => 0 ≤ kfars R to 0 (q - 1)) (u := j + 1) 20 (fun _ _ _ z => z.elim) (by omega) (by omega) id (by
      show 0 ≤ kfars R to 0 (j + 1 - 1)
      have e : j + 1 - 1 = j := by omega
      rw [e, h]
      omega)
    have := (kcn_b (fun _ => False) 20).1
    omega
  | n + 1, h0, h1, h => by
    by_cases z : kfars R to n j = -1 ∧ khit R (kfars R to n) n j 0
    · obtain ⟨q, q0, q1, q2, -⟩ := z.2
      have ih := kfars_full n q0 q1 q2
      have := kcn_lt (p := fun q => 0 ≤ kfars R to n (q - 1)) (q := fun q => 0 ≤ kfars R to (n + 1) (q - 1)) (u := j + 1) 20 (fun i _ _ y => by
        show 0 ≤ kfars R to (n + 1) (i - 1)
        have y : 0 ≤ kfars R to n (i - 1) := y
        rw [kfars_keep (n := n) 1 (by omega)]
        exact y) (by omega) (by omega) (by
        show ¬ 0 ≤ kfars R to n (j + 1 - 1)
        have e : j + 1 - 1 = j := by omega
        rw [e, z.1]
        omega) (by
        show 0 ≤ kfars R to (n + 1) (j + 1 - 1)
        have e : j + 1 - 1 = j := by omega
        rw [e, h]
        omega)
      omega
    · rw [kfars_s, knxt_neg z] at h
      have := kfars_rng (R := R) (to := to) n j
      omega
theorem kfars_19 {j : Int} (h0 : 0 ≤ j) (h1 : j < 20) : kfars R to 20 j ≤ 19 := by
  have h := kfars_rng (R := R) (to := to) 20 j
  by_cases e : kfars R to 20 j = 20
  · have := kfars_full (R := R) (to := to) 20 h0 h1 e
    have := (kcn_b (fun q => 0 ≤ kfars R to 20 (q - 1)) 20).2
    omega
  · omega
theorem kfars_0 {j : Int} {n : Nat} : kfars R to n j = 0 ↔ j = to := by
  constructor
  · intro h
    have := (kfars_at (m := 0) n h).2
    by_cases e : j = to
    · exact e
    · unfold kfars kfar0 at this
      rw [if_neg e] at this
      omega
  · rintro rfl
    have h : kfars R j 0 j = 0 := if_pos rfl
    have := kfars_keep (R := R) (to := j) (n := 0) n (by rw [h]; decide)
    rw [Nat.zero_add] at this
    rw [this, h]
/-- a good on the way -/
theorem kfars_next {j : Int} {s : Nat} (h : kfars R to 20 j = (s : Int) + 1) : khit R (kfars R to 20) s j 0 := by
  obtain ⟨h1, h2⟩ := kfars_at (m := s + 1) 20 (by rw [h]; omega)
  by_cases z : kfars R to s j = -1 ∧ khit R (kfars R to s) s j 0
  · obtain ⟨q, q0, q1, q2, q3⟩ := z.2
    refine ⟨q, q0, q1, ?_, q3⟩
    have := kfars_keep (R := R) (to := to) (n := s) (j := q) (20 - s) (by rw [q2]; omega)
    rw [show s + (20 - s) = 20 by omega] at this
    rw [this, q2]
  · rw [kfars_s, knxt_neg z] at h2
    have := kfars_rng (R := R) (to := to) s j
    omega
end
/-- the least good from h on that g leads to and that lies one nearer -/
noncomputable def knx (R : ka_M) (φ : Int → Int) (g : Int) : Nat → Int → Int
  | 0, h => h
  | n + 1, h => @ite Int (φ h = φ g - 1 ∧ klead R g h) (Classical.propDecidable _) h (knx R φ g n (h + 1))
theorem knx_pos {R : ka_M} {φ : Int → Int} {g h : Int} {n : Nat} (z : φ h = φ g - 1 ∧ klead R g h) : knx R φ g (n + 1) h = h := if_pos z
theorem knx_neg {R : ka_M} {φ : Int → Int} {g h : Int} {n : Nat} (z : ¬ (φ h = φ g - 1 ∧ klead R g h)) : knx R φ g (n + 1) h = knx R φ g n (h + 1) := if_neg z
theorem knx_spec {R : ka_M} {φ : Int → Int} {g : Int} : ∀ (n : Nat) (h : Int), h + n = 20 → khit R φ (φ g - 1) g h → h ≤ knx R φ g n h ∧ knx R φ g n h < 20 ∧ φ (knx R φ g n h) = φ g - 1 ∧ klead R g (knx R φ g n h)
  | 0, h, hn, ⟨q, a, b, _⟩ => by omega
  | n + 1, h, hn, hk => by
    by_cases z : φ h = φ g - 1 ∧ klead R g h
    · rw [knx_pos z]
      exact ⟨Int.le_refl _, by omega, z.1, z.2⟩
    · rw [knx_neg z]
      have := knx_spec (R := R) (φ := φ) (g := g) n (h + 1) (by omega) ((khit_step (by omega)).mp hk |>.resolve_left z)
      exact ⟨by omega, this.2⟩
/-- the ring's goods, at the places from p on: n of them, from g on -/
noncomputable def krg (R : ka_M) (φ : Int → Int) : Nat → Int → Int → Int → Int
  | 0, _, _, _ => 0
  | n + 1, p, g, j => if j = p then g else krg R φ n (p + 1) (knx R φ g 20 0) j
section
variable {E : Nat × Nat} {d c l : Nat} {s : ka_S} {Q : ka_Q} {J : ka_H} {A : ka_A} {V : ka_V} {C R : ka_M}
theorem j128_l (hA : kJ A V) (v : kLV V) (r : kRW V R) {φ : Int → Int} (hd : 1 ≤ d) (hφ : ∀ j, 0 ≤ j → j < 20 → -1 ≤ φ j ∧ φ j ≤ 20) {g : Int} (g0 : 0 ≤ g) (g1 : g < 20) :
    ∀ (n : Nat) (h : Int), 0 ≤ h → h + n = 20 → khit R φ (φ g - 1) g h →
    (ka_W (kp E) (d, (128, 2, [some (.ref (A 9 0)), some (iv g), some (iv h)], []), (kHp J A V C (ksf R φ), c, l)) Q ↔ Q (.inl (some (iv (knx R φ g n h)))) (kHp J A V C (ksf R φ), c, l))
  | 0, h, h0, hn, hk => by
    obtain ⟨q, a, b, -⟩ := hk
    omega
  | n + 1, h, h0, hn, hk => by
    have r1 := ksf_rw r hφ
    have B := hφ h h0 (by omega)
    have B2 := hφ g g0 g1
    by_cases c2 : φ h = φ g - 1
    · by_cases c3 : klead R g h
      · rw [knx_pos ⟨c2, c3⟩]
        simp (disch := first | assumption | (unfold kR; decide) | exact klc_R | (unfold kR; omega) | omega | (unfold kL; omega) | exact kcat_null | exact kcat_ref _ | exact kcat_iv _) only [r128_2, r128_3, r128_6, r128_7, r128_8, r128_9, r128_12, r128_13, r128_14, r128_15, r128_16, r128_19, r128_20, r128_21, r128_22, r128_25, r128_28, r128_31, r128_34, r128_35, ho_9_37 hA v.l9, hg_9_37 hA v.l9, hoa_87 hA v.l87, hga_87 hA v.l87, ht_9 hA v.l9, true_and, and_true, kk1_i, kk1_r, kk1_n, kk1_0, kcat_iv, kcat_ref, kcat_null, kisR_ref, kisR_null, ksz_nil, ksz_iv, ksz_ref, ksz_null, ksz_lv, kfit_int, kfit_long, kfit_obj, kfit_objN, kfit_arr, kfit_arrN, knarI, knarZ0, knarZ1, kret_v, kret_n, kret_x, Nat.reduceAdd, Nat.reduceLeDiff, reduceCtorEq, Int.reduceLE, Int.reduceLT, Int.reduceEq, ite_true, ite_false, true_or, or_true, false_implies, true_implies, not_true_eq_false, not_false_eq_true, and_self, eq_self, klc_lt, klc_ge, klc_le, klc_gt, klc_eq, kmu_eq, kmu_f, kmu_i, kmu_j, ksf_g, ksf_f, c2, j124 hA v r1, ksf_lead, kb_t c3, hd, Nat.zero_le]
      · have ih := j128_l hA v r hd hφ g0 g1 n (h + 1) (by omega) (by omega) ((khit_step (by omega)).mp hk |>.resolve_left (fun z => c3 z.2))
        rw [knx_neg (fun z => c3 z.2), ← ih, r128_2]
        simp (disch := first | assumption | (unfold kR; decide) | exact klc_R | (unfold kR; omega) | omega | (unfold kL; omega) | exact kcat_null | exact kcat_ref _ | exact kcat_iv _) only [r128_3, r128_6, r128_7, r128_8, r128_9, r128_12, r128_13, r128_14, r128_15, r128_16, r128_19, r128_20, r128_21, r128_22, r128_25, r128_28, r128_31, r128_34, r128_35, ho_9_37 hA v.l9, hg_9_37 hA v.l9, hoa_87 hA v.l87, hga_87 hA v.l87, ht_9 hA v.l9, true_and, and_true, kk1_i, kk1_r, kk1_n, kk1_0, kcat_iv, kcat_ref, kcat_null, kisR_ref, kisR_null, ksz_nil, ksz_iv, ksz_ref, ksz_null, ksz_lv, kfit_int, kfit_long, kfit_obj, kfit_objN, kfit_arr, kfit_arrN, knarI, knarZ0, knarZ1, kret_v, kret_n, kret_x, Nat.reduceAdd, Nat.reduceLeDiff, reduceCtorEq, Int.reduceLE, Int.reduceLT, Int.reduceEq, ite_true, ite_false, true_or, or_true, false_implies, true_implies, not_true_eq_false, not_false_eq_true, and_self, eq_self, klc_lt, klc_ge, klc_le, klc_gt, klc_eq, kmu_eq, kmu_f, kmu_i, kmu_j, ksf_g, ksf_f, c2, j124 hA v r1, ksf_lead, kb_f c3, hd, Nat.zero_le]
    · have ih := j128_l hA v r hd hφ g0 g1 n (h + 1) (by omega) (by omega) ((khit_step (by omega)).mp hk |>.resolve_left (fun z => c2 z.1))
      rw [knx_neg (fun z => c2 z.1), ← ih, r128_2]
      simp (disch := first | assumption | (unfold kR; decide) | exact klc_R | (unfold kR; omega) | omega | (unfold kL; omega) | exact kcat_null | exact kcat_ref _ | exact kcat_iv _) only [r128_3, r128_6, r128_7, r128_8, r128_9, r128_12, r128_13, r128_14, r128_15, r128_16, r128_19, r128_20, r128_21, r128_22, r128_25, r128_28, r128_31, r128_34, r128_35, ho_9_37 hA v.l9, hg_9_37 hA v.l9, hoa_87 hA v.l87, hga_87 hA v.l87, ht_9 hA v.l9, true_and, and_true, kk1_i, kk1_r, kk1_n, kk1_0, kcat_iv, kcat_ref, kcat_null, kisR_ref, kisR_null, ksz_nil, ksz_iv, ksz_ref, ksz_null, ksz_lv, kfit_int, kfit_long, kfit_obj, kfit_objN, kfit_arr, kfit_arrN, knarI, knarZ0, knarZ1, kret_v, kret_n, kret_x, Nat.reduceAdd, Nat.reduceLeDiff, reduceCtorEq, Int.reduceLE, Int.reduceLT, Int.reduceEq, ite_true, ite_false, true_or, or_true, false_implies, true_implies, not_true_eq_false, not_false_eq_true, and_self, eq_self, klc_lt, klc_ge, klc_le, klc_gt, klc_eq, kmu_eq, kmu_f, kmu_i, kmu_j, ksf_g, ksf_f, c2]
theorem j128 (hA : kJ A V) (v : kLV V) (r : kRW V R) {φ : Int → Int} (hd : 1 ≤ d) (hφ : ∀ j, 0 ≤ j → j < 20 → -1 ≤ φ j ∧ φ j ≤ 20) {g : Int} (g0 : 0 ≤ g) (g1 : g < 20) (hk : khit R φ (φ g - 1) g 0) :
    ka_W (kp E) (d, (128, 0, [some (.ref (A 9 0)), some (iv g), none], []), (kHp J A V C (ksf R φ), c, l)) Q ↔ Q (.inl (some (iv (knx R φ g 20 0)))) (kHp J A V C (ksf R φ), c, l) := by
  refine Iff.trans ?_ (j128_l (E := E) hA v r hd hφ g0 g1 20 0 (by omega) (by omega) hk)
  simp (disch := first | assumption | (unfold kR; decide) | exact klc_R | (unfold kR; omega) | omega | (unfold kL; omega) | exact kcat_null | exact kcat_ref _ | exact kcat_iv _) only [r128_0, r128_1, true_and, and_true, kk1_i, kk1_r, kk1_n, kk1_0, kcat_iv, kcat_ref, kcat_null, kisR_ref, kisR_null, ksz_nil, ksz_iv, ksz_ref, ksz_null, ksz_lv, kfit_int, kfit_long, kfit_obj, kfit_objN, kfit_arr, kfit_arrN, knarI, knarZ0, knarZ1, kret_v, kret_n, kret_x, Nat.reduceAdd, Nat.reduceLeDiff, reduceCtorEq, Int.reduceLE, Int.reduceLT, Int.reduceEq, ite_true, ite_false, true_or, or_true, false_implies, true_implies, not_true_eq_false, not_false_eq_true, and_self, eq_self, klc_lt, klc_ge, klc_le, klc_gt, klc_eq, kmu_eq, kmu_f, kmu_i, kmu_j]
end
theorem kmu_ff {M : ka_M} {f f' : Nat} {i j x : Int} (h : f' ≠ f) : kmu M f i j x f' = M f' := by
  funext i' j'
  exact kmu_f h
theorem ksf_ff {M : ka_M} {φ : Int → Int} {f' : Nat} (h : f' ≠ 87) : ksf M φ f' = M f' := by
  funext i' j'
  exact ksf_f h
theorem ksf_muf {M : ka_M} {φ : Int → Int} {f : Nat} {i j x : Int} (h : f ≠ 87) : kmu (ksf M φ) f i j x = ksf (kmu M f i j x) φ := by
  funext f' i' j'
  unfold kmu ksf
  by_cases e : f' = f ∧ i' = i ∧ j' = j
  · obtain ⟨rfl, rfl, rfl⟩ := e
    simp [h]
  · simp [e]
/-- what leads is said in five families -/
def kLf (R R' : ka_M) : Prop := R' 56 = R 56 ∧ R' 59 = R 59 ∧ R' 61 = R 61 ∧ R' 62 = R 62 ∧ R' 64 = R 64
theorem kLf_rfl {R : ka_M} : kLf R R := ⟨rfl, rfl, rfl, rfl, rfl⟩
theorem kLf.mu {R R' : ka_M} (h : kLf R R') {f : Nat} {i j x : Int} (hf : f ≠ 56 ∧ f ≠ 59 ∧ f ≠ 61 ∧ f ≠ 62 ∧ f ≠ 64) : kLf R (kmu R' f i j x) :=
  ⟨(kmu_ff hf.1.symm).trans h.1, (kmu_ff hf.2.1.symm).trans h.2.1, (kmu_ff hf.2.2.1.symm).trans h.2.2.1, (kmu_ff hf.2.2.2.1.symm).trans h.2.2.2.1, (kmu_ff hf.2.2.2.2.symm).trans h.2.2.2.2⟩
theorem kLf.lead {R R' : ka_M} (h : kLf R R') : klead R' = klead R := by
  obtain ⟨h1, h2, h3, h4, h5⟩ := h
  funext g hh
  simp only [klead, kPr, kP, h1, h2, h3, h4, h5]
theorem kLf.hit {R R' : ka_M} (h : kLf R R') : khit R' = khit R := by
  funext φ s g q
  simp only [khit, h.lead]
theorem kLf.nx {R R' : ka_M} (h : kLf R R') {φ : Int → Int} {g : Int} : ∀ (n : Nat) (q : Int), knx R' φ g n q = knx R φ g n q
  | 0, _ => rfl
  | n + 1, q => by
    unfold knx
    rw [h.lead, h.nx n (q + 1)]
theorem kLf.fars {R R' : ka_M} (h : kLf R R') {to : Int} : ∀ (n : Nat), kfars R' to n = kfars R to n
  | 0 => rfl
  | n + 1 => by
    unfold kfars
    rw [h.fars n]
    unfold knxt
    rw [h.hit]
/-- the ring is kept, from place p on -/
noncomputable def krgM (R : ka_M) (φ : Int → Int) : Nat → Int → Int → ka_M → ka_M
  | 0, _, _, X => X
  | n + 1, p, g, X => krgM R φ n (p + 1) (knx R φ g 20 0) (kmu (kmu X 85 0 p g) 9 0 36 (p + 1))
noncomputable def f127 (R : ka_M) (k g : Int) : ka_M :=
  krgM R (kfars R (R 58 0 k) 20) (kfars R (R 58 0 k) 20 g).toNat 1 g (kmu (kmu (f125 R (R 58 0 k)) 85 0 0 (R 58 0 k)) 9 0 36 1)
section
variable {E : Nat × Nat} {d c l : Nat} {s : ka_S} {Q : ka_Q} {J : ka_H} {A : ka_A} {V : ka_V} {C R : ka_M}
theorem krg_nx {to g : Int} {n : Nat} (h : kfars R to 20 g = (n : Int) + 1) : khit R (kfars R to 20) (kfars R to 20 g - 1) g 0 := by
  have := kfars_next h
  rw [h]
  have e : (n : Int) + 1 - 1 = n := by omega
  rw [e]
  exact this
theorem j127_l (hA : kJ A V) (v : kLV V) {to k g0 : Int} (k0 : 0 ≤ k) (k1 : k < 21) (t0 : 0 ≤ to) (t1 : to < 20) (hd : 2 ≤ d) :
    ∀ (n : Nat) (g p : Int) (Y : ka_M), kRW V Y → kLf R Y → Y 58 0 k = to → Y 9 0 36 = p → 0 ≤ g → g < 20 → 0 ≤ p → p + n ≤ 21 → kfars R to 20 g = n →
    (ka_W (kp E) (d, (127, 29, [some (.ref (A 9 0)), some (iv k), some (iv g0), some (iv g)], []), (kHp J A V C (ksf Y (kfars R to 20)), c, l)) Q ↔ Q (.inl none) (kHp J A V C (krgM R (kfars R to 20) n p g (ksf Y (kfars R to 20))), c, l))
  | 0, g, p, Y, r, hL, hY, hp, h0, h1, p0, p1, hn => by
    have e : g = to := kfars_0.mp hn
    subst e
    simp (disch := first | assumption | (unfold kR; decide) | exact klc_R | (unfold kR; omega) | omega | (unfold kL; omega) | exact kcat_null | exact kcat_ref _ | exact kcat_iv _) only [r127_29, r127_30, r127_31, r127_34, r127_35, r127_36, r127_68, ho_9_8 hA v.l9, hg_9_8 hA v.l9, hoa_58 hA v.l58, hga_58 hA v.l58, true_and, and_true, kk1_i, kk1_r, kk1_n, kk1_0, kcat_iv, kcat_ref, kcat_null, kisR_ref, kisR_null, ksz_nil, ksz_iv, ksz_ref, ksz_null, ksz_lv, kfit_int, kfit_long, kfit_obj, kfit_objN, kfit_arr, kfit_arrN, knarI, knarZ0, knarZ1, kret_v, kret_n, kret_x, Nat.reduceAdd, Nat.reduceLeDiff, reduceCtorEq, Int.reduceLE, Int.reduceLT, Int.reduceEq, ite_true, ite_false, true_or, or_true, false_implies, true_implies, not_true_eq_false, not_false_eq_true, and_self, eq_self, klc_lt, klc_ge, klc_le, klc_gt, klc_eq, kmu_eq, kmu_f, kmu_i, kmu_j, ksf_f, hY, krgM]
  | n + 1, g, p, Y, r, hL, hY, hp, h0, h1, p0, p1, hn => by
    have c1 : ¬ g = to := fun z => by
      have := (kfars_0 (R := R) (to := to) (n := 20)).mpr z
      omega
    have hk := krg_nx (R := R) (to := to) (g := g) (n := n) (by rw [hn]; omega)
    obtain ⟨x0, x1, x2, x3⟩ := knx_spec 20 0 (by omega) hk
    have hrg : ∀ j : Int, 0 ≤ j → j < 20 → -1 ≤ kfars R to 20 j ∧ kfars R to 20 j ≤ 20 := fun j _ _ => kfars_rng 20 j
    have r1 : kRW V (kmu (kmu Y 85 0 p g) 9 0 36 (p + 1)) := (r.pa85 (j := p) h0 (by omega)).pi36 (by omega) (by omega)
    have hL1 : kLf R (kmu (kmu Y 85 0 p g) 9 0 36 (p + 1)) := (hL.mu (by decide)).mu (by decide)
    have ih := j127_l hA v (g0 := g0) k0 k1 t0 t1 hd n (knx R (kfars R to 20) g 20 0) (p + 1) (kmu (kmu Y 85 0 p g) 9 0 36 (p + 1)) r1 hL1 (by rw [kmu_f (by decide), kmu_f (by decide)]; exact hY) kmu_eq x0 x1 (by omega) (by omega) (by rw [x2, hn]; omega)
    have nx := fun {Q} => j128 (E := E) (d := d - 1) (c := c) (l := l) (Q := Q) (J := J) (C := C) hA v r1 (φ := kfars R to 20) (by omega) hrg h0 h1 (by rw [hL1.hit]; exact hk)
    rw [hL1.nx] at nx
    unfold krgM
    rw [ksf_muf (by decide), ksf_muf (by decide), ← ih, r127_29]
    simp (disch := first | assumption | (unfold kR; decide) | exact klc_R | (unfold kR; omega) | omega | (unfold kL; omega) | exact kcat_null | exact kcat_ref _ | exact kcat_iv _) only [r127_30, r127_31, r127_34, r127_35, r127_36, r127_39, r127_40, r127_43, r127_44, r127_47, r127_48, r127_49, r127_50, r127_51, r127_54, r127_55, r127_56, r127_59, r127_60, r127_61, r127_64, r127_65, ho_9_8 hA v.l9, hg_9_8 hA v.l9, hoa_58 hA v.l58, hga_58 hA v.l58, hpa_58 hA v.l58, ho_9_35 hA v.l9, hg_9_35 hA v.l9, hoa_85 hA v.l85, hga_85 hA v.l85, hpa_85 hA v.l85, ho_9_36 hA v.l9, hg_9_36 hA v.l9, hp_9_36 hA v.l9, ht_9 hA v.l9, true_and, and_true, kk1_i, kk1_r, kk1_n, kk1_0, kcat_iv, kcat_ref, kcat_null, kisR_ref, kisR_null, ksz_nil, ksz_iv, ksz_ref, ksz_null, ksz_lv, kfit_int, kfit_long, kfit_obj, kfit_objN, kfit_arr, kfit_arrN, knarI, knarZ0, knarZ1, kret_v, kret_n, kret_x, Nat.reduceAdd, Nat.reduceLeDiff, reduceCtorEq, Int.reduceLE, Int.reduceLT, Int.reduceEq, ite_true, ite_false, true_or, or_true, false_implies, true_implies, not_true_eq_false, not_false_eq_true, and_self, eq_self, klc_lt, klc_ge, klc_le, klc_gt, klc_eq, kmu_eq, kmu_f, kmu_i, kmu_j, ksf_f, hY, hp, c1, ksf_muf, nx, Nat.zero_le, show 1 ≤ d by omega]
theorem j127 (hA : kJ A V) (v : kLV V) (r : kRW V R) {k g : Int} (k0 : 0 ≤ k) (k1 : k < 21) (h0 : 0 ≤ g) (h1 : g < 20) (hd : 2 ≤ d) (hg : kfars R (R 58 0 k) 20 g ≠ -1) :
    ka_W (kp E) (d, (127, 0, [some (.ref (A 9 0)), some (iv k), some (iv g), none], []), (kHp J A V C R, c, l)) Q ↔ Q (.inl none) (kHp J A V C (f127 R k g), c, l) := by
  have B := r.a58 (j := k) k0 k1
  have B2 := kfars_rng (R := R) (to := R 58 0 k) 20 g
  have r1 : kRW V (kmu (kmu R 85 0 0 (R 58 0 k)) 9 0 36 1) := (r.pa85 (j := 0) B.1 B.2).pi36 (by omega) (by omega)
  have hL1 : kLf R (kmu (kmu R 85 0 0 (R 58 0 k)) 9 0 36 1) := (kLf_rfl.mu (by decide)).mu (by decide)
  have z := j127_l (E := E) (d := d) (c := c) (l := l) (Q := Q) (J := J) (C := C) hA v (g0 := g) k0 k1 B.1 (by omega) hd (kfars R (R 58 0 k) 20 g).toNat g 1 _ r1 hL1 (by rw [kmu_f (by decide), kmu_f (by decide)]) kmu_eq h0 h1 (by omega) (by omega) (by omega)
  unfold f127 f125
  rw [ksf_muf (by decide), ksf_muf (by decide), ← z]
  simp (disch := first | assumption | (unfold kR; decide) | exact klc_R | (unfold kR; omega) | omega | (unfold kL; omega) | exact kcat_null | exact kcat_ref _ | exact kcat_iv _) only [r127_0, r127_1, r127_2, r127_5, r127_6, r127_7, r127_10, r127_11, r127_14, r127_15, r127_16, r127_19, r127_20, r127_21, r127_22, r127_23, r127_24, r127_27, r127_28, ho_9_8 hA v.l9, hg_9_8 hA v.l9, hoa_58 hA v.l58, hga_58 hA v.l58, hpa_58 hA v.l58, ht_9 hA v.l9, ho_9_35 hA v.l9, hg_9_35 hA v.l9, hoa_85 hA v.l85, hga_85 hA v.l85, hpa_85 hA v.l85, ho_9_36 hA v.l9, hp_9_36 hA v.l9, true_and, and_true, kk1_i, kk1_r, kk1_n, kk1_0, kcat_iv, kcat_ref, kcat_null, kisR_ref, kisR_null, ksz_nil, ksz_iv, ksz_ref, ksz_null, ksz_lv, kfit_int, kfit_long, kfit_obj, kfit_objN, kfit_arr, kfit_arrN, knarI, knarZ0, knarZ1, kret_v, kret_n, kret_x, Nat.reduceAdd, Nat.reduceLeDiff, reduceCtorEq, Int.reduceLE, Int.reduceLT, Int.reduceEq, ite_true, ite_false, true_or, or_true, false_implies, true_implies, not_true_eq_false, not_false_eq_true, and_self, eq_self, klc_lt, klc_ge, klc_le, klc_gt, klc_eq, kmu_eq, kmu_f, kmu_i, kmu_j, j125 hA v r, f125, ksf_f, ksf_muf, Nat.zero_le, show 1 ≤ d by omega]
end
