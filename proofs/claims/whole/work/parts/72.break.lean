/-! The reference: who is at a station; what breaks. -/
def kas (R : ka_M) (w : Int) : Nat → Int → Int
  | 0, _ => 0
  | n + 1, m => if R 68 0 m = 0 ∧ R 67 0 m = w then m else kas R w n (m + 1)
def f159 (R : ka_M) (w : Int) : Int := kas R w (R 9 0 15).toNat 1
def f161 (R : ka_M) (u : Int) : ka_M := kmu (kmu R 78 0 u 3) 80 0 u 0
/-- the units that break with what making m holds for part p -/
def kbs (R : ka_M) (m p : Int) (u : Int) : Prop := ∀ X : Int → Prop, (∀ u, R 78 0 u = 1 → R 80 0 u = m → R 81 0 u = p → X u) → (∀ u, R 78 0 u = 2 → X (R 80 0 u) → X u) → X u
theorem kbs.held {R : ka_M} {m p : Int} (u : Int) (h1 : R 78 0 u = 1) (h2 : R 80 0 u = m) (h3 : R 81 0 u = p) : kbs R m p u := fun X a b => a u h1 h2 h3
theorem kbs.bound {R : ka_M} {m p : Int} (u : Int) (h1 : R 78 0 u = 2) (h2 : kbs R m p (R 80 0 u)) : kbs R m p u := fun X a b => b u h1 (h2 X a b)
/-- the units B are broken -/
noncomputable def ksb (R : ka_M) (B : Int → Prop) : ka_M := fun f i j => @ite Int (f = 78 ∧ i = 0 ∧ B j) (Classical.propDecidable _) 3 (@ite Int (f = 80 ∧ i = 0 ∧ B j) (Classical.propDecidable _) 0 (R f i j))
section
variable {R : ka_M} {B : Int → Prop}
theorem ksb_ff {f : Nat} (h1 : f ≠ 78) (h2 : f ≠ 80) : ksb R B f = R f := by
  funext i j
  unfold ksb
  rw [if_neg (fun z => h1 z.1), if_neg (fun z => h2 z.1)]
theorem ksb_78t {j : Int} (h : B j) : ksb R B 78 0 j = 3 := if_pos ⟨rfl, rfl, h⟩
theorem ksb_78f {j : Int} (h : ¬ B j) : ksb R B 78 0 j = R 78 0 j := by
  unfold ksb
  rw [if_neg (fun z => h z.2.2), if_neg (fun z => absurd z.1 (by decide))]
theorem ksb_80t {j : Int} (h : B j) : ksb R B 80 0 j = 0 := by
  unfold ksb
  rw [if_neg (fun z => absurd z.1 (by decide)), if_pos ⟨rfl, rfl, h⟩]
theorem ksb_80f {j : Int} (h : ¬ B j) : ksb R B 80 0 j = R 80 0 j := by
  unfold ksb
  rw [if_neg (fun z => h z.2.2), if_neg (fun z => h z.2.2)]
theorem ksb_0 : ksb R (fun _ => False) = R := by
  funext f i j
  simp [ksb]
theorem ksb_add {u : Int} : f161 (ksb R B) u = ksb R (fun j => B j ∨ j = u) := by
  funext f i j
  unfold f161
  by_cases h : f = 80 ∧ i = 0 ∧ j = u
  · obtain ⟨rfl, rfl, rfl⟩ := h
    rw [kmu_eq, ksb_80t (Or.inr rfl)]
  · by_cases h2 : f = 78 ∧ i = 0 ∧ j = u
    · obtain ⟨rfl, rfl, rfl⟩ := h2
      rw [kmu_f (by decide), kmu_eq, ksb_78t (Or.inr rfl)]
    · have e1 : kmu (kmu (ksb R B) 78 0 u 3) 80 0 u 0 f i j = ksb R B f i j := by
        unfold kmu
        rw [if_neg h, if_neg h2]
      rw [e1]
      unfold ksb
      by_cases a : f = 78 ∧ i = 0 ∧ B j
      · rw [if_pos a, if_pos ⟨a.1, a.2.1, Or.inl a.2.2⟩]
      · rw [if_neg a, if_neg (show ¬ (f = 78 ∧ i = 0 ∧ (B j ∨ j = u)) from fun z => z.2.2.elim (fun y => a ⟨z.1, z.2.1, y⟩) (fun y => h2 ⟨z.1, z.2.1, y⟩))]
        by_cases b : f = 80 ∧ i = 0 ∧ B j
        · rw [if_pos b, if_pos ⟨b.1, b.2.1, Or.inl b.2.2⟩]
        · rw [if_neg b, if_neg (show ¬ (f = 80 ∧ i = 0 ∧ (B j ∨ j = u)) from fun z => z.2.2.elim (fun y => b ⟨z.1, z.2.1, y⟩) (fun y => h ⟨z.1, z.2.1, y⟩))]
theorem ksb_rw {V : ka_V} (r : kRW V R) : kRW V (ksb R B) := by
  refine ⟨r.1, fun f j a b c d => ?_⟩
  unfold ksb
  split
  · rename_i e
    obtain ⟨rfl, -, -⟩ := e
    exact ⟨show (0:Int) ≤ 3 by decide, show (3:Int) ≤ 3 by decide⟩
  · split
    · rename_i e
      obtain ⟨rfl, -, -⟩ := e
      exact ⟨show (0:Int) ≤ 0 by decide, show (0:Int) ≤ 60 by decide⟩
    · exact r.2 f j a b c d
theorem ksb_c {B' : Int → Prop} (h : ∀ j, B j ↔ B' j) : ksb R B = ksb R B' := by
  have : B = B' := funext (fun j => propext (h j))
  rw [this]
end
/-- what breakHeld leaves -/
noncomputable def f160 (R : ka_M) (m p : Int) : ka_M := ksb (kmu R 75 0 (5 * m + p) 0) (fun u => 1 ≤ u ∧ u ≤ R 9 0 26 ∧ kbs R m p u)
/-- a bound unit lies in one that is there and is not broken -/
def kWh (R : ka_M) : Prop := ∀ u, 1 ≤ u → u ≤ R 9 0 26 → R 78 0 u = 2 → 1 ≤ R 80 0 u ∧ R 80 0 u ≤ R 9 0 26 ∧ R 78 0 (R 80 0 u) ≠ 3
section
variable {E : Nat × Nat} {d c l : Nat} {s : ka_S} {Q : ka_Q} {J : ka_H} {A : ka_A} {V : ka_V} {C R : ka_M}
theorem j159_l (hA : kJ A V) (v : kLV V) (r : kRW V R) {w : Int} (w0 : kR w) : ∀ (n : Nat) (m : Int), 1 ≤ m → m + n = R 9 0 15 + 1 →
    (ka_W (kp E) (d, (159, 2, [some (.ref (A 9 0)), some (iv w), some (iv m)], []), (kHp J A V C R, c, l)) Q ↔ Q (.inl (some (iv (kas R w n m)))) (kHp J A V C R, c, l))
  | 0, m, m0, hm => by
    have B := r.i15
    unfold kas
    simp (disch := first | assumption | (unfold kR; decide) | exact klc_R | (unfold kR; omega) | omega | (unfold kL; omega) | exact kcat_null | exact kcat_ref _ | exact kcat_iv _) only [r159_2, r159_3, r159_4, r159_7, r159_37, r159_38, ho_9_15 hA v.l9, hg_9_15 hA v.l9, true_and, and_true, kk1_i, kk1_r, kk1_n, kk1_0, kcat_iv, kcat_ref, kcat_null, kisR_ref, kisR_null, ksz_nil, ksz_iv, ksz_ref, ksz_null, ksz_lv, kfit_int, kfit_long, kfit_obj, kfit_objN, kfit_arr, kfit_arrN, knarI, knarZ0, knarZ1, kret_v, kret_n, kret_x, Nat.reduceAdd, Nat.reduceLeDiff, reduceCtorEq, Int.reduceLE, Int.reduceLT, Int.reduceEq, ite_true, ite_false, true_or, or_true, false_implies, true_implies, not_true_eq_false, not_false_eq_true, and_self, eq_self, klc_lt, klc_ge, klc_le, klc_gt, klc_eq, kmu_eq, kmu_f, kmu_i, kmu_j, show R 9 0 15 < m by omega]
  | n + 1, m, m0, hm => by
    have B := r.i15
    have B68 := r.a68 (j := m) (by omega) (by omega)
    have B67 := r.a67 (j := m) (by omega) (by omega)
    have ih := j159_l hA v r w0 n (m + 1) (by omega) (by omega)
    have c1 : ¬ R 9 0 15 < m := by omega
    unfold kas
    rw [r159_2]
    by_cases h1 : R 68 0 m = 0
    · by_cases h2 : R 67 0 m = w
      · rw [if_pos ⟨h1, h2⟩]
        simp (disch := first | assumption | (unfold kR; decide) | exact klc_R | (unfold kR; omega) | omega | (unfold kL; omega) | exact kcat_null | exact kcat_ref _ | exact kcat_iv _) only [r159_3, r159_4, r159_7, r159_10, r159_11, r159_14, r159_15, r159_16, r159_19, r159_20, r159_23, r159_24, r159_25, r159_26, r159_29, r159_30, ho_9_15 hA v.l9, hg_9_15 hA v.l9, ho_9_18 hA v.l9, hg_9_18 hA v.l9, hoa_68 hA v.l68, hga_68 hA v.l68, ho_9_17 hA v.l9, hg_9_17 hA v.l9, hoa_67 hA v.l67, hga_67 hA v.l67, true_and, and_true, kk1_i, kk1_r, kk1_n, kk1_0, kcat_iv, kcat_ref, kcat_null, kisR_ref, kisR_null, ksz_nil, ksz_iv, ksz_ref, ksz_null, ksz_lv, kfit_int, kfit_long, kfit_obj, kfit_objN, kfit_arr, kfit_arrN, knarI, knarZ0, knarZ1, kret_v, kret_n, kret_x, Nat.reduceAdd, Nat.reduceLeDiff, reduceCtorEq, Int.reduceLE, Int.reduceLT, Int.reduceEq, ite_true, ite_false, true_or, or_true, false_implies, true_implies, not_true_eq_false, not_false_eq_true, and_self, eq_self, klc_lt, klc_ge, klc_le, klc_gt, klc_eq, kmu_eq, kmu_f, kmu_i, kmu_j, c1, h1, h2]
      · rw [if_neg (fun z => h2 z.2), ← ih]
        simp (disch := first | assumption | (unfold kR; decide) | exact klc_R | (unfold kR; omega) | omega | (unfold kL; omega) | exact kcat_null | exact kcat_ref _ | exact kcat_iv _) only [r159_3, r159_4, r159_7, r159_10, r159_11, r159_14, r159_15, r159_16, r159_19, r159_20, r159_23, r159_24, r159_25, r159_26, r159_29, r159_30, r159_31, r159_34, ho_9_15 hA v.l9, hg_9_15 hA v.l9, ho_9_18 hA v.l9, hg_9_18 hA v.l9, hoa_68 hA v.l68, hga_68 hA v.l68, ho_9_17 hA v.l9, hg_9_17 hA v.l9, hoa_67 hA v.l67, hga_67 hA v.l67, true_and, and_true, kk1_i, kk1_r, kk1_n, kk1_0, kcat_iv, kcat_ref, kcat_null, kisR_ref, kisR_null, ksz_nil, ksz_iv, ksz_ref, ksz_null, ksz_lv, kfit_int, kfit_long, kfit_obj, kfit_objN, kfit_arr, kfit_arrN, knarI, knarZ0, knarZ1, kret_v, kret_n, kret_x, Nat.reduceAdd, Nat.reduceLeDiff, reduceCtorEq, Int.reduceLE, Int.reduceLT, Int.reduceEq, ite_true, ite_false, true_or, or_true, false_implies, true_implies, not_true_eq_false, not_false_eq_true, and_self, eq_self, klc_lt, klc_ge, klc_le, klc_gt, klc_eq, kmu_eq, kmu_f, kmu_i, kmu_j, c1, h1, h2]
    · rw [if_neg (fun z => h1 z.1), ← ih]
      simp (disch := first | assumption | (unfold kR; decide) | exact klc_R | (unfold kR; omega) | omega | (unfold kL; omega) | exact kcat_null | exact kcat_ref _ | exact kcat_iv _) only [r159_3, r159_4, r159_7, r159_10, r159_11, r159_14, r159_15, r159_16, r159_19, r159_20, r159_23, r159_24, r159_25, r159_26, r159_29, r159_30, r159_31, r159_34, ho_9_15 hA v.l9, hg_9_15 hA v.l9, ho_9_18 hA v.l9, hg_9_18 hA v.l9, hoa_68 hA v.l68, hga_68 hA v.l68, ho_9_17 hA v.l9, hg_9_17 hA v.l9, hoa_67 hA v.l67, hga_67 hA v.l67, true_and, and_true, kk1_i, kk1_r, kk1_n, kk1_0, kcat_iv, kcat_ref, kcat_null, kisR_ref, kisR_null, ksz_nil, ksz_iv, ksz_ref, ksz_null, ksz_lv, kfit_int, kfit_long, kfit_obj, kfit_objN, kfit_arr, kfit_arrN, knarI, knarZ0, knarZ1, kret_v, kret_n, kret_x, Nat.reduceAdd, Nat.reduceLeDiff, reduceCtorEq, Int.reduceLE, Int.reduceLT, Int.reduceEq, ite_true, ite_false, true_or, or_true, false_implies, true_implies, not_true_eq_false, not_false_eq_true, and_self, eq_self, klc_lt, klc_ge, klc_le, klc_gt, klc_eq, kmu_eq, kmu_f, kmu_i, kmu_j, c1, h1]
theorem j159 (hA : kJ A V) (v : kLV V) (r : kRW V R) {w : Int} (w0 : kR w) : ka_W (kp E) (d, (159, 0, [some (.ref (A 9 0)), some (iv w), none], []), (kHp J A V C R, c, l)) Q ↔ Q (.inl (some (iv (f159 R w)))) (kHp J A V C R, c, l) := by
  have B := r.i15
  unfold f159
  refine Iff.trans ?_ (j159_l (E := E) (d := d) hA v r w0 (R 9 0 15).toNat 1 (by omega) (by omega))
  simp (disch := first | assumption | (unfold kR; decide) | exact klc_R | (unfold kR; omega) | omega | (unfold kL; omega) | exact kcat_null | exact kcat_ref _ | exact kcat_iv _) only [r159_0, r159_1, true_and, and_true, kk1_i, kk1_r, kk1_n, kk1_0, kcat_iv, kcat_ref, kcat_null, kisR_ref, kisR_null, ksz_nil, ksz_iv, ksz_ref, ksz_null, ksz_lv, kfit_int, kfit_long, kfit_obj, kfit_objN, kfit_arr, kfit_arrN, knarI, knarZ0, knarZ1, kret_v, kret_n, kret_x, Nat.reduceAdd, Nat.reduceLeDiff, reduceCtorEq, Int.reduceLE, Int.reduceLT, Int.reduceEq, ite_true, ite_false, true_or, or_true, false_implies, true_implies, not_true_eq_false, not_false_eq_true, and_self, eq_self, klc_lt, klc_ge, klc_le, klc_gt, klc_eq, kmu_eq, kmu_f, kmu_i, kmu_j]
theorem j161 (hA : kJ A V) (v : kLV V) {u : Int} (u0 : 1 ≤ u) (u1 : u ≤ 60) : ka_W (kp E) (d, (161, 0, [some (.ref (A 9 0)), some (iv u)], []), (kHp J A V C R, c, l)) Q ↔ Q (.inl none) (kHp J A V C (f161 R u), c, l) := by
  simp (disch := first | assumption | (unfold kR; decide) | exact klc_R | (unfold kR; omega) | omega | (unfold kL; omega) | exact kcat_null | exact kcat_ref _ | exact kcat_iv _) only [r161_0, r161_1, r161_4, r161_5, r161_6, r161_7, r161_8, r161_11, r161_12, r161_13, r161_14, ho_9_28 hA v.l9, hg_9_28 hA v.l9, hoa_78 hA v.l78, hga_78 hA v.l78, hpa_78 hA v.l78, ho_9_30 hA v.l9, hg_9_30 hA v.l9, hoa_80 hA v.l80, hga_80 hA v.l80, hpa_80 hA v.l80, true_and, and_true, kk1_i, kk1_r, kk1_n, kk1_0, kcat_iv, kcat_ref, kcat_null, kisR_ref, kisR_null, ksz_nil, ksz_iv, ksz_ref, ksz_null, ksz_lv, kfit_int, kfit_long, kfit_obj, kfit_objN, kfit_arr, kfit_arrN, knarI, knarZ0, knarZ1, kret_v, kret_n, kret_x, Nat.reduceAdd, Nat.reduceLeDiff, reduceCtorEq, Int.reduceLE, Int.reduceLT, Int.reduceEq, ite_true, ite_false, true_or, or_true, false_implies, true_implies, not_true_eq_false, not_false_eq_true, and_self, eq_self, klc_lt, klc_ge, klc_le, klc_gt, klc_eq, kmu_eq, kmu_f, kmu_i, kmu_j, f161]
/-- the held units below u are broken -/
def kb1 (R : ka_M) (m p u : Int) : Int → Prop := fun j => 1 ≤ j ∧ j < u ∧ R 78 0 j = 1 ∧ R 80 0 j = m ∧ R 81 0 j = p
theorem j160_1 (hA : kJ A V) (v : kLV V) (r : kRW V R) {m p : Int} (hd : 1 ≤ d) (m0 : 1 ≤ m) (m1 : m ≤ 40) (p0 : 0 ≤ p) (p1 : p < 5) (l4 : Option Value) :
    ka_W (kp E) (d, (160, 13, [some (.ref (A 9 0)), some (iv m), some (iv p), some (iv 1), l4], []), (kHp J A V C R, c, l)) Q ↔ ka_W (kp E) (d, (160, 64, [some (.ref (A 9 0)), some (iv m), some (iv p), some (iv 1), l4], []), (kHp J A V C (ksb R (kb1 R m p (R 9 0 26 + 1))), c, l)) Q := by
  have B := r.i26
  obtain ⟨w, -⟩ := kfor (α := Unit) (n := R 9 0 26 + 1) (f := fun _ a => a) (inv := fun u _ => 1 ≤ u) (W := fun u _ => ka_W (kp E) (d, (160, 13, [some (.ref (A 9 0)), some (iv m), some (iv p), some (iv u), l4], []), (kHp J A V C (ksb R (kb1 R m p u)), c, l)) Q) (fun u _ hu u1 => by
    refine ⟨by omega, ?_⟩
    have rX := ksb_rw (B := kb1 R m p u) r
    have hn : ¬ kb1 R m p u u := fun z => by have := z.2.1; omega
    have B78 := r.a78 (j := u) (by omega) (by omega)
    have B80 := r.a80 (j := u) (by omega) (by omega)
    have B81 := r.a81 (j := u) (by omega) (by omega)
    have e9 : ksb R (kb1 R m p u) 9 0 26 = R 9 0 26 := by rw [ksb_ff (by decide) (by decide)]
    have e81 : ksb R (kb1 R m p u) 81 0 u = R 81 0 u := by rw [ksb_ff (by decide) (by decide)]
    have e78 := ksb_78f (R := R) hn
    have e80 := ksb_80f (R := R) hn
    have c1 : ¬ R 9 0 26 < u := by omega
    by_cases h : R 78 0 u = 1 ∧ R 80 0 u = m ∧ R 81 0 u = p
    · obtain ⟨h1, h2, h3⟩ := h
      have e : f161 (ksb R (kb1 R m p u)) u = ksb R (kb1 R m p (u + 1)) := by
        rw [ksb_add]
        apply ksb_c
        intro j
        constructor
        · rintro (z | rfl)
          · exact ⟨z.1, by have := z.2.1; omega, z.2.2⟩
          · exact ⟨u1, by omega, h1, h2, h3⟩
        · rintro ⟨z1, z2, z3⟩
          by_cases y : j = u
          · exact Or.inr y
          · exact Or.inl ⟨z1, by omega, z3⟩
      rw [r160_13]
      simp (disch := first | assumption | (unfold kR; decide) | exact klc_R | (unfold kR; omega) | omega | (unfold kL; omega) | exact kcat_null | exact kcat_ref _ | exact kcat_iv _) only [r160_14, r160_15, r160_18, r160_21, r160_22, r160_25, r160_26, r160_27, r160_28, r160_31, r160_32, r160_35, r160_36, r160_37, r160_38, r160_41, r160_42, r160_45, r160_46, r160_47, r160_48, r160_51, r160_52, r160_53, r160_56, r160_59, ho_9_26 hA v.l9, hg_9_26 hA v.l9, ho_9_28 hA v.l9, hg_9_28 hA v.l9, hoa_78 hA v.l78, hga_78 hA v.l78, ho_9_30 hA v.l9, hg_9_30 hA v.l9, hoa_80 hA v.l80, hga_80 hA v.l80, ho_9_31 hA v.l9, hg_9_31 hA v.l9, hoa_81 hA v.l81, hga_81 hA v.l81, ht_9 hA v.l9, true_and, and_true, kk1_i, kk1_r, kk1_n, kk1_0, kcat_iv, kcat_ref, kcat_null, kisR_ref, kisR_null, ksz_nil, ksz_iv, ksz_ref, ksz_null, ksz_lv, kfit_int, kfit_long, kfit_obj, kfit_objN, kfit_arr, kfit_arrN, knarI, knarZ0, knarZ1, kret_v, kret_n, kret_x, Nat.reduceAdd, Nat.reduceLeDiff, reduceCtorEq, Int.reduceLE, Int.reduceLT, Int.reduceEq, ite_true, ite_false, true_or, or_true, false_implies, true_implies, not_true_eq_false, not_false_eq_true, and_self, eq_self, klc_lt, klc_ge, klc_le, klc_gt, klc_eq, kmu_eq, kmu_f, kmu_i, kmu_j, e9, e78, e80, e81, c1, h1, h2, h3, j161 hA v, e, Nat.zero_le, hd]
    · have e : ksb R (kb1 R m p (u + 1)) = ksb R (kb1 R m p u) := by
        apply ksb_c
        intro j
        constructor
        · rintro ⟨z1, z2, z3⟩
          by_cases y : j = u
          · subst y; exact absurd z3 h
          · exact ⟨z1, by omega, z3⟩
        · rintro ⟨z1, z2, z3⟩
          exact ⟨z1, by omega, z3⟩
      rw [e, r160_13]
      by_cases h1 : R 78 0 u = 1
      · by_cases h2 : R 80 0 u = m
        · have h3 : ¬ R 81 0 u = p := fun z => h ⟨h1, h2, z⟩
          simp (disch := first | assumption | (unfold kR; decide) | exact klc_R | (unfold kR; omega) | omega | (unfold kL; omega) | exact kcat_null | exact kcat_ref _ | exact kcat_iv _) only [r160_14, r160_15, r160_18, r160_21, r160_22, r160_25, r160_26, r160_27, r160_28, r160_31, r160_32, r160_35, r160_36, r160_37, r160_38, r160_41, r160_42, r160_45, r160_46, r160_47, r160_48, r160_51, r160_52, r160_53, r160_56, r160_59, ho_9_26 hA v.l9, hg_9_26 hA v.l9, ho_9_28 hA v.l9, hg_9_28 hA v.l9, hoa_78 hA v.l78, hga_78 hA v.l78, ho_9_30 hA v.l9, hg_9_30 hA v.l9, hoa_80 hA v.l80, hga_80 hA v.l80, ho_9_31 hA v.l9, hg_9_31 hA v.l9, hoa_81 hA v.l81, hga_81 hA v.l81, ht_9 hA v.l9, true_and, and_true, kk1_i, kk1_r, kk1_n, kk1_0, kcat_iv, kcat_ref, kcat_null, kisR_ref, kisR_null, ksz_nil, ksz_iv, ksz_ref, ksz_null, ksz_lv, kfit_int, kfit_long, kfit_obj, kfit_objN, kfit_arr, kfit_arrN, knarI, knarZ0, knarZ1, kret_v, kret_n, kret_x, Nat.reduceAdd, Nat.reduceLeDiff, reduceCtorEq, Int.reduceLE, Int.reduceLT, Int.reduceEq, ite_true, ite_false, true_or, or_true, false_implies, true_implies, not_true_eq_false, not_false_eq_true, and_self, eq_self, klc_lt, klc_ge, klc_le, klc_gt, klc_eq, kmu_eq, kmu_f, kmu_i, kmu_j, e9, e78, e80, e81, c1, h1, h2, h3]
        · simp (disch := first | assumption | (unfold kR; decide) | exact klc_R | (unfold kR; omega) | omega | (unfold kL; omega) | exact kcat_null | exact kcat_ref _ | exact kcat_iv _) only [r160_14, r160_15, r160_18, r160_21, r160_22, r160_25, r160_26, r160_27, r160_28, r160_31, r160_32, r160_35, r160_36, r160_37, r160_38, r160_41, r160_42, r160_45, r160_46, r160_47, r160_48, r160_51, r160_52, r160_53, r160_56, r160_59, ho_9_26 hA v.l9, hg_9_26 hA v.l9, ho_9_28 hA v.l9, hg_9_28 hA v.l9, hoa_78 hA v.l78, hga_78 hA v.l78, ho_9_30 hA v.l9, hg_9_30 hA v.l9, hoa_80 hA v.l80, hga_80 hA v.l80, ho_9_31 hA v.l9, hg_9_31 hA v.l9, hoa_81 hA v.l81, hga_81 hA v.l81, ht_9 hA v.l9, true_and, and_true, kk1_i, kk1_r, kk1_n, kk1_0, kcat_iv, kcat_ref, kcat_null, kisR_ref, kisR_null, ksz_nil, ksz_iv, ksz_ref, ksz_null, ksz_lv, kfit_int, kfit_long, kfit_obj, kfit_objN, kfit_arr, kfit_arrN, knarI, knarZ0, knarZ1, kret_v, kret_n, kret_x, Nat.reduceAdd, Nat.reduceLeDiff, reduceCtorEq, Int.reduceLE, Int.reduceLT, Int.reduceEq, ite_true, ite_false, true_or, or_true, false_implies, true_implies, not_true_eq_false, not_false_eq_true, and_self, eq_self, klc_lt, klc_ge, klc_le, klc_gt, klc_eq, kmu_eq, kmu_f, kmu_i, kmu_j, e9, e78, e80, e81, c1, h1, h2]
      · simp (disch := first | assumption | (unfold kR; decide) | exact klc_R | (unfold kR; omega) | omega | (unfold kL; omega) | exact kcat_null | exact kcat_ref _ | exact kcat_iv _) only [r160_14, r160_15, r160_18, r160_21, r160_22, r160_25, r160_26, r160_27, r160_28, r160_31, r160_32, r160_35, r160_36, r160_37, r160_38, r160_41, r160_42, r160_45, r160_46, r160_47, r160_48, r160_51, r160_52, r160_53, r160_56, r160_59, ho_9_26 hA v.l9, hg_9_26 hA v.l9, ho_9_28 hA v.l9, hg_9_28 hA v.l9, hoa_78 hA v.l78, hga_78 hA v.l78, ho_9_30 hA v.l9, hg_9_30 hA v.l9, hoa_80 hA v.l80, hga_80 hA v.l80, ho_9_31 hA v.l9, hg_9_31 hA v.l9, hoa_81 hA v.l81, hga_81 hA v.l81, ht_9 hA v.l9, true_and, and_true, kk1_i, kk1_r, kk1_n, kk1_0, kcat_iv, kcat_ref, kcat_null, kisR_ref, kisR_null, ksz_nil, ksz_iv, ksz_ref, ksz_null, ksz_lv, kfit_int, kfit_long, kfit_obj, kfit_objN, kfit_arr, kfit_arrN, knarI, knarZ0, knarZ1, kret_v, kret_n, kret_x, Nat.reduceAdd, Nat.reduceLeDiff, reduceCtorEq, Int.reduceLE, Int.reduceLT, Int.reduceEq, ite_true, ite_false, true_or, or_true, false_implies, true_implies, not_true_eq_false, not_false_eq_true, and_self, eq_self, klc_lt, klc_ge, klc_le, klc_gt, klc_eq, kmu_eq, kmu_f, kmu_i, kmu_j, e9, e78, e80, e81, c1, h1]) (R 9 0 26).toNat 1 () (by omega) (by omega)
  have e0 : ksb R (kb1 R m p 1) = R := by
    rw [ksb_c (B' := fun _ => False) (fun j => ⟨fun z => by have h1 := z.1; have h2 := z.2.1; omega, False.elim⟩), ksb_0]
  rw [e0] at w
  have e9 : ksb R (kb1 R m p (R 9 0 26 + 1)) 9 0 26 = R 9 0 26 := by rw [ksb_ff (by decide) (by decide)]
  rw [w]
  simp (disch := first | assumption | (unfold kR; decide) | exact klc_R | (unfold kR; omega) | omega | (unfold kL; omega) | exact kcat_null | exact kcat_ref _ | exact kcat_iv _) only [r160_13, r160_14, r160_15, r160_18, r160_62, r160_63, ho_9_26 hA v.l9, hg_9_26 hA v.l9, true_and, and_true, kk1_i, kk1_r, kk1_n, kk1_0, kcat_iv, kcat_ref, kcat_null, kisR_ref, kisR_null, ksz_nil, ksz_iv, ksz_ref, ksz_null, ksz_lv, kfit_int, kfit_long, kfit_obj, kfit_objN, kfit_arr, kfit_arrN, knarI, knarZ0, knarZ1, kret_v, kret_n, kret_x, Nat.reduceAdd, Nat.reduceLeDiff, reduceCtorEq, Int.reduceLE, Int.reduceLT, Int.reduceEq, ite_true, ite_false, true_or, or_true, false_implies, true_implies, not_true_eq_false, not_false_eq_true, and_self, eq_self, klc_lt, klc_ge, klc_le, klc_gt, klc_eq, kmu_eq, kmu_f, kmu_i, kmu_j, e9, show R 9 0 26 < R 9 0 26 + 1 by omega]
/-- a pass: unit u, of the broken ones B and whether one was added -/
noncomputable def kps (R : ka_M) (u : Int) (a : (Int → Prop) × Int) : (Int → Prop) × Int :=
  @ite ((Int → Prop) × Int) (¬ a.1 u ∧ R 78 0 u = 2 ∧ a.1 (R 80 0 u)) (Classical.propDecidable _) (fun j => a.1 j ∨ j = u, 1) a
theorem j160_2 (hA : kJ A V) (v : kLV V) (r : kRW V R) (wh : kWh R) {m p : Int} (hd : 1 ≤ d) {B : Int → Prop} (more : Int) (l4 : Option Value) (hmore : more = 0 ∨ more = 1) (hm : more ≠ 0) :
    ka_W (kp E) (d, (160, 64, [some (.ref (A 9 0)), some (iv m), some (iv p), some (iv more), l4], []), (kHp J A V C (ksb R B), c, l)) Q ↔
    ka_W (kp E) (d, (160, 64, [some (.ref (A 9 0)), some (iv m), some (iv p), some (iv (kfd (kps R) (R 9 0 26).toNat 1 (B, 0)).2), some (iv (R 9 0 26 + 1))], []), (kHp J A V C (ksb R (kfd (kps R) (R 9 0 26).toNat 1 (B, 0)).1), c, l)) Q := by
  have B26 := r.i26
  obtain ⟨w, -, ww⟩ := kfor (n := R 9 0 26 + 1) (f := kps R) (inv := fun u a => 1 ≤ u ∧ (a.2 = 0 ∨ a.2 = 1)) (W := fun u a => ka_W (kp E) (d, (160, 73, [some (.ref (A 9 0)), some (iv m), some (iv p), some (iv a.2), some (iv u)], []), (kHp J A V C (ksb R a.1), c, l)) Q) (fun u a hu ⟨u1, a1⟩ => by
    have rX := ksb_rw (B := a.1) r
    have B78 := r.a78 (j := u) (by omega) (by omega)
    have e9 : ksb R a.1 9 0 26 = R 9 0 26 := by rw [ksb_ff (by decide) (by decide)]
    have c1 : ¬ R 9 0 26 < u := by omega
    by_cases h : ¬ a.1 u ∧ R 78 0 u = 2 ∧ a.1 (R 80 0 u)
    · rw [show kps R u a = (fun j => a.1 j ∨ j = u, 1) from if_pos h]
      obtain ⟨h1, h2, h3⟩ := h
      refine ⟨⟨by omega, Or.inr rfl⟩, ?_⟩
      have hw := wh u u1 (by omega) h2
      have e78 : ksb R a.1 78 0 u = 2 := (ksb_78f h1).trans h2
      have e80 : ksb R a.1 80 0 u = R 80 0 u := ksb_80f h1
      have e83 : ksb R a.1 78 0 (R 80 0 u) = 3 := ksb_78t h3
      have e := ksb_add (R := R) (B := a.1) (u := u)
      dsimp only
      rw [r160_73]
      simp (disch := first | assumption | (unfold kR; decide) | exact klc_R | (unfold kR; omega) | omega | (unfold kL; omega) | exact kcat_null | exact kcat_ref _ | exact kcat_iv _) only [r160_75, r160_76, r160_79, r160_82, r160_83, r160_86, r160_88, r160_89, r160_90, r160_93, r160_94, r160_97, r160_98, r160_101, r160_103, r160_104, r160_105, r160_106, r160_109, r160_112, r160_113, r160_115, r160_118, r160_119, r160_120, r160_123, ho_9_26 hA v.l9, hg_9_26 hA v.l9, ho_9_28 hA v.l9, hg_9_28 hA v.l9, hoa_78 hA v.l78, hga_78 hA v.l78, ho_9_30 hA v.l9, hg_9_30 hA v.l9, hoa_80 hA v.l80, hga_80 hA v.l80, ht_9 hA v.l9, true_and, and_true, kk1_i, kk1_r, kk1_n, kk1_0, kcat_iv, kcat_ref, kcat_null, kisR_ref, kisR_null, ksz_nil, ksz_iv, ksz_ref, ksz_null, ksz_lv, kfit_int, kfit_long, kfit_obj, kfit_objN, kfit_arr, kfit_arrN, knarI, knarZ0, knarZ1, kret_v, kret_n, kret_x, Nat.reduceAdd, Nat.reduceLeDiff, reduceCtorEq, Int.reduceLE, Int.reduceLT, Int.reduceEq, ite_true, ite_false, true_or, or_true, false_implies, true_implies, not_true_eq_false, not_false_eq_true, and_self, eq_self, klc_lt, klc_ge, klc_le, klc_gt, klc_eq, kmu_eq, kmu_f, kmu_i, kmu_j, e9, e78, e80, e83, c1, j161 hA v, e, Nat.zero_le, hd]
    · rw [show kps R u a = a from if_neg h]
      refine ⟨⟨by omega, a1⟩, ?_⟩
      rw [r160_73]
      by_cases h1 : a.1 u
      · have e78 : ksb R a.1 78 0 u = 3 := ksb_78t h1
        simp (disch := first | assumption | (unfold kR; decide) | exact klc_R | (unfold kR; omega) | omega | (unfold kL; omega) | exact kcat_null | exact kcat_ref _ | exact kcat_iv _) only [r160_75, r160_76, r160_79, r160_82, r160_83, r160_86, r160_88, r160_89, r160_90, r160_93, r160_94, r160_97, r160_98, r160_101, r160_103, r160_104, r160_105, r160_106, r160_109, r160_112, r160_113, r160_115, r160_118, r160_119, r160_120, r160_123, ho_9_26 hA v.l9, hg_9_26 hA v.l9, ho_9_28 hA v.l9, hg_9_28 hA v.l9, hoa_78 hA v.l78, hga_78 hA v.l78, ho_9_30 hA v.l9, hg_9_30 hA v.l9, hoa_80 hA v.l80, hga_80 hA v.l80, ht_9 hA v.l9, true_and, and_true, kk1_i, kk1_r, kk1_n, kk1_0, kcat_iv, kcat_ref, kcat_null, kisR_ref, kisR_null, ksz_nil, ksz_iv, ksz_ref, ksz_null, ksz_lv, kfit_int, kfit_long, kfit_obj, kfit_objN, kfit_arr, kfit_arrN, knarI, knarZ0, knarZ1, kret_v, kret_n, kret_x, Nat.reduceAdd, Nat.reduceLeDiff, reduceCtorEq, Int.reduceLE, Int.reduceLT, Int.reduceEq, ite_true, ite_false, true_or, or_true, false_implies, true_implies, not_true_eq_false, not_false_eq_true, and_self, eq_self, klc_lt, klc_ge, klc_le, klc_gt, klc_eq, kmu_eq, kmu_f, kmu_i, kmu_j, e9, e78, c1, show ¬ ((3:Int) = 2) by decide]
      · have e78 : ksb R a.1 78 0 u = R 78 0 u := ksb_78f h1
        have e80 : ksb R a.1 80 0 u = R 80 0 u := ksb_80f h1
        by_cases h2 : R 78 0 u = 2
        · have h3 : ¬ a.1 (R 80 0 u) := fun z => h ⟨h1, h2, z⟩
          have hw := wh u u1 (by omega) h2
          have e83 : ksb R a.1 78 0 (R 80 0 u) = R 78 0 (R 80 0 u) := ksb_78f h3
          have B83 := r.a78 (j := R 80 0 u) (by omega) (by omega)
          have hw3 := hw.2.2
          simp (disch := first | assumption | (unfold kR; decide) | exact klc_R | (unfold kR; omega) | omega | (unfold kL; omega) | exact kcat_null | exact kcat_ref _ | exact kcat_iv _) only [r160_75, r160_76, r160_79, r160_82, r160_83, r160_86, r160_88, r160_89, r160_90, r160_93, r160_94, r160_97, r160_98, r160_101, r160_103, r160_104, r160_105, r160_106, r160_109, r160_112, r160_113, r160_115, r160_118, r160_119, r160_120, r160_123, ho_9_26 hA v.l9, hg_9_26 hA v.l9, ho_9_28 hA v.l9, hg_9_28 hA v.l9, hoa_78 hA v.l78, hga_78 hA v.l78, ho_9_30 hA v.l9, hg_9_30 hA v.l9, hoa_80 hA v.l80, hga_80 hA v.l80, ht_9 hA v.l9, true_and, and_true, kk1_i, kk1_r, kk1_n, kk1_0, kcat_iv, kcat_ref, kcat_null, kisR_ref, kisR_null, ksz_nil, ksz_iv, ksz_ref, ksz_null, ksz_lv, kfit_int, kfit_long, kfit_obj, kfit_objN, kfit_arr, kfit_arrN, knarI, knarZ0, knarZ1, kret_v, kret_n, kret_x, Nat.reduceAdd, Nat.reduceLeDiff, reduceCtorEq, Int.reduceLE, Int.reduceLT, Int.reduceEq, ite_true, ite_false, true_or, or_true, false_implies, true_implies, not_true_eq_false, not_false_eq_true, and_self, eq_self, klc_lt, klc_ge, klc_le, klc_gt, klc_eq, kmu_eq, kmu_f, kmu_i, kmu_j, e9, e78, e80, e83, c1, h2, hw3]
        · simp (disch := first | assumption | (unfold kR; decide) | exact klc_R | (unfold kR; omega) | omega | (unfold kL; omega) | exact kcat_null | exact kcat_ref _ | exact kcat_iv _) only [r160_75, r160_76, r160_79, r160_82, r160_83, r160_86, r160_88, r160_89, r160_90, r160_93, r160_94, r160_97, r160_98, r160_101, r160_103, r160_104, r160_105, r160_106, r160_109, r160_112, r160_113, r160_115, r160_118, r160_119, r160_120, r160_123, ho_9_26 hA v.l9, hg_9_26 hA v.l9, ho_9_28 hA v.l9, hg_9_28 hA v.l9, hoa_78 hA v.l78, hga_78 hA v.l78, ho_9_30 hA v.l9, hg_9_30 hA v.l9, hoa_80 hA v.l80, hga_80 hA v.l80, ht_9 hA v.l9, true_and, and_true, kk1_i, kk1_r, kk1_n, kk1_0, kcat_iv, kcat_ref, kcat_null, kisR_ref, kisR_null, ksz_nil, ksz_iv, ksz_ref, ksz_null, ksz_lv, kfit_int, kfit_long, kfit_obj, kfit_objN, kfit_arr, kfit_arrN, knarI, knarZ0, knarZ1, kret_v, kret_n, kret_x, Nat.reduceAdd, Nat.reduceLeDiff, reduceCtorEq, Int.reduceLE, Int.reduceLT, Int.reduceEq, ite_true, ite_false, true_or, or_true, false_implies, true_implies, not_true_eq_false, not_false_eq_true, and_self, eq_self, klc_lt, klc_ge, klc_le, klc_gt, klc_eq, kmu_eq, kmu_f, kmu_i, kmu_j, e9, e78, c1, h2]) (R 9 0 26).toNat 1 (B, 0) (by omega) ⟨by omega, Or.inl rfl⟩
  dsimp only at w
  generalize kfd (kps R) (R 9 0 26).toNat 1 (B, 0) = X at *
  have e9 : ksb R X.1 9 0 26 = R 9 0 26 := by rw [ksb_ff (by decide) (by decide)]
  rw [r160_64]
  simp (disch := first | assumption | (unfold kR; decide) | exact klc_R | (unfold kR; omega) | omega | (unfold kL; omega) | exact kcat_null | exact kcat_ref _ | exact kcat_iv _) only [r160_65, r160_68, r160_69, r160_70, r160_71, true_and, and_true, kk1_i, kk1_r, kk1_n, kk1_0, kcat_iv, kcat_ref, kcat_null, kisR_ref, kisR_null, ksz_nil, ksz_iv, ksz_ref, ksz_null, ksz_lv, kfit_int, kfit_long, kfit_obj, kfit_objN, kfit_arr, kfit_arrN, knarI, knarZ0, knarZ1, kret_v, kret_n, kret_x, Nat.reduceAdd, Nat.reduceLeDiff, reduceCtorEq, Int.reduceLE, Int.reduceLT, Int.reduceEq, ite_true, ite_false, true_or, or_true, false_implies, true_implies, not_true_eq_false, not_false_eq_true, and_self, eq_self, klc_lt, klc_ge, klc_le, klc_gt, klc_eq, kmu_eq, kmu_f, kmu_i, kmu_j, hm, w]
  simp (disch := first | assumption | (unfold kR; decide) | exact klc_R | (unfold kR; omega) | omega | (unfold kL; omega) | exact kcat_null | exact kcat_ref _ | exact kcat_iv _) only [r160_73, r160_75, r160_76, r160_79, r160_126, ho_9_26 hA v.l9, hg_9_26 hA v.l9, true_and, and_true, kk1_i, kk1_r, kk1_n, kk1_0, kcat_iv, kcat_ref, kcat_null, kisR_ref, kisR_null, ksz_nil, ksz_iv, ksz_ref, ksz_null, ksz_lv, kfit_int, kfit_long, kfit_obj, kfit_objN, kfit_arr, kfit_arrN, knarI, knarZ0, knarZ1, kret_v, kret_n, kret_x, Nat.reduceAdd, Nat.reduceLeDiff, reduceCtorEq, Int.reduceLE, Int.reduceLT, Int.reduceEq, ite_true, ite_false, true_or, or_true, false_implies, true_implies, not_true_eq_false, not_false_eq_true, and_self, eq_self, klc_lt, klc_ge, klc_le, klc_gt, klc_eq, kmu_eq, kmu_f, kmu_i, kmu_j, e9, show R 9 0 26 < R 9 0 26 + 1 by omega]
/-- what a pass does to the set -/
theorem kps_o {m p : Int} {B : Int → Prop} (hB : ∀ j, B j → 1 ≤ j ∧ j ≤ R 9 0 26 ∧ kbs R m p j) (h26 : 0 ≤ R 9 0 26) :
    let X := kfd (kps R) (R 9 0 26).toNat 1 (B, 0)
    (∀ j, B j → X.1 j) ∧ (∀ j, X.1 j → 1 ≤ j ∧ j ≤ R 9 0 26 ∧ kbs R m p j) ∧ (X.2 = 0 ∨ X.2 = 1) ∧ (X.2 = 0 → ∀ u, 1 ≤ u → u ≤ R 9 0 26 → R 78 0 u = 2 → B (R 80 0 u) → B u) ∧ (X.2 = 1 → kcn B (R 9 0 26).toNat + 1 ≤ kcn X.1 (R 9 0 26).toNat) ∧ (X.2 = 0 → X.1 = B) := by
  have z := kfd_inv (P := fun u a => (∀ j, B j → a.1 j) ∧ (∀ j, a.1 j → 1 ≤ j ∧ j ≤ R 9 0 26 ∧ kbs R m p j) ∧ (a.2 = 0 ∨ a.2 = 1) ∧ (a.2 = 0 → a.1 = B ∧ ∀ q, 1 ≤ q → q < u → R 78 0 q = 2 → B (R 80 0 q) → B q) ∧ (a.2 = 1 → ∃ q, 1 ≤ q ∧ q ≤ R 9 0 26 ∧ ¬ B q ∧ a.1 q)) (f := kps R) (R 9 0 26).toNat 1 (B, 0) (fun u a u1 u2 ⟨y1, y2, y3, y4, y5⟩ => by
    have u3 : u ≤ R 9 0 26 := by
      clear y3 y4 y5
      omega
    by_cases h : ¬ a.1 u ∧ R 78 0 u = 2 ∧ a.1 (R 80 0 u)
    · rw [show kps R u a = (fun j => a.1 j ∨ j = u, 1) from if_pos h]
      obtain ⟨h1, h2, h3⟩ := h
      refine ⟨fun j hj => Or.inl (y1 j hj), fun j hj => ?_, Or.inr rfl, fun z => absurd z (show ¬ (1:Int) = 0 by decide), fun _ => ⟨u, u1, u3, fun z => h1 (y1 u z), Or.inr rfl⟩⟩
      rcases hj with hj | rfl
      · exact y2 j hj
      · exact ⟨u1, u3, kbs.bound j h2 (y2 _ h3).2.2⟩
    · rw [show kps R u a = a from if_neg h]
      refine ⟨y1, y2, y3, fun z => ?_, y5⟩
      obtain ⟨z1, z2⟩ := y4 z
      refine ⟨z1, fun q q1 q2 q3 q4 => ?_⟩
      by_cases e : q = u
      · subst e
        rw [z1] at h
        exact Classical.byContradiction (fun y => h ⟨y, q3, q4⟩)
      · exact z2 q q1 (by omega) q3 q4) ⟨fun j hj => hj, hB, Or.inl rfl, fun _ => ⟨rfl, fun q q1 q2 => by omega⟩, fun z => absurd z (show ¬ (0:Int) = 1 by decide)⟩
  dsimp only at z ⊢
  obtain ⟨z1, z2, z3, z4, z5⟩ := z
  refine ⟨z1, z2, z3, fun y u u1 u2 => (z4 y).2 u u1 (by omega), fun y => ?_, fun y => (z4 y).1⟩
  obtain ⟨q, q1, q2, q3, q4⟩ := z5 y
  exact kcn_lt (R 9 0 26).toNat (fun j _ _ h => z1 j h) q1 (by omega) q3 q4
theorem j160_3 (hA : kJ A V) (v : kLV V) (r : kRW V R) (wh : kWh R) {m p : Int} (hd : 1 ≤ d) :
    ∀ (n : Nat) (B : Int → Prop) (l4 : Option Value), (∀ j, B j → 1 ≤ j ∧ j ≤ R 9 0 26 ∧ kbs R m p j) → (∀ u, 1 ≤ u → u ≤ R 9 0 26 → R 78 0 u = 1 → R 80 0 u = m → R 81 0 u = p → B u) → R 9 0 26 ≤ kcn B (R 9 0 26).toNat + n →
    (ka_W (kp E) (d, (160, 64, [some (.ref (A 9 0)), some (iv m), some (iv p), some (iv 1), l4], []), (kHp J A V C (ksb R B), c, l)) Q ↔ Q (.inl none) (kHp J A V C (ksb R (fun u => 1 ≤ u ∧ u ≤ R 9 0 26 ∧ kbs R m p u)), c, l))
  | n, B, l4, hB, hH, hn => by
    have B26 := r.i26
    obtain ⟨o1, o2, o3, o4, o5, o6⟩ := kps_o (m := m) (p := p) hB B26.1
    rw [j160_2 (m := m) (p := p) hA v r wh hd 1 l4 (Or.inr rfl) (by decide)]
    generalize kfd (kps R) (R 9 0 26).toNat 1 (B, 0) = X at *
    rcases o3 with h | h
    · have hx := o6 h
      have e : ksb R X.1 = ksb R (fun u => 1 ≤ u ∧ u ≤ R 9 0 26 ∧ kbs R m p u) := by
        apply ksb_c
        intro j
        refine ⟨o2 j, ?_⟩
        rintro ⟨j1, j2, j3⟩
        rw [hx]
        exact j3 (fun u => 1 ≤ u → u ≤ R 9 0 26 → B u) (fun u a b c y1 y2 => hH u y1 y2 a b c) (fun u a ih y1 y2 => by
          have hw := wh u y1 y2 a
          exact o4 h u y1 y2 a (ih hw.1 hw.2.1)) j1 j2
      rw [← e, h]
      simp (disch := first | assumption | (unfold kR; decide) | exact klc_R | (unfold kR; omega) | omega | (unfold kL; omega) | exact kcat_null | exact kcat_ref _ | exact kcat_iv _) only [r160_64, r160_65, r160_129, true_and, and_true, kk1_i, kk1_r, kk1_n, kk1_0, kcat_iv, kcat_ref, kcat_null, kisR_ref, kisR_null, ksz_nil, ksz_iv, ksz_ref, ksz_null, ksz_lv, kfit_int, kfit_long, kfit_obj, kfit_objN, kfit_arr, kfit_arrN, knarI, knarZ0, knarZ1, kret_v, kret_n, kret_x, Nat.reduceAdd, Nat.reduceLeDiff, reduceCtorEq, Int.reduceLE, Int.reduceLT, Int.reduceEq, ite_true, ite_false, true_or, or_true, false_implies, true_implies, not_true_eq_false, not_false_eq_true, and_self, eq_self, klc_lt, klc_ge, klc_le, klc_gt, klc_eq, kmu_eq, kmu_f, kmu_i, kmu_j]
    · have hc := o5 h
      cases n with
      | zero =>
        have := (kcn_b X.1 (R 9 0 26).toNat).2
        omega
      | succ n =>
        rw [h]
        exact j160_3 hA v r wh hd n X.1 _ o2 (fun u a b c d e => o1 u (hH u a b c d e)) (by omega)
theorem kbs_mu {m p q x : Int} {u : Int} : kbs (kmu R 75 0 q x) m p u ↔ kbs R m p u := by
  have e78 : kmu R 75 0 q x 78 = R 78 := kmu_ff (by decide)
  have e80 : kmu R 75 0 q x 80 = R 80 := kmu_ff (by decide)
  have e81 : kmu R 75 0 q x 81 = R 81 := kmu_ff (by decide)
  unfold kbs
  rw [e78, e80, e81]
theorem j160 (hA : kJ A V) (v : kLV V) (r : kRW V R) (wh : kWh R) {m p : Int} (hd : 1 ≤ d) (m0 : 1 ≤ m) (m1 : m ≤ 40) (p0 : 0 ≤ p) (p1 : p < 5) :
    ka_W (kp E) (d, (160, 0, [some (.ref (A 9 0)), some (iv m), some (iv p), none, none], []), (kHp J A V C R, c, l)) Q ↔ Q (.inl none) (kHp J A V C (f160 R m p), c, l) := by
  have B26 := r.i26
  have r1 : kRW V (kmu R 75 0 (5 * m + p) 0) := r.pa75 (by omega) (by omega)
  have e26 : kmu R 75 0 (5 * m + p) 0 9 0 26 = R 9 0 26 := kmu_f (by decide)
  have e78 : kmu R 75 0 (5 * m + p) 0 78 = R 78 := kmu_ff (by decide)
  have e80 : kmu R 75 0 (5 * m + p) 0 80 = R 80 := kmu_ff (by decide)
  have e81 : kmu R 75 0 (5 * m + p) 0 81 = R 81 := kmu_ff (by decide)
  have wh1 : kWh (kmu R 75 0 (5 * m + p) 0) := by
    unfold kWh
    rw [e26, e78, e80]
    exact wh
  have z := j160_3 (E := E) (d := d) (c := c) (l := l) (Q := Q) (J := J) (C := C) hA v r1 wh1 (m := m) (p := p) hd (R 9 0 26).toNat (kb1 (kmu R 75 0 (5 * m + p) 0) m p (R 9 0 26 + 1)) none (fun j hj => ⟨hj.1, by rw [e26]; have := hj.2.1; omega, kbs.held j hj.2.2.1 hj.2.2.2.1 hj.2.2.2.2⟩) (fun u a b c' d' e => ⟨a, by rw [e26] at b; omega, c', d', e⟩) (by have := (kcn_b (kb1 (kmu R 75 0 (5 * m + p) 0) m p (R 9 0 26 + 1)) (R 9 0 26).toNat).1; rw [e26]; omega)
  have y := j160_1 (E := E) (d := d) (c := c) (l := l) (Q := Q) (J := J) (C := C) hA v r1 (m := m) (p := p) hd m0 m1 p0 p1 none
  rw [e26] at y z
  have e : ksb (kmu R 75 0 (5 * m + p) 0) (fun u => 1 ≤ u ∧ u ≤ R 9 0 26 ∧ kbs (kmu R 75 0 (5 * m + p) 0) m p u) = f160 R m p := by
    unfold f160
    apply ksb_c
    intro j
    rw [kbs_mu]
  rw [e] at z
  rw [← z, ← y]
  simp (disch := first | assumption | (unfold kR; decide) | exact klc_R | (unfold kR; omega) | omega | (unfold kL; omega) | exact kcat_null | exact kcat_ref _ | exact kcat_iv _) only [r160_0, r160_1, r160_4, r160_5, r160_6, r160_7, r160_8, r160_9, r160_10, r160_11, r160_12, ho_9_25 hA v.l9, hg_9_25 hA v.l9, hoa_75 hA v.l75, hga_75 hA v.l75, hpa_75 hA v.l75, true_and, and_true, kk1_i, kk1_r, kk1_n, kk1_0, kcat_iv, kcat_ref, kcat_null, kisR_ref, kisR_null, ksz_nil, ksz_iv, ksz_ref, ksz_null, ksz_lv, kfit_int, kfit_long, kfit_obj, kfit_objN, kfit_arr, kfit_arrN, knarI, knarZ0, knarZ1, kret_v, kret_n, kret_x, Nat.reduceAdd, Nat.reduceLeDiff, reduceCtorEq, Int.reduceLE, Int.reduceLT, Int.reduceEq, ite_true, ite_false, true_or, or_true, false_implies, true_implies, not_true_eq_false, not_false_eq_true, and_self, eq_self, klc_lt, klc_ge, klc_le, klc_gt, klc_eq, kmu_eq, kmu_f, kmu_i, kmu_j]
end
