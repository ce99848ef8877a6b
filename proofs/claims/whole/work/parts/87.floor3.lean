/-! The floor: fail, who is first, sums. -/
/-- a bound unit's whole is there, stands behind it and is not broken -/
def kU2 (R : ka_M) : Prop := ∀ u, 1 ≤ u → u ≤ R 9 0 26 → R 78 0 u = 2 → u < R 80 0 u ∧ R 80 0 u ≤ R 9 0 26 ∧ R 78 0 (R 80 0 u) ≠ 3
section
variable {E : Nat × Nat} {d c l : Nat} {s : ka_S} {h : ka_H} {Q : ka_Q} {J : ka_H} {A : ka_A} {V : ka_V} {C R X : ka_M}
theorem kU2.wh (h : kU2 X) : kWh X := fun u a b c' => by
  obtain ⟨h1, h2, h3⟩ := h u a b c'
  exact ⟨by omega, h2, h3⟩
theorem kbs_inv {m p u : Int} (h : kbs X m p u) : (X 78 0 u = 1 ∧ X 80 0 u = m ∧ X 81 0 u = p) ∨ (X 78 0 u = 2 ∧ kbs X m p (X 80 0 u)) := by
  have := h (fun u => ((X 78 0 u = 1 ∧ X 80 0 u = m ∧ X 81 0 u = p) ∨ (X 78 0 u = 2 ∧ kbs X m p (X 80 0 u))) ∧ kbs X m p u) (fun u a b c' => ⟨Or.inl ⟨a, b, c'⟩, kbs.held u a b c'⟩) (fun u a b => ⟨Or.inr ⟨a, b.2⟩, kbs.bound u a b.2⟩)
  exact this.1
/-- those above i that break -/
def kbB (X : ka_M) (m p i : Int) : Int → Prop := fun j => i < j ∧ j ≤ X 9 0 26 ∧ kbs X m p j
theorem ksb_ud {B : Int → Prop} {u : Int} : kUd (ksb X B) (ksb X (fun j => B j ∨ j = u)) u := by
  refine ⟨?_, ?_, fun j hj => ⟨?_, ?_, ?_⟩⟩
  · rw [ksb_ff (by decide) (by decide), ksb_ff (by decide) (by decide)]
  · rw [ksb_ff (by decide) (by decide), ksb_ff (by decide) (by decide)]
  · by_cases e : B j
    · rw [ksb_78t (Or.inl e), ksb_78t e]
    · rw [ksb_78f (fun z => z.elim e hj), ksb_78f e]
  · by_cases e : B j
    · rw [ksb_80t (Or.inl e), ksb_80t e]
    · rw [ksb_80f (fun z => z.elim e hj), ksb_80f e]
  · rw [ksb_ff (by decide) (by decide), ksb_ff (by decide) (by decide)]
/-- a unit breaks on both sides -/
theorem kRF_br (rw : kRW V X) {m p u : Int} {B : Int → Prop} (F : kRF V (kmu C 24 m p (khu (ksb X B) m p)) (ksb X B)) (u1 : 1 ≤ u) (u2 : u ≤ X 9 0 26) (hB : ¬ B u) (h : (X 78 0 u = 1 ∧ X 80 0 u = m ∧ X 81 0 u = p) ∨ X 78 0 u = 2) :
    kRF V (kmu (g116 C u 3) 24 m p (khu (ksb X (fun j => B j ∨ j = u)) m p)) (ksb X (fun j => B j ∨ j = u)) := by
  have ud : kUd (ksb X B) (ksb X (fun j => B j ∨ j = u)) u := ksb_ud
  have x26 : ksb X B 9 0 26 = X 9 0 26 := by rw [ksb_ff (by decide) (by decide)]
  have hu := fun m' p' => khu_u ud u1 (by rw [x26]; exact u2) m' p'
  have h9 := fun g' => f149_u ud u1 (by rw [x26]; exact u2) g'
  obtain ⟨o1, o2, o3, o4, o5, o6, o7⟩ := g116_o (C := C) (u := u) (x := 3)
  have F' := F
  obtain ⟨F1, F2, F3, F4, F5, F6, F7, F8⟩ := F'
  have e78 : ksb X (fun j => B j ∨ j = u) 78 0 u = 3 := ksb_78t (Or.inr rfl)
  have d78 : ksb X B 78 0 u = X 78 0 u := ksb_78f hB
  have d80 : ksb X B 80 0 u = X 80 0 u := ksb_80f hB
  have d81 : ksb X B 81 0 u = X 81 0 u := by rw [ksb_ff (by decide) (by decide)]
  refine kRF_unit F u1 (by rw [x26]; exact u2) (by rw [d78]; omega) (fun f a b c' => by rw [ksb_ff a b, ksb_ff a b]) ud (fun f a b c' => ?_) (fun u' a => ?_) (fun j a => ?_) ?_ ?_ ?_ ?_ (fun g' a b => ?_) (fun m' p' a b a' b' z => ?_)
  · rw [kmu_ff b, o1 f a, kmu_ff b]
  · rw [kmu_ff (by decide), o2 u' a, kmu_ff (by decide)]
  · rw [kmu_f (by decide), o3 j a, kmu_f (by decide)]
  · rw [kmu_f (by decide), o4, e78]
  · rw [kmu_f (by decide), o5, e78, if_neg (by decide)]
  · rw [kmu_f (by decide), o6, e78, if_neg (by decide)]
  · rw [kmu_f (by decide), o7, e78, if_neg (by decide)]
  · have F8' := (F8 g' a b).2
    rw [kmu_f (by decide)] at F8'
    rw [h9 g', e78, ← F8', kmu_f (by decide), o1 29 (by decide), d78, kb_f (show ¬ (ksb X B 77 0 u = g' ∧ (3:Int) = 0) by omega), kb_f (show ¬ (ksb X B 77 0 u = g' ∧ X 78 0 u = 0) by omega)]
    omega
  · by_cases y : m' = m ∧ p' = p
    · rw [y.1, y.2, kmu_eq]
    · have F6' := (F6 m' p' a b a' b').2.2.2.1 z
      have e24 : ∀ x, kmu C 24 m p x 24 m' p' = C 24 m' p' := by
        intro x
        unfold kmu
        rw [if_neg (fun w => y ⟨w.2.1, w.2.2⟩)]
      have e24' : ∀ x, kmu (g116 C u 3) 24 m p x 24 m' p' = C 24 m' p' := by
        intro x
        have : kmu (g116 C u 3) 24 m p x 24 m' p' = g116 C u 3 24 m' p' := by
          unfold kmu
          rw [if_neg (fun w => y ⟨w.2.1, w.2.2⟩)]
        rw [this, o1 24 (by decide)]
      rw [e24] at F6'
      rw [e24', hu m' p', ← F6', e78, d78, d80, d81, kb_f (show ¬ ((3:Int) = 1 ∧ _ ∧ _) from fun w => absurd w.1 (by decide)), kb_f (show ¬ (X 78 0 u = 1 ∧ X 80 0 u = m' ∧ X 81 0 u = p') from fun w => y ⟨by omega, by omega⟩)]
      omega
theorem c71_l (hA : kJ A V) (v : kLV V) (rw : kRW V X) (hU : kU1 X) (hU2 : kU2 X) {m p : Int} (hd : 6 ≤ d) (m0 : 1 ≤ m) (m1 : m ≤ X 9 0 15) (p0 : 0 ≤ p) (p5 : p < 5) (hm : V 4 m) :
    ∀ (n : Nat) (C : ka_M) (l4 : Option Value), (n : Int) ≤ X 9 0 26 → kRF V (kmu C 24 m p (khu (ksb X (kbB X m p n)) m p)) (ksb X (kbB X m p n)) →
    (∀ C', kFl C C' → C' 24 = C 24 → kRF V (kmu C' 24 m p (khu (ksb X (kbB X m p 0)) m p)) (ksb X (kbB X m p 0)) → ka_W (kp E) (d, (71, 71, [some (.ref (A 2 0)), some (.ref (A 4 m)), some (iv p), some (iv (-1)), l4], []), (kHp J A V C' R, c, l)) Q) →
    (∀ C', ∀ a, kFl C C' → C' 24 = C 24 → kRF V (kmu C' 24 m p (khu (ksb X (kbB X m p 0)) m p)) (ksb X (kbB X m p 0)) → ka_W (kp E) (d, (71, 71, [some (.ref (A 2 0)), some (.ref (A 4 m)), some (iv p), some (iv (-1)), some (.ref a)], []), (kHp J A V C' R, c, l)) Q) →
    ka_W (kp E) (d, (71, 24, [some (.ref (A 2 0)), some (.ref (A 4 m)), some (iv p), some (iv ((n : Int) - 1)), l4], []), (kHp J A V C R, c, l)) Q
  | 0, C, l4, hn, F, H, H' => by
    have := H C kFl_rfl rfl F
    have e : ((0 : Nat) : Int) - 1 = -1 := rfl
    rw [e]
    simp (disch := first | assumption | (unfold kR; decide) | exact klc_R | (unfold kR; omega) | omega | (unfold kL; omega) | exact kcat_null | exact kcat_ref _ | exact kcat_iv _) only [r71_24, r71_25, true_and, and_true, kk1_i, kk1_r, kk1_n, kk1_0, kcat_iv, kcat_ref, kcat_null, kisR_ref, kisR_null, ksz_nil, ksz_iv, ksz_ref, ksz_null, ksz_lv, kfit_int, kfit_long, kfit_obj, kfit_objN, kfit_arr, kfit_arrN, knarI, knarZ0, knarZ1, kret_v, kret_n, kret_x, Nat.reduceAdd, Nat.reduceLeDiff, reduceCtorEq, Int.reduceLE, Int.reduceLT, Int.reduceEq, ite_true, ite_false, true_or, or_true, false_implies, true_implies, not_true_eq_false, not_false_eq_true, and_self, eq_self, klc_lt, klc_ge, klc_le, klc_gt, klc_eq, kmu_eq, kmu_f, kmu_i, kmu_j]
    exact this
  | n + 1, C, l4, hn, F, H, H' => by
    have B26 := rw.i26
    have F' := F
    obtain ⟨F1, F2, F3, F4, F5, F6, F7, F8⟩ := F'
    have x9 : ksb X (kbB X m p ((n + 1 : Nat) : Int)) 9 = X 9 := ksb_ff (by decide) (by decide)
    rw [kmu_f (by decide), x9] at F3 F4
    have F2' : kLs V C 2 := F2.c (kmu_ff (by decide)).symm (kmu_ff (by decide)).symm
    have v102 : V 10 2 := v.2.2.2
    have ei : ((n + 1 : Nat) : Int) - 1 = n := by omega
    have ei2 : ((n + 1 : Nat) : Int) = (n : Int) + 1 := by omega
    rw [ei2] at F F7 F5 hn
    rw [ei]
    obtain ⟨U1, U2, U3, U4, U5, U6, U7, U8, U9⟩ := F7 ((n : Int) + 1) (by omega) (by rw [ksb_ff (by decide) (by decide)]; omega)
    have hB : ¬ kbB X m p ((n : Int) + 1) ((n : Int) + 1) := fun z => by have := z.1; omega
    rw [Int.add_sub_cancel, kmu_f (show (33:Nat) ≠ 24 by decide), kmu_f (show (10:Nat) ≠ 24 by decide)] at U2
    rw [kmu_f (by decide), ksb_78f hB] at U6 U7 U8 U9
    rw [ksb_80f hB] at U7 U9
    rw [ksb_ff (show 81 ≠ 78 by decide) (show 81 ≠ 80 by decide)] at U8
    have B78 := rw.a78 (j := (n : Int) + 1) (by omega) (by omega)
    have B81 := rw.a81 (j := (n : Int) + 1) (by omega) (by omega)
    have B80 := rw.a80 (j := (n : Int) + 1) (by omega) (by omega)
    have q182 := fun {Q} => c182_2 (E := E) (d := d - 1) (c := c) (l := l) (Q := Q) (J := J) (R := R) hA v F2' (x := n) (y := (n : Int) + 1) (by omega) (by omega) (by omega) U2 (by omega)
    have hv4 : 0 ≤ C 8 ((n : Int) + 1) 4 → V 4 (C 8 ((n : Int) + 1) 4) := by
      intro z
      rw [U7] at z ⊢
      by_cases y : X 78 0 ((n : Int) + 1) = 1
      · rw [if_pos y]
        have := hU _ (by omega) (by omega) y
        exact (F5 _ this.1 (by rw [ksb_ff (by decide) (by decide)]; exact this.2)).1
      · rw [if_neg y] at z
        omega
    have hk5 : kR (C 8 ((n : Int) + 1) 5) := by
      rw [U8]
      unfold kR
      split <;> omega
    have q111 := fun {Q} => c111 (E := E) (d := d - 1) (c := c) (l := l) (Q := Q) (J := J) (R := R) hA (u := (n : Int) + 1) (m := m) (p := p) U1 hm (by omega) hv4 (by unfold kR; omega) hk5
    have hc : (C 8 ((n : Int) + 1) 4 = m ∧ C 8 ((n : Int) + 1) 5 = p) ↔ (X 78 0 ((n : Int) + 1) = 1 ∧ X 80 0 ((n : Int) + 1) = m ∧ X 81 0 ((n : Int) + 1) = p) := by
      rw [U7, U8]
      by_cases y : X 78 0 ((n : Int) + 1) = 1
      · rw [if_pos y, if_pos y]; simp [y]
      · rw [if_neg y, if_neg y]
        constructor
        · rintro ⟨a, b⟩; omega
        · rintro ⟨a, b⟩; exact absurd a y
    -- is its whole broken
    have hw : 0 ≤ C 8 ((n : Int) + 1) 6 → V 8 (C 8 ((n : Int) + 1) 6) ∧ 1 ≤ C 8 ((n : Int) + 1) 6 ∧ C 8 ((n : Int) + 1) 6 ≤ X 9 0 26 := by
      intro z
      rw [U9] at z ⊢
      by_cases y : X 78 0 ((n : Int) + 1) = 2
      · rw [if_pos y]
        have := hU2 _ (by omega) (by omega) y
        exact ⟨(F7 _ (by omega) (by rw [ksb_ff (by decide) (by decide)]; exact this.2.1)).1, by omega, this.2.1⟩
      · rw [if_neg y] at z
        omega
    have hs6 : kR (C 8 (C 8 ((n : Int) + 1) 6) 3) ∨ ¬ 0 ≤ C 8 ((n : Int) + 1) 6 := by
      by_cases z : 0 ≤ C 8 ((n : Int) + 1) 6
      · obtain ⟨_, z1, z2⟩ := hw z
        have := (F7 _ z1 (by rw [ksb_ff (by decide) (by decide)]; exact z2)).2.2.2.2.2.1
        rw [kmu_f (by decide)] at this
        have B := (ksb_rw rw (B := kbB X m p ((n : Int) + 1))).a78 (j := C 8 ((n : Int) + 1) 6) (by omega) (by omega)
        left
        rw [this]
        unfold kR
        omega
      · exact Or.inr z
    have hbb : ¬ (X 78 0 ((n : Int) + 1) = 1 ∧ X 80 0 ((n : Int) + 1) = m ∧ X 81 0 ((n : Int) + 1) = p) → ((0 ≤ C 8 ((n : Int) + 1) 6 ∧ C 8 (C 8 ((n : Int) + 1) 6) 3 = 3) ↔ kbs X m p ((n : Int) + 1)) := by
      intro hh
      constructor
      · rintro ⟨z, z3⟩
        obtain ⟨_, z1, z2⟩ := hw z
        have e3 := (F7 _ z1 (by rw [ksb_ff (by decide) (by decide)]; exact z2)).2.2.2.2.2.1
        rw [kmu_f (by decide), z3] at e3
        rw [U9] at z z1 z2 e3
        by_cases y : X 78 0 ((n : Int) + 1) = 2
        · rw [if_pos y] at z z1 z2 e3
          have w := hU2 _ (by omega) (by omega) y
          by_cases q : kbB X m p ((n : Int) + 1) (X 80 0 ((n : Int) + 1))
          · exact kbs.bound _ y q.2.2
          · rw [ksb_78f q] at e3
            exact absurd e3.symm w.2.2
        · rw [if_neg y] at z
          omega
      · intro z
        rcases kbs_inv z with y | ⟨y1, y2⟩
        · exact absurd y hh
        · have w := hU2 _ (by omega) (by omega) y1
          have e6 : C 8 ((n : Int) + 1) 6 = X 80 0 ((n : Int) + 1) := by rw [U9, if_pos y1]
          have e3 := (F7 (X 80 0 ((n : Int) + 1)) (by omega) (by rw [ksb_ff (by decide) (by decide)]; exact w.2.1)).2.2.2.2.2.1
          rw [kmu_f (by decide), ksb_78t ⟨w.1, w.2.1, y2⟩] at e3
          exact ⟨by omega, by rw [e6]; exact e3⟩
    have hstep : kbs X m p ((n : Int) + 1) → (fun j => kbB X m p ((n : Int) + 1) j ∨ j = (n : Int) + 1) = kbB X m p n := by
      intro z
      funext j
      apply propext
      constructor
      · rintro (⟨a, b, c'⟩ | rfl)
        · exact ⟨by omega, b, c'⟩
        · exact ⟨by omega, by omega, z⟩
      · rintro ⟨a, b, c'⟩
        by_cases e : j = (n : Int) + 1
        · exact Or.inr e
        · exact Or.inl ⟨by omega, b, c'⟩
    have hsame : ¬ kbs X m p ((n : Int) + 1) → kbB X m p ((n : Int) + 1) = kbB X m p n := by
      intro z
      funext j
      apply propext
      constructor
      · rintro ⟨a, b, c'⟩; exact ⟨by omega, b, c'⟩
      · rintro ⟨a, b, c'⟩
        by_cases e : j = (n : Int) + 1
        · rw [e] at c'; exact absurd c' z
        · exact ⟨by omega, b, c'⟩
    have q116 := fun {Q} => c116 (E := E) (d := d - 1) (c := c) (l := l) (Q := Q) (J := J) (C := C) (R := R) hA (u := (n : Int) + 1) (x := 3) U1
    have hfl : kFl C (g116 C ((n : Int) + 1) 3) := by
      unfold g116
      exact (((kFl_rfl.mu (by omega)).mu (by omega)).mu (by omega)).mu (by omega)
    have h24 : g116 C ((n : Int) + 1) 3 24 = C 24 := g116_o.1 24 (by decide)
    have ihb : ∀ (hk : kbs X m p ((n : Int) + 1)), ka_W (kp E) (d, (71, 24, [some (.ref (A 2 0)), some (.ref (A 4 m)), some (iv p), some (iv ((n : Int) + -1)), some (.ref (A 8 ((n : Int) + 1)))], []), (kHp J A V (g116 C ((n : Int) + 1) 3) R, c, l)) Q := by
      intro hk
      have L := kRF_br rw F (by omega) (by omega) hB ((kbs_inv hk).elim Or.inl (fun z => Or.inr z.1))
      rw [hstep hk] at L
      have := c71_l hA v rw hU hU2 hd m0 m1 p0 p5 hm n (g116 C ((n : Int) + 1) 3) (some (.ref (A 8 ((n : Int) + 1)))) (by omega) L (fun C' h1 h2 h3 => H' C' _ (hfl.trans h1) (h2.trans h24) h3) (fun C' a h1 h2 h3 => H' C' a (hfl.trans h1) (h2.trans h24) h3)
      exact this
    rw [r71_24]
    by_cases h1 : X 78 0 ((n : Int) + 1) = 1 ∧ X 80 0 ((n : Int) + 1) = m ∧ X 81 0 ((n : Int) + 1) = p
    · have ih := ihb (kbs.held _ h1.1 h1.2.1 h1.2.2)
      simp (disch := first | assumption | (unfold kR; decide) | exact klc_R | (unfold kR; omega) | omega | (unfold kL; omega) | exact kcat_null | exact kcat_ref _ | exact kcat_iv _) only [r71_25, r71_28, r71_29, r71_32, r71_33, r71_36, r71_39, r71_41, r71_43, r71_44, r71_45, r71_48, r71_51, r71_53, r71_56, r71_59, r71_61, r71_62, r71_65, r71_68, ho_2_1 hA v.l2, hg_2_1 hA v.l2, ht_10 hA, ht_8 hA, true_and, and_true, kk1_i, kk1_r, kk1_n, kk1_0, kcat_iv, kcat_ref, kcat_null, kisR_ref, kisR_null, ksz_nil, ksz_iv, ksz_ref, ksz_null, ksz_lv, kfit_int, kfit_long, kfit_obj, kfit_objN, kfit_arr, kfit_arrN, knarI, knarZ0, knarZ1, kret_v, kret_n, kret_x, Nat.reduceAdd, Nat.reduceLeDiff, reduceCtorEq, Int.reduceLE, Int.reduceLT, Int.reduceEq, ite_true, ite_false, true_or, or_true, false_implies, true_implies, not_true_eq_false, not_false_eq_true, and_self, eq_self, klc_lt, klc_ge, klc_le, klc_gt, klc_eq, kmu_eq, kmu_f, kmu_i, kmu_j, q182, q111, hc, h1, q116, show ¬ (n : Int) < 0 by omega, Nat.zero_le, show 1 ≤ d by omega]
      exact ih
    · have q113 : ∀ {Q}, ka_W (kp E) (d - 1, (113, 0, [some (.ref (A 8 ((n : Int) + 1)))], []), (kHp J A V C R, c, l)) Q ↔ Q (.inl (some (iv (if 0 ≤ C 8 ((n : Int) + 1) 6 ∧ C 8 (C 8 ((n : Int) + 1) 6) 3 = 3 then 1 else 0)))) (kHp J A V C R, c, l) := by
        intro Q
        rcases hs6 with z | z
        · exact c113 hA U1 (fun y => (hw y).1) z
        · simp (disch := first | assumption | (unfold kR; decide) | exact klc_R | (unfold kR; omega) | omega | (unfold kL; omega) | exact kcat_null | exact kcat_ref _ | exact kcat_iv _) only [r113_0, r113_1, r113_4, r113_7, r113_8, r113_11, r113_14, r113_15, r113_18, r113_19, r113_22, r113_23, ho_8_6 hA, hg_8_6 hA, hgn_8_6 hA, ho_8_3 hA, hg_8_3 hA, true_and, and_true, kk1_i, kk1_r, kk1_n, kk1_0, kcat_iv, kcat_ref, kcat_null, kisR_ref, kisR_null, ksz_nil, ksz_iv, ksz_ref, ksz_null, ksz_lv, kfit_int, kfit_long, kfit_obj, kfit_objN, kfit_arr, kfit_arrN, knarI, knarZ0, knarZ1, kret_v, kret_n, kret_x, Nat.reduceAdd, Nat.reduceLeDiff, reduceCtorEq, Int.reduceLE, Int.reduceLT, Int.reduceEq, ite_true, ite_false, true_or, or_true, false_implies, true_implies, not_true_eq_false, not_false_eq_true, and_self, eq_self, klc_lt, klc_ge, klc_le, klc_gt, klc_eq, kmu_eq, kmu_f, kmu_i, kmu_j, z, false_and]
      by_cases h2 : kbs X m p ((n : Int) + 1)
      · have h3 := (hbb h1).mpr h2
        have ih := ihb h2
        simp (disch := first | assumption | (unfold kR; decide) | exact klc_R | (unfold kR; omega) | omega | (unfold kL; omega) | exact kcat_null | exact kcat_ref _ | exact kcat_iv _) only [r71_25, r71_28, r71_29, r71_32, r71_33, r71_36, r71_39, r71_41, r71_43, r71_44, r71_45, r71_48, r71_51, r71_53, r71_56, r71_59, r71_61, r71_62, r71_65, r71_68, ho_2_1 hA v.l2, hg_2_1 hA v.l2, ht_10 hA, ht_8 hA, true_and, and_true, kk1_i, kk1_r, kk1_n, kk1_0, kcat_iv, kcat_ref, kcat_null, kisR_ref, kisR_null, ksz_nil, ksz_iv, ksz_ref, ksz_null, ksz_lv, kfit_int, kfit_long, kfit_obj, kfit_objN, kfit_arr, kfit_arrN, knarI, knarZ0, knarZ1, kret_v, kret_n, kret_x, Nat.reduceAdd, Nat.reduceLeDiff, reduceCtorEq, Int.reduceLE, Int.reduceLT, Int.reduceEq, ite_true, ite_false, true_or, or_true, false_implies, true_implies, not_true_eq_false, not_false_eq_true, and_self, eq_self, klc_lt, klc_ge, klc_le, klc_gt, klc_eq, kmu_eq, kmu_f, kmu_i, kmu_j, q182, q111, hc, h1, q113, h3, q116, show ¬ (n : Int) < 0 by omega, Nat.zero_le, show 1 ≤ d by omega]
        exact ih
      · have h3 := mt (hbb h1).mp h2
        rw [hsame h2] at F
        have ih := c71_l hA v rw hU hU2 hd m0 m1 p0 p5 hm n C (some (.ref (A 8 ((n : Int) + 1)))) (by omega) F (fun C' h1 h2 h3 => H' C' _ h1 h2 h3) H'
        simp (disch := first | assumption | (unfold kR; decide) | exact klc_R | (unfold kR; omega) | omega | (unfold kL; omega) | exact kcat_null | exact kcat_ref _ | exact kcat_iv _) only [r71_25, r71_28, r71_29, r71_32, r71_33, r71_36, r71_39, r71_41, r71_43, r71_44, r71_45, r71_48, r71_51, r71_53, r71_56, r71_59, r71_61, r71_62, r71_65, r71_68, ho_2_1 hA v.l2, hg_2_1 hA v.l2, ht_10 hA, ht_8 hA, true_and, and_true, kk1_i, kk1_r, kk1_n, kk1_0, kcat_iv, kcat_ref, kcat_null, kisR_ref, kisR_null, ksz_nil, ksz_iv, ksz_ref, ksz_null, ksz_lv, kfit_int, kfit_long, kfit_obj, kfit_objN, kfit_arr, kfit_arrN, knarI, knarZ0, knarZ1, kret_v, kret_n, kret_x, Nat.reduceAdd, Nat.reduceLeDiff, reduceCtorEq, Int.reduceLE, Int.reduceLT, Int.reduceEq, ite_true, ite_false, true_or, or_true, false_implies, true_implies, not_true_eq_false, not_false_eq_true, and_self, eq_self, klc_lt, klc_ge, klc_le, klc_gt, klc_eq, kmu_eq, kmu_f, kmu_i, kmu_j, q182, q111, hc, h1, q113, h3, show ¬ (n : Int) < 0 by omega, Nat.zero_le, show 1 ≤ d by omega]
        exact ih
end
