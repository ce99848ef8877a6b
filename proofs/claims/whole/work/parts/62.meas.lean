/-! The reference: how far the goods lie from one. -/
def ksf (R : ka_M) (φ : Int → Int) : ka_M := fun f i j => if f = 87 ∧ i = 0 ∧ 0 ≤ j ∧ j < 20 then φ j else R f i j
def kfu (φ : Int → Int) (g x : Int) : Int → Int := fun j => if j = g then x else φ j
theorem kfu_eq {φ : Int → Int} {g x : Int} : kfu φ g x g = x := if_pos rfl
theorem kfu_ne {φ : Int → Int} {g x j : Int} (h : j ≠ g) : kfu φ g x j = φ j := if_neg h
section
variable {R : ka_M} {φ : Int → Int}
theorem ksf_f {f : Nat} {i j : Int} (h : f ≠ 87) : ksf R φ f i j = R f i j := if_neg (fun z => h z.1)
theorem ksf_g {j : Int} (h0 : 0 ≤ j) (h1 : j < 20) : ksf R φ 87 0 j = φ j := if_pos ⟨rfl, rfl, h0, h1⟩
theorem ksf_mu {g x : Int} (h0 : 0 ≤ g) (h1 : g < 20) : kmu (ksf R φ) 87 0 g x = ksf R (kfu φ g x) := by
  funext f i j
  unfold kmu ksf kfu
  by_cases e : f = 87 ∧ i = 0 ∧ j = g
  · obtain ⟨rfl, rfl, rfl⟩ := e
    simp [h0, h1]
  · rw [if_neg e]
    by_cases e2 : f = 87 ∧ i = 0 ∧ 0 ≤ j ∧ j < 20
    · rw [if_pos e2, if_pos e2, if_neg (fun z => e ⟨e2.1, e2.2.1, z⟩)]
    · rw [if_neg e2, if_neg e2]
theorem ksf_lead {g h : Int} : klead (ksf R φ) g h ↔ klead R g h := by
  simp only [klead, kPr, kP, ksf_f (show 56 ≠ 87 by decide), ksf_f (show 59 ≠ 87 by decide), ksf_f (show 61 ≠ 87 by decide), ksf_f (show 62 ≠ 87 by decide), ksf_f (show 64 ≠ 87 by decide)]
theorem ksf_rw {V : ka_V} (r : kRW V R) (hφ : ∀ j, 0 ≤ j → j < 20 → -1 ≤ φ j ∧ φ j ≤ 20) : kRW V (ksf R φ) := by
  refine ⟨r.1, fun f j a b c d => ?_⟩
  unfold ksf
  split
  · rename_i e
    obtain ⟨rfl, -, e2, e3⟩ := e
    exact hφ j e2 e3
  · exact r.2 f j a b c d
end
def kfar0 (to : Int) : Int → Int := fun g => if g = to then 0 else -1
def khit (R : ka_M) (φ : Int → Int) (s g h : Int) : Prop := ∃ q, h ≤ q ∧ q < 20 ∧ φ q = s ∧ klead R g q
/-- one more ring around: the goods that lead to one that is s away -/
noncomputable def knxt (R : ka_M) (φ : Int → Int) (s : Int) : Int → Int := fun g => @ite Int (φ g = -1 ∧ khit R φ s g 0) (Classical.propDecidable _) (s + 1) (φ g)
noncomputable def kfars (R : ka_M) (to : Int) : Nat → Int → Int
  | 0 => kfar0 to
  | n + 1 => knxt R (kfars R to n) n
/-- the new values below g, the old from there on -/
def kmixd (g : Int) (φ ψ : Int → Int) : Int → Int := fun j => if j < g then φ j else ψ j
noncomputable def f125 (R : ka_M) (to : Int) : ka_M := ksf R (kfars R to 20)
section
variable {E : Nat × Nat} {d c l : Nat} {s : ka_S} {Q : ka_Q} {J : ka_H} {A : ka_A} {V : ka_V} {C R : ka_M}
theorem khit_step {φ : Int → Int} {s g h : Int} (h1 : h < 20) : khit R φ s g h ↔ (φ h = s ∧ klead R g h) ∨ khit R φ s g (h + 1) := by
  constructor
  · rintro ⟨q, a, b, c⟩
    by_cases e : q = h
    · subst e; exact Or.inl c
    · exact Or.inr ⟨q, by omega, b, c⟩
  · rintro (z | ⟨q, a, b, c⟩)
    · exact ⟨h, by omega, h1, z⟩
    · exact ⟨q, by omega, b, c⟩
theorem j125_h (hA : kJ A V) (v : kLV V) (r : kRW V R) {to s g : Int} {φ : Int → Int} (hd : 1 ≤ d) (s0 : 0 ≤ s) (s1 : s < 20) (g0 : 0 ≤ g) (g1 : g < 20) (hφ : ∀ j, 0 ≤ j → j < 20 → -1 ≤ φ j ∧ φ j ≤ 20) (hg : φ g = -1) (T : Prop) :
    ∀ (n : Nat) (h : Int), 0 ≤ h → h ≤ 20 → 20 ≤ h + n →
    (∀ l4, khit R φ s g h → (ka_W (kp E) (d, (125, 102, [some (.ref (A 9 0)), some (iv to), some (iv s), some (iv g), l4], []), (kHp J A V C (ksf R (kfu φ g (s + 1))), c, l)) Q ↔ T)) →
    (∀ l4, ¬ khit R φ s g h → (ka_W (kp E) (d, (125, 102, [some (.ref (A 9 0)), some (iv to), some (iv s), some (iv g), l4], []), (kHp J A V C (ksf R φ), c, l)) Q ↔ T)) →
    (ka_W (kp E) (d, (125, 49, [some (.ref (A 9 0)), some (iv to), some (iv s), some (iv g), some (iv h)], []), (kHp J A V C (ksf R φ), c, l)) Q ↔ T)
  | n, h, h0, h1, hn, H1, H2 => by
    have r1 := ksf_rw r hφ
    by_cases c1 : 20 ≤ h
    · rw [← H2 (some (iv h)) (fun ⟨q, a, b, _⟩ => by omega)]
      simp (disch := first | assumption | (unfold kR; decide) | exact klc_R | (unfold kR; omega) | omega | (unfold kL; omega) | exact kcat_null | exact kcat_ref _ | exact kcat_iv _) only [r125_49, r125_51, r125_53, true_and, and_true, kk1_i, kk1_r, kk1_n, kk1_0, kcat_iv, kcat_ref, kcat_null, kisR_ref, kisR_null, ksz_nil, ksz_iv, ksz_ref, ksz_null, ksz_lv, kfit_int, kfit_long, kfit_obj, kfit_objN, kfit_arr, kfit_arrN, knarI, knarZ0, knarZ1, kret_v, kret_n, kret_x, Nat.reduceAdd, Nat.reduceLeDiff, reduceCtorEq, Int.reduceLE, Int.reduceLT, Int.reduceEq, ite_true, ite_false, true_or, or_true, false_implies, true_implies, not_true_eq_false, not_false_eq_true, and_self, eq_self, klc_lt, klc_ge, klc_le, klc_gt, klc_eq, kmu_eq, kmu_f, kmu_i, kmu_j, c1]
    · cases n with
      | zero => omega
      | succ n =>
        have B := hφ h h0 (by omega)
        by_cases c2 : φ h = s
        · by_cases c3 : klead R g h
          · have hh : khit R φ s g h := ⟨h, by omega, by omega, c2, c3⟩
            rw [← H1 (some (iv (h + 1))) hh]
            rw [r125_49]
            simp (disch := first | assumption | (unfold kR; decide) | exact klc_R | (unfold kR; omega) | omega | (unfold kL; omega) | exact kcat_null | exact kcat_ref _ | exact kcat_iv _) only [r125_51, r125_53, r125_56, r125_57, r125_60, r125_61, r125_62, r125_63, r125_66, r125_67, r125_70, r125_72, r125_73, r125_74, r125_77, r125_78, r125_79, r125_81, r125_84, r125_87, r125_88, r125_91, r125_92, r125_93, r125_94, r125_95, r125_96, r125_99, ho_9_37 hA v.l9, hg_9_37 hA v.l9, hoa_87 hA v.l87, hga_87 hA v.l87, hpa_87 hA v.l87, ht_9 hA v.l9, true_and, and_true, kk1_i, kk1_r, kk1_n, kk1_0, kcat_iv, kcat_ref, kcat_null, kisR_ref, kisR_null, ksz_nil, ksz_iv, ksz_ref, ksz_null, ksz_lv, kfit_int, kfit_long, kfit_obj, kfit_objN, kfit_arr, kfit_arrN, knarI, knarZ0, knarZ1, kret_v, kret_n, kret_x, Nat.reduceAdd, Nat.reduceLeDiff, reduceCtorEq, Int.reduceLE, Int.reduceLT, Int.reduceEq, ite_true, ite_false, true_or, or_true, false_implies, true_implies, not_true_eq_false, not_false_eq_true, and_self, eq_self, klc_lt, klc_ge, klc_le, klc_gt, klc_eq, kmu_eq, kmu_f, kmu_i, kmu_j, c1, ksf_g, ksf_f, hg, c2, j124 hA v r1, ksf_lead, kb_t c3, hd, Nat.zero_le, ksf_mu]
            by_cases c4 : 20 ≤ h + 1
            · simp (disch := first | assumption | (unfold kR; decide) | exact klc_R | (unfold kR; omega) | omega | (unfold kL; omega) | exact kcat_null | exact kcat_ref _ | exact kcat_iv _) only [r125_49, r125_51, r125_53, true_and, and_true, kk1_i, kk1_r, kk1_n, kk1_0, kcat_iv, kcat_ref, kcat_null, kisR_ref, kisR_null, ksz_nil, ksz_iv, ksz_ref, ksz_null, ksz_lv, kfit_int, kfit_long, kfit_obj, kfit_objN, kfit_arr, kfit_arrN, knarI, knarZ0, knarZ1, kret_v, kret_n, kret_x, Nat.reduceAdd, Nat.reduceLeDiff, reduceCtorEq, Int.reduceLE, Int.reduceLT, Int.reduceEq, ite_true, ite_false, true_or, or_true, false_implies, true_implies, not_true_eq_false, not_false_eq_true, and_self, eq_self, klc_lt, klc_ge, klc_le, klc_gt, klc_eq, kmu_eq, kmu_f, kmu_i, kmu_j, c4]
            · simp (disch := first | assumption | (unfold kR; decide) | exact klc_R | (unfold kR; omega) | omega | (unfold kL; omega) | exact kcat_null | exact kcat_ref _ | exact kcat_iv _) only [r125_49, r125_51, r125_53, r125_56, r125_57, r125_60, r125_61, r125_62, r125_63, ho_9_37 hA v.l9, hg_9_37 hA v.l9, hoa_87 hA v.l87, hga_87 hA v.l87, true_and, and_true, kk1_i, kk1_r, kk1_n, kk1_0, kcat_iv, kcat_ref, kcat_null, kisR_ref, kisR_null, ksz_nil, ksz_iv, ksz_ref, ksz_null, ksz_lv, kfit_int, kfit_long, kfit_obj, kfit_objN, kfit_arr, kfit_arrN, knarI, knarZ0, knarZ1, kret_v, kret_n, kret_x, Nat.reduceAdd, Nat.reduceLeDiff, reduceCtorEq, Int.reduceLE, Int.reduceLT, Int.reduceEq, ite_true, ite_false, true_or, or_true, false_implies, true_implies, not_true_eq_false, not_false_eq_true, and_self, eq_self, klc_lt, klc_ge, klc_le, klc_gt, klc_eq, kmu_eq, kmu_f, kmu_i, kmu_j, c4, ksf_g, ksf_f, kfu_eq, show ¬ (s + 1 = -1) by omega, show ¬ ((1:Int) = 0) by decide]
          · have st : khit R φ s g h ↔ khit R φ s g (h + 1) := by rw [khit_step (by omega)]; simp [c3]
            rw [st] at H1 H2
            have ih := j125_h hA v r hd s0 s1 g0 g1 hφ hg T n (h + 1) (by omega) (by omega) (by omega) H1 H2
            rw [← ih, r125_49]
            simp (disch := first | assumption | (unfold kR; decide) | exact klc_R | (unfold kR; omega) | omega | (unfold kL; omega) | exact kcat_null | exact kcat_ref _ | exact kcat_iv _) only [r125_51, r125_53, r125_56, r125_57, r125_60, r125_61, r125_62, r125_63, r125_66, r125_67, r125_70, r125_72, r125_73, r125_74, r125_77, r125_78, r125_79, r125_81, r125_84, r125_87, r125_88, r125_91, r125_92, r125_93, r125_94, r125_95, r125_96, r125_99, ho_9_37 hA v.l9, hg_9_37 hA v.l9, hoa_87 hA v.l87, hga_87 hA v.l87, hpa_87 hA v.l87, ht_9 hA v.l9, true_and, and_true, kk1_i, kk1_r, kk1_n, kk1_0, kcat_iv, kcat_ref, kcat_null, kisR_ref, kisR_null, ksz_nil, ksz_iv, ksz_ref, ksz_null, ksz_lv, kfit_int, kfit_long, kfit_obj, kfit_objN, kfit_arr, kfit_arrN, knarI, knarZ0, knarZ1, kret_v, kret_n, kret_x, Nat.reduceAdd, Nat.reduceLeDiff, reduceCtorEq, Int.reduceLE, Int.reduceLT, Int.reduceEq, ite_true, ite_false, true_or, or_true, false_implies, true_implies, not_true_eq_false, not_false_eq_true, and_self, eq_self, klc_lt, klc_ge, klc_le, klc_gt, klc_eq, kmu_eq, kmu_f, kmu_i, kmu_j, c1, ksf_g, ksf_f, hg, c2, j124 hA v r1, ksf_lead, kb_f c3, hd, Nat.zero_le, ksf_mu]
        · have st : khit R φ s g h ↔ khit R φ s g (h + 1) := by rw [khit_step (by omega)]; simp [c2]
          rw [st] at H1 H2
          have ih := j125_h hA v r hd s0 s1 g0 g1 hφ hg T n (h + 1) (by omega) (by omega) (by omega) H1 H2
          rw [← ih, r125_49]
          simp (disch := first | assumption | (unfold kR; decide) | exact klc_R | (unfold kR; omega) | omega | (unfold kL; omega) | exact kcat_null | exact kcat_ref _ | exact kcat_iv _) only [r125_51, r125_53, r125_56, r125_57, r125_60, r125_61, r125_62, r125_63, r125_66, r125_67, r125_70, r125_72, r125_73, r125_74, r125_77, r125_78, r125_79, r125_81, r125_84, r125_87, r125_88, r125_91, r125_92, r125_93, r125_94, r125_95, r125_96, r125_99, ho_9_37 hA v.l9, hg_9_37 hA v.l9, hoa_87 hA v.l87, hga_87 hA v.l87, hpa_87 hA v.l87, ht_9 hA v.l9, true_and, and_true, kk1_i, kk1_r, kk1_n, kk1_0, kcat_iv, kcat_ref, kcat_null, kisR_ref, kisR_null, ksz_nil, ksz_iv, ksz_ref, ksz_null, ksz_lv, kfit_int, kfit_long, kfit_obj, kfit_objN, kfit_arr, kfit_arrN, knarI, knarZ0, knarZ1, kret_v, kret_n, kret_x, Nat.reduceAdd, Nat.reduceLeDiff, reduceCtorEq, Int.reduceLE, Int.reduceLT, Int.reduceEq, ite_true, ite_false, true_or, or_true, false_implies, true_implies, not_true_eq_false, not_false_eq_true, and_self, eq_self, klc_lt, klc_ge, klc_le, klc_gt, klc_eq, kmu_eq, kmu_f, kmu_i, kmu_j, c1, ksf_g, ksf_f, hg, c2]
theorem ksf_ext {φ ψ : Int → Int} (h : ∀ j, 0 ≤ j → j < 20 → φ j = ψ j) : ksf R φ = ksf R ψ := by
  funext f i j
  unfold ksf
  by_cases e : f = 87 ∧ i = 0 ∧ 0 ≤ j ∧ j < 20
  · rw [if_pos e, if_pos e, h j e.2.2.1 e.2.2.2]
  · rw [if_neg e, if_neg e]
theorem ksf_self : ksf R (R 87 0) = R := by
  funext f i j
  unfold ksf
  split
  · rename_i e
    obtain ⟨rfl, rfl, -⟩ := e
    rfl
  · rfl
theorem knxt_pos {φ : Int → Int} {s g : Int} (h : φ g = -1 ∧ khit R φ s g 0) : knxt R φ s g = s + 1 := if_pos h
theorem knxt_neg {φ : Int → Int} {s g : Int} (h : ¬ (φ g = -1 ∧ khit R φ s g 0)) : knxt R φ s g = φ g := if_neg h
theorem knxt_s {φ : Int → Int} {s q : Int} (s0 : 0 ≤ s) : knxt R φ s q = s ↔ φ q = s := by
  by_cases h : φ q = -1 ∧ khit R φ s q 0
  · rw [knxt_pos h]
    omega
  · rw [knxt_neg h]
theorem kmixd_lt {g j : Int} {φ ψ : Int → Int} (h : j < g) : kmixd g φ ψ j = φ j := if_pos h
theorem kmixd_ge {g j : Int} {φ ψ : Int → Int} (h : g ≤ j) : kmixd g φ ψ j = ψ j := if_neg (by omega)
theorem knxt_rng {φ : Int → Int} {s b : Int} (s0 : 0 ≤ s) (hb : s + 1 ≤ b) (hφ : ∀ j, -1 ≤ φ j ∧ φ j ≤ b) (j : Int) : -1 ≤ knxt R φ s j ∧ knxt R φ s j ≤ b := by
  have := hφ j
  by_cases h : φ j = -1 ∧ khit R φ s j 0
  · rw [knxt_pos h]; omega
  · rw [knxt_neg h]; omega
theorem kfars_rng {to : Int} : ∀ (n : Nat) (j : Int), -1 ≤ kfars R to n j ∧ kfars R to n j ≤ n
  | 0, j => by
    unfold kfars kfar0
    split <;> omega
  | n + 1, j => by
    have := knxt_rng (R := R) (φ := kfars R to n) (s := n) (b := n + 1) (by omega) (by omega) (fun j => by have := kfars_rng (to := to) n j; omega) j
    unfold kfars
    omega
theorem j125_g (hA : kJ A V) (v : kLV V) (r : kRW V R) {to s : Int} {φ : Int → Int} (hd : 1 ≤ d) (s0 : 0 ≤ s) (s1 : s < 20) (hφ : ∀ j, -1 ≤ φ j ∧ φ j ≤ 20) (T : Prop)
    (H : ∀ l3 l4, kk1 l3 = true → (ka_W (kp E) (d, (125, 108, [some (.ref (A 9 0)), some (iv to), some (iv s), l3, l4], []), (kHp J A V C (ksf R (knxt R φ s)), c, l)) Q ↔ T)) :
    ∀ (n : Nat) (g : Int) (l4 : Option Value), 0 ≤ g → g ≤ 20 → 20 ≤ g + n →
    (ka_W (kp E) (d, (125, 40, [some (.ref (A 9 0)), some (iv to), some (iv s), some (iv g), l4], []), (kHp J A V C (ksf R (kmixd g (knxt R φ s) φ)), c, l)) Q ↔ T)
  | n, g, l4, g0, g1, gn => by
    have hn := knxt_rng (R := R) (s := s) (b := 20) s0 (by omega) hφ
    have hm : ∀ j, 0 ≤ j → j < 20 → -1 ≤ kmixd g (knxt R φ s) φ j ∧ kmixd g (knxt R φ s) φ j ≤ 20 := by
      intro j _ _
      unfold kmixd
      split
      · exact hn j
      · exact hφ j
    by_cases c1 : 20 ≤ g
    · rw [ksf_ext (ψ := knxt R φ s) (fun j h0 h1 => kmixd_lt (by omega)), ← H (some (iv g)) l4 rfl]
      simp (disch := first | assumption | (unfold kR; decide) | exact klc_R | (unfold kR; omega) | omega | (unfold kL; omega) | exact kcat_null | exact kcat_ref _ | exact kcat_iv _) only [r125_40, r125_41, r125_43, true_and, and_true, kk1_i, kk1_r, kk1_n, kk1_0, kcat_iv, kcat_ref, kcat_null, kisR_ref, kisR_null, ksz_nil, ksz_iv, ksz_ref, ksz_null, ksz_lv, kfit_int, kfit_long, kfit_obj, kfit_objN, kfit_arr, kfit_arrN, knarI, knarZ0, knarZ1, kret_v, kret_n, kret_x, Nat.reduceAdd, Nat.reduceLeDiff, reduceCtorEq, Int.reduceLE, Int.reduceLT, Int.reduceEq, ite_true, ite_false, true_or, or_true, false_implies, true_implies, not_true_eq_false, not_false_eq_true, and_self, eq_self, klc_lt, klc_ge, klc_le, klc_gt, klc_eq, kmu_eq, kmu_f, kmu_i, kmu_j, c1]
    · cases n with
      | zero => omega
      | succ n =>
        have hg := hφ g
        have mg : kmixd g (knxt R φ s) φ g = φ g := kmixd_ge (by omega)
        have ih := fun l4 => j125_g hA v r hd s0 s1 hφ T H n (g + 1) l4 (by omega) (by omega) (by omega)
        rw [r125_40]
        simp (disch := first | assumption | (unfold kR; decide) | exact klc_R | (unfold kR; omega) | omega | (unfold kL; omega) | exact kcat_null | exact kcat_ref _ | exact kcat_iv _) only [r125_41, r125_43, r125_46, r125_47, true_and, and_true, kk1_i, kk1_r, kk1_n, kk1_0, kcat_iv, kcat_ref, kcat_null, kisR_ref, kisR_null, ksz_nil, ksz_iv, ksz_ref, ksz_null, ksz_lv, kfit_int, kfit_long, kfit_obj, kfit_objN, kfit_arr, kfit_arrN, knarI, knarZ0, knarZ1, kret_v, kret_n, kret_x, Nat.reduceAdd, Nat.reduceLeDiff, reduceCtorEq, Int.reduceLE, Int.reduceLT, Int.reduceEq, ite_true, ite_false, true_or, or_true, false_implies, true_implies, not_true_eq_false, not_false_eq_true, and_self, eq_self, klc_lt, klc_ge, klc_le, klc_gt, klc_eq, kmu_eq, kmu_f, kmu_i, kmu_j, c1]
        by_cases c2 : φ g = -1
        · have hk : khit R (kmixd g (knxt R φ s) φ) s g 0 ↔ khit R φ s g 0 := by
            unfold khit
            refine exists_congr (fun q => ?_)
            have : kmixd g (knxt R φ s) φ q = s ↔ φ q = s := by
              unfold kmixd
              split
              · exact knxt_s s0
              · rfl
            rw [this]
          refine j125_h hA v r hd s0 s1 g0 (by omega) hm (by rw [mg]; exact c2) T 20 0 (by omega) (by omega) (by omega) (fun l4 h => ?_) (fun l4 h => ?_)
          · rw [← ih l4]
            simp (disch := first | assumption | (unfold kR; decide) | exact klc_R | (unfold kR; omega) | omega | (unfold kL; omega) | exact kcat_null | exact kcat_ref _ | exact kcat_iv _) only [r125_102, r125_105, true_and, and_true, kk1_i, kk1_r, kk1_n, kk1_0, kcat_iv, kcat_ref, kcat_null, kisR_ref, kisR_null, ksz_nil, ksz_iv, ksz_ref, ksz_null, ksz_lv, kfit_int, kfit_long, kfit_obj, kfit_objN, kfit_arr, kfit_arrN, knarI, knarZ0, knarZ1, kret_v, kret_n, kret_x, Nat.reduceAdd, Nat.reduceLeDiff, reduceCtorEq, Int.reduceLE, Int.reduceLT, Int.reduceEq, ite_true, ite_false, true_or, or_true, false_implies, true_implies, not_true_eq_false, not_false_eq_true, and_self, eq_self, klc_lt, klc_ge, klc_le, klc_gt, klc_eq, kmu_eq, kmu_f, kmu_i, kmu_j]
            rw [ksf_ext (φ := kfu (kmixd g (knxt R φ s) φ) g (s + 1)) (ψ := kmixd (g + 1) (knxt R φ s) φ)]
            intro j h0 h1
            by_cases e : j = g
            · subst e
              rw [kfu_eq, kmixd_lt (by omega), knxt_pos ⟨c2, hk.mp h⟩]
            · rw [kfu_ne e]
              unfold kmixd
              by_cases e2 : j < g
              · rw [if_pos e2, if_pos (by omega)]
              · rw [if_neg e2, if_neg (by omega)]
          · rw [← ih l4]
            simp (disch := first | assumption | (unfold kR; decide) | exact klc_R | (unfold kR; omega) | omega | (unfold kL; omega) | exact kcat_null | exact kcat_ref _ | exact kcat_iv _) only [r125_102, r125_105, true_and, and_true, kk1_i, kk1_r, kk1_n, kk1_0, kcat_iv, kcat_ref, kcat_null, kisR_ref, kisR_null, ksz_nil, ksz_iv, ksz_ref, ksz_null, ksz_lv, kfit_int, kfit_long, kfit_obj, kfit_objN, kfit_arr, kfit_arrN, knarI, knarZ0, knarZ1, kret_v, kret_n, kret_x, Nat.reduceAdd, Nat.reduceLeDiff, reduceCtorEq, Int.reduceLE, Int.reduceLT, Int.reduceEq, ite_true, ite_false, true_or, or_true, false_implies, true_implies, not_true_eq_false, not_false_eq_true, and_self, eq_self, klc_lt, klc_ge, klc_le, klc_gt, klc_eq, kmu_eq, kmu_f, kmu_i, kmu_j]
            rw [ksf_ext (φ := kmixd g (knxt R φ s) φ) (ψ := kmixd (g + 1) (knxt R φ s) φ)]
            intro j h0 h1
            by_cases e : j = g
            · subst e
              rw [kmixd_ge (by omega), kmixd_lt (by omega), knxt_neg (fun z => h (hk.mpr z.2))]
            · unfold kmixd
              by_cases e2 : j < g
              · rw [if_pos e2, if_pos (by omega)]
              · rw [if_neg e2, if_neg (by omega)]
        · rw [← ih (some (iv 0))]
          simp (disch := first | assumption | (unfold kR; decide) | exact klc_R | (unfold kR; omega) | omega | (unfold kL; omega) | exact kcat_null | exact kcat_ref _ | exact kcat_iv _) only [r125_49, r125_51, r125_53, r125_56, r125_57, r125_60, r125_61, r125_62, r125_63, r125_102, r125_105, ho_9_37 hA v.l9, hg_9_37 hA v.l9, hoa_87 hA v.l87, hga_87 hA v.l87, true_and, and_true, kk1_i, kk1_r, kk1_n, kk1_0, kcat_iv, kcat_ref, kcat_null, kisR_ref, kisR_null, ksz_nil, ksz_iv, ksz_ref, ksz_null, ksz_lv, kfit_int, kfit_long, kfit_obj, kfit_objN, kfit_arr, kfit_arrN, knarI, knarZ0, knarZ1, kret_v, kret_n, kret_x, Nat.reduceAdd, Nat.reduceLeDiff, reduceCtorEq, Int.reduceLE, Int.reduceLT, Int.reduceEq, ite_true, ite_false, true_or, or_true, false_implies, true_implies, not_true_eq_false, not_false_eq_true, and_self, eq_self, klc_lt, klc_ge, klc_le, klc_gt, klc_eq, kmu_eq, kmu_f, kmu_i, kmu_j, ksf_f, ksf_g, mg, c2, show ¬ (20:Int) ≤ 0 by decide]
          rw [ksf_ext (φ := kmixd g (knxt R φ s) φ) (ψ := kmixd (g + 1) (knxt R φ s) φ)]
          intro j h0 h1
          by_cases e : j = g
          · subst e
            rw [kmixd_ge (by omega), kmixd_lt (by omega), knxt_neg (fun z => c2 z.1)]
          · unfold kmixd
            by_cases e2 : j < g
            · rw [if_pos e2, if_pos (by omega)]
            · rw [if_neg e2, if_neg (by omega)]
theorem j125_s (hA : kJ A V) (v : kLV V) (r : kRW V R) {to : Int} (hd : 1 ≤ d) :
    ∀ (n : Nat) (s : Nat) (l3 l4 : Option Value), s + n = 20 → 
    (ka_W (kp E) (d, (125, 32, [some (.ref (A 9 0)), some (iv to), some (iv (s : Int)), l3, l4], []), (kHp J A V C (ksf R (kfars R to s)), c, l)) Q ↔ Q (.inl none) (kHp J A V C (f125 R to), c, l))
  | 0, s, l3, l4, hn => by
    have e : s = 20 := by omega
    subst e
    have e : ((20 : Nat) : Int) = 20 := rfl
    rw [e]
    simp (disch := first | assumption | (unfold kR; decide) | exact klc_R | (unfold kR; omega) | omega | (unfold kL; omega) | exact kcat_null | exact kcat_ref _ | exact kcat_iv _) only [r125_32, r125_33, r125_35, r125_114, true_and, and_true, kk1_i, kk1_r, kk1_n, kk1_0, kcat_iv, kcat_ref, kcat_null, kisR_ref, kisR_null, ksz_nil, ksz_iv, ksz_ref, ksz_null, ksz_lv, kfit_int, kfit_long, kfit_obj, kfit_objN, kfit_arr, kfit_arrN, knarI, knarZ0, knarZ1, kret_v, kret_n, kret_x, Nat.reduceAdd, Nat.reduceLeDiff, reduceCtorEq, Int.reduceLE, Int.reduceLT, Int.reduceEq, ite_true, ite_false, true_or, or_true, false_implies, true_implies, not_true_eq_false, not_false_eq_true, and_self, eq_self, klc_lt, klc_ge, klc_le, klc_gt, klc_eq, kmu_eq, kmu_f, kmu_i, kmu_j, Int.le_refl, f125]
  | n + 1, s, l3, l4, hn => by
    have c1 : ¬ (20 : Int) ≤ (s : Int) := by omega
    have ih := fun l3 l4 => j125_s hA v r (to := to) hd n (s + 1) l3 l4 (by omega)
    have z := fun l4 => j125_g hA v r (E := E) (d := d) (c := c) (l := l) (Q := Q) (J := J) (C := C) (to := to) (s := s) (φ := kfars R to s) hd (by omega) (by omega) (fun j => by have := kfars_rng (R := R) (to := to) s j; omega) (Q (.inl none) (kHp J A V C (f125 R to), c, l)) (fun l3 l4 h3 => by
      rw [← ih l3 l4]
      simp (disch := first | assumption | (unfold kR; decide) | exact klc_R | (unfold kR; omega) | omega | (unfold kL; omega) | exact kcat_null | exact kcat_ref _ | exact kcat_iv _) only [r125_108, r125_111, true_and, and_true, kk1_i, kk1_r, kk1_n, kk1_0, kcat_iv, kcat_ref, kcat_null, kisR_ref, kisR_null, ksz_nil, ksz_iv, ksz_ref, ksz_null, ksz_lv, kfit_int, kfit_long, kfit_obj, kfit_objN, kfit_arr, kfit_arrN, knarI, knarZ0, knarZ1, kret_v, kret_n, kret_x, Nat.reduceAdd, Nat.reduceLeDiff, reduceCtorEq, Int.reduceLE, Int.reduceLT, Int.reduceEq, ite_true, ite_false, true_or, or_true, false_implies, true_implies, not_true_eq_false, not_false_eq_true, and_self, eq_self, klc_lt, klc_ge, klc_le, klc_gt, klc_eq, kmu_eq, kmu_f, kmu_i, kmu_j]
      have e : ((s + 1 : Nat) : Int) = (s : Int) + 1 := by omega
      rw [e]
      rfl) 20 0 l4 (by omega) (by omega) (by omega)
    rw [r125_32, ← z l4]
    simp (disch := first | assumption | (unfold kR; decide) | exact klc_R | (unfold kR; omega) | omega | (unfold kL; omega) | exact kcat_null | exact kcat_ref _ | exact kcat_iv _) only [r125_33, r125_35, r125_38, r125_39, true_and, and_true, kk1_i, kk1_r, kk1_n, kk1_0, kcat_iv, kcat_ref, kcat_null, kisR_ref, kisR_null, ksz_nil, ksz_iv, ksz_ref, ksz_null, ksz_lv, kfit_int, kfit_long, kfit_obj, kfit_objN, kfit_arr, kfit_arrN, knarI, knarZ0, knarZ1, kret_v, kret_n, kret_x, Nat.reduceAdd, Nat.reduceLeDiff, reduceCtorEq, Int.reduceLE, Int.reduceLT, Int.reduceEq, ite_true, ite_false, true_or, or_true, false_implies, true_implies, not_true_eq_false, not_false_eq_true, and_self, eq_self, klc_lt, klc_ge, klc_le, klc_gt, klc_eq, kmu_eq, kmu_f, kmu_i, kmu_j, c1]
    rw [ksf_ext (φ := kfars R to s) (ψ := kmixd 0 (knxt R (kfars R to s) s) (kfars R to s))]
    intro j h0 h1
    rw [kmixd_ge h0]
theorem j125_0 (hA : kJ A V) (v : kLV V) (r : kRW V R) {to : Int} (t0 : 0 ≤ to) (t1 : to < 20) (hd : 1 ≤ d) :
    ∀ (n : Nat) (g : Int), 0 ≤ g → g + n = 20 →
    (ka_W (kp E) (d, (125, 2, [some (.ref (A 9 0)), some (iv to), some (iv g), none, none], []), (kHp J A V C (ksf R (kmixd g (kfar0 to) (R 87 0))), c, l)) Q ↔ Q (.inl none) (kHp J A V C (f125 R to), c, l))
  | 0, g, g0, hn => by
    have e : g = 20 := by omega
    subst e
    rw [ksf_ext (φ := kmixd 20 (kfar0 to) (R 87 0)) (ψ := kfars R to 0) (fun j h0 h1 => kmixd_lt (by omega)), ← j125_s (E := E) (d := d) (c := c) (l := l) (Q := Q) (J := J) (C := C) hA v r (to := to) hd 20 0 none none (by omega)]
    simp (disch := first | assumption | (unfold kR; decide) | exact klc_R | (unfold kR; omega) | omega | (unfold kL; omega) | exact kcat_null | exact kcat_ref _ | exact kcat_iv _) only [r125_2, r125_3, r125_5, r125_30, r125_31, true_and, and_true, kk1_i, kk1_r, kk1_n, kk1_0, kcat_iv, kcat_ref, kcat_null, kisR_ref, kisR_null, ksz_nil, ksz_iv, ksz_ref, ksz_null, ksz_lv, kfit_int, kfit_long, kfit_obj, kfit_objN, kfit_arr, kfit_arrN, knarI, knarZ0, knarZ1, kret_v, kret_n, kret_x, Nat.reduceAdd, Nat.reduceLeDiff, reduceCtorEq, Int.reduceLE, Int.reduceLT, Int.reduceEq, ite_true, ite_false, true_or, or_true, false_implies, true_implies, not_true_eq_false, not_false_eq_true, and_self, eq_self, klc_lt, klc_ge, klc_le, klc_gt, klc_eq, kmu_eq, kmu_f, kmu_i, kmu_j, Int.le_refl]
    rfl
  | n + 1, g, g0, hn => by
    have c1 : ¬ (20 : Int) ≤ g := by omega
    have ih := j125_0 hA v r t0 t1 hd n (g + 1) (by omega) (by omega)
    rw [← ih, r125_2]
    have e3 : ∀ x, x = kfar0 to g → kmu (ksf R (kmixd g (kfar0 to) (R 87 0))) 87 0 g x = ksf R (kmixd (g + 1) (kfar0 to) (R 87 0)) := by
      rintro x rfl
      rw [ksf_mu g0 (by omega)]
      apply ksf_ext
      intro j h0 h1
      by_cases e : j = g
      · subst e
        rw [kfu_eq, kmixd_lt (by omega)]
      · rw [kfu_ne e]
        unfold kmixd
        by_cases e2 : j < g
        · rw [if_pos e2, if_pos (by omega)]
        · rw [if_neg e2, if_neg (by omega)]
    by_cases c2 : g = to
    · subst c2
      have e4 := e3 0 (by unfold kfar0; rw [if_pos rfl])
      simp (disch := first | assumption | (unfold kR; decide) | exact klc_R | (unfold kR; omega) | omega | (unfold kL; omega) | exact kcat_null | exact kcat_ref _ | exact kcat_iv _) only [r125_3, r125_5, r125_8, r125_9, r125_12, r125_13, r125_14, r125_15, r125_18, r125_19, r125_22, r125_23, r125_24, r125_27, ho_9_37 hA v.l9, hg_9_37 hA v.l9, hoa_87 hA v.l87, hga_87 hA v.l87, hpa_87 hA v.l87, true_and, and_true, kk1_i, kk1_r, kk1_n, kk1_0, kcat_iv, kcat_ref, kcat_null, kisR_ref, kisR_null, ksz_nil, ksz_iv, ksz_ref, ksz_null, ksz_lv, kfit_int, kfit_long, kfit_obj, kfit_objN, kfit_arr, kfit_arrN, knarI, knarZ0, knarZ1, kret_v, kret_n, kret_x, Nat.reduceAdd, Nat.reduceLeDiff, reduceCtorEq, Int.reduceLE, Int.reduceLT, Int.reduceEq, ite_true, ite_false, true_or, or_true, false_implies, true_implies, not_true_eq_false, not_false_eq_true, and_self, eq_self, klc_lt, klc_ge, klc_le, klc_gt, klc_eq, kmu_eq, kmu_f, kmu_i, kmu_j, c1, e4]
    · have e4 := e3 (-1) (by unfold kfar0; rw [if_neg c2])
      simp (disch := first | assumption | (unfold kR; decide) | exact klc_R | (unfold kR; omega) | omega | (unfold kL; omega) | exact kcat_null | exact kcat_ref _ | exact kcat_iv _) only [r125_3, r125_5, r125_8, r125_9, r125_12, r125_13, r125_14, r125_15, r125_18, r125_19, r125_22, r125_23, r125_24, r125_27, ho_9_37 hA v.l9, hg_9_37 hA v.l9, hoa_87 hA v.l87, hga_87 hA v.l87, hpa_87 hA v.l87, true_and, and_true, kk1_i, kk1_r, kk1_n, kk1_0, kcat_iv, kcat_ref, kcat_null, kisR_ref, kisR_null, ksz_nil, ksz_iv, ksz_ref, ksz_null, ksz_lv, kfit_int, kfit_long, kfit_obj, kfit_objN, kfit_arr, kfit_arrN, knarI, knarZ0, knarZ1, kret_v, kret_n, kret_x, Nat.reduceAdd, Nat.reduceLeDiff, reduceCtorEq, Int.reduceLE, Int.reduceLT, Int.reduceEq, ite_true, ite_false, true_or, or_true, false_implies, true_implies, not_true_eq_false, not_false_eq_true, and_self, eq_self, klc_lt, klc_ge, klc_le, klc_gt, klc_eq, kmu_eq, kmu_f, kmu_i, kmu_j, c1, c2, e4]
theorem j125 (hA : kJ A V) (v : kLV V) (r : kRW V R) {to : Int} (t0 : 0 ≤ to) (t1 : to < 20) (hd : 1 ≤ d) : ka_W (kp E) (d, (125, 0, [some (.ref (A 9 0)), some (iv to), none, none, none], []), (kHp J A V C R, c, l)) Q ↔ Q (.inl none) (kHp J A V C (f125 R to), c, l) := by
  refine Iff.trans ?_ (j125_0 (E := E) hA v r t0 t1 hd 20 0 (by omega) (by omega))
  rw [ksf_ext (φ := kmixd 0 (kfar0 to) (R 87 0)) (ψ := R 87 0) (fun j h0 h1 => kmixd_ge h0), ksf_self]
  simp (disch := first | assumption | (unfold kR; decide) | exact klc_R | (unfold kR; omega) | omega | (unfold kL; omega) | exact kcat_null | exact kcat_ref _ | exact kcat_iv _) only [r125_0, r125_1, true_and, and_true, kk1_i, kk1_r, kk1_n, kk1_0, kcat_iv, kcat_ref, kcat_null, kisR_ref, kisR_null, ksz_nil, ksz_iv, ksz_ref, ksz_null, ksz_lv, kfit_int, kfit_long, kfit_obj, kfit_objN, kfit_arr, kfit_arrN, knarI, knarZ0, knarZ1, kret_v, kret_n, kret_x, Nat.reduceAdd, Nat.reduceLeDiff, reduceCtorEq, Int.reduceLE, Int.reduceLT, Int.reduceEq, ite_true, ite_false, true_or, or_true, false_implies, true_implies, not_true_eq_false, not_false_eq_true, and_self, eq_self, klc_lt, klc_ge, klc_le, klc_gt, klc_eq, kmu_eq, kmu_f, kmu_i, kmu_j]
/-- makesRing -/
theorem j126 (hA : kJ A V) (v : kLV V) (r : kRW V R) {k g : Int} (hd : 2 ≤ d) (k0 : 0 ≤ k) (k1 : k < 21) (g0 : 0 ≤ g) (g1 : g < 20) : ka_W (kp E) (d, (126, 0, [some (.ref (A 9 0)), some (iv k), some (iv g)], []), (kHp J A V C R, c, l)) Q ↔ Q (.inl (some (iv (kb (kfars R (R 58 0 k) 20 g ≠ -1))))) (kHp J A V C (f125 R (R 58 0 k)), c, l) := by
  have B := r.a58 (j := k) k0 k1
  have B2 := kfars_rng (R := R) (to := R 58 0 k) 20 g
  by_cases h : kfars R (R 58 0 k) 20 g = -1
  · rw [kb_f (by simp [h])]
    simp (disch := first | assumption | (unfold kR; decide) | exact klc_R | (unfold kR; omega) | omega | (unfold kL; omega) | exact kcat_null | exact kcat_ref _ | exact kcat_iv _) only [r126_0, r126_1, r126_2, r126_5, r126_6, r126_7, r126_10, r126_11, r126_14, r126_15, r126_16, r126_17, r126_20, r126_21, r126_24, r126_25, ho_9_8 hA v.l9, hg_9_8 hA v.l9, hoa_58 hA v.l58, hga_58 hA v.l58, ht_9 hA v.l9, ho_9_37 hA v.l9, hg_9_37 hA v.l9, hoa_87 hA v.l87, hga_87 hA v.l87, true_and, and_true, kk1_i, kk1_r, kk1_n, kk1_0, kcat_iv, kcat_ref, kcat_null, kisR_ref, kisR_null, ksz_nil, ksz_iv, ksz_ref, ksz_null, ksz_lv, kfit_int, kfit_long, kfit_obj, kfit_objN, kfit_arr, kfit_arrN, knarI, knarZ0, knarZ1, kret_v, kret_n, kret_x, Nat.reduceAdd, Nat.reduceLeDiff, reduceCtorEq, Int.reduceLE, Int.reduceLT, Int.reduceEq, ite_true, ite_false, true_or, or_true, false_implies, true_implies, not_true_eq_false, not_false_eq_true, and_self, eq_self, klc_lt, klc_ge, klc_le, klc_gt, klc_eq, kmu_eq, kmu_f, kmu_i, kmu_j, j125 hA v r, Nat.zero_le, f125, ksf_g, h, show 1 ≤ d by omega]
  · rw [kb_t h]
    simp (disch := first | assumption | (unfold kR; decide) | exact klc_R | (unfold kR; omega) | omega | (unfold kL; omega) | exact kcat_null | exact kcat_ref _ | exact kcat_iv _) only [r126_0, r126_1, r126_2, r126_5, r126_6, r126_7, r126_10, r126_11, r126_14, r126_15, r126_16, r126_17, r126_20, r126_21, r126_24, r126_25, ho_9_8 hA v.l9, hg_9_8 hA v.l9, hoa_58 hA v.l58, hga_58 hA v.l58, ht_9 hA v.l9, ho_9_37 hA v.l9, hg_9_37 hA v.l9, hoa_87 hA v.l87, hga_87 hA v.l87, true_and, and_true, kk1_i, kk1_r, kk1_n, kk1_0, kcat_iv, kcat_ref, kcat_null, kisR_ref, kisR_null, ksz_nil, ksz_iv, ksz_ref, ksz_null, ksz_lv, kfit_int, kfit_long, kfit_obj, kfit_objN, kfit_arr, kfit_arrN, knarI, knarZ0, knarZ1, kret_v, kret_n, kret_x, Nat.reduceAdd, Nat.reduceLeDiff, reduceCtorEq, Int.reduceLE, Int.reduceLT, Int.reduceEq, ite_true, ite_false, true_or, or_true, false_implies, true_implies, not_true_eq_false, not_false_eq_true, and_self, eq_self, klc_lt, klc_ge, klc_le, klc_gt, klc_eq, kmu_eq, kmu_f, kmu_i, kmu_j, j125 hA v r, Nat.zero_le, f125, ksf_g, h, show 1 ≤ d by omega]
end
