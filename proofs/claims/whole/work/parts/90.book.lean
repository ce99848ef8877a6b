/-! The book: who leads to whom, and how far. -/
def kaf (C : ka_M) (φ : Int → Int) : ka_M := fun f i j => if f = 26 ∧ i = 0 ∧ 0 ≤ j ∧ j < 20 then φ j else C f i j
section
variable {C : ka_M} {φ ψ : Int → Int}
theorem kaf_f {f : Nat} {i j : Int} (h : f ≠ 26) : kaf C φ f i j = C f i j := if_neg (fun z => h z.1)
theorem kaf_ff {f : Nat} (h : f ≠ 26) : kaf C φ f = C f := by
  funext i j
  exact kaf_f h
theorem kaf_g {j : Int} (h0 : 0 ≤ j) (h1 : j < 20) : kaf C φ 26 0 j = φ j := if_pos ⟨rfl, rfl, h0, h1⟩
theorem kaf_mu {g x : Int} (h0 : 0 ≤ g) (h1 : g < 20) : kmu (kaf C φ) 26 0 g x = kaf C (kfu φ g x) := by
  funext f i j
  unfold kmu kaf kfu
  by_cases e : f = 26 ∧ i = 0 ∧ j = g
  · obtain ⟨rfl, rfl, rfl⟩ := e
    simp [h0, h1]
  · rw [if_neg e]
    by_cases e2 : f = 26 ∧ i = 0 ∧ 0 ≤ j ∧ j < 20
    · rw [if_pos e2, if_pos e2, if_neg (fun z => e ⟨e2.1, e2.2.1, z⟩)]
    · rw [if_neg e2, if_neg e2]
theorem kaf_ext (h : ∀ j, 0 ≤ j → j < 20 → φ j = ψ j) : kaf C φ = kaf C ψ := by
  funext f i j
  unfold kaf
  by_cases e : f = 26 ∧ i = 0 ∧ 0 ≤ j ∧ j < 20
  · rw [if_pos e, if_pos e, h j e.2.2.1 e.2.2.2]
  · rw [if_neg e, if_neg e]
theorem kaf_self : kaf C (C 26 0) = C := by
  funext f i j
  unfold kaf
  split
  · rename_i e
    obtain ⟨rfl, rfl, -⟩ := e
    rfl
  · rfl
theorem kaf_muf {f : Nat} {i j x : Int} (h : f ≠ 26) : kmu (kaf C φ) f i j x = kaf (kmu C f i j x) φ := by
  funext f' i' j'
  unfold kmu kaf
  by_cases e : f' = f ∧ i' = i ∧ j' = j
  · obtain ⟨rfl, rfl, rfl⟩ := e
    simp [h]
  · simp [e]
end
/-- the sets of goods say what leads -/
def kLd (C X : ka_M) : Prop := ∀ g, 0 ≤ g → g < 20 → 0 ≤ C 25 0 g ∧ C 25 0 g < 1048576 ∧ ∀ h, 0 ≤ h → h < 20 → (kbit (C 25 0 g) h ↔ klead X g h)
section
variable {E : Nat × Nat} {d c l : Nat} {s : ka_S} {h : ka_H} {Q : ka_Q} {J : ka_H} {A : ka_A} {V : ka_V} {C R X : ka_M}
theorem c187 (hA : kJ A V) (v : kLV V) : ka_W (kp E) (d, (187, 0, [some (.ref (A 26 0)), some (iv (-1)), none, none], []), (kHp J A V C R, c, l)) Q ↔ Q (.inl none) (kHp J A V (kaf C (fun _ => -1)) R, c, l) := by
  have v26 := v.l26
  obtain ⟨w, -⟩ := kfor (n := 20) (f := fun g X => kmu X 26 0 g (-1)) (inv := fun g X => 0 ≤ g ∧ X = kaf C (kmixd g (fun _ => -1) (C 26 0))) (W := fun g X => ka_W (kp E) (d, (187, 5, [some (.ref (A 26 0)), some (iv (-1)), some (iv g), some (iv 20)], []), (kHp J A V X R, c, l)) Q) (fun g Y hg ⟨g0, hY⟩ => by
    refine ⟨⟨by omega, ?_⟩, ?_⟩
    · rw [hY, kaf_mu g0 hg]
      apply kaf_ext
      intro j h0 h1
      by_cases e : j = g
      · subst e
        rw [kfu_eq, kmixd_lt (by omega)]
      · rw [kfu_ne e]
        unfold kmixd
        by_cases e2 : j < g
        · rw [if_pos e2, if_pos (by omega)]
        · rw [if_neg e2, if_neg (by omega)]
    · rw [r187_5]
      simp (disch := first | assumption | (unfold kR; decide) | exact klc_R | (unfold kR; omega) | omega | (unfold kL; omega) | exact kcat_null | exact kcat_ref _ | exact kcat_iv _) only [r187_6, r187_7, r187_10, r187_11, r187_12, r187_13, r187_14, r187_17, true_and, and_true, kk1_i, kk1_r, kk1_n, kk1_0, kcat_iv, kcat_ref, kcat_null, kisR_ref, kisR_null, ksz_nil, ksz_iv, ksz_ref, ksz_null, ksz_lv, kfit_int, kfit_long, kfit_obj, kfit_objN, kfit_arr, kfit_arrN, knarI, knarZ0, knarZ1, kret_v, kret_n, kret_x, Nat.reduceAdd, Nat.reduceLeDiff, reduceCtorEq, Int.reduceLE, Int.reduceLT, Int.reduceEq, ite_true, ite_false, true_or, or_true, false_implies, true_implies, not_true_eq_false, not_false_eq_true, and_self, eq_self, klc_lt, klc_ge, klc_le, klc_gt, klc_eq, kmu_eq, kmu_f, kmu_i, kmu_j, hoa_26 hA v26, hpa_26 hA v26, show ¬ (20:Int) ≤ g by omega]) 20 0 C (by omega) ⟨by omega, by rw [kaf_ext (ψ := C 26 0) (fun j h0 h1 => kmixd_ge h0), kaf_self]⟩
  have hend : kfd (fun g X => kmu X 26 0 g (-1)) 20 0 C = kaf C (fun _ => -1) := by
    obtain ⟨-, -, z⟩ := kfor (W := fun _ _ => True) (n := 20) (f := fun g X => kmu X 26 0 g (-1)) (inv := fun g X => 0 ≤ g ∧ X = kaf C (kmixd g (fun _ => -1) (C 26 0))) (fun g Y hg ⟨g0, hY⟩ => by
      refine ⟨⟨by omega, ?_⟩, Iff.rfl⟩
      rw [hY, kaf_mu g0 hg]
      apply kaf_ext
      intro j h0 h1
      by_cases e : j = g
      · subst e
        rw [kfu_eq, kmixd_lt (by omega)]
      · rw [kfu_ne e]
        unfold kmixd
        by_cases e2 : j < g
        · rw [if_pos e2, if_pos (by omega)]
        · rw [if_neg e2, if_neg (by omega)]) 20 0 C (by omega) ⟨by omega, by rw [kaf_ext (ψ := C 26 0) (fun j h0 h1 => kmixd_ge h0), kaf_self]⟩
    rw [z]
    exact kaf_ext (fun j h0 h1 => kmixd_lt h1)
  rw [hend] at w
  have w' := w.trans (show _ ↔ Q (.inl none) (kHp J A V (kaf C (fun _ => -1)) R, c, l) by
    rw [r187_5]
    simp (disch := first | assumption | (unfold kR; decide) | exact klc_R | (unfold kR; omega) | omega | (unfold kL; omega) | exact kcat_null | exact kcat_ref _ | exact kcat_iv _) only [r187_6, r187_7, r187_20, true_and, and_true, kk1_i, kk1_r, kk1_n, kk1_0, kcat_iv, kcat_ref, kcat_null, kisR_ref, kisR_null, ksz_nil, ksz_iv, ksz_ref, ksz_null, ksz_lv, kfit_int, kfit_long, kfit_obj, kfit_objN, kfit_arr, kfit_arrN, knarI, knarZ0, knarZ1, kret_v, kret_n, kret_x, Nat.reduceAdd, Nat.reduceLeDiff, reduceCtorEq, Int.reduceLE, Int.reduceLT, Int.reduceEq, ite_true, ite_false, true_or, or_true, false_implies, true_implies, not_true_eq_false, not_false_eq_true, and_self, eq_self, klc_lt, klc_ge, klc_le, klc_gt, klc_eq, kmu_eq, kmu_f, kmu_i, kmu_j, Int.le_refl])
  rw [← w']
  have e20 : ((20 : Nat) : Int) = 20 := rfl
  simp (disch := first | assumption | (unfold kR; decide) | exact klc_R | (unfold kR; omega) | omega | (unfold kL; omega) | exact kcat_null | exact kcat_ref _ | exact kcat_iv _) only [r187_0, r187_1, r187_2, r187_3, r187_4, true_and, and_true, kk1_i, kk1_r, kk1_n, kk1_0, kcat_iv, kcat_ref, kcat_null, kisR_ref, kisR_null, ksz_nil, ksz_iv, ksz_ref, ksz_null, ksz_lv, kfit_int, kfit_long, kfit_obj, kfit_objN, kfit_arr, kfit_arrN, knarI, knarZ0, knarZ1, kret_v, kret_n, kret_x, Nat.reduceAdd, Nat.reduceLeDiff, reduceCtorEq, Int.reduceLE, Int.reduceLT, Int.reduceEq, ite_true, ite_false, true_or, or_true, false_implies, true_implies, not_true_eq_false, not_false_eq_true, and_self, eq_self, klc_lt, klc_ge, klc_le, klc_gt, klc_eq, kmu_eq, kmu_f, kmu_i, kmu_j, hal_26 hA v26, hl_26 hA v26, e20]
theorem klead_kaf {g h : Int} (L : kLd C X) (φ : Int → Int) : kLd (kaf C φ) X := by
  unfold kLd
  rw [kaf_ff (by decide)]
  exact L
/-- what a good's set meets -/
theorem kLd_hit (L : kLd C X) {φ : Int → Int} {N s g : Int} (g0 : 0 ≤ g) (g1 : g < 20) (n0 : 0 ≤ N) (n1 : N < 1048576) (hN : ∀ h, 0 ≤ h → h < 20 → (kbit N h ↔ φ h = s)) : ¬ kand (C 25 0 g) N = 0 ↔ khit X φ s g 0 := by
  obtain ⟨a, b, c'⟩ := L g g0 g1
  rw [kbit_and a b n0 n1]
  constructor
  · rintro ⟨q, q0, q1, q2, q3⟩
    exact ⟨q, q0, q1, (hN q q0 q1).mp q3, (c' q q0 q1).mp q2⟩
  · rintro ⟨q, q0, q1, q2, q3⟩
    exact ⟨q, q0, q1, (c' q q0 q1).mpr q3, (hN q q0 q1).mpr q2⟩
theorem kand_r {x y : Int} (x0 : 0 ≤ x) (x1 : x < 1048576) (y0 : 0 ≤ y) (y1 : y < 1048576) : kR (kand x y) := by
  rw [kand_nat x0 (by omega) y0 (by omega)]
  have : x.toNat &&& y.toNat ≤ x.toNat := Nat.and_le_left
  generalize x.toNat &&& y.toNat = q at this
  unfold kR
  omega
theorem c64_l (hA : kJ A V) (v : kLV V) {φ : Int → Int} {N t : Int} (L : kLd C X) (t0 : 0 ≤ t) (t1 : t < 20) (n0 : 0 ≤ N) (n1 : N < 1048576) (hN : ∀ h, 0 ≤ h → h < 20 → (kbit N h ↔ φ h = t)) (hφ : ∀ j, -1 ≤ φ j ∧ φ j ≤ t) :
    ∀ (n : Nat) (g N' : Int), 0 ≤ g → g + n = 20 → 0 ≤ N' → N' < 1048576 → (∀ h, 0 ≤ h → h < 20 → (kbit N' h ↔ h < g ∧ knxt X φ t h = t + 1)) →
    (∀ N'', 0 ≤ N'' → N'' < 1048576 → (∀ h, 0 ≤ h → h < 20 → (kbit N'' h ↔ knxt X φ t h = t + 1)) → Q (.inl (some (iv N''))) (kHp J A V (kaf C (knxt X φ t)) R, c, l)) →
    ka_W (kp E) (d, (64, 5, [some (.ref (A 1 0)), some (iv N), some (iv (t + 1)), some (iv N'), some (iv g)], []), (kHp J A V (kaf C (kmixd g (knxt X φ t) φ)) R, c, l)) Q
  | n, g, N', g0, hn, n0', n1', hN', H => by
    cases n with
    | zero =>
      have e : g = 20 := by omega
      subst e
      have := H N' n0' n1' (fun h h0 h1 => by rw [hN' h h0 h1]; exact ⟨fun z => z.2, fun z => ⟨h1, z⟩⟩)
      rw [kaf_ext (φ := kmixd 20 (knxt X φ t) φ) (ψ := knxt X φ t) (fun j h0 h1 => kmixd_lt h1)]
      simp (disch := first | assumption | (unfold kR; decide) | exact klc_R | (unfold kR; omega) | omega | (unfold kL; omega) | exact kcat_null | exact kcat_ref _ | exact kcat_iv _) only [r64_5, r64_7, r64_9, r64_56, r64_57, true_and, and_true, kk1_i, kk1_r, kk1_n, kk1_0, kcat_iv, kcat_ref, kcat_null, kisR_ref, kisR_null, ksz_nil, ksz_iv, ksz_ref, ksz_null, ksz_lv, kfit_int, kfit_long, kfit_obj, kfit_objN, kfit_arr, kfit_arrN, knarI, knarZ0, knarZ1, kret_v, kret_n, kret_x, Nat.reduceAdd, Nat.reduceLeDiff, reduceCtorEq, Int.reduceLE, Int.reduceLT, Int.reduceEq, ite_true, ite_false, true_or, or_true, false_implies, true_implies, not_true_eq_false, not_false_eq_true, and_self, eq_self, klc_lt, klc_ge, klc_le, klc_gt, klc_eq, kmu_eq, kmu_f, kmu_i, kmu_j, Int.le_refl]
      exact this
    | succ n =>
      have B := hφ g
      have mg : kmixd g (knxt X φ t) φ g = φ g := kmixd_ge (by omega)
      obtain ⟨lg0, lg1, -⟩ := L g g0 (by omega)
      have hit := kLd_hit L (φ := φ) (s := t) g0 (by omega) n0 n1 hN
      have hr := kand_r lg0 lg1 n0 n1
      have keep : ¬ (φ g = -1 ∧ khit X φ t g 0) → kaf C (kmixd (g + 1) (knxt X φ t) φ) = kaf C (kmixd g (knxt X φ t) φ) := by
        intro z
        apply kaf_ext
        intro j h0 h1
        by_cases e : j = g
        · subst e
          rw [kmixd_lt (by omega), kmixd_ge (by omega), knxt_neg z]
        · unfold kmixd
          by_cases e2 : j < g
          · rw [if_pos e2, if_pos (by omega)]
          · rw [if_neg e2, if_neg (by omega)]
      have nb : ¬ (φ g = -1 ∧ khit X φ t g 0) → ∀ h, 0 ≤ h → h < 20 → (kbit N' h ↔ h < g + 1 ∧ knxt X φ t h = t + 1) := by
        intro z h h0 h1
        rw [hN' h h0 h1]
        constructor
        · rintro ⟨a, b⟩; exact ⟨by omega, b⟩
        · rintro ⟨a, b⟩
          refine ⟨?_, b⟩
          by_cases e : h = g
          · subst e
            rw [knxt_neg z] at b
            omega
          · omega
      rw [r64_5]
      by_cases h1 : φ g = -1
      · by_cases h2 : khit X φ t g 0
        · have z : φ g = -1 ∧ khit X φ t g 0 := ⟨h1, h2⟩
          have ob := kbit_or n0' n1' g0 (show g < 20 by omega)
          have ih := c64_l hA v L t0 t1 n0 n1 hN hφ n (g + 1) (kor N' (kshl 1 g)) (by omega) (by omega) ob.1 ob.2.1 (fun h h0 h3 => by
            unfold kbit at hN' ⊢
            rw [ob.2.2 h h0 h3, hN' h h0 h3]
            constructor
            · rintro (⟨a, b⟩ | rfl)
              · exact ⟨by omega, b⟩
              · exact ⟨by omega, knxt_pos z⟩
            · rintro ⟨a, b⟩
              by_cases e : h = g
              · exact Or.inr e
              · exact Or.inl ⟨by omega, b⟩) H
          have e : kaf C (kfu (kmixd g (knxt X φ t) φ) g (t + 1)) = kaf C (kmixd (g + 1) (knxt X φ t) φ) := by
            apply kaf_ext
            intro j h0 h3
            by_cases e : j = g
            · subst e
              rw [kfu_eq, kmixd_lt (by omega), knxt_pos z]
            · rw [kfu_ne e]
              unfold kmixd
              by_cases e2 : j < g
              · rw [if_pos e2, if_pos (by omega)]
              · rw [if_neg e2, if_neg (by omega)]
          have h2' := hit.mpr h2
          simp (disch := first | assumption | (unfold kR; decide) | exact klc_R | (unfold kR; omega) | omega | (unfold kL; omega) | exact kcat_null | exact kcat_ref _ | exact kcat_iv _) only [r64_7, r64_9, r64_12, r64_13, r64_16, r64_18, r64_19, r64_20, r64_23, r64_24, r64_27, r64_29, r64_30, r64_31, r64_32, r64_35, r64_36, r64_39, r64_41, r64_42, r64_43, r64_44, r64_45, r64_47, r64_48, r64_49, r64_50, r64_53, ho_1_3 hA v.l1, hg_1_3 hA v.l1, hoa_26 hA v.l26, hga_26 hA v.l26, hpa_26 hA v.l26, ho_1_2 hA v.l1, hg_1_2 hA v.l1, hoa_25 hA v.l25, hga_25 hA v.l25, hpa_25 hA v.l25, true_and, and_true, kk1_i, kk1_r, kk1_n, kk1_0, kcat_iv, kcat_ref, kcat_null, kisR_ref, kisR_null, ksz_nil, ksz_iv, ksz_ref, ksz_null, ksz_lv, kfit_int, kfit_long, kfit_obj, kfit_objN, kfit_arr, kfit_arrN, knarI, knarZ0, knarZ1, kret_v, kret_n, kret_x, Nat.reduceAdd, Nat.reduceLeDiff, reduceCtorEq, Int.reduceLE, Int.reduceLT, Int.reduceEq, ite_true, ite_false, true_or, or_true, false_implies, true_implies, not_true_eq_false, not_false_eq_true, and_self, eq_self, klc_lt, klc_ge, klc_le, klc_gt, klc_eq, kmu_eq, kmu_f, kmu_i, kmu_j, show ¬ (20:Int) ≤ g by omega, kaf_f, kaf_g, mg, h1, h2', kaf_mu, e]
          exact ih
        · have z : ¬ (φ g = -1 ∧ khit X φ t g 0) := fun w => h2 w.2
          have h2' : kand (C 25 0 g) N = 0 := Classical.byContradiction (fun w => h2 (hit.mp w))
          have ih := c64_l hA v L t0 t1 n0 n1 hN hφ n (g + 1) N' (by omega) (by omega) n0' n1' (nb z) H
          rw [keep z] at ih
          simp (disch := first | assumption | (unfold kR; decide) | exact klc_R | (unfold kR; omega) | omega | (unfold kL; omega) | exact kcat_null | exact kcat_ref _ | exact kcat_iv _) only [r64_7, r64_9, r64_12, r64_13, r64_16, r64_18, r64_19, r64_20, r64_23, r64_24, r64_27, r64_29, r64_30, r64_31, r64_32, r64_35, r64_36, r64_39, r64_41, r64_42, r64_43, r64_44, r64_45, r64_47, r64_48, r64_49, r64_50, r64_53, ho_1_3 hA v.l1, hg_1_3 hA v.l1, hoa_26 hA v.l26, hga_26 hA v.l26, hpa_26 hA v.l26, ho_1_2 hA v.l1, hg_1_2 hA v.l1, hoa_25 hA v.l25, hga_25 hA v.l25, hpa_25 hA v.l25, true_and, and_true, kk1_i, kk1_r, kk1_n, kk1_0, kcat_iv, kcat_ref, kcat_null, kisR_ref, kisR_null, ksz_nil, ksz_iv, ksz_ref, ksz_null, ksz_lv, kfit_int, kfit_long, kfit_obj, kfit_objN, kfit_arr, kfit_arrN, knarI, knarZ0, knarZ1, kret_v, kret_n, kret_x, Nat.reduceAdd, Nat.reduceLeDiff, reduceCtorEq, Int.reduceLE, Int.reduceLT, Int.reduceEq, ite_true, ite_false, true_or, or_true, false_implies, true_implies, not_true_eq_false, not_false_eq_true, and_self, eq_self, klc_lt, klc_ge, klc_le, klc_gt, klc_eq, kmu_eq, kmu_f, kmu_i, kmu_j, show ¬ (20:Int) ≤ g by omega, kaf_f, kaf_g, mg, h1, h2']
          exact ih
      · have z : ¬ (φ g = -1 ∧ khit X φ t g 0) := fun w => h1 w.1
        have ih := c64_l hA v L t0 t1 n0 n1 hN hφ n (g + 1) N' (by omega) (by omega) n0' n1' (nb z) H
        rw [keep z] at ih
        simp (disch := first | assumption | (unfold kR; decide) | exact klc_R | (unfold kR; omega) | omega | (unfold kL; omega) | exact kcat_null | exact kcat_ref _ | exact kcat_iv _) only [r64_7, r64_9, r64_12, r64_13, r64_16, r64_18, r64_19, r64_20, r64_23, r64_24, r64_27, r64_29, r64_30, r64_31, r64_32, r64_35, r64_36, r64_39, r64_41, r64_42, r64_43, r64_44, r64_45, r64_47, r64_48, r64_49, r64_50, r64_53, ho_1_3 hA v.l1, hg_1_3 hA v.l1, hoa_26 hA v.l26, hga_26 hA v.l26, hpa_26 hA v.l26, ho_1_2 hA v.l1, hg_1_2 hA v.l1, hoa_25 hA v.l25, hga_25 hA v.l25, hpa_25 hA v.l25, true_and, and_true, kk1_i, kk1_r, kk1_n, kk1_0, kcat_iv, kcat_ref, kcat_null, kisR_ref, kisR_null, ksz_nil, ksz_iv, ksz_ref, ksz_null, ksz_lv, kfit_int, kfit_long, kfit_obj, kfit_objN, kfit_arr, kfit_arrN, knarI, knarZ0, knarZ1, kret_v, kret_n, kret_x, Nat.reduceAdd, Nat.reduceLeDiff, reduceCtorEq, Int.reduceLE, Int.reduceLT, Int.reduceEq, ite_true, ite_false, true_or, or_true, false_implies, true_implies, not_true_eq_false, not_false_eq_true, and_self, eq_self, klc_lt, klc_ge, klc_le, klc_gt, klc_eq, kmu_eq, kmu_f, kmu_i, kmu_j, show ¬ (20:Int) ≤ g by omega, kaf_f, kaf_g, mg, h1]
        exact ih
theorem c64 (hA : kJ A V) (v : kLV V) {φ : Int → Int} {N t : Int} (L : kLd C X) (t0 : 0 ≤ t) (t1 : t < 20) (n0 : 0 ≤ N) (n1 : N < 1048576) (hN : ∀ h, 0 ≤ h → h < 20 → (kbit N h ↔ φ h = t)) (hφ : ∀ j, -1 ≤ φ j ∧ φ j ≤ t)
    (H : ∀ N'', 0 ≤ N'' → N'' < 1048576 → (∀ h, 0 ≤ h → h < 20 → (kbit N'' h ↔ knxt X φ t h = t + 1)) → Q (.inl (some (iv N''))) (kHp J A V (kaf C (knxt X φ t)) R, c, l)) :
    ka_W (kp E) (d, (64, 0, [some (.ref (A 1 0)), some (iv N), some (iv (t + 1)), none, none], []), (kHp J A V (kaf C φ) R, c, l)) Q := by
  have z := c64_l (E := E) (d := d) (c := c) (l := l) (Q := Q) (J := J) (R := R) hA v L t0 t1 n0 n1 hN hφ 20 0 0 (by omega) (by omega) (by omega) (by omega) (fun h h0 h1 => ⟨fun w => absurd w (kbit_0 h0 h1), fun w => by omega⟩) H
  rw [kaf_ext (φ := kmixd 0 (knxt X φ t) φ) (ψ := φ) (fun j h0 h1 => kmixd_ge h0)] at z
  simp (disch := first | assumption | (unfold kR; decide) | exact klc_R | (unfold kR; omega) | omega | (unfold kL; omega) | exact kcat_null | exact kcat_ref _ | exact kcat_iv _) only [r64_0, r64_1, r64_2, r64_3, true_and, and_true, kk1_i, kk1_r, kk1_n, kk1_0, kcat_iv, kcat_ref, kcat_null, kisR_ref, kisR_null, ksz_nil, ksz_iv, ksz_ref, ksz_null, ksz_lv, kfit_int, kfit_long, kfit_obj, kfit_objN, kfit_arr, kfit_arrN, knarI, knarZ0, knarZ1, kret_v, kret_n, kret_x, Nat.reduceAdd, Nat.reduceLeDiff, reduceCtorEq, Int.reduceLE, Int.reduceLT, Int.reduceEq, ite_true, ite_false, true_or, or_true, false_implies, true_implies, not_true_eq_false, not_false_eq_true, and_self, eq_self, klc_lt, klc_ge, klc_le, klc_gt, klc_eq, kmu_eq, kmu_f, kmu_i, kmu_j]
  exact z
theorem kfars_stop {to : Int} {n : Nat} (hz : ∀ j, 0 ≤ j → j < 20 → kfars X to n j ≠ n) : ∀ k : Nat, kfars X to (n + k) = kfars X to n
  | 0 => rfl
  | k + 1 => by
    have ih := kfars_stop hz k
    funext j
    show knxt X (kfars X to (n + k)) ((n + k : Nat) : Int) j = _
    rw [ih, knxt_neg]
    rintro ⟨-, q, q0, q1, q2, -⟩
    have := kfars_rng (R := X) (to := to) n q
    by_cases e : k = 0
    · subst e
      exact hz q q0 q1 q2
    · omega
theorem kfars_2019 {to j : Int} (h0 : 0 ≤ j) (h1 : j < 20) : kfars X to 20 j = kfars X to 19 j := by
  have := kfars_19 (R := X) (to := to) h0 h1
  show knxt X (kfars X to 19) ((19 : Nat) : Int) j = _
  by_cases z : kfars X to 19 j = -1 ∧ khit X (kfars X to 19) ((19 : Nat) : Int) j 0
  · have e : kfars X to 20 j = ((19 : Nat) : Int) + 1 := knxt_pos z
    omega
  · exact knxt_neg z
theorem c61_l (hA : kJ A V) (v : kLV V) {k to g : Int} (L : kLd C X) (hd : 1 ≤ d) (g0 : 0 ≤ g) (g1 : g < 20) :
    ∀ (n t : Nat) (N : Int), t + n = 19 → 0 ≤ N → N < 1048576 → (∀ h, 0 ≤ h → h < 20 → (kbit N h ↔ kfars X to t h = t)) →
    Q (.inl (some (iv (kb (kfars X to 20 g ≠ -1))))) (kHp J A V (kaf C (kfars X to 20)) R, c, l) →
    ka_W (kp E) (d, (61, 28, [some (.ref (A 1 0)), some (.ref (A 3 k)), some (iv g), some (iv N), some (iv ((t : Int) + 1))], []), (kHp J A V (kaf C (kfars X to t)) R, c, l)) Q
  | n, t, N, hn, n0, n1, hN, H => by
    have hout : ∀ N t', kaf C (kfars X to t) = kaf C (kfars X to 20) → ka_W (kp E) (d, (61, 53, [some (.ref (A 1 0)), some (.ref (A 3 k)), some (iv g), some (iv N), some (iv t')], []), (kHp J A V (kaf C (kfars X to t)) R, c, l)) Q := by
      intro N t' e
      rw [e]
      have B := kfars_rng (R := X) (to := to) 20 g
      by_cases z : kfars X to 20 g = -1
      · rw [kb_f (by simp [z])] at H
        simp (disch := first | assumption | (unfold kR; decide) | exact klc_R | (unfold kR; omega) | omega | (unfold kL; omega) | exact kcat_null | exact kcat_ref _ | exact kcat_iv _) only [r61_53, r61_54, r61_57, r61_58, r61_59, r61_60, r61_63, r61_64, r61_67, r61_68, ho_1_3 hA v.l1, hg_1_3 hA v.l1, hoa_26 hA v.l26, hga_26 hA v.l26, true_and, and_true, kk1_i, kk1_r, kk1_n, kk1_0, kcat_iv, kcat_ref, kcat_null, kisR_ref, kisR_null, ksz_nil, ksz_iv, ksz_ref, ksz_null, ksz_lv, kfit_int, kfit_long, kfit_obj, kfit_objN, kfit_arr, kfit_arrN, knarI, knarZ0, knarZ1, kret_v, kret_n, kret_x, Nat.reduceAdd, Nat.reduceLeDiff, reduceCtorEq, Int.reduceLE, Int.reduceLT, Int.reduceEq, ite_true, ite_false, true_or, or_true, false_implies, true_implies, not_true_eq_false, not_false_eq_true, and_self, eq_self, klc_lt, klc_ge, klc_le, klc_gt, klc_eq, kmu_eq, kmu_f, kmu_i, kmu_j, kaf_f, kaf_g, z]
        exact H
      · rw [kb_t z] at H
        simp (disch := first | assumption | (unfold kR; decide) | exact klc_R | (unfold kR; omega) | omega | (unfold kL; omega) | exact kcat_null | exact kcat_ref _ | exact kcat_iv _) only [r61_53, r61_54, r61_57, r61_58, r61_59, r61_60, r61_63, r61_64, r61_67, r61_68, ho_1_3 hA v.l1, hg_1_3 hA v.l1, hoa_26 hA v.l26, hga_26 hA v.l26, true_and, and_true, kk1_i, kk1_r, kk1_n, kk1_0, kcat_iv, kcat_ref, kcat_null, kisR_ref, kisR_null, ksz_nil, ksz_iv, ksz_ref, ksz_null, ksz_lv, kfit_int, kfit_long, kfit_obj, kfit_objN, kfit_arr, kfit_arrN, knarI, knarZ0, knarZ1, kret_v, kret_n, kret_x, Nat.reduceAdd, Nat.reduceLeDiff, reduceCtorEq, Int.reduceLE, Int.reduceLT, Int.reduceEq, ite_true, ite_false, true_or, or_true, false_implies, true_implies, not_true_eq_false, not_false_eq_true, and_self, eq_self, klc_lt, klc_ge, klc_le, klc_gt, klc_eq, kmu_eq, kmu_f, kmu_i, kmu_j, kaf_f, kaf_g, z]
        exact H
    cases n with
    | zero =>
      have e : t = 19 := by omega
      subst e
      have e2 : ((19 : Nat) : Int) + 1 = 20 := rfl
      rw [e2]
      have := hout N 20 (kaf_ext (fun j h0 h1 => (kfars_2019 h0 h1).symm))
      simp (disch := first | assumption | (unfold kR; decide) | exact klc_R | (unfold kR; omega) | omega | (unfold kL; omega) | exact kcat_null | exact kcat_ref _ | exact kcat_iv _) only [r61_28, r61_30, r61_32, true_and, and_true, kk1_i, kk1_r, kk1_n, kk1_0, kcat_iv, kcat_ref, kcat_null, kisR_ref, kisR_null, ksz_nil, ksz_iv, ksz_ref, ksz_null, ksz_lv, kfit_int, kfit_long, kfit_obj, kfit_objN, kfit_arr, kfit_arrN, knarI, knarZ0, knarZ1, kret_v, kret_n, kret_x, Nat.reduceAdd, Nat.reduceLeDiff, reduceCtorEq, Int.reduceLE, Int.reduceLT, Int.reduceEq, ite_true, ite_false, true_or, or_true, false_implies, true_implies, not_true_eq_false, not_false_eq_true, and_self, eq_self, klc_lt, klc_ge, klc_le, klc_gt, klc_eq, kmu_eq, kmu_f, kmu_i, kmu_j, Int.le_refl]
      exact this
    | succ n =>
      by_cases z : N = 0
      · have hz := (kbit_z n0 n1).mp z
        have hs := kfars_stop (X := X) (to := to) (n := t) (fun j h0 h1 w => hz j h0 h1 ((hN j h0 h1).mpr w)) (20 - t)
        rw [show t + (20 - t) = 20 by omega] at hs
        have := hout N ((t : Int) + 1) (by rw [hs])
        simp (disch := first | assumption | (unfold kR; decide) | exact klc_R | (unfold kR; omega) | omega | (unfold kL; omega) | exact kcat_null | exact kcat_ref _ | exact kcat_iv _) only [r61_28, r61_30, r61_32, r61_35, r61_36, true_and, and_true, kk1_i, kk1_r, kk1_n, kk1_0, kcat_iv, kcat_ref, kcat_null, kisR_ref, kisR_null, ksz_nil, ksz_iv, ksz_ref, ksz_null, ksz_lv, kfit_int, kfit_long, kfit_obj, kfit_objN, kfit_arr, kfit_arrN, knarI, knarZ0, knarZ1, kret_v, kret_n, kret_x, Nat.reduceAdd, Nat.reduceLeDiff, reduceCtorEq, Int.reduceLE, Int.reduceLT, Int.reduceEq, ite_true, ite_false, true_or, or_true, false_implies, true_implies, not_true_eq_false, not_false_eq_true, and_self, eq_self, klc_lt, klc_ge, klc_le, klc_gt, klc_eq, kmu_eq, kmu_f, kmu_i, kmu_j, show ¬ (20:Int) ≤ (t : Int) + 1 by omega, z] at this ⊢
        exact this
      · have ih := fun N' a b c' => c61_l hA v (k := k) L hd g0 g1 n (t + 1) N' (by omega) a b c' H
        have z2 := fun {Q} H => c64 (E := E) (d := d - 1) (c := c) (l := l) (Q := Q) (J := J) (R := R) hA v L (φ := kfars X to t) (N := N) (t := t) (by omega) (by omega) n0 n1 hN (fun j => kfars_rng t j) H
        rw [r61_28]
        simp (disch := first | assumption | (unfold kR; decide) | exact klc_R | (unfold kR; omega) | omega | (unfold kL; omega) | exact kcat_null | exact kcat_ref _ | exact kcat_iv _) only [r61_30, r61_32, r61_35, r61_36, r61_39, r61_40, r61_41, r61_43, ht_1 hA v.l1, true_and, and_true, kk1_i, kk1_r, kk1_n, kk1_0, kcat_iv, kcat_ref, kcat_null, kisR_ref, kisR_null, ksz_nil, ksz_iv, ksz_ref, ksz_null, ksz_lv, kfit_int, kfit_long, kfit_obj, kfit_objN, kfit_arr, kfit_arrN, knarI, knarZ0, knarZ1, kret_v, kret_n, kret_x, Nat.reduceAdd, Nat.reduceLeDiff, reduceCtorEq, Int.reduceLE, Int.reduceLT, Int.reduceEq, ite_true, ite_false, true_or, or_true, false_implies, true_implies, not_true_eq_false, not_false_eq_true, and_self, eq_self, klc_lt, klc_ge, klc_le, klc_gt, klc_eq, kmu_eq, kmu_f, kmu_i, kmu_j, show ¬ (20:Int) ≤ (t : Int) + 1 by omega, z, Nat.zero_le, hd]
        refine z2 (fun N' a b c' => ?_)
        have e1 : ((t + 1 : Nat) : Int) = (t : Int) + 1 := by omega
        have := ih N' a b (fun h h0 h1 => by rw [e1]; exact c' h h0 h1)
        rw [e1] at this
        simp (disch := first | assumption | (unfold kR; decide) | exact klc_R | (unfold kR; omega) | omega | (unfold kL; omega) | exact kcat_null | exact kcat_ref _ | exact kcat_iv _) only [r61_46, r61_47, r61_50, true_and, and_true, kk1_i, kk1_r, kk1_n, kk1_0, kcat_iv, kcat_ref, kcat_null, kisR_ref, kisR_null, ksz_nil, ksz_iv, ksz_ref, ksz_null, ksz_lv, kfit_int, kfit_long, kfit_obj, kfit_objN, kfit_arr, kfit_arrN, knarI, knarZ0, knarZ1, kret_v, kret_n, kret_x, Nat.reduceAdd, Nat.reduceLeDiff, reduceCtorEq, Int.reduceLE, Int.reduceLT, Int.reduceEq, ite_true, ite_false, true_or, or_true, false_implies, true_implies, not_true_eq_false, not_false_eq_true, and_self, eq_self, klc_lt, klc_ge, klc_le, klc_gt, klc_eq, kmu_eq, kmu_f, kmu_i, kmu_j]
        exact this
/-- makesRing -/
theorem c61 (hA : kJ A V) (v : kLV V) {k g : Int} (L : kLd C X) (hd : 2 ≤ d) (hk : V 3 k) (t0 : 0 ≤ C 3 k 1) (t1 : C 3 k 1 < 20) (g0 : 0 ≤ g) (g1 : g < 20)
    (H : Q (.inl (some (iv (kb (kfars X (C 3 k 1) 20 g ≠ -1))))) (kHp J A V (kaf C (kfars X (C 3 k 1) 20)) R, c, l)) :
    ka_W (kp E) (d, (61, 0, [some (.ref (A 1 0)), some (.ref (A 3 k)), some (iv g), none, none], []), (kHp J A V C R, c, l)) Q := by
  have hp := ktwo_i (g := (C 3 k 1).toNat) (by omega)
  have e2 := kshl_nat t0 t1
  have z := c61_l (E := E) (d := d) (c := c) (l := l) (Q := Q) (J := J) (R := R) hA v (k := k) (to := C 3 k 1) L (by omega) g0 g1 19 0 (kshl 1 (C 3 k 1)) (by omega) (by rw [e2]; exact hp.1) (by rw [e2]; exact hp.2) (fun h h0 h1 => by
    unfold kbit
    rw [kbit_1 t0 t1 h0 h1]
    exact (kfars_0 (R := X) (to := C 3 k 1) (n := 0)).symm) H
  have e : kaf C (kfu (fun _ => -1) (C 3 k 1) 0) = kaf C (kfars X (C 3 k 1) 0) := by
    apply kaf_ext
    intro j h0 h1
    unfold kfu kfars kfar0
    rfl
  simp (disch := first | assumption | (unfold kR; decide) | exact klc_R | (unfold kR; omega) | omega | (unfold kL; omega) | exact kcat_null | exact kcat_ref _ | exact kcat_iv _) only [r61_0, r61_1, r61_4, r61_5, r61_8, r61_9, r61_12, r61_13, r61_16, r61_17, r61_18, r61_19, r61_20, r61_23, r61_24, r61_25, r61_26, ho_1_3 hA v.l1, hg_1_3 hA v.l1, hoa_26 hA v.l26, hga_26 hA v.l26, hpa_26 hA v.l26, ho_3_1 hA, hg_3_1 hA, true_and, and_true, kk1_i, kk1_r, kk1_n, kk1_0, kcat_iv, kcat_ref, kcat_null, kisR_ref, kisR_null, ksz_nil, ksz_iv, ksz_ref, ksz_null, ksz_lv, kfit_int, kfit_long, kfit_obj, kfit_objN, kfit_arr, kfit_arrN, knarI, knarZ0, knarZ1, kret_v, kret_n, kret_x, Nat.reduceAdd, Nat.reduceLeDiff, reduceCtorEq, Int.reduceLE, Int.reduceLT, Int.reduceEq, ite_true, ite_false, true_or, or_true, false_implies, true_implies, not_true_eq_false, not_false_eq_true, and_self, eq_self, klc_lt, klc_ge, klc_le, klc_gt, klc_eq, kmu_eq, kmu_f, kmu_i, kmu_j, c187 hA v, kaf_f, kaf_mu, e, Nat.zero_le, show 1 ≤ d by omega]
  exact z
/-- nextOnWay -/
theorem c63_l (hA : kJ A V) (v : kLV V) {φ : Int → Int} {g : Int} (L : kLd C X) (g0 : 0 ≤ g) (g1 : g < 20) (hφ : ∀ j, 0 ≤ j → j < 20 → -1 ≤ φ j ∧ φ j ≤ 20) :
    ∀ (n : Nat) (h : Int), 0 ≤ h → h + n = 20 → khit X φ (φ g - 1) g h →
    (ka_W (kp E) (d, (63, 2, [some (.ref (A 1 0)), some (iv g), some (iv h)], []), (kHp J A V (kaf C φ) R, c, l)) Q ↔ Q (.inl (some (iv (knx X φ g n h)))) (kHp J A V (kaf C φ) R, c, l))
  | 0, h, h0, hn, hk => by
    obtain ⟨q, a, b, -⟩ := hk
    omega
  | n + 1, h, h0, hn, hk => by
    have B := hφ h h0 (by omega)
    have B2 := hφ g g0 g1
    obtain ⟨lg0, lg1, lg2⟩ := L g g0 g1
    have hb := lg2 h h0 (by omega)
    unfold kbit at hb
    have hr : kR (kand (kshr (C 25 0 g) h) 1) := by
      rw [kshr_nat lg0 (by omega) h0 (by omega)]
      have hlt : (C 25 0 g).toNat >>> h.toNat ≤ (C 25 0 g).toNat := Nat.shiftRight_le _ _
      have : ((C 25 0 g).toNat >>> h.toNat : Nat) < 1048576 := by omega
      generalize (C 25 0 g).toNat >>> h.toNat = q at *
      exact kand_r (by omega) (by omega) (by omega) (by omega)
    rw [r63_2]
    by_cases c2 : klead X g h
    · have c2' := hb.mpr c2
      by_cases c3 : φ h = φ g - 1
      · rw [knx_pos ⟨c3, c2⟩]
        simp (disch := first | assumption | (unfold kR; decide) | exact klc_R | (unfold kR; omega) | omega | (unfold kL; omega) | exact kcat_null | exact kcat_ref _ | exact kcat_iv _) only [r63_3, r63_5, r63_8, r63_9, r63_12, r63_13, r63_14, r63_15, r63_16, r63_17, r63_18, r63_19, r63_22, r63_23, r63_26, r63_27, r63_28, r63_29, r63_32, r63_33, r63_34, r63_35, r63_36, r63_39, r63_40, ho_1_2 hA v.l1, hg_1_2 hA v.l1, hoa_25 hA v.l25, hga_25 hA v.l25, ho_1_3 hA v.l1, hg_1_3 hA v.l1, hoa_26 hA v.l26, hga_26 hA v.l26, true_and, and_true, kk1_i, kk1_r, kk1_n, kk1_0, kcat_iv, kcat_ref, kcat_null, kisR_ref, kisR_null, ksz_nil, ksz_iv, ksz_ref, ksz_null, ksz_lv, kfit_int, kfit_long, kfit_obj, kfit_objN, kfit_arr, kfit_arrN, knarI, knarZ0, knarZ1, kret_v, kret_n, kret_x, Nat.reduceAdd, Nat.reduceLeDiff, reduceCtorEq, Int.reduceLE, Int.reduceLT, Int.reduceEq, ite_true, ite_false, true_or, or_true, false_implies, true_implies, not_true_eq_false, not_false_eq_true, and_self, eq_self, klc_lt, klc_ge, klc_le, klc_gt, klc_eq, kmu_eq, kmu_f, kmu_i, kmu_j, show ¬ (20:Int) ≤ h by omega, kaf_g, kaf_f, c2', c3]
      · have ih := c63_l hA v L g0 g1 hφ n (h + 1) (by omega) (by omega) ((khit_step (by omega)).mp hk |>.resolve_left (fun z => c3 z.1))
        rw [knx_neg (fun z => c3 z.1), ← ih]
        simp (disch := first | assumption | (unfold kR; decide) | exact klc_R | (unfold kR; omega) | omega | (unfold kL; omega) | exact kcat_null | exact kcat_ref _ | exact kcat_iv _) only [r63_3, r63_5, r63_8, r63_9, r63_12, r63_13, r63_14, r63_15, r63_16, r63_17, r63_18, r63_19, r63_22, r63_23, r63_26, r63_27, r63_28, r63_29, r63_32, r63_33, r63_34, r63_35, r63_36, r63_39, r63_40, r63_41, r63_44, ho_1_2 hA v.l1, hg_1_2 hA v.l1, hoa_25 hA v.l25, hga_25 hA v.l25, ho_1_3 hA v.l1, hg_1_3 hA v.l1, hoa_26 hA v.l26, hga_26 hA v.l26, true_and, and_true, kk1_i, kk1_r, kk1_n, kk1_0, kcat_iv, kcat_ref, kcat_null, kisR_ref, kisR_null, ksz_nil, ksz_iv, ksz_ref, ksz_null, ksz_lv, kfit_int, kfit_long, kfit_obj, kfit_objN, kfit_arr, kfit_arrN, knarI, knarZ0, knarZ1, kret_v, kret_n, kret_x, Nat.reduceAdd, Nat.reduceLeDiff, reduceCtorEq, Int.reduceLE, Int.reduceLT, Int.reduceEq, ite_true, ite_false, true_or, or_true, false_implies, true_implies, not_true_eq_false, not_false_eq_true, and_self, eq_self, klc_lt, klc_ge, klc_le, klc_gt, klc_eq, kmu_eq, kmu_f, kmu_i, kmu_j, show ¬ (20:Int) ≤ h by omega, kaf_g, kaf_f, c2', c3]
    · have c2' := mt hb.mp c2
      have ih := c63_l hA v L g0 g1 hφ n (h + 1) (by omega) (by omega) ((khit_step (by omega)).mp hk |>.resolve_left (fun z => c2 z.2))
      rw [knx_neg (fun z => c2 z.2), ← ih]
      simp (disch := first | assumption | (unfold kR; decide) | exact klc_R | (unfold kR; omega) | omega | (unfold kL; omega) | exact kcat_null | exact kcat_ref _ | exact kcat_iv _) only [r63_3, r63_5, r63_8, r63_9, r63_12, r63_13, r63_14, r63_15, r63_16, r63_17, r63_18, r63_19, r63_22, r63_23, r63_26, r63_27, r63_28, r63_29, r63_32, r63_33, r63_34, r63_35, r63_36, r63_39, r63_40, r63_41, r63_44, ho_1_2 hA v.l1, hg_1_2 hA v.l1, hoa_25 hA v.l25, hga_25 hA v.l25, ho_1_3 hA v.l1, hg_1_3 hA v.l1, hoa_26 hA v.l26, hga_26 hA v.l26, true_and, and_true, kk1_i, kk1_r, kk1_n, kk1_0, kcat_iv, kcat_ref, kcat_null, kisR_ref, kisR_null, ksz_nil, ksz_iv, ksz_ref, ksz_null, ksz_lv, kfit_int, kfit_long, kfit_obj, kfit_objN, kfit_arr, kfit_arrN, knarI, knarZ0, knarZ1, kret_v, kret_n, kret_x, Nat.reduceAdd, Nat.reduceLeDiff, reduceCtorEq, Int.reduceLE, Int.reduceLT, Int.reduceEq, ite_true, ite_false, true_or, or_true, false_implies, true_implies, not_true_eq_false, not_false_eq_true, and_self, eq_self, klc_lt, klc_ge, klc_le, klc_gt, klc_eq, kmu_eq, kmu_f, kmu_i, kmu_j, show ¬ (20:Int) ≤ h by omega, kaf_g, kaf_f, c2']
theorem c63 (hA : kJ A V) (v : kLV V) {φ : Int → Int} {g : Int} (L : kLd C X) (g0 : 0 ≤ g) (g1 : g < 20) (hφ : ∀ j, 0 ≤ j → j < 20 → -1 ≤ φ j ∧ φ j ≤ 20) (hk : khit X φ (φ g - 1) g 0) :
    ka_W (kp E) (d, (63, 0, [some (.ref (A 1 0)), some (iv g), none], []), (kHp J A V (kaf C φ) R, c, l)) Q ↔ Q (.inl (some (iv (knx X φ g 20 0)))) (kHp J A V (kaf C φ) R, c, l) := by
  refine Iff.trans ?_ (c63_l (E := E) (d := d) hA v L g0 g1 hφ 20 0 (by omega) (by omega) hk)
  simp (disch := first | assumption | (unfold kR; decide) | exact klc_R | (unfold kR; omega) | omega | (unfold kL; omega) | exact kcat_null | exact kcat_ref _ | exact kcat_iv _) only [r63_0, r63_1, true_and, and_true, kk1_i, kk1_r, kk1_n, kk1_0, kcat_iv, kcat_ref, kcat_null, kisR_ref, kisR_null, ksz_nil, ksz_iv, ksz_ref, ksz_null, ksz_lv, kfit_int, kfit_long, kfit_obj, kfit_objN, kfit_arr, kfit_arrN, knarI, knarZ0, knarZ1, kret_v, kret_n, kret_x, Nat.reduceAdd, Nat.reduceLeDiff, reduceCtorEq, Int.reduceLE, Int.reduceLT, Int.reduceEq, ite_true, ite_false, true_or, or_true, false_implies, true_implies, not_true_eq_false, not_false_eq_true, and_self, eq_self, klc_lt, klc_ge, klc_le, klc_gt, klc_eq, kmu_eq, kmu_f, kmu_i, kmu_j]
end
