/-! Today's recipe. -/
/-- a kit's recipes are for later and later days -/
def kSi (X : ka_M) : Prop := ∀ k q, 0 ≤ k → k < X 9 0 7 → 0 ≤ q → q + 1 < X 59 0 k → X 60 0 (4 * k + q) < X 60 0 (4 * k + q + 1)
section
variable {E : Nat × Nat} {d c l : Nat} {s : ka_S} {h : ka_H} {Q : ka_Q} {J : ka_H} {A A' : ka_A} {V V' : ka_V} {C C' R X X' : ka_M}
theorem ktd_o {k : Int} : ∀ (n : Nat) (q : Int), X 59 0 k ≤ q + 1 + n → q ≤ ktd X k n q ∧ (ktd X k n q = q ∨ X 60 0 (4 * k + ktd X k n q) ≤ X 9 0 1) ∧ ¬ (ktd X k n q + 1 < X 59 0 k ∧ X 60 0 (4 * k + ktd X k n q + 1) ≤ X 9 0 1) ∧ (q < X 59 0 k → ktd X k n q < X 59 0 k)
  | n, q, hn => by
    by_cases h : q + 1 < X 59 0 k ∧ X 60 0 (4 * k + q + 1) ≤ X 9 0 1
    · cases n with
      | zero => omega
      | succ n =>
        have e : ktd X k (n + 1) q = ktd X k n (q + 1) := if_pos h
        obtain ⟨h1, h2, h3, h4⟩ := ktd_o (k := k) n (q + 1) (by omega)
        rw [e]
        refine ⟨by omega, ?_, h3, fun _ => h4 h.1⟩
        rcases h2 with h2 | h2
        · right
          rw [h2]
          have : 4 * k + (q + 1) = 4 * k + q + 1 := by omega
          rw [this]
          exact h.2
        · exact Or.inr h2
    · have e : ktd X k n q = q := by
        cases n with
        | zero => rfl
        | succ n => exact if_neg h
      rw [e]
      exact ⟨Int.le_refl _, Or.inl rfl, h, fun z => z⟩
theorem kSi.mono (S : kSi X) {k : Int} (k0 : 0 ≤ k) (k1 : k < X 9 0 7) {q : Int} (q0 : 0 ≤ q) : ∀ (n : Nat), q + n < X 59 0 k → X 60 0 (4 * k + q) ≤ X 60 0 (4 * k + q + n)
  | 0, _ => by
    have : 4 * k + q + ((0:Nat):Int) = 4 * k + q := by omega
    rw [this]
    exact Int.le_refl _
  | n + 1, h => by
    have h1 := S.mono k0 k1 q0 n (by omega)
    have h2 := S k (q + n) k0 k1 (by omega) (by omega)
    have e1 : 4 * k + (q + n) = 4 * k + q + n := by omega
    have e2 : 4 * k + q + ((n + 1 : Nat) : Int) = 4 * k + q + n + 1 := by omega
    rw [e1] at h2
    rw [e2]
    omega
/-- the only recipe that is today's -/
theorem f138_u (rw : kRW V X) (bk : kBk X) (S : kSi X) {k q : Int} (k0 : 0 ≤ k) (k1 : k < X 9 0 7) (q0 : 0 ≤ q) (q1 : q < X 59 0 k) (h1 : q = 0 ∨ X 60 0 (4 * k + q) ≤ X 9 0 1) (h2 : ∀ i, q < i → i < X 59 0 k → X 9 0 1 < X 60 0 (4 * k + i)) : f138 X k = 4 * k + q := by
  have B7 := rw.i7
  have B := rw.a59 (j := k) (by omega) (by omega)
  obtain ⟨a1, a2, a3, a4⟩ := ktd_o (X := X) (k := k) 4 0 (by omega)
  unfold f138
  generalize ktd X k 4 0 = r at *
  have a4 := a4 (by omega)
  by_cases e : r = q
  · rw [e]
  · exfalso
    by_cases e2 : r < q
    · have h3 : X 60 0 (4 * k + q) ≤ X 9 0 1 := by
        rcases h1 with h1 | h1
        · omega
        · exact h1
      apply a3
      refine ⟨by omega, ?_⟩
      have h4 := S.mono k0 k1 (q := r + 1) (by omega) (q - r - 1).toNat (by omega)
      have e3 : 4 * k + (r + 1) + (((q - r - 1).toNat : Nat) : Int) = 4 * k + q := by omega
      have e4 : 4 * k + (r + 1) = 4 * k + r + 1 := by omega
      rw [e3, e4] at h4
      omega
    · have h3 := h2 r (by omega) a4
      rcases a2 with a2 | a2 <;> omega
theorem f138_in (rw : kRW V X) (bk : kBk X) {k : Int} (k0 : 0 ≤ k) (k1 : k < X 9 0 7) : ∃ q, f138 X k = 4 * k + q ∧ 0 ≤ q ∧ q < X 59 0 k := by
  have B7 := rw.i7
  have B := rw.a59 (j := k) (by omega) (by omega)
  have hr := bk.2.2.2 k k0 k1
  obtain ⟨a1, a2, a3, a4⟩ := ktd_o (X := X) (k := k) 4 0 (by omega)
  exact ⟨ktd X k 4 0, rfl, a1, a4 (by omega)⟩
theorem c82_l (hA : kJ A V) (v : kLV V) (rw : kRW V X) (I : kBI V C X) (S : kSi X) {k : Int} (k0 : 0 ≤ k) (k1 : k < X 9 0 7) :
    ∀ n : Nat, (n : Int) < X 59 0 k → (∀ i, (n : Int) < i → i < X 59 0 k → X 9 0 1 < X 60 0 (4 * k + i)) → Q (.inl (some (.ref (A 6 (f138 X k))))) (kHp J A V C R, c, l) →
    ka_W (kp E) (d, (82, 5, [some (.ref (A 3 k)), some (iv (X 9 0 1)), some (.ref (A 6 (4 * k + n)))], []), (kHp J A V C R, c, l)) Q
  | n, hn, hi, H => by
    have B7 := rw.i7
    have B1 := rw.i1
    have B59 := rw.a59 (j := k) (by omega) (by omega)
    have B60 := rw.a60 (j := 4 * k + n) (by omega) (by omega)
    have hI := I
    obtain ⟨VI, ⟨K1, K2, K3, K4, K5, K6, K7⟩, F, B, P, M⟩ := hI
    obtain ⟨⟨x1, -, -, -⟩, x5, x6, x7⟩ := K4 k n k0 k1 (by omega) hn
    have iv0 : 0 ≤ 4 * k + (n : Int) := by omega
    cases n with
    | zero =>
      rw [if_pos (show ((0:Nat):Int) = 0 from rfl)] at x6
      rw [f138_u rw B S k0 k1 (q := 0) (by omega) (by omega) (Or.inl rfl) (fun i a b => hi i (by omega) b)] at H
      have x6' : C 6 (4 * k + ((0:Nat):Int)) 1 < 0 := by omega
      simp (disch := first | assumption | (unfold kR; decide) | exact klc_R | (unfold kR; omega) | omega | (unfold kL; omega) | exact kcat_null | exact kcat_ref _ | exact kcat_iv _) only [r82_5, r82_5n, r82_6, r82_9, r82_28, r82_28n, r82_29, ho_6_1 hA, hg_6_1 hA, hgn_6_1 hA, true_and, and_true, kk1_i, kk1_r, kk1_n, kk1_0, kcat_iv, kcat_ref, kcat_null, kisR_ref, kisR_null, ksz_nil, ksz_iv, ksz_ref, ksz_null, ksz_lv, kfit_int, kfit_long, kfit_obj, kfit_objN, kfit_arr, kfit_arrN, knarI, knarZ0, knarZ1, kret_v, kret_n, kret_x, Nat.reduceAdd, Nat.reduceLeDiff, reduceCtorEq, Int.reduceLE, Int.reduceLT, Int.reduceEq, ite_true, ite_false, true_or, or_true, false_implies, true_implies, not_true_eq_false, not_false_eq_true, and_self, eq_self, klc_lt, klc_ge, klc_le, klc_gt, klc_eq, kmu_eq, kmu_f, kmu_i, kmu_j]
      exact H
    | succ n =>
      rw [if_neg (by omega)] at x6
      have e1 : 4 * k + ((n + 1 : Nat) : Int) - 1 = 4 * k + n := by omega
      rw [e1] at x6
      have x6' : 0 ≤ C 6 (4 * k + ((n + 1 : Nat) : Int)) 1 := by omega
      by_cases e : X 60 0 (4 * k + ((n + 1 : Nat) : Int)) ≤ X 9 0 1
      · rw [f138_u rw B S k0 k1 (q := ((n + 1 : Nat) : Int)) (by omega) hn (Or.inr e) hi] at H
        simp (disch := first | assumption | (unfold kR; decide) | exact klc_R | (unfold kR; omega) | omega | (unfold kL; omega) | exact kcat_null | exact kcat_ref _ | exact kcat_iv _) only [r82_5, r82_6, r82_9, r82_12, r82_13, r82_16, r82_17, r82_28, r82_29, ho_6_1 hA, hg_6_1 hA, hgn_6_1 hA, ho_6_0 hA, hg_6_0 hA, true_and, and_true, kk1_i, kk1_r, kk1_n, kk1_0, kcat_iv, kcat_ref, kcat_null, kisR_ref, kisR_null, ksz_nil, ksz_iv, ksz_ref, ksz_null, ksz_lv, kfit_int, kfit_long, kfit_obj, kfit_objN, kfit_arr, kfit_arrN, knarI, knarZ0, knarZ1, kret_v, kret_n, kret_x, Nat.reduceAdd, Nat.reduceLeDiff, reduceCtorEq, Int.reduceLE, Int.reduceLT, Int.reduceEq, ite_true, ite_false, true_or, or_true, false_implies, true_implies, not_true_eq_false, not_false_eq_true, and_self, eq_self, klc_lt, klc_ge, klc_le, klc_gt, klc_eq, kmu_eq, kmu_f, kmu_i, kmu_j, x5, x6, e]
        exact H
      · have ih := c82_l hA v rw I S k0 k1 n (by omega) (fun i a b => by
          by_cases w : i = ((n + 1 : Nat) : Int)
          · rw [w]; omega
          · exact hi i (by omega) b) H
        rw [r82_5]
        simp (disch := first | assumption | (unfold kR; decide) | exact klc_R | (unfold kR; omega) | omega | (unfold kL; omega) | exact kcat_null | exact kcat_ref _ | exact kcat_iv _) only [r82_6, r82_9, r82_12, r82_13, r82_16, r82_17, r82_20, r82_21, r82_24, r82_25, ho_6_1 hA, hg_6_1 hA, hgn_6_1 hA, ho_6_0 hA, hg_6_0 hA, true_and, and_true, kk1_i, kk1_r, kk1_n, kk1_0, kcat_iv, kcat_ref, kcat_null, kisR_ref, kisR_null, ksz_nil, ksz_iv, ksz_ref, ksz_null, ksz_lv, kfit_int, kfit_long, kfit_obj, kfit_objN, kfit_arr, kfit_arrN, knarI, knarZ0, knarZ1, kret_v, kret_n, kret_x, Nat.reduceAdd, Nat.reduceLeDiff, reduceCtorEq, Int.reduceLE, Int.reduceLT, Int.reduceEq, ite_true, ite_false, true_or, or_true, false_implies, true_implies, not_true_eq_false, not_false_eq_true, and_self, eq_self, klc_lt, klc_ge, klc_le, klc_gt, klc_eq, kmu_eq, kmu_f, kmu_i, kmu_j, x5, x6, e]
        exact ih
/-- recipeOn -/
theorem c82 (hA : kJ A V) (v : kLV V) (rw : kRW V X) (I : kBI V C X) (S : kSi X) {k : Int} (k0 : 0 ≤ k) (k1 : k < X 9 0 7) (H : Q (.inl (some (.ref (A 6 (f138 X k))))) (kHp J A V C R, c, l)) :
    ka_W (kp E) (d, (82, 0, [some (.ref (A 3 k)), some (iv (X 9 0 1)), none], []), (kHp J A V C R, c, l)) Q := by
  obtain ⟨n1, n2, n3, n4, n5, n6, n7, n8, n9⟩ := I.new rw k0 k1
  have z := c82_l (E := E) (d := d) (c := c) (l := l) (Q := Q) (J := J) (R := R) hA v rw I S k0 k1 (X 59 0 k - 1).toNat (by omega) (fun i a b => by omega) H
  have e : 4 * k + (((X 59 0 k - 1).toNat : Nat) : Int) = 4 * k + X 59 0 k - 1 := by omega
  rw [e] at z
  simp (disch := first | assumption | (unfold kR; decide) | exact klc_R | (unfold kR; omega) | omega | (unfold kL; omega) | exact kcat_null | exact kcat_ref _ | exact kcat_iv _) only [r82_0, r82_1, r82_4, ho_3_2 hA, hg_3_2 hA, hgn_3_2 hA, true_and, and_true, kk1_i, kk1_r, kk1_n, kk1_0, kcat_iv, kcat_ref, kcat_null, kisR_ref, kisR_null, ksz_nil, ksz_iv, ksz_ref, ksz_null, ksz_lv, kfit_int, kfit_long, kfit_obj, kfit_objN, kfit_arr, kfit_arrN, knarI, knarZ0, knarZ1, kret_v, kret_n, kret_x, Nat.reduceAdd, Nat.reduceLeDiff, reduceCtorEq, Int.reduceLE, Int.reduceLT, Int.reduceEq, ite_true, ite_false, true_or, or_true, false_implies, true_implies, not_true_eq_false, not_false_eq_true, and_self, eq_self, klc_lt, klc_ge, klc_le, klc_gt, klc_eq, kmu_eq, kmu_f, kmu_i, kmu_j, n2]
  exact z
end
