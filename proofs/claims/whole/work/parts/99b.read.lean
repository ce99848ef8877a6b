/-! The reader: signs and numbers. -/
def kRe (C X : ka_M) : Prop := C 5 0 1 = X 9 0 3 ∧ C 5 0 2 = X 9 0 39 ∧ ∀ j, 0 ≤ j → j < X 9 0 3 → C 31 0 j = X 52 0 j
section
variable {E : Nat × Nat} {d c l : Nat} {s : ka_S} {h : ka_H} {Q : ka_Q} {J : ka_H} {A A' : ka_A} {V V' : ka_V} {C C' R X X' : ka_M}
theorem kns_e (rw : kRW V X) (r : kRe C X) : kns C = f142 X := by
  have B := rw.i39
  obtain ⟨r1, r2, r3⟩ := r
  unfold kns f142
  rw [r1, r2]
  split
  · rename_i e; exact r3 _ B.1 e
  · rfl
theorem c97e (hA : kJ A V) (v : kLV V) (rw : kRW V X) (r : kRe C X) : ka_W (kp E) (d, (97, 0, [some (.ref (A 5 0))], []), (kHp J A V C R, c, l)) Q ↔ Q (.inl (some (iv (f142 X)))) (kHp J A V C R, c, l) := by
  have B := rw.i39
  have B3 := rw.i3
  rw [c97 hA v (by rw [r.2.1]; exact B.1) (by rw [r.2.1]; exact B.2) (by rw [r.1]; exact B3.1) (by rw [r.1]; exact B3.2), kns_e rw r]
theorem kRe.f5 (r : kRe C X) {x : Int} : kRe (kmu C 5 0 3 x) (kmu X 9 0 40 x) := by
  obtain ⟨r1, r2, r3⟩ := r
  refine ⟨by rw [kmu_j (by decide), kmu_j (by decide)]; exact r1, by rw [kmu_j (by decide), kmu_j (by decide)]; exact r2, fun j a b => ?_⟩
  rw [kmu_j (by decide)] at b
  rw [kmu_f (by decide), kmu_f (by decide)]
  exact r3 j a b
theorem kRe.at (r : kRe C X) {x : Int} : kRe (kmu C 5 0 2 x) (kmu X 9 0 39 x) := by
  obtain ⟨r1, r2, r3⟩ := r
  refine ⟨by rw [kmu_j (by decide), kmu_j (by decide)]; exact r1, by rw [kmu_eq, kmu_eq], fun j a b => ?_⟩
  rw [kmu_j (by decide)] at b
  rw [kmu_f (by decide), kmu_f (by decide)]
  exact r3 j a b
theorem c98e (hA : kJ A V) (v : kLV V) (rw : kRW V X) (r : kRe C X) {x : Int} (hd : 1 ≤ d) (x0 : 0 ≤ x) (x1 : x ≤ 1000)
    (H : ∀ C', kRe C' (f144 X x).1 → (∀ f, f ≠ 5 → C' f = C f) → ((f144 X x).2 = 0 → C' 5 0 3 = (f144 X x).1 9 0 40) → (¬ (f144 X x).2 = 0 → C' 5 0 3 = C 5 0 3) → Q (.inl (some (iv (f144 X x).2))) (kHp J A V C' R, c, l)) :
    ka_W (kp E) (d, (98, 0, [some (.ref (A 5 0)), some (iv x)], []), (kHp J A V C R, c, l)) Q := by
  have B := rw.i39
  have B3 := rw.i3
  have B4 := f142_b rw
  rw [c98 hA v hd (by rw [r.2.1]; exact B.1) (by rw [r.2.1]; exact B.2) (by rw [r.1]; exact B3.1) (by rw [r.1]; exact B3.2) (by unfold kR; omega) (by rw [kns_e rw r]; unfold kR; omega), kns_e rw r, r.2.1]
  unfold f144 at H
  by_cases e : f142 X = x
  · rw [if_pos e] at H ⊢
    rw [if_pos e]
    exact H _ r.at (fun f hf => kmu_ff hf) (fun z => absurd z (show ¬ (1:Int) = 0 by decide)) (fun _ => kmu_j (by decide))
  · rw [if_neg e] at H ⊢
    rw [if_neg e]
    exact H _ r.f5 (fun f hf => kmu_ff hf) (fun _ => by dsimp only; rw [kmu_eq, kmu_eq]) (fun z => absurd rfl z)
theorem c96 {x : Int} (hx : kR x) : ka_W (kp E) (d, (96, 0, [some (iv x)], []), s) Q ↔ Q (.inl (some (iv (if 48 ≤ x ∧ x ≤ 57 then 1 else 0)))) s := by
  by_cases h1 : x < 48
  · simp (disch := first | assumption | (unfold kR; decide) | exact klc_R | (unfold kR; omega) | omega | (unfold kL; omega) | exact kcat_null | exact kcat_ref _ | exact kcat_iv _) only [r96_0, r96_1, r96_3, r96_6, r96_7, r96_9, r96_12, r96_13, r96_16, r96_17, true_and, and_true, kk1_i, kk1_r, kk1_n, kk1_0, kcat_iv, kcat_ref, kcat_null, kisR_ref, kisR_null, ksz_nil, ksz_iv, ksz_ref, ksz_null, ksz_lv, kfit_int, kfit_long, kfit_obj, kfit_objN, kfit_arr, kfit_arrN, knarI, knarZ0, knarZ1, kret_v, kret_n, kret_x, Nat.reduceAdd, Nat.reduceLeDiff, reduceCtorEq, Int.reduceLE, Int.reduceLT, Int.reduceEq, ite_true, ite_false, true_or, or_true, false_implies, true_implies, not_true_eq_false, not_false_eq_true, and_self, eq_self, klc_lt, klc_ge, klc_le, klc_gt, klc_eq, kmu_eq, kmu_f, kmu_i, kmu_j, h1, show ¬ (48 ≤ x ∧ x ≤ 57) by omega]
  · by_cases h2 : 57 < x
    · simp (disch := first | assumption | (unfold kR; decide) | exact klc_R | (unfold kR; omega) | omega | (unfold kL; omega) | exact kcat_null | exact kcat_ref _ | exact kcat_iv _) only [r96_0, r96_1, r96_3, r96_6, r96_7, r96_9, r96_12, r96_13, r96_16, r96_17, true_and, and_true, kk1_i, kk1_r, kk1_n, kk1_0, kcat_iv, kcat_ref, kcat_null, kisR_ref, kisR_null, ksz_nil, ksz_iv, ksz_ref, ksz_null, ksz_lv, kfit_int, kfit_long, kfit_obj, kfit_objN, kfit_arr, kfit_arrN, knarI, knarZ0, knarZ1, kret_v, kret_n, kret_x, Nat.reduceAdd, Nat.reduceLeDiff, reduceCtorEq, Int.reduceLE, Int.reduceLT, Int.reduceEq, ite_true, ite_false, true_or, or_true, false_implies, true_implies, not_true_eq_false, not_false_eq_true, and_self, eq_self, klc_lt, klc_ge, klc_le, klc_gt, klc_eq, kmu_eq, kmu_f, kmu_i, kmu_j, h1, h2, show ¬ (48 ≤ x ∧ x ≤ 57) by omega]
    · simp (disch := first | assumption | (unfold kR; decide) | exact klc_R | (unfold kR; omega) | omega | (unfold kL; omega) | exact kcat_null | exact kcat_ref _ | exact kcat_iv _) only [r96_0, r96_1, r96_3, r96_6, r96_7, r96_9, r96_12, r96_13, r96_16, r96_17, true_and, and_true, kk1_i, kk1_r, kk1_n, kk1_0, kcat_iv, kcat_ref, kcat_null, kisR_ref, kisR_null, ksz_nil, ksz_iv, ksz_ref, ksz_null, ksz_lv, kfit_int, kfit_long, kfit_obj, kfit_objN, kfit_arr, kfit_arrN, knarI, knarZ0, knarZ1, kret_v, kret_n, kret_x, Nat.reduceAdd, Nat.reduceLeDiff, reduceCtorEq, Int.reduceLE, Int.reduceLT, Int.reduceEq, ite_true, ite_false, true_or, or_true, false_implies, true_implies, not_true_eq_false, not_false_eq_true, and_self, eq_self, klc_lt, klc_ge, klc_le, klc_gt, klc_eq, kmu_eq, kmu_f, kmu_i, kmu_j, h1, h2, show (48 ≤ x ∧ x ≤ 57) by omega]
/-- digits: the program's number is the reference's, cut at 1000 -/
theorem c95_l (hA : kJ A V) (v : kLV V) (rw : kRW V X) {lo hi b : Int} (hd : 2 ≤ d) (b0 : 0 ≤ b) :
    ∀ (n : Nat) (a w m : Int) (C : ka_M), b ≤ a → a + n = X 9 0 3 → 0 ≤ w → w ≤ 20000 → kRe C (kmu X 9 0 39 a) → (m = 1 ↔ kdg X a ∧ ¬ (b < a ∧ X 52 0 b = 48)) → (m = 0 ∨ m = 1) → (b < a → (w = 0 ↔ X 52 0 b = 48)) → (a = b → w = 0) →
    (∀ C', kRe C' (kmu X 9 0 39 (kscan X b n a w).1) → (∀ f, f ≠ 5 → C' f = C f) → C' 5 0 3 = C 5 0 3 → ∀ m', ka_W (kp E) (d, (95, 110, [some (.ref (A 5 0)), some (iv lo), some (iv hi), some (iv b), some (iv m'), some (iv (if 1000 < (kscan X b n a w).2 then 1000 else (kscan X b n a w).2))], []), (kHp J A V C' R, c, l)) Q) →
    ka_W (kp E) (d, (95, 33, [some (.ref (A 5 0)), some (iv lo), some (iv hi), some (iv b), some (iv m), some (iv (if 1000 < w then 1000 else w))], []), (kHp J A V C R, c, l)) Q
  | n, a, w, m, C, ha, hn, w0, w1, r, hm, hm01, hz, hz0, H => by
    have B3 := rw.i3
    have r1 : C 5 0 1 = X 9 0 3 := by have := r.1; rwa [kmu_j (by decide)] at this
    have r2 : C 5 0 2 = a := by have := r.2.1; rwa [kmu_eq] at this
    have r3 : ∀ j, 0 ≤ j → j < X 9 0 3 → C 31 0 j = X 52 0 j := by
      intro j x y
      have := r.2.2 j x (by rw [kmu_j (by decide)]; exact y)
      rwa [kmu_f (by decide)] at this
    by_cases z : kdg X a ∧ ¬ (b < a ∧ X 52 0 b = 48)
    · have m1 : m = 1 := hm.mpr z
      obtain ⟨⟨z1, z2, z3⟩, z4⟩ := z
      cases n with
      | zero => omega
      | succ n =>
        have z : kdg X a ∧ ¬ (b < a ∧ X 52 0 b = 48) := ⟨⟨z1, z2, z3⟩, z4⟩
        rw [kscan_pos z] at H
        have c31 := r3 a (by omega) z1
        generalize hw' : (if 1000 < w then w else 10 * w + X 52 0 a - 48) = w' at *
        have hw0 : 0 ≤ w' ∧ w' ≤ 20000 := by rw [← hw']; split <;> omega
        have hwz : w' = 0 ↔ X 52 0 b = 48 := by
          rw [← hw']
          by_cases e : a = b
          · have := hz0 e
            rw [this, ← e]
            rw [if_neg (by decide)]
            omega
          · have h1 := hz (by omega)
            have h2 : ¬ X 52 0 b = 48 := fun y => z4 ⟨by omega, y⟩
            have h3 : w ≠ 0 := fun y => h2 (h1.mp y)
            split
            · omega
            · omega
        have hmin : (if (1000:Int) < (if 1000 < w then 1000 else w) * 10 + (C 31 0 a - 48) then 1000 else (if 1000 < w then 1000 else w) * 10 + (C 31 0 a - 48)) = (if 1000 < w' then 1000 else w') := by
          rw [c31, ← hw']
          (repeat' split) <;> omega
        have r' : kRe (kmu C 5 0 2 (a + 1)) (kmu X 9 0 39 (a + 1)) := by
          have := r.at (x := a + 1)
          rwa [kmu_mu] at this
        have rwa' : kRW V (kmu X 9 0 39 (a + 1)) := rw.pi39 (by omega) (by omega)
        have e142 : f142 (kmu X 9 0 39 (a + 1)) = if a + 1 < X 9 0 3 then X 52 0 (a + 1) else -1 := by
          unfold f142
          rw [kmu_eq, kmu_j (by decide), kmu_f (by decide)]
        have B4 := f142_b rwa'
        have hdig : (48 ≤ f142 (kmu X 9 0 39 (a + 1)) ∧ f142 (kmu X 9 0 39 (a + 1)) ≤ 57) ↔ kdg X (a + 1) := by
          rw [e142]
          unfold kdg
          split
          · rename_i e; simp [e]
          · rename_i e; simp [e]
        have ih := fun m' h1 h2 => c95_l hA v rw (lo := lo) (hi := hi) hd b0 n (a + 1) w' m' (kmu C 5 0 2 (a + 1)) (by omega) (by omega) hw0.1 hw0.2 r' h1 h2 (fun _ => hwz) (fun y => by omega) (fun C' x y z3 m'' => H C' x (fun f hf => (y f hf).trans (kmu_ff hf)) (z3.trans (kmu_j (by decide))) m'')
        have q97 := fun {Q} => c97e (E := E) (d := d - 1) (c := c) (l := l) (Q := Q) (J := J) (R := R) hA v rwa' r'
        have kw : kR (if 1000 < w' then 1000 else w') := by unfold kR; split <;> omega
        have kx : kR ((if 1000 < w then 1000 else w) * 10 + (C 31 0 a - 48)) := by rw [c31]; unfold kR; split <;> omega
        have hne0 : (if 1000 < w' then 1000 else w') = 0 ↔ w' = 0 := by split <;> omega
        rw [m1, r95_33]
        simp (disch := first | assumption | (unfold kR; decide) | exact klc_R | (unfold kR; omega) | omega | (unfold kL; omega) | exact kcat_null | exact kcat_ref _ | exact kcat_iv _) only [r95_35, r95_38, r95_39, r95_42, r95_43, r95_46, r95_49, r95_51, r95_53, r95_54, r95_55, r95_58, r95_59, r95_62, r95_63, r95_65, r95_66, r95_67, r95_70, r95_73, r95_75, r95_76, r95_77, r95_80, r95_81, r95_82, ho_5_2 hA v.l5, hg_5_2 hA v.l5, ho_5_1 hA v.l5, hg_5_1 hA v.l5, ho_5_0 hA v.l5, hg_5_0 hA v.l5, hoa_31 hA v.l31, hga_31 hA v.l31, hp_5_2 hA v.l5, true_and, and_true, kk1_i, kk1_r, kk1_n, kk1_0, kcat_iv, kcat_ref, kcat_null, kisR_ref, kisR_null, ksz_nil, ksz_iv, ksz_ref, ksz_null, ksz_lv, kfit_int, kfit_long, kfit_obj, kfit_objN, kfit_arr, kfit_arrN, knarI, knarZ0, knarZ1, kret_v, kret_n, kret_x, Nat.reduceAdd, Nat.reduceLeDiff, reduceCtorEq, Int.reduceLE, Int.reduceLT, Int.reduceEq, ite_true, ite_false, true_or, or_true, false_implies, true_implies, not_true_eq_false, not_false_eq_true, and_self, eq_self, klc_lt, klc_ge, klc_le, klc_gt, klc_eq, kmu_eq, kmu_f, kmu_i, kmu_j, r1, r2, hmin, show ¬ X 9 0 3 ≤ a by omega, Nat.zero_le, show 1 ≤ d by omega]
        by_cases y1 : w' = 0
        · have := ih 0 ⟨fun w => absurd w (by decide), fun w => absurd ⟨by omega, hwz.mp y1⟩ w.2⟩ (Or.inl rfl)
          have y2 := hne0.mpr y1
          simp (disch := first | assumption | (unfold kR; decide) | exact klc_R | (unfold kR; omega) | omega | (unfold kL; omega) | exact kcat_null | exact kcat_ref _ | exact kcat_iv _) only [r95_85, r95_87, r95_90, r95_91, r95_94, r95_97, r95_100, r95_101, r95_104, r95_105, r95_107, ht_5 hA v.l5, true_and, and_true, kk1_i, kk1_r, kk1_n, kk1_0, kcat_iv, kcat_ref, kcat_null, kisR_ref, kisR_null, ksz_nil, ksz_iv, ksz_ref, ksz_null, ksz_lv, kfit_int, kfit_long, kfit_obj, kfit_objN, kfit_arr, kfit_arrN, knarI, knarZ0, knarZ1, kret_v, kret_n, kret_x, Nat.reduceAdd, Nat.reduceLeDiff, reduceCtorEq, Int.reduceLE, Int.reduceLT, Int.reduceEq, ite_true, ite_false, true_or, or_true, false_implies, true_implies, not_true_eq_false, not_false_eq_true, and_self, eq_self, klc_lt, klc_ge, klc_le, klc_gt, klc_eq, kmu_eq, kmu_f, kmu_i, kmu_j, y2]
          rw [y2] at this
          exact this
        · have y2 := mt hne0.mp y1
          have y3 : ¬ X 52 0 b = 48 := fun w => y1 (hwz.mpr w)
          by_cases y4 : kdg X (a + 1)
          · have := ih 1 ⟨fun _ => ⟨y4, fun w => y3 w.2⟩, fun _ => rfl⟩ (Or.inr rfl)
            have y5 := hdig.mpr y4
            simp (disch := first | assumption | (unfold kR; decide) | exact klc_R | (unfold kR; omega) | omega | (unfold kL; omega) | exact kcat_null | exact kcat_ref _ | exact kcat_iv _) only [r95_85, r95_87, r95_90, r95_91, r95_94, r95_97, r95_100, r95_101, r95_104, r95_105, r95_107, ht_5 hA v.l5, true_and, and_true, kk1_i, kk1_r, kk1_n, kk1_0, kcat_iv, kcat_ref, kcat_null, kisR_ref, kisR_null, ksz_nil, ksz_iv, ksz_ref, ksz_null, ksz_lv, kfit_int, kfit_long, kfit_obj, kfit_objN, kfit_arr, kfit_arrN, knarI, knarZ0, knarZ1, kret_v, kret_n, kret_x, Nat.reduceAdd, Nat.reduceLeDiff, reduceCtorEq, Int.reduceLE, Int.reduceLT, Int.reduceEq, ite_true, ite_false, true_or, or_true, false_implies, true_implies, not_true_eq_false, not_false_eq_true, and_self, eq_self, klc_lt, klc_ge, klc_le, klc_gt, klc_eq, kmu_eq, kmu_f, kmu_i, kmu_j, q97, c96, y2, y5, Nat.zero_le, show 1 ≤ d by omega]
            exact this
          · have := ih 0 ⟨fun w => absurd w (by decide), fun w => absurd w.1 y4⟩ (Or.inl rfl)
            have y5 := mt hdig.mp y4
            simp (disch := first | assumption | (unfold kR; decide) | exact klc_R | (unfold kR; omega) | omega | (unfold kL; omega) | exact kcat_null | exact kcat_ref _ | exact kcat_iv _) only [r95_85, r95_87, r95_90, r95_91, r95_94, r95_97, r95_100, r95_101, r95_104, r95_105, r95_107, ht_5 hA v.l5, true_and, and_true, kk1_i, kk1_r, kk1_n, kk1_0, kcat_iv, kcat_ref, kcat_null, kisR_ref, kisR_null, ksz_nil, ksz_iv, ksz_ref, ksz_null, ksz_lv, kfit_int, kfit_long, kfit_obj, kfit_objN, kfit_arr, kfit_arrN, knarI, knarZ0, knarZ1, kret_v, kret_n, kret_x, Nat.reduceAdd, Nat.reduceLeDiff, reduceCtorEq, Int.reduceLE, Int.reduceLT, Int.reduceEq, ite_true, ite_false, true_or, or_true, false_implies, true_implies, not_true_eq_false, not_false_eq_true, and_self, eq_self, klc_lt, klc_ge, klc_le, klc_gt, klc_eq, kmu_eq, kmu_f, kmu_i, kmu_j, q97, c96, y2, y5, Nat.zero_le, show 1 ≤ d by omega]
            exact this
    · have m0 : m = 0 := hm01.resolve_right (fun y => z (hm.mp y))
      have e : kscan X b n a w = (a, w) := by
        cases n with
        | zero => rfl
        | succ n => exact kscan_neg z
      rw [e] at H
      have := H C r (fun f hf => rfl) rfl 0
      rw [m0]
      simp (disch := first | assumption | (unfold kR; decide) | exact klc_R | (unfold kR; omega) | omega | (unfold kL; omega) | exact kcat_null | exact kcat_ref _ | exact kcat_iv _) only [r95_33, r95_35, true_and, and_true, kk1_i, kk1_r, kk1_n, kk1_0, kcat_iv, kcat_ref, kcat_null, kisR_ref, kisR_null, ksz_nil, ksz_iv, ksz_ref, ksz_null, ksz_lv, kfit_int, kfit_long, kfit_obj, kfit_objN, kfit_arr, kfit_arrN, knarI, knarZ0, knarZ1, kret_v, kret_n, kret_x, Nat.reduceAdd, Nat.reduceLeDiff, reduceCtorEq, Int.reduceLE, Int.reduceLT, Int.reduceEq, ite_true, ite_false, true_or, or_true, false_implies, true_implies, not_true_eq_false, not_false_eq_true, and_self, eq_self, klc_lt, klc_ge, klc_le, klc_gt, klc_eq, kmu_eq, kmu_f, kmu_i, kmu_j]
      exact this
/-- readNumber -/
theorem c95 (hA : kJ A V) (v : kLV V) (rw : kRW V X) (r : kRe C X) {lo hi : Int} (hd : 2 ≤ d) (ha : X 9 0 39 ≤ X 9 0 3) (l0 : 0 ≤ lo) (l1 : lo ≤ 19) (h0 : 0 ≤ hi) (h1 : hi ≤ 19)
    (H : ∀ C' x, kRe C' (f145 X lo hi).1 → (∀ f, f ≠ 5 → C' f = C f) → ((f145 X lo hi).2 = 0 → x = -1 ∧ C' 5 0 3 = (f145 X lo hi).1 9 0 40) → (¬ (f145 X lo hi).2 = 0 → x = (f145 X lo hi).1 9 0 41 ∧ C' 5 0 3 = C 5 0 3) → Q (.inl (some (iv x))) (kHp J A V C' R, c, l)) :
    ka_W (kp E) (d, (95, 0, [some (.ref (A 5 0)), some (iv lo), some (iv hi), none, none, none], []), (kHp J A V C R, c, l)) Q := by
  have B := rw.i39
  have B3 := rw.i3
  have B4 := f142_b rw
  have hdig : (48 ≤ f142 X ∧ f142 X ≤ 57) ↔ kdg X (X 9 0 39) := by
    unfold f142 kdg
    split
    · rename_i e; simp [e]
    · rename_i e; simp [e]
  have q97 := fun {Q} => c97e (E := E) (d := d - 1) (c := c) (l := l) (Q := Q) (J := J) (R := R) hA v rw r
  have r2 := r.2.1
  have hX : kmu X 9 0 39 (X 9 0 39) = X := kmu_self
  have kre9 : ∀ {C' Y : ka_M}, kRe C' Y → ∀ x, kRe C' (kmu Y 9 0 42 x) ∧ kRe C' (kmu Y 9 0 41 x) := by
    intro C' Y q x
    obtain ⟨q1, q2, q3⟩ := q
    constructor
    · refine ⟨by rw [kmu_j (by decide)]; exact q1, by rw [kmu_j (by decide)]; exact q2, fun j a b => ?_⟩
      rw [kmu_j (by decide)] at b
      rw [kmu_f (by decide)]; exact q3 j a b
    · refine ⟨by rw [kmu_j (by decide)]; exact q1, by rw [kmu_j (by decide)]; exact q2, fun j a b => ?_⟩
      rw [kmu_j (by decide)] at b
      rw [kmu_f (by decide)]; exact q3 j a b
  have comm : ∀ x y : Int, kmu (kmu X 9 0 42 x) 9 0 39 y = kmu (kmu X 9 0 39 y) 9 0 42 x := by
    intro x y
    funext f i j
    unfold kmu
    by_cases e1 : f = 9 ∧ i = 0 ∧ j = 39
    · obtain ⟨rfl, rfl, rfl⟩ := e1; simp
    · by_cases e2 : f = 9 ∧ i = 0 ∧ j = 42
      · obtain ⟨rfl, rfl, rfl⟩ := e2; simp
      · simp only [if_neg e1, if_neg e2]
  have zb := kscan_b (R := X) (b := X 9 0 39) (X 9 0 3 - X 9 0 39).toNat (X 9 0 39) 0 ha (by omega) (by omega)
  by_cases y : kdg X (X 9 0 39)
  · have y' := hdig.mpr y
    have hsc : (kscan X (X 9 0 39) (X 9 0 3 - X 9 0 39).toNat (X 9 0 39) 0).1 ≠ X 9 0 39 := by
      have e : (X 9 0 3 - X 9 0 39).toNat = (X 9 0 3 - X 9 0 39 - 1).toNat + 1 := by have := y.1; omega
      rw [e, kscan_pos ⟨y, fun w => by omega⟩]
      have hy := y
      obtain ⟨y1, y2, y3⟩ := hy
      have := kscan_b (R := X) (b := X 9 0 39) (X 9 0 3 - X 9 0 39 - 1).toNat (X 9 0 39 + 1) (if (1000:Int) < 0 then 0 else 10 * 0 + X 52 0 (X 9 0 39) - 48) (by omega) (by split <;> omega) (by split <;> omega)
      omega
    have z := c95_l (E := E) (d := d) (c := c) (l := l) (Q := Q) (J := J) (R := R) hA v rw (lo := lo) (hi := hi) hd B.1 (X 9 0 3 - X 9 0 39).toNat (X 9 0 39) 0 1 C (Int.le_refl _) (by omega) (by omega) (by omega) (by rw [hX]; exact r) ⟨fun _ => ⟨y, fun w => by omega⟩, fun _ => rfl⟩ (Or.inr rfl) (fun w => by omega) (fun _ => rfl) (fun C' q1 q2 q3 m' => by
      unfold f145 at H
      dsimp only at H
      generalize hZ : kscan X (X 9 0 39) (X 9 0 3 - X 9 0 39).toNat (X 9 0 39) 0 = Z at *
      rw [if_neg hsc] at H
      have hval : (lo ≤ Z.2 ∧ Z.2 ≤ hi) ↔ ¬ (if 1000 < Z.2 then 1000 else Z.2) < lo ∧ (if 1000 < Z.2 then 1000 else Z.2) ≤ hi := by split <;> omega
      have kv : kR (if 1000 < Z.2 then 1000 else Z.2) := by unfold kR; split <;> omega
      by_cases g : lo ≤ Z.2 ∧ Z.2 ≤ hi
      · rw [if_pos g] at H
        have g' := hval.mp g
        have e1 : (if 1000 < Z.2 then 1000 else Z.2) = Z.2 := if_neg (by omega)
        have := H C' Z.2 (by rw [comm]; exact (kre9 ((kre9 q1 (X 9 0 39)).1) Z.2).2) q2 (fun w => absurd w (show ¬ (1:Int) = 0 by decide)) (fun _ => ⟨by dsimp only; rw [kmu_eq], q3⟩)
        obtain ⟨g1, g2⟩ := g'
        rw [e1] at g1 g2 ⊢
        simp (disch := first | assumption | (unfold kR; decide) | exact klc_R | (unfold kR; omega) | omega | (unfold kL; omega) | exact kcat_null | exact kcat_ref _ | exact kcat_iv _) only [r95_110, r95_112, r95_113, r95_116, r95_118, r95_119, r95_122, r95_123, r95_124, r95_127, r95_128, r95_129, r95_130, r95_132, ht_5 hA v.l5, true_and, and_true, kk1_i, kk1_r, kk1_n, kk1_0, kcat_iv, kcat_ref, kcat_null, kisR_ref, kisR_null, ksz_nil, ksz_iv, ksz_ref, ksz_null, ksz_lv, kfit_int, kfit_long, kfit_obj, kfit_objN, kfit_arr, kfit_arrN, knarI, knarZ0, knarZ1, kret_v, kret_n, kret_x, Nat.reduceAdd, Nat.reduceLeDiff, reduceCtorEq, Int.reduceLE, Int.reduceLT, Int.reduceEq, ite_true, ite_false, true_or, or_true, false_implies, true_implies, not_true_eq_false, not_false_eq_true, and_self, eq_self, klc_lt, klc_ge, klc_le, klc_gt, klc_eq, kmu_eq, kmu_f, kmu_i, kmu_j, g1, g2]
        exact this
      · rw [if_neg g] at H
        have q5 : kRe (kmu C' 5 0 3 (X 9 0 39)) (kmu (kmu (kmu (kmu X 9 0 42 (X 9 0 39)) 9 0 39 Z.1) 9 0 41 Z.2) 9 0 40 (X 9 0 39)) := by
          rw [comm]
          exact ((kre9 ((kre9 q1 (X 9 0 39)).1) Z.2).2).f5
        have := H (kmu C' 5 0 3 (X 9 0 39)) (-1) q5 (fun f hf => (kmu_ff hf).trans (q2 f hf)) (fun _ => ⟨rfl, by dsimp only; rw [kmu_eq, kmu_eq]⟩) (fun w => absurd rfl w)
        have g' := mt hval.mpr g
        by_cases g1 : (if 1000 < Z.2 then 1000 else Z.2) < lo
        · simp (disch := first | assumption | (unfold kR; decide) | exact klc_R | (unfold kR; omega) | omega | (unfold kL; omega) | exact kcat_null | exact kcat_ref _ | exact kcat_iv _) only [r95_110, r95_112, r95_113, r95_116, r95_118, r95_119, r95_122, r95_123, r95_124, r95_127, r95_128, r95_129, ht_5 hA v.l5, true_and, and_true, kk1_i, kk1_r, kk1_n, kk1_0, kcat_iv, kcat_ref, kcat_null, kisR_ref, kisR_null, ksz_nil, ksz_iv, ksz_ref, ksz_null, ksz_lv, kfit_int, kfit_long, kfit_obj, kfit_objN, kfit_arr, kfit_arrN, knarI, knarZ0, knarZ1, kret_v, kret_n, kret_x, Nat.reduceAdd, Nat.reduceLeDiff, reduceCtorEq, Int.reduceLE, Int.reduceLT, Int.reduceEq, ite_true, ite_false, true_or, or_true, false_implies, true_implies, not_true_eq_false, not_false_eq_true, and_self, eq_self, klc_lt, klc_ge, klc_le, klc_gt, klc_eq, kmu_eq, kmu_f, kmu_i, kmu_j, g1, c99 hA v, Nat.zero_le, show 1 ≤ d by omega]
          exact this
        · have g2 : ¬ (if 1000 < Z.2 then 1000 else Z.2) ≤ hi := fun w => g' ⟨g1, w⟩
          simp (disch := first | assumption | (unfold kR; decide) | exact klc_R | (unfold kR; omega) | omega | (unfold kL; omega) | exact kcat_null | exact kcat_ref _ | exact kcat_iv _) only [r95_110, r95_112, r95_113, r95_116, r95_118, r95_119, r95_122, r95_123, r95_124, r95_127, r95_128, r95_129, ht_5 hA v.l5, true_and, and_true, kk1_i, kk1_r, kk1_n, kk1_0, kcat_iv, kcat_ref, kcat_null, kisR_ref, kisR_null, ksz_nil, ksz_iv, ksz_ref, ksz_null, ksz_lv, kfit_int, kfit_long, kfit_obj, kfit_objN, kfit_arr, kfit_arrN, knarI, knarZ0, knarZ1, kret_v, kret_n, kret_x, Nat.reduceAdd, Nat.reduceLeDiff, reduceCtorEq, Int.reduceLE, Int.reduceLT, Int.reduceEq, ite_true, ite_false, true_or, or_true, false_implies, true_implies, not_true_eq_false, not_false_eq_true, and_self, eq_self, klc_lt, klc_ge, klc_le, klc_gt, klc_eq, kmu_eq, kmu_f, kmu_i, kmu_j, g1, g2, c99 hA v, Nat.zero_le, show 1 ≤ d by omega]
          exact this)
    have e0 : (if (1000:Int) < 0 then 1000 else 0) = (0:Int) := rfl
    rw [e0] at z
    simp (disch := first | assumption | (unfold kR; decide) | exact klc_R | (unfold kR; omega) | omega | (unfold kL; omega) | exact kcat_null | exact kcat_ref _ | exact kcat_iv _) only [r95_0, r95_1, r95_4, r95_5, r95_6, r95_9, r95_12, r95_14, r95_16, r95_19, r95_20, r95_21, r95_24, r95_27, r95_28, r95_29, r95_30, r95_31, ho_5_2 hA v.l5, hg_5_2 hA v.l5, ht_5 hA v.l5, true_and, and_true, kk1_i, kk1_r, kk1_n, kk1_0, kcat_iv, kcat_ref, kcat_null, kisR_ref, kisR_null, ksz_nil, ksz_iv, ksz_ref, ksz_null, ksz_lv, kfit_int, kfit_long, kfit_obj, kfit_objN, kfit_arr, kfit_arrN, knarI, knarZ0, knarZ1, kret_v, kret_n, kret_x, Nat.reduceAdd, Nat.reduceLeDiff, reduceCtorEq, Int.reduceLE, Int.reduceLT, Int.reduceEq, ite_true, ite_false, true_or, or_true, false_implies, true_implies, not_true_eq_false, not_false_eq_true, and_self, eq_self, klc_lt, klc_ge, klc_le, klc_gt, klc_eq, kmu_eq, kmu_f, kmu_i, kmu_j, q97, c96, r2, y', Nat.zero_le, show 1 ≤ d by omega]
    exact z
  · have y' := mt hdig.mp y
    have hsc : kscan X (X 9 0 39) (X 9 0 3 - X 9 0 39).toNat (X 9 0 39) 0 = (X 9 0 39, 0) := by
      cases hq : (X 9 0 3 - X 9 0 39).toNat with
      | zero => rfl
      | succ n => exact kscan_neg (fun w => y w.1)
    unfold f145 at H
    dsimp only at H
    rw [hsc] at H
    rw [if_pos rfl] at H
    have e3 : kmu (kmu X 9 0 42 (X 9 0 39)) 9 0 39 (X 9 0 39) = kmu X 9 0 42 (X 9 0 39) := by rw [comm, hX]
    have q5 : kRe (kmu C 5 0 3 (X 9 0 39)) (kmu (kmu (kmu X 9 0 42 (X 9 0 39)) 9 0 39 (X 9 0 39)) 9 0 40 (X 9 0 39)) := by
      rw [e3]
      exact ((kre9 r (X 9 0 39)).1).f5
    have := H (kmu C 5 0 3 (X 9 0 39)) (-1) q5 (fun f hf => kmu_ff hf) (fun _ => ⟨rfl, by dsimp only; rw [kmu_eq, kmu_eq]⟩) (fun w => absurd rfl w)
    simp (disch := first | assumption | (unfold kR; decide) | exact klc_R | (unfold kR; omega) | omega | (unfold kL; omega) | exact kcat_null | exact kcat_ref _ | exact kcat_iv _) only [r95_0, r95_1, r95_4, r95_5, r95_6, r95_9, r95_12, r95_14, r95_16, r95_19, r95_20, r95_21, r95_24, r95_27, r95_28, r95_29, ho_5_2 hA v.l5, hg_5_2 hA v.l5, ht_5 hA v.l5, true_and, and_true, kk1_i, kk1_r, kk1_n, kk1_0, kcat_iv, kcat_ref, kcat_null, kisR_ref, kisR_null, ksz_nil, ksz_iv, ksz_ref, ksz_null, ksz_lv, kfit_int, kfit_long, kfit_obj, kfit_objN, kfit_arr, kfit_arrN, knarI, knarZ0, knarZ1, kret_v, kret_n, kret_x, Nat.reduceAdd, Nat.reduceLeDiff, reduceCtorEq, Int.reduceLE, Int.reduceLT, Int.reduceEq, ite_true, ite_false, true_or, or_true, false_implies, true_implies, not_true_eq_false, not_false_eq_true, and_self, eq_self, klc_lt, klc_ge, klc_le, klc_gt, klc_eq, kmu_eq, kmu_f, kmu_i, kmu_j, q97, c96, r2, y', c99 hA v, Nat.zero_le, show 1 ≤ d by omega]
    exact this
theorem f145_42 {lo hi : Int} : (f145 X lo hi).1 9 0 42 = X 9 0 39 := by
  unfold f145
  dsimp only
  split
  · dsimp only; rw [kmu_j (by decide), kmu_j (by decide), kmu_eq]
  · split
    · dsimp only; rw [kmu_j (by decide), kmu_j (by decide), kmu_eq]
    · dsimp only; rw [kmu_j (by decide), kmu_j (by decide), kmu_j (by decide), kmu_eq]
end
