/-! Constructors: a recipe. -/
def kz5 : ka_E := (1000, List.replicate 5 (iv 0))
section
variable {E : Nat × Nat} {d c l : Nat} {s : ka_S} {h : ka_H} {Q : ka_Q} {J : ka_H} {A : ka_A} {V : ka_V} {C R X : ka_M}
theorem c100 (hA : kJ A V) {a : Nat} {day : Int} {ev : Value} (hev : ev = .null ∨ ∃ b, ev = .ref b) (ha : koff A V a) (hd : 1 ≤ d) (hc : 3 ≤ c) (hl : 15 ≤ l)
    (H : ∀ a1 a2 a3, koff A V a1 → koff A V a2 → koff A V a3 → a1 ≠ a → a2 ≠ a → a2 ≠ a1 → a3 ≠ a → a3 ≠ a1 → a3 ≠ a2 → J a1 = none → J a2 = none → J a3 = none → Q (.inl none) (kHp (ka_up (ka_up (ka_up (ka_up J a (6, [iv day, ev, .ref a1, .ref a2, .ref a3, iv 0])) a1 kz5) a2 kz5) a3 kz5) A V C R, c - 1 - 1 - 1, l - 5 - 5 - 5)) :
    ka_W (kp E) (d, (100, 0, [some (.ref a), some (iv day), some ev], []), (kHp (ka_up J a (6, [iv 0, .null, .null, .null, .null, iv 0])) A V C R, c, l)) Q := by
  have e5 : (5 : Int).toNat = 5 := rfl
  have step1 : (1 ≤ c ∧ 5 ≤ l ∧ ∀ a1, kHp (ka_up J a (6, [iv day, ev, .null, .null, .null, iv 0])) A V C R a1 = none → ka_W (kp E) (d, (100, 18, [some (.ref a), some (iv day), some ev], [.ref a1, .ref a]), (ka_up (kHp (ka_up J a (6, [iv day, ev, .null, .null, .null, iv 0])) A V C R) a1 (1000, List.replicate 5 (iv 0)), c - 1, l - 5)) Q) → ka_W (kp E) (d, (100, 0, [some (.ref a), some (iv day), some ev], []), (kHp (ka_up J a (6, [iv 0, .null, .null, .null, .null, iv 0])) A V C R, c, l)) Q := by
    intro z
    rcases hev with rfl | ⟨b, rfl⟩
    · simp (disch := first | assumption | (unfold kR; decide) | exact klc_R | (unfold kR; omega) | omega | (unfold kL; omega) | exact kcat_null | exact kcat_ref _ | exact kcat_iv _) only [r100_0, r100_0n, r100_1, r100_4, r100_4n, r100_5, r100_6, r100_9, r100_9n, r100_10, r100_10n, r100_11, r100_14, r100_14n, r100_15, r100_16, ho_6_0 hA, hp_6_0 hA, ho_6_1 hA, hp_6_1 hA, hpn_6_1 hA, true_and, and_true, kk1_i, kk1_r, kk1_n, kk1_0, kcat_iv, kcat_ref, kcat_null, kisR_ref, kisR_null, ksz_nil, ksz_iv, ksz_ref, ksz_null, ksz_lv, kfit_int, kfit_long, kfit_obj, kfit_objN, kfit_arr, kfit_arrN, knarI, knarZ0, knarZ1, kret_v, kret_n, kret_x, Nat.reduceAdd, Nat.reduceLeDiff, reduceCtorEq, Int.reduceLE, Int.reduceLT, Int.reduceEq, ite_true, ite_false, true_or, or_true, false_implies, true_implies, not_true_eq_false, not_false_eq_true, and_self, eq_self, klc_lt, klc_ge, klc_le, klc_gt, klc_eq, kmu_eq, kmu_f, kmu_i, kmu_j, kok_off ha, kHp_kupo ha, kok_up, kup_up, List.set_cons_zero, List.set_cons_succ, List.length_cons, List.length_nil, Nat.reduceAdd, Nat.reduceLT, Nat.zero_le, hd, e5]
      exact z
    · simp (disch := first | assumption | (unfold kR; decide) | exact klc_R | (unfold kR; omega) | omega | (unfold kL; omega) | exact kcat_null | exact kcat_ref _ | exact kcat_iv _) only [r100_0, r100_0n, r100_1, r100_4, r100_4n, r100_5, r100_6, r100_9, r100_9n, r100_10, r100_10n, r100_11, r100_14, r100_14n, r100_15, r100_16, ho_6_0 hA, hp_6_0 hA, ho_6_1 hA, hp_6_1 hA, hpn_6_1 hA, true_and, and_true, kk1_i, kk1_r, kk1_n, kk1_0, kcat_iv, kcat_ref, kcat_null, kisR_ref, kisR_null, ksz_nil, ksz_iv, ksz_ref, ksz_null, ksz_lv, kfit_int, kfit_long, kfit_obj, kfit_objN, kfit_arr, kfit_arrN, knarI, knarZ0, knarZ1, kret_v, kret_n, kret_x, Nat.reduceAdd, Nat.reduceLeDiff, reduceCtorEq, Int.reduceLE, Int.reduceLT, Int.reduceEq, ite_true, ite_false, true_or, or_true, false_implies, true_implies, not_true_eq_false, not_false_eq_true, and_self, eq_self, klc_lt, klc_ge, klc_le, klc_gt, klc_eq, kmu_eq, kmu_f, kmu_i, kmu_j, kok_off ha, kHp_kupo ha, kok_up, kup_up, List.set_cons_zero, List.set_cons_succ, List.length_cons, List.length_nil, Nat.reduceAdd, Nat.reduceLT, Nat.zero_le, hd, e5]
      exact z
  refine step1 ⟨by omega, by omega, fun a1 h1 => ?_⟩
  have o1 := koff_of hA h1
  have n1 := kfresh_ne h1 ha
  have f1 := kfresh_up hA ha h1
  have j1 : J a1 = none := by rw [kHp_off o1] at f1; exact f1
  simp (disch := first | assumption | (unfold kR; decide) | exact klc_R | (unfold kR; omega) | omega | (unfold kL; omega) | exact kcat_null | exact kcat_ref _ | exact kcat_iv _) only [r100_18, r100_21, r100_22, r100_23, ho_6_2 hA, true_and, and_true, kk1_i, kk1_r, kk1_n, kk1_0, kcat_iv, kcat_ref, kcat_null, kisR_ref, kisR_null, ksz_nil, ksz_iv, ksz_ref, ksz_null, ksz_lv, kfit_int, kfit_long, kfit_obj, kfit_objN, kfit_arr, kfit_arrN, knarI, knarZ0, knarZ1, kret_v, kret_n, kret_x, Nat.reduceAdd, Nat.reduceLeDiff, reduceCtorEq, Int.reduceLE, Int.reduceLT, Int.reduceEq, ite_true, ite_false, true_or, or_true, false_implies, true_implies, not_true_eq_false, not_false_eq_true, and_self, eq_self, klc_lt, klc_ge, klc_le, klc_gt, klc_eq, kmu_eq, kmu_f, kmu_i, kmu_j, kHp_upo o1, kok_off ha, kHp_kupo ha, kok_upn n1.symm, kup_upn n1.symm, kok_up, kup_up, List.set_cons_zero, List.set_cons_succ, List.length_cons, List.length_nil, Nat.reduceAdd, Nat.reduceLT, Nat.zero_le, hd, e5]
  refine ⟨by omega, by omega, fun a2 h2 => ?_⟩
  have o2 := koff_of hA h2
  have n2 := kfresh_ne h2 o1
  have h2' := kfresh_up hA o1 h2
  have n2' := kfresh_ne h2' ha
  have f2 := kfresh_up hA ha h2'
  have j2 : J a2 = none := by rw [kHp_off o2] at f2; exact f2
  simp (disch := first | assumption | (unfold kR; decide) | exact klc_R | (unfold kR; omega) | omega | (unfold kL; omega) | exact kcat_null | exact kcat_ref _ | exact kcat_iv _) only [r100_25, r100_28, r100_29, r100_30, ho_6_3 hA, true_and, and_true, kk1_i, kk1_r, kk1_n, kk1_0, kcat_iv, kcat_ref, kcat_null, kisR_ref, kisR_null, ksz_nil, ksz_iv, ksz_ref, ksz_null, ksz_lv, kfit_int, kfit_long, kfit_obj, kfit_objN, kfit_arr, kfit_arrN, knarI, knarZ0, knarZ1, kret_v, kret_n, kret_x, Nat.reduceAdd, Nat.reduceLeDiff, reduceCtorEq, Int.reduceLE, Int.reduceLT, Int.reduceEq, ite_true, ite_false, true_or, or_true, false_implies, true_implies, not_true_eq_false, not_false_eq_true, and_self, eq_self, klc_lt, klc_ge, klc_le, klc_gt, klc_eq, kmu_eq, kmu_f, kmu_i, kmu_j, kHp_upo o2, kok_off ha, kHp_kupo ha, kok_upn n1.symm, kup_upn n1.symm, kok_upn n2'.symm, kup_upn n2'.symm, kok_up, kup_up, List.set_cons_zero, List.set_cons_succ, List.length_cons, List.length_nil, Nat.reduceAdd, Nat.reduceLT, Nat.zero_le, hd, e5]
  refine ⟨by omega, by omega, fun a3 h3 => ?_⟩
  have o3 := koff_of hA h3
  have n3 := kfresh_ne h3 o2
  have h3' := kfresh_up hA o2 h3
  have n3' := kfresh_ne h3' o1
  have h3'' := kfresh_up hA o1 h3'
  have n3'' := kfresh_ne h3'' ha
  have f3 := kfresh_up hA ha h3''
  have j3 : J a3 = none := by rw [kHp_off o3] at f3; exact f3
  have := H a1 a2 a3 o1 o2 o3 n1 n2' n2 n3'' n3' n3 j1 j2 j3
  unfold kz5 at this
  simp (disch := first | assumption | (unfold kR; decide) | exact klc_R | (unfold kR; omega) | omega | (unfold kL; omega) | exact kcat_null | exact kcat_ref _ | exact kcat_iv _) only [r100_32, r100_35, r100_36, r100_37, r100_40, ho_6_4 hA, ho_6_5 hA, hp_6_5 hA, true_and, and_true, kk1_i, kk1_r, kk1_n, kk1_0, kcat_iv, kcat_ref, kcat_null, kisR_ref, kisR_null, ksz_nil, ksz_iv, ksz_ref, ksz_null, ksz_lv, kfit_int, kfit_long, kfit_obj, kfit_objN, kfit_arr, kfit_arrN, knarI, knarZ0, knarZ1, kret_v, kret_n, kret_x, Nat.reduceAdd, Nat.reduceLeDiff, reduceCtorEq, Int.reduceLE, Int.reduceLT, Int.reduceEq, ite_true, ite_false, true_or, or_true, false_implies, true_implies, not_true_eq_false, not_false_eq_true, and_self, eq_self, klc_lt, klc_ge, klc_le, klc_gt, klc_eq, kmu_eq, kmu_f, kmu_i, kmu_j, kHp_upo o3, kok_off ha, kHp_kupo ha, kok_upn n1.symm, kup_upn n1.symm, kok_upn n2'.symm, kup_upn n2'.symm, kok_upn n3''.symm, kup_upn n3''.symm, kok_up, kup_up, List.set_cons_zero, List.set_cons_succ, List.length_cons, List.length_nil, Nat.reduceAdd, Nat.reduceLT, Nat.zero_le, hd, e5]
  exact this
/-- a recipe's cells get their roles -/
def kVr (V : ka_V) (i : Int) : ka_V := fun f j => V f j ∨ ((f = 6 ∨ f = 20 ∨ f = 21 ∨ f = 22) ∧ j = i)
def kCr (C : ka_M) (i day e : Int) : ka_M := fun f j k => if f = 6 ∧ j = i then (if k = 0 then day else if k = 1 then e else 0) else if (f = 20 ∨ f = 21 ∨ f = 22) ∧ j = i then 0 else C f j k
theorem krole_r (hA : kJ A V) {a a1 a2 a3 : Nat} {i day e : Int} (ha : koff A V a) (o1 : koff A V a1) (o2 : koff A V a2) (o3 : koff A V a3) (n1 : a1 ≠ a) (n2 : a2 ≠ a) (n21 : a2 ≠ a1) (n3 : a3 ≠ a) (n31 : a3 ≠ a1) (n32 : a3 ≠ a2) (h6 : ¬ V 6 i) (h20 : ¬ V 20 i) (h21 : ¬ V 21 i) (h22 : ¬ V 22 i) (hp : knp V C R 6 i) (he : e ≠ i)
    (hJ : J a = some (6, [iv day, kre A (if e < 0 then none else some (6, e)), .ref a1, .ref a2, .ref a3, iv 0])) (hJ1 : J a1 = some kz5) (hJ2 : J a2 = some kz5) (hJ3 : J a3 = some kz5) :
    ∃ A', kJ A' (kVr V i) ∧ A' 6 i = a ∧ (∀ f j, ¬ ((f = 6 ∨ f = 20 ∨ f = 21 ∨ f = 22) ∧ j = i) → A' f j = A f j) ∧ kHp J A V C R = kHp J A' (kVr V i) (kCr C i day e) R := by
  -- goods
  obtain ⟨A1, x1, x2, x3, x4⟩ := kHp_new (J := J) (C := C) (R := R) (f := 20) (i := i) (g := fun _ => 0) hA o1 h20 (knp_20 (by omega) h6) rfl (by rw [hJ1]; rfl) (fun j hj h => by rcases ktgt_inv h rfl (by decide) with z | z | z | z | z | z | z | z | z <;> omega) (V' := fun f j => V f j ∨ (f = 20 ∧ j = i)) (fun _ _ => Iff.rfl)
  generalize hC1 : (fun (f' : Nat) (i' j' : Int) => if f' = 20 ∧ i' = i then (fun _ => 0 : Int → Int) j' else C f' i' j') = C1 at x4
  -- pieces
  obtain ⟨A2, y1, y2, y3, y4⟩ := kHp_new (J := J) (C := C1) (R := R) (f := 21) (i := i) (a := a2) (g := fun _ => 0) x3 (fun f j hv => by
    rcases hv with hv | ⟨rfl, rfl⟩
    · by_cases z : f = 20 ∧ j = i
      · obtain ⟨rfl, rfl⟩ := z; rw [x1]; exact n21.symm
      · rw [x2 f j z]; exact o2 f j hv
    · rw [x1]; exact n21.symm) (fun z => z.elim h21 (fun w => absurd w.1 (by decide))) (knp_20 (by omega) (fun z => z.elim h6 (fun w => absurd w.1 (by decide)))) rfl (by rw [hJ2]; rfl) (fun j hj h => by rcases ktgt_inv h rfl (by decide) with z | z | z | z | z | z | z | z | z <;> omega) (V' := fun f j => (V f j ∨ (f = 20 ∧ j = i)) ∨ (f = 21 ∧ j = i)) (fun _ _ => Iff.rfl)
  generalize hC2 : (fun (f' : Nat) (i' j' : Int) => if f' = 21 ∧ i' = i then (fun _ => 0 : Int → Int) j' else C1 f' i' j') = C2 at y4
  -- insteads
  obtain ⟨A3, z1, z2, z3, z4⟩ := kHp_new (J := J) (C := C2) (R := R) (f := 22) (i := i) (a := a3) (g := fun _ => 0) y3 (fun f j hv => by
    rcases hv with hv | ⟨rfl, rfl⟩
    · by_cases z : f = 21 ∧ j = i
      · obtain ⟨rfl, rfl⟩ := z; rw [y1]; exact n32.symm
      · rw [y2 f j z]
        rcases hv with hv | ⟨rfl, rfl⟩
        · by_cases z : f = 20 ∧ j = i
          · obtain ⟨rfl, rfl⟩ := z; rw [x1]; exact n31.symm
          · rw [x2 f j z]; exact o3 f j hv
        · rw [x1]; exact n31.symm
    · rw [y1]; exact n32.symm) (fun z => z.elim (fun z => z.elim h22 (fun w => absurd w.1 (by decide))) (fun w => absurd w.1 (by decide))) (knp_20 (by omega) (fun z => z.elim (fun z => z.elim h6 (fun w => absurd w.1 (by decide))) (fun w => absurd w.1 (by decide)))) rfl (by rw [hJ3]; rfl) (fun j hj h => by rcases ktgt_inv h rfl (by decide) with z | z | z | z | z | z | z | z | z <;> omega) (V' := fun f j => ((V f j ∨ (f = 20 ∧ j = i)) ∨ (f = 21 ∧ j = i)) ∨ (f = 22 ∧ j = i)) (fun _ _ => Iff.rfl)
  generalize hC3 : (fun (f' : Nat) (i' j' : Int) => if f' = 22 ∧ i' = i then (fun _ => 0 : Int → Int) j' else C2 f' i' j') = C3 at z4
  have c3 : ∀ f i' j', ¬ ((f = 20 ∨ f = 21 ∨ f = 22) ∧ i' = i) → C3 f i' j' = C f i' j' := by
    intro f i' j' h
    rw [← hC3, ← hC2, ← hC1]
    dsimp only
    rw [if_neg (fun w => h ⟨Or.inr (Or.inr w.1), w.2⟩), if_neg (fun w => h ⟨Or.inr (Or.inl w.1), w.2⟩), if_neg (fun w => h ⟨Or.inl w.1, w.2⟩)]
  have c30 : ∀ f i' j', ((f = 20 ∨ f = 21 ∨ f = 22) ∧ i' = i) → C3 f i' j' = 0 := by
    rintro f i' j' ⟨rfl | rfl | rfl, rfl⟩
    · rw [← hC3, ← hC2, ← hC1]; simp
    · rw [← hC3, ← hC2]; simp
    · rw [← hC3]; simp
  have e20 : A3 20 i = a1 := by rw [z2 20 i (by omega), y2 20 i (by omega), x1]
  have e21 : A3 21 i = a2 := by rw [z2 21 i (by omega), y1]
  have eA : ∀ f j, ¬ ((f = 20 ∨ f = 21 ∨ f = 22) ∧ j = i) → A3 f j = A f j := by
    intro f j h
    rw [z2 f j (fun w => h ⟨Or.inr (Or.inr w.1), w.2⟩), y2 f j (fun w => h ⟨Or.inr (Or.inl w.1), w.2⟩), x2 f j (fun w => h ⟨Or.inl w.1, w.2⟩)]
  -- the recipe itself
  obtain ⟨A4, w1, w2, w3, w4⟩ := kHp_new (J := J) (C := C3) (R := R) (f := 6) (i := i) (a := a) (g := fun k => if k = 0 then day else if k = 1 then e else 0) z3 (fun f j hv => by
    rcases hv with ((hv | ⟨rfl, rfl⟩) | ⟨rfl, rfl⟩) | ⟨rfl, rfl⟩
    · by_cases z : (f = 20 ∨ f = 21 ∨ f = 22) ∧ j = i
      · exfalso
        rcases z with ⟨rfl | rfl | rfl, rfl⟩
        · exact h20 hv
        · exact h21 hv
        · exact h22 hv
      · rw [eA f j z]; exact ha f j hv
    · rw [e20]; exact n1
    · rw [e21]; exact n2
    · rw [z1]; exact n3) (fun z => by
      rcases z with ((hv | ⟨hv, -⟩) | ⟨hv, -⟩) | ⟨hv, -⟩
      · exact h6 hv
      · exact absurd hv (by decide)
      · exact absurd hv (by decide)
      · exact absurd hv (by decide)) (fun f j k hv hk h => by
      have hv' : V f j := by
        rcases hv with ((hv | ⟨rfl, rfl⟩) | ⟨rfl, rfl⟩) | ⟨rfl, rfl⟩
        · exact hv
        · rcases ktgt_inv h rfl (by decide) with z | z | z | z | z | z | z | z | z <;> omega
        · rcases ktgt_inv h rfl (by decide) with z | z | z | z | z | z | z | z | z <;> omega
        · rcases ktgt_inv h rfl (by decide) with z | z | z | z | z | z | z | z | z <;> omega
      refine hp f j k hv' hk ?_
      have : kmx C3 R f j k = kmx C R f j k := by
        unfold kmx
        split
        · rfl
        · refine c3 f j k ?_
          rintro ⟨rfl | rfl | rfl, rfl⟩
          · exact h20 hv'
          · exact h21 hv'
          · exact h22 hv'
      rw [← this]
      exact h) rfl (by
      rw [hJ]
      have e0 : kre A3 (if e < 0 then none else some (6, e)) = kre A (if e < 0 then none else some (6, e)) := by
        split
        · rfl
        · show Value.ref (A3 6 e) = Value.ref (A 6 e)
          rw [eA 6 e (fun w => by omega)]
      show some (6, [iv day, kre A (if e < 0 then none else some (6, e)), .ref a1, .ref a2, .ref a3, iv 0]) = some (6, [iv day, kre A3 (if e < 0 then none else some (6, e)), .ref (A3 20 i), .ref (A3 21 i), .ref (A3 22 i), iv 0])
      rw [e0, e20, e21, z1]) (fun j hj h => by
      rcases ktgt_inv h rfl (by decide) with ⟨-, z, hh⟩ | z | z | z | z | z | z | z | z
      · have : (j : Nat) = 1 := by omega
        subst this
        exact he z
      all_goals omega) (V' := kVr V i) (fun f j => by
      unfold kVr
      constructor
      · rintro (h | ⟨rfl | rfl | rfl | rfl, rfl⟩)
        · exact Or.inl (Or.inl (Or.inl (Or.inl h)))
        · exact Or.inr ⟨rfl, rfl⟩
        · exact Or.inl (Or.inl (Or.inl (Or.inr ⟨rfl, rfl⟩)))
        · exact Or.inl (Or.inl (Or.inr ⟨rfl, rfl⟩))
        · exact Or.inl (Or.inr ⟨rfl, rfl⟩)
      · rintro ((((h | ⟨rfl, rfl⟩) | ⟨rfl, rfl⟩) | ⟨rfl, rfl⟩) | ⟨rfl, rfl⟩)
        · exact Or.inl h
        · exact Or.inr ⟨by omega, rfl⟩
        · exact Or.inr ⟨by omega, rfl⟩
        · exact Or.inr ⟨by omega, rfl⟩
        · exact Or.inr ⟨by omega, rfl⟩)
  refine ⟨A4, w3, w1, fun f j h => ?_, ?_⟩
  · rw [w2 f j (fun w => h ⟨Or.inl w.1, w.2⟩)]
    exact eA f j (fun w => h ⟨by omega, w.2⟩)
  · rw [x4, y4, z4, w4]
    congr 1
    funext f j k
    unfold kCr
    by_cases h1 : f = 6 ∧ j = i
    · rw [if_pos h1, if_pos h1]
    · rw [if_neg h1, if_neg h1]
      by_cases h2 : (f = 20 ∨ f = 21 ∨ f = 22) ∧ j = i
      · rw [if_pos h2, c30 f j k h2]
      · rw [if_neg h2, c3 f j k h2]
end
