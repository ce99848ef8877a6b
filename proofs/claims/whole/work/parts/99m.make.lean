/-! A making is made. -/
def kVm (V : ka_V) (m : Int) : ka_V := fun f j => V f j ∨ ((f = 4 ∨ f = 23 ∨ f = 24) ∧ j = m)
def kCm (C : ka_M) (m k g w : Int) : ka_M := fun f j q => if f = 4 ∧ j = m then (if q = 0 then m else if q = 1 then k else if q = 2 then g else if q = 3 then w else 0) else if (f = 23 ∨ f = 24) ∧ j = m then 0 else C f j q
section
variable {E : Nat × Nat} {d c l : Nat} {s : ka_S} {h : ka_H} {Q : ka_Q} {J : ka_H} {A A' : ka_A} {V V' : ka_V} {C C' R X X' : ka_M}
theorem c83 (hA : kJ A V) {a b : Nat} {n k w : Int} (ha : koff A V a) (hk : V 3 k) (hd : 1 ≤ d) (hc : 2 ≤ c) (hl : 10 ≤ l)
    (H : ∀ a1 a2, koff A V a1 → koff A V a2 → a1 ≠ a → a2 ≠ a → a2 ≠ a1 → J a1 = none → J a2 = none → Q (.inl none) (kHp (ka_up (ka_up (ka_up J a (4, [iv n, iv (C 3 k 0), iv (C 3 k 1), iv w, .ref b, .ref a1, .ref a2, iv 0, iv 0, iv 0])) a1 kz5) a2 kz5) A V C R, c - 1 - 1, l - 5 - 5)) :
    ka_W (kp E) (d, (83, 0, [some (.ref a), some (iv n), some (.ref (A 3 k)), some (.ref b), some (iv w)], []), (kHp (ka_up J a (4, [iv 0, iv 0, iv 0, iv 0, .null, .null, .null, iv 0, iv 0, iv 0])) A V C R, c, l)) Q := by
  have e5 : (5 : Int).toNat = 5 := rfl
  simp (disch := first | assumption | (unfold kR; decide) | exact klc_R | (unfold kR; omega) | omega | (unfold kL; omega) | exact kcat_null | exact kcat_ref _ | exact kcat_iv _) only [r83_0, r83_1, r83_4, r83_5, r83_6, r83_9, r83_10, r83_11, r83_14, r83_17, r83_18, r83_19, r83_22, r83_25, r83_26, r83_28, r83_31, r83_32, r83_33, r83_36, r83_37, r83_38, ho_4_0 hA, hp_4_0 hA, ho_3_0 hA, hg_3_0 hA, ho_4_1 hA, hp_4_1 hA, ho_3_1 hA, hg_3_1 hA, ho_4_2 hA, hp_4_2 hA, ho_4_3 hA, hp_4_3 hA, ho_4_4 hA, true_and, and_true, kk1_i, kk1_r, kk1_n, kk1_0, kcat_iv, kcat_ref, kcat_null, kisR_ref, kisR_null, ksz_nil, ksz_iv, ksz_ref, ksz_null, ksz_lv, kfit_int, kfit_long, kfit_obj, kfit_objN, kfit_arr, kfit_arrN, knarI, knarZ0, knarZ1, kret_v, kret_n, kret_x, Nat.reduceAdd, Nat.reduceLeDiff, reduceCtorEq, Int.reduceLE, Int.reduceLT, Int.reduceEq, ite_true, ite_false, true_or, or_true, false_implies, true_implies, not_true_eq_false, not_false_eq_true, and_self, eq_self, klc_lt, klc_ge, klc_le, klc_gt, klc_eq, kmu_eq, kmu_f, kmu_i, kmu_j, ho_3_0 hA hk, hg_3_0 hA hk, ho_3_1 hA hk, hg_3_1 hA hk, kok_off ha, kHp_kupo ha, kok_up, kup_up, List.set_cons_zero, List.set_cons_succ, List.length_cons, List.length_nil, Nat.reduceAdd, Nat.reduceLT, Nat.zero_le, hd, e5]
  refine ⟨by omega, by omega, fun a1 h1 => ?_⟩
  have o1 := koff_of hA h1
  have n1 := kfresh_ne h1 ha
  have f1 := kfresh_up hA ha h1
  have j1 : J a1 = none := by rw [kHp_off o1] at f1; exact f1
  simp (disch := first | assumption | (unfold kR; decide) | exact klc_R | (unfold kR; omega) | omega | (unfold kL; omega) | exact kcat_null | exact kcat_ref _ | exact kcat_iv _) only [r83_40, r83_43, r83_44, r83_45, ho_4_5 hA, true_and, and_true, kk1_i, kk1_r, kk1_n, kk1_0, kcat_iv, kcat_ref, kcat_null, kisR_ref, kisR_null, ksz_nil, ksz_iv, ksz_ref, ksz_null, ksz_lv, kfit_int, kfit_long, kfit_obj, kfit_objN, kfit_arr, kfit_arrN, knarI, knarZ0, knarZ1, kret_v, kret_n, kret_x, Nat.reduceAdd, Nat.reduceLeDiff, reduceCtorEq, Int.reduceLE, Int.reduceLT, Int.reduceEq, ite_true, ite_false, true_or, or_true, false_implies, true_implies, not_true_eq_false, not_false_eq_true, and_self, eq_self, klc_lt, klc_ge, klc_le, klc_gt, klc_eq, kmu_eq, kmu_f, kmu_i, kmu_j, kHp_upo o1, kok_off ha, kHp_kupo ha, kok_upn n1.symm, kup_upn n1.symm, kok_up, kup_up, List.set_cons_zero, List.set_cons_succ, List.length_cons, List.length_nil, Nat.reduceAdd, Nat.reduceLT, Nat.zero_le, hd, e5]
  refine ⟨by omega, by omega, fun a2 h2 => ?_⟩
  have o2 := koff_of hA h2
  have n2 := kfresh_ne h2 o1
  have h2' := kfresh_up hA o1 h2
  have n2' := kfresh_ne h2' ha
  have f2 := kfresh_up hA ha h2'
  have j2 : J a2 = none := by rw [kHp_off o2] at f2; exact f2
  have := H a1 a2 o1 o2 n1 n2' n2 j1 j2
  unfold kz5 at this
  simp (disch := first | assumption | (unfold kR; decide) | exact klc_R | (unfold kR; omega) | omega | (unfold kL; omega) | exact kcat_null | exact kcat_ref _ | exact kcat_iv _) only [r83_47, r83_50, r83_51, r83_52, r83_55, r83_56, r83_57, r83_60, r83_61, r83_62, r83_65, ho_4_6 hA, ho_4_7 hA, hp_4_7 hA, ho_4_8 hA, hp_4_8 hA, ho_4_9 hA, hp_4_9 hA, true_and, and_true, kk1_i, kk1_r, kk1_n, kk1_0, kcat_iv, kcat_ref, kcat_null, kisR_ref, kisR_null, ksz_nil, ksz_iv, ksz_ref, ksz_null, ksz_lv, kfit_int, kfit_long, kfit_obj, kfit_objN, kfit_arr, kfit_arrN, knarI, knarZ0, knarZ1, kret_v, kret_n, kret_x, Nat.reduceAdd, Nat.reduceLeDiff, reduceCtorEq, Int.reduceLE, Int.reduceLT, Int.reduceEq, ite_true, ite_false, true_or, or_true, false_implies, true_implies, not_true_eq_false, not_false_eq_true, and_self, eq_self, klc_lt, klc_ge, klc_le, klc_gt, klc_eq, kmu_eq, kmu_f, kmu_i, kmu_j, kHp_upo o2, kok_off ha, kHp_kupo ha, kok_upn n1.symm, kup_upn n1.symm, kok_upn n2'.symm, kup_upn n2'.symm, kok_up, kup_up, List.set_cons_zero, List.set_cons_succ, List.length_cons, List.length_nil, Nat.reduceAdd, Nat.reduceLT, Nat.zero_le, hd, e5]
  exact this
theorem krole_m (hA : kJ A V) {a a1 a2 : Nat} {m k g w : Int} (ha : koff A V a) (o1 : koff A V a1) (o2 : koff A V a2) (n1 : a1 ≠ a) (n2 : a2 ≠ a) (n21 : a2 ≠ a1) (h4 : ¬ V 4 m) (h23 : ¬ V 23 m) (h24 : ¬ V 24 m) (hp : knp V C R 4 m)
    (hJ : J a = some (4, [iv m, iv k, iv g, iv w, .ref (A 6 (100 + m)), .ref a1, .ref a2, iv 0, iv 0, iv 0])) (hJ1 : J a1 = some kz5) (hJ2 : J a2 = some kz5) :
    ∃ A', kJ A' (kVm V m) ∧ A' 4 m = a ∧ (∀ f j, V f j → A' f j = A f j) ∧ kHp J A V C R = kHp J A' (kVm V m) (kCm C m k g w) R := by
  obtain ⟨A1, x1, x2, x3, x4⟩ := kHp_new (J := J) (C := C) (R := R) (f := 23) (i := m) (g := fun _ => 0) hA o1 h23 (knp_23 (by omega) h4) rfl (by rw [hJ1]; rfl) (fun j hj h => by rcases ktgt_inv h rfl (by decide) with z | z | z | z | z | z | z | z | z <;> omega) (V' := fun f j => V f j ∨ (f = 23 ∧ j = m)) (fun _ _ => Iff.rfl)
  generalize hC1 : (fun (f' : Nat) (i' j' : Int) => if f' = 23 ∧ i' = m then (fun _ => 0 : Int → Int) j' else C f' i' j') = C1 at x4
  obtain ⟨A2, y1, y2, y3, y4⟩ := kHp_new (J := J) (C := C1) (R := R) (f := 24) (i := m) (a := a2) (g := fun _ => 0) x3 (fun f j hv => by
    rcases hv with hv | ⟨rfl, rfl⟩
    · by_cases z : f = 23 ∧ j = m
      · obtain ⟨rfl, rfl⟩ := z; rw [x1]; exact n21.symm
      · rw [x2 f j z]; exact o2 f j hv
    · rw [x1]; exact n21.symm) (fun z => z.elim h24 (fun w => absurd w.1 (by decide))) (knp_23 (by omega) (fun z => z.elim h4 (fun w => absurd w.1 (by decide)))) rfl (by rw [hJ2]; rfl) (fun j hj h => by rcases ktgt_inv h rfl (by decide) with z | z | z | z | z | z | z | z | z <;> omega) (V' := fun f j => (V f j ∨ (f = 23 ∧ j = m)) ∨ (f = 24 ∧ j = m)) (fun _ _ => Iff.rfl)
  generalize hC2 : (fun (f' : Nat) (i' j' : Int) => if f' = 24 ∧ i' = m then (fun _ => 0 : Int → Int) j' else C1 f' i' j') = C2 at y4
  have c2 : ∀ f i' j', ¬ ((f = 23 ∨ f = 24) ∧ i' = m) → C2 f i' j' = C f i' j' := by
    intro f i' j' h
    rw [← hC2, ← hC1]
    dsimp only
    rw [if_neg (fun w => h ⟨Or.inr w.1, w.2⟩), if_neg (fun w => h ⟨Or.inl w.1, w.2⟩)]
  have c20 : ∀ f i' j', ((f = 23 ∨ f = 24) ∧ i' = m) → C2 f i' j' = 0 := by
    rintro f i' j' ⟨rfl | rfl, rfl⟩
    · rw [← hC2, ← hC1]; simp
    · rw [← hC2]; simp
  have e23 : A2 23 m = a1 := by rw [y2 23 m (by omega), x1]
  have eA : ∀ f j, ¬ ((f = 23 ∨ f = 24) ∧ j = m) → A2 f j = A f j := by
    intro f j h
    rw [y2 f j (fun w => h ⟨Or.inr w.1, w.2⟩), x2 f j (fun w => h ⟨Or.inl w.1, w.2⟩)]
  obtain ⟨A4, w1, w2, w3, w4⟩ := kHp_new (J := J) (C := C2) (R := R) (f := 4) (i := m) (a := a) (g := fun q => if q = 0 then m else if q = 1 then k else if q = 2 then g else if q = 3 then w else 0) y3 (fun f j hv => by
    rcases hv with (hv | ⟨rfl, rfl⟩) | ⟨rfl, rfl⟩
    · by_cases z : (f = 23 ∨ f = 24) ∧ j = m
      · exfalso
        rcases z with ⟨rfl | rfl, rfl⟩
        · exact h23 hv
        · exact h24 hv
      · rw [eA f j z]; exact ha f j hv
    · rw [e23]; exact n1
    · rw [y1]; exact n2) (fun z => by
      rcases z with (hv | ⟨hv, -⟩) | ⟨hv, -⟩
      · exact h4 hv
      · exact absurd hv (by decide)
      · exact absurd hv (by decide)) (fun f j k hv hk h => by
      have hv' : V f j := by
        rcases hv with (hv | ⟨rfl, rfl⟩) | ⟨rfl, rfl⟩
        · exact hv
        · rcases ktgt_inv h rfl (by decide) with z | z | z | z | z | z | z | z | z <;> omega
        · rcases ktgt_inv h rfl (by decide) with z | z | z | z | z | z | z | z | z <;> omega
      refine hp f j k hv' hk ?_
      have : kmx C2 R f j k = kmx C R f j k := by
        unfold kmx
        split
        · rfl
        · refine c2 f j k ?_
          rintro ⟨rfl | rfl, rfl⟩
          · exact h23 hv'
          · exact h24 hv'
      rw [← this]
      exact h) rfl (by
      rw [hJ]
      show some (4, [iv m, iv k, iv g, iv w, .ref (A 6 (100 + m)), .ref a1, .ref a2, iv 0, iv 0, iv 0]) = some (4, [iv m, iv k, iv g, iv w, .ref (A2 6 (100 + m)), .ref (A2 23 m), .ref (A2 24 m), iv 0, iv 0, iv 0])
      rw [e23, y1, eA 6 _ (by omega)]) (fun j hj h => by
      rcases ktgt_inv h rfl (by decide) with z | z | z | z | z | z | z | z | z <;> omega) (V' := kVm V m) (fun f' i' => by
      unfold kVm
      constructor
      · rintro (hv | ⟨rfl | rfl | rfl, rfl⟩)
        · exact Or.inl (Or.inl (Or.inl hv))
        · exact Or.inr ⟨rfl, rfl⟩
        · exact Or.inl (Or.inl (Or.inr ⟨rfl, rfl⟩))
        · exact Or.inl (Or.inr ⟨rfl, rfl⟩)
      · rintro (((hv | ⟨rfl, rfl⟩) | ⟨rfl, rfl⟩) | ⟨rfl, rfl⟩)
        · exact Or.inl hv
        · exact Or.inr ⟨by omega, rfl⟩
        · exact Or.inr ⟨by omega, rfl⟩
        · exact Or.inr ⟨by omega, rfl⟩)
  refine ⟨A4, w3, w1, fun f j hv => ?_, ?_⟩
  · rw [w2 f j (fun w => h4 (w.1 ▸ w.2 ▸ hv)), eA f j (fun w => by
      obtain ⟨rfl | rfl, rfl⟩ := w
      · exact h23 hv
      · exact h24 hv)]
  · rw [x4, y4, w4]
    congr 1
    funext f j q
    unfold kCm
    by_cases e : f = 4 ∧ j = m
    · rw [if_pos e, if_pos e]
    · rw [if_neg e, if_neg e]
      by_cases e2 : (f = 23 ∨ f = 24) ∧ j = m
      · rw [if_pos e2]; exact c20 f j q e2
      · rw [if_neg e2]; exact c2 f j q e2
/-- what the reference writes of a new making -/
theorem f156b_q {k w : Int} : f156b X k w 9 0 15 = X 9 0 15 + 1 ∧ (∀ j, j ≠ 15 → f156b X k w 9 0 j = X 9 0 j) ∧ (∀ f, f ≠ 9 → f ≠ 66 → f ≠ 67 → f ≠ 68 → f ≠ 70 → f ≠ 72 → f ≠ 73 → f ≠ 74 → f156b X k w f = X f) ∧
    (∀ q, f156b X k w 66 0 q = if q = X 9 0 15 + 1 then k else X 66 0 q) ∧ (∀ q, f156b X k w 67 0 q = if q = X 9 0 15 + 1 then w else X 67 0 q) ∧ (∀ q, f156b X k w 68 0 q = if q = X 9 0 15 + 1 then 0 else X 68 0 q) ∧ (∀ q, f156b X k w 70 0 q = if q = X 9 0 15 + 1 then X 61 0 (f138 X k) else X 70 0 q) ∧
    (∀ p, 0 ≤ p → p < X 61 0 (f138 X k) → f156b X k w 72 0 (5 * (X 9 0 15 + 1) + p) = X 62 0 (5 * f138 X k + p) ∧ f156b X k w 73 0 (5 * (X 9 0 15 + 1) + p) = X 63 0 (5 * f138 X k + p) ∧ f156b X k w 74 0 (5 * (X 9 0 15 + 1) + p) = X 64 0 (5 * f138 X k + p)) ∧
    (∀ q, q < 5 * (X 9 0 15 + 1) → f156b X k w 72 0 q = X 72 0 q ∧ f156b X k w 73 0 q = X 73 0 q ∧ f156b X k w 74 0 q = X 74 0 q) := by
  obtain ⟨h1, h2, h3⟩ := f156h_o (R := X) (k := k) (w := w)
  have h66 : ∀ q, f156h X k w 66 0 q = if q = X 9 0 15 + 1 then k else X 66 0 q := fun q => by
    unfold f156h
    rw [kmu_f (by decide), kmu_f (by decide), kmu_f (by decide)]
    by_cases e : q = X 9 0 15 + 1
    · rw [e, kmu_eq, if_pos rfl]
    · rw [kmu_j e, kmu_f (by decide), if_neg e]
  have h67 : ∀ q, f156h X k w 67 0 q = if q = X 9 0 15 + 1 then w else X 67 0 q := fun q => by
    unfold f156h
    rw [kmu_f (by decide), kmu_f (by decide)]
    by_cases e : q = X 9 0 15 + 1
    · rw [e, kmu_eq, if_pos rfl]
    · rw [kmu_j e, kmu_f (by decide), kmu_f (by decide), if_neg e]
  have h68 : ∀ q, f156h X k w 68 0 q = if q = X 9 0 15 + 1 then 0 else X 68 0 q := fun q => by
    unfold f156h
    rw [kmu_f (by decide)]
    by_cases e : q = X 9 0 15 + 1
    · rw [e, kmu_eq, if_pos rfl]
    · rw [kmu_j e, kmu_f (by decide), kmu_f (by decide), kmu_f (by decide), if_neg e]
  have h70 : ∀ q, f156h X k w 70 0 q = if q = X 9 0 15 + 1 then X 61 0 (f138 X k) else X 70 0 q := fun q => by
    unfold f156h
    by_cases e : q = X 9 0 15 + 1
    · rw [e, kmu_eq, if_pos rfl]
    · rw [kmu_j e, kmu_f (by decide), kmu_f (by decide), kmu_f (by decide), kmu_f (by decide), if_neg e]
  generalize hm : X 9 0 15 + 1 = m at *
  generalize hb : f138 X k = b at *
  have z := kfd_inv (P := fun p Y => 0 ≤ p ∧ (∀ f, f ≠ 72 → f ≠ 73 → f ≠ 74 → Y f = f156h X k w f) ∧ (∀ q, 0 ≤ q → q < p → Y 72 0 (5 * m + q) = X 62 0 (5 * b + q) ∧ Y 73 0 (5 * m + q) = X 63 0 (5 * b + q) ∧ Y 74 0 (5 * m + q) = X 64 0 (5 * b + q)) ∧ ∀ q, q < 5 * m → Y 72 0 q = X 72 0 q ∧ Y 73 0 q = X 73 0 q ∧ Y 74 0 q = X 74 0 q) (f := kcp m b) (X 61 0 b).toNat 0 (f156h X k w) (fun p Y p0 p1 ⟨a0, a1, a2, a3⟩ => by
    have e62 : Y 62 = X 62 := (a1 62 (by decide) (by decide) (by decide)).trans (h3 62 (by decide) (by decide) (by decide) (by decide) (by decide))
    have e63 : Y 63 = X 63 := (a1 63 (by decide) (by decide) (by decide)).trans (h3 63 (by decide) (by decide) (by decide) (by decide) (by decide))
    have e64 : Y 64 = X 64 := (a1 64 (by decide) (by decide) (by decide)).trans (h3 64 (by decide) (by decide) (by decide) (by decide) (by decide))
    have g : ∀ q, kcp m b p Y 72 0 q = (if q = 5 * m + p then X 62 0 (5 * b + p) else Y 72 0 q) ∧ kcp m b p Y 73 0 q = (if q = 5 * m + p then X 63 0 (5 * b + p) else Y 73 0 q) ∧ kcp m b p Y 74 0 q = (if q = 5 * m + p then X 64 0 (5 * b + p) else Y 74 0 q) := by
      intro q
      unfold kcp
      rw [e62, e63, e64]
      by_cases e : q = 5 * m + p
      · rw [e, if_pos rfl, if_pos rfl, if_pos rfl]
        exact ⟨by rw [kmu_f (by decide), kmu_f (by decide), kmu_eq], by rw [kmu_f (by decide), kmu_eq], kmu_eq⟩
      · rw [if_neg e, if_neg e, if_neg e]
        exact ⟨by rw [kmu_f (by decide), kmu_f (by decide), kmu_j e], by rw [kmu_f (by decide), kmu_j e, kmu_f (by decide)], by rw [kmu_j e, kmu_f (by decide), kmu_f (by decide)]⟩
    refine ⟨by omega, fun f x1 x2 x3 => ?_, fun q q0 q1 => ?_, fun q q1 => ?_⟩
    · unfold kcp
      rw [kmu_ff x3, kmu_ff x2, kmu_ff x1]
      exact a1 f x1 x2 x3
    · obtain ⟨g1, g2, g3⟩ := g (5 * m + q)
      rw [g1, g2, g3]
      by_cases e : q = p
      · rw [e, if_pos rfl, if_pos rfl, if_pos rfl]
        exact ⟨rfl, rfl, rfl⟩
      · rw [if_neg (by omega), if_neg (by omega), if_neg (by omega)]
        exact a2 q q0 (by omega)
    · obtain ⟨g1, g2, g3⟩ := g q
      rw [g1, g2, g3, if_neg (by omega), if_neg (by omega), if_neg (by omega)]
      exact a3 q q1) ⟨by omega, fun _ _ _ _ => rfl, fun q a b => by omega, fun q _ => by
      rw [h3 72 (by decide) (by decide) (by decide) (by decide) (by decide), h3 73 (by decide) (by decide) (by decide) (by decide) (by decide), h3 74 (by decide) (by decide) (by decide) (by decide) (by decide)]
      exact ⟨rfl, rfl, rfl⟩⟩
  have eb : kfd (kcp m b) (X 61 0 b).toNat 0 (f156h X k w) = f156b X k w := by unfold f156b; rw [hm, hb]
  rw [eb] at z
  obtain ⟨z0, z1, z2, z3⟩ := z
  refine ⟨by rw [z1 9 (by decide) (by decide) (by decide)]; exact h1, fun j hj => by rw [z1 9 (by decide) (by decide) (by decide)]; exact h2 j hj, fun f a b c' d' e a' b' c'' => by rw [z1 f a' b' c'']; exact h3 f a b c' d' e, fun q => by rw [z1 66 (by decide) (by decide) (by decide)]; exact h66 q, fun q => by rw [z1 67 (by decide) (by decide) (by decide)]; exact h67 q, fun q => by rw [z1 68 (by decide) (by decide) (by decide)]; exact h68 q, fun q => by rw [z1 70 (by decide) (by decide) (by decide)]; exact h70 q, fun p a b => z2 p a (by omega), z3⟩
end
