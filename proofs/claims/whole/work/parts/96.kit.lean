/-! A kit is made. -/
section
variable {E : Nat × Nat} {d c l : Nat} {s : ka_S} {h : ka_H} {Q : ka_Q} {J : ka_H} {A : ka_A} {V : ka_V} {C R X : ka_M}
theorem c80 (hA : kJ A V) {a : Nat} {n g : Int} (ha : koff A V a) (hd : 2 ≤ d) (hc : 4 ≤ c) (hl : 21 ≤ l)
    (H : ∀ b a1 a2 a3, koff A V b → koff A V a1 → koff A V a2 → koff A V a3 → b ≠ a → a1 ≠ a → a2 ≠ a → a3 ≠ a → a1 ≠ b → a2 ≠ b → a2 ≠ a1 → a3 ≠ b → a3 ≠ a1 → a3 ≠ a2 → Q (.inl none) (kHp (ka_up (ka_up (ka_up (ka_up (ka_up J a (3, [iv n, iv g, .ref b, iv 1, lv (-1)])) b (6, [iv 0, .null, .ref a1, .ref a2, .ref a3, iv 0])) a1 kz5) a2 kz5) a3 kz5) A V C R, c - 1 - 1 - 1 - 1, l - 6 - 5 - 5 - 5)) :
    ka_W (kp E) (d, (80, 0, [some (.ref a), some (iv n), some (iv g)], []), (kHp (ka_up J a (3, [iv 0, iv 0, .null, iv 0, lv 0])) A V C R, c, l)) Q := by
  simp (disch := first | assumption | (unfold kR; decide) | exact klc_R | (unfold kR; omega) | omega | (unfold kL; omega) | exact kcat_null | exact kcat_ref _ | exact kcat_iv _) only [r80_0, r80_1, r80_4, r80_5, r80_6, r80_9, r80_10, r80_11, r80_14, r80_15, ho_3_0 hA, hp_3_0 hA, ho_3_1 hA, hp_3_1 hA, true_and, and_true, kk1_i, kk1_r, kk1_n, kk1_0, kcat_iv, kcat_ref, kcat_null, kisR_ref, kisR_null, ksz_nil, ksz_iv, ksz_ref, ksz_null, ksz_lv, kfit_int, kfit_long, kfit_obj, kfit_objN, kfit_arr, kfit_arrN, knarI, knarZ0, knarZ1, kret_v, kret_n, kret_x, Nat.reduceAdd, Nat.reduceLeDiff, reduceCtorEq, Int.reduceLE, Int.reduceLT, Int.reduceEq, ite_true, ite_false, true_or, or_true, false_implies, true_implies, not_true_eq_false, not_false_eq_true, and_self, eq_self, klc_lt, klc_ge, klc_le, klc_gt, klc_eq, kmu_eq, kmu_f, kmu_i, kmu_j, kok_off ha, kHp_kupo ha, kok_up, kup_up, List.set_cons_zero, List.set_cons_succ, List.length_cons, List.length_nil, Nat.reduceAdd, Nat.reduceLT, Nat.zero_le, show 1 ≤ d by omega]
  refine ⟨by omega, by omega, fun b hb => ?_⟩
  have ob := koff_of hA hb
  have nb := kfresh_ne hb ha
  have tb : ktg (kHp (ka_up (ka_up J a (3, [iv n, iv g, .null, iv 0, lv 0])) b (6, [iv 0, .null, .null, .null, .null, iv 0])) A V C R) b 6 := by rw [ktg_off ob, ktg_up]; trivial
  simp (disch := first | assumption | (unfold kR; decide) | exact klc_R | (unfold kR; omega) | omega | (unfold kL; omega) | exact kcat_null | exact kcat_ref _ | exact kcat_iv _) only [r80_18, r80_19, r80_20, r80_21, ht_6 hA, true_and, and_true, kk1_i, kk1_r, kk1_n, kk1_0, kcat_iv, kcat_ref, kcat_null, kisR_ref, kisR_null, ksz_nil, ksz_iv, ksz_ref, ksz_null, ksz_lv, kfit_int, kfit_long, kfit_obj, kfit_objN, kfit_arr, kfit_arrN, knarI, knarZ0, knarZ1, kret_v, kret_n, kret_x, Nat.reduceAdd, Nat.reduceLeDiff, reduceCtorEq, Int.reduceLE, Int.reduceLT, Int.reduceEq, ite_true, ite_false, true_or, or_true, false_implies, true_implies, not_true_eq_false, not_false_eq_true, and_self, eq_self, klc_lt, klc_ge, klc_le, klc_gt, klc_eq, kmu_eq, kmu_f, kmu_i, kmu_j, kHp_upo ob, tb, Nat.zero_le, show 1 ≤ d by omega]
  refine c100 hA (Or.inl rfl) ob (by omega) (by omega) (by omega) (fun a1 a2 a3 o1 o2 o3 n1 n2 n21 n3 n31 n32 j1 j2 j3 => ?_)
  have m1 : a1 ≠ a := fun z => by rw [z, kup_at] at j1; cases j1
  have m2 : a2 ≠ a := fun z => by rw [z, kup_at] at j2; cases j2
  have m3 : a3 ≠ a := fun z => by rw [z, kup_at] at j3; cases j3
  have := H b a1 a2 a3 ob o1 o2 o3 nb m1 m2 m3 n1 n2 n21 n3 n31 n32
  simp (disch := first | assumption | (unfold kR; decide) | exact klc_R | (unfold kR; omega) | omega | (unfold kL; omega) | exact kcat_null | exact kcat_ref _ | exact kcat_iv _) only [r80_24, r80_27, r80_28, r80_29, r80_32, r80_33, r80_36, r80_39, ho_3_2 hA, hp_3_2 hA, hpn_3_2 hA, ho_3_3 hA, hp_3_3 hA, ho_3_4 hA, hp_3_4 hA, true_and, and_true, kk1_i, kk1_r, kk1_n, kk1_0, kcat_iv, kcat_ref, kcat_null, kisR_ref, kisR_null, ksz_nil, ksz_iv, ksz_ref, ksz_null, ksz_lv, kfit_int, kfit_long, kfit_obj, kfit_objN, kfit_arr, kfit_arrN, knarI, knarZ0, knarZ1, kret_v, kret_n, kret_x, Nat.reduceAdd, Nat.reduceLeDiff, reduceCtorEq, Int.reduceLE, Int.reduceLT, Int.reduceEq, ite_true, ite_false, true_or, or_true, false_implies, true_implies, not_true_eq_false, not_false_eq_true, and_self, eq_self, klc_lt, klc_ge, klc_le, klc_gt, klc_eq, kmu_eq, kmu_f, kmu_i, kmu_j, kok_off ha, kHp_kupo ha, kok_upn m1.symm, kup_upn m1.symm, kok_upn m2.symm, kup_upn m2.symm, kok_upn m3.symm, kup_upn m3.symm, kok_upn nb.symm, kup_upn nb.symm, kok_up, kup_up, List.set_cons_zero, List.set_cons_succ, List.length_cons, List.length_nil, Nat.reduceAdd, Nat.reduceLT, Nat.zero_le, show 1 ≤ d by omega]
  exact this
/-- a new kit's roles -/
def kVk (V : ka_V) (k : Int) : ka_V := fun f j => kVr V (4 * k) f j ∨ (f = 3 ∧ j = k)
def kCk (C : ka_M) (k g : Int) : ka_M := fun f j q => if f = 3 ∧ j = k then (if q = 0 then k else if q = 1 then g else if q = 2 then 4 * k else if q = 3 then 1 else -1) else kCr C (4 * k) 0 (-1) f j q
theorem krole_k (hA : kJ A V) {a b a1 a2 a3 : Nat} {k g : Int} (ha : koff A V a) (ob : koff A V b) (o1 : koff A V a1) (o2 : koff A V a2) (o3 : koff A V a3) (nb : b ≠ a) (m1 : a1 ≠ a) (m2 : a2 ≠ a) (m3 : a3 ≠ a) (n1 : a1 ≠ b) (n2 : a2 ≠ b) (n21 : a2 ≠ a1) (n3 : a3 ≠ b) (n31 : a3 ≠ a1) (n32 : a3 ≠ a2) (k0 : 0 ≤ k) (h3 : ¬ V 3 k) (h6 : ¬ V 6 (4 * k)) (h20 : ¬ V 20 (4 * k)) (h21 : ¬ V 21 (4 * k)) (h22 : ¬ V 22 (4 * k)) (hp6 : knp V C R 6 (4 * k)) (hp3 : knp V C R 3 k) :
    ∃ A', kJ A' (kVk V k) ∧ A' 3 k = a ∧ (∀ f j, V f j → A' f j = A f j) ∧ kHp (ka_up (ka_up (ka_up (ka_up (ka_up J a (3, [iv k, iv g, .ref b, iv 1, lv (-1)])) b (6, [iv 0, .null, .ref a1, .ref a2, .ref a3, iv 0])) a1 kz5) a2 kz5) a3 kz5) A V C R = kHp (ka_up (ka_up (ka_up (ka_up (ka_up J a (3, [iv k, iv g, .ref b, iv 1, lv (-1)])) b (6, [iv 0, .null, .ref a1, .ref a2, .ref a3, iv 0])) a1 kz5) a2 kz5) a3 kz5) A' (kVk V k) (kCk C k g) R := by
  generalize hJ : ka_up (ka_up (ka_up (ka_up (ka_up J a (3, [iv k, iv g, .ref b, iv 1, lv (-1)])) b (6, [iv 0, .null, .ref a1, .ref a2, .ref a3, iv 0])) a1 kz5) a2 kz5) a3 kz5 = J'
  have ja : J' a = some (3, [iv k, iv g, .ref b, iv 1, lv (-1)]) := by rw [← hJ, kup_atn m3.symm, kup_atn m2.symm, kup_atn m1.symm, kup_atn nb.symm, kup_at]
  have jb : J' b = some (6, [iv 0, .null, .ref a1, .ref a2, .ref a3, iv 0]) := by rw [← hJ, kup_atn n3.symm, kup_atn n2.symm, kup_atn n1.symm, kup_at]
  have j1 : J' a1 = some kz5 := by rw [← hJ, kup_atn n31.symm, kup_atn n21.symm, kup_at]
  have j2 : J' a2 = some kz5 := by rw [← hJ, kup_atn n32.symm, kup_at]
  have j3 : J' a3 = some kz5 := by rw [← hJ, kup_at]
  obtain ⟨A1, x1, x2, x3, x4⟩ := krole_r (J := J') (C := C) (R := R) hA (i := 4 * k) (day := 0) (e := -1) ob o1 o2 o3 n1 n2 n21 n3 n31 n32 h6 h20 h21 h22 hp6 (by omega) (by rw [jb, if_pos (by decide)]; rfl) j1 j2 j3
  have hV3 : ∀ f j, kVr V (4 * k) f j → A1 f j ≠ a := by
    rintro f j (hv | ⟨hf, rfl⟩)
    · by_cases z : (f = 6 ∨ f = 20 ∨ f = 21 ∨ f = 22) ∧ j = 4 * k
      · exfalso
        obtain ⟨rfl | rfl | rfl | rfl, rfl⟩ := z
        · exact h6 hv
        · exact h20 hv
        · exact h21 hv
        · exact h22 hv
      · rw [x3 f j z]; exact ha f j hv
    · intro z
      have hvr : kVr V (4 * k) f (4 * k) := Or.inr ⟨hf, rfl⟩
      have h1 := kHp_at (J := J') (C := kCr C (4 * k) 0 (-1)) (R := R) x1 hvr
      rw [← x4, z, kHp_off ha, ja] at h1
      have h2 := congrArg (fun o => (o.getD (0, [])).1) h1
      dsimp only [Option.getD] at h2
      rcases hf with rfl | rfl | rfl | rfl <;> exact absurd h2 (by decide)
  obtain ⟨A2, y1, y2, y3, y4⟩ := kHp_new (J := J') (C := kCr C (4 * k) 0 (-1)) (R := R) (f := 3) (i := k) (a := a) (g := fun q => if q = 0 then k else if q = 1 then g else if q = 2 then 4 * k else if q = 3 then 1 else -1) x1 hV3 (fun z => z.elim h3 (fun w => by omega)) (fun f j q hv hq hh => by
      have hv' : V f j := by
        rcases hv with hv | ⟨hf, -⟩
        · exact hv
        · rcases ktgt_inv hh rfl (by decide) with z | z | z | z | z | z | z | z | z <;> omega
      refine hp3 f j q hv' hq ?_
      have : kmx (kCr C (4 * k) 0 (-1)) R f j q = kmx C R f j q := by
        unfold kmx
        split
        · rfl
        · unfold kCr
          rw [if_neg (show ¬ (f = 6 ∧ j = 4 * k) from fun w => by
            obtain ⟨rfl, rfl⟩ := w
            exact h6 hv'), if_neg (show ¬ ((f = 20 ∨ f = 21 ∨ f = 22) ∧ j = 4 * k) from fun w => by
            obtain ⟨rfl | rfl | rfl, rfl⟩ := w
            · exact h20 hv'
            · exact h21 hv'
            · exact h22 hv')]
      rw [← this]
      exact hh) rfl (by
      rw [ja]
      show some (3, [iv k, iv g, .ref b, iv 1, lv (-1)]) = some (3, [iv k, iv g, kre A1 (if 4 * k < 0 then none else some (6, 4 * k)), iv 1, lv (-1)])
      rw [if_neg (by omega)]
      show _ = some (3, [iv k, iv g, .ref (A1 6 (4 * k)), iv 1, lv (-1)])
      rw [x2]) (fun j hj hh => by
      rcases ktgt_inv hh rfl (by decide) with z | z | z | z | z | z | z | z | z <;> omega) (V' := kVk V k) (fun _ _ => Iff.rfl)
  refine ⟨A2, y3, y1, fun f j hv => ?_, ?_⟩
  · rw [y2 f j (fun w => h3 (w.1 ▸ w.2 ▸ hv)), x3 f j (fun w => by
      obtain ⟨rfl | rfl | rfl | rfl, rfl⟩ := w
      · exact h6 hv
      · exact h20 hv
      · exact h21 hv
      · exact h22 hv)]
  · rw [x4, y4]
    rfl
end
