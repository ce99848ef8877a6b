/-! A recipe is copied. -/
def kCy (C C' : ka_M) (i j n : Int) : Prop := (∀ f, f ≠ 6 → f ≠ 20 → f ≠ 21 → f ≠ 22 → C' f = C f) ∧ (∀ f q, f = 6 ∨ f = 20 ∨ f = 21 ∨ f = 22 → q ≠ j → C' f q = C f q) ∧ C' 6 j 1 = -1 ∧ C' 6 j 5 = n ∧ ∀ q, 0 ≤ q → q < n → C' 20 j q = C 20 i q ∧ C' 21 j q = C 21 i q ∧ C' 22 j q = C 22 i q
section
variable {E : Nat × Nat} {d c l : Nat} {s : ka_S} {h : ka_H} {Q : ka_Q} {J : ka_H} {A A' : ka_A} {V V' : ka_V} {C C' R X X' : ka_M}
theorem kup_same {e : ka_E} {a : Nat} (h : J a = some e) : ka_up J a e = J := by
  funext q
  unfold ka_up
  split
  · rename_i z; rw [z]; exact h.symm
  · rfl
theorem c104_l (hA : kJ A V) {i j : Int} (hi : kRc V C i) (hj : kRc V C j) (hne : i ≠ j) (hd : 1 ≤ d) (n0 : 0 ≤ C 6 i 5) (n5 : C 6 i 5 ≤ 5) :
    ∀ (m : Nat) (p : Int) (C1 : ka_M), 0 ≤ p → p + m = C 6 i 5 → kCy C C1 i j p →
    (∀ C', kCy C C' i j (C 6 i 5) → Q (.inl (some (.ref (A 6 j)))) (kHp J A V C' R, c, l)) →
    ka_W (kp E) (d, (104, 15, [some (.ref (A 6 i)), some (.ref (A 6 j)), some (iv p)], []), (kHp J A V C1 R, c, l)) Q
  | m, p, C1, p0, hm, y, H => by
    have hY := y
    obtain ⟨y1, y2, y3, y4, y5⟩ := y
    have e6 : C1 6 i = C 6 i := y2 6 i (by omega) hne
    have e20 : C1 20 i = C 20 i := y2 20 i (by omega) hne
    have e21 : C1 21 i = C 21 i := y2 21 i (by omega) hne
    have e22 : C1 22 i = C 22 i := y2 22 i (by omega) hne
    obtain ⟨r1, r2, r3, r4⟩ := hi
    obtain ⟨t1, t2, t3, t4⟩ := hj
    have e65 : C1 6 i 5 = C 6 i 5 := by rw [e6]
    cases m with
    | zero =>
      have : p = C 6 i 5 := by omega
      subst this
      have := H C1 hY
      simp (disch := first | assumption | (unfold kR; decide) | exact klc_R | (unfold kR; omega) | omega | (unfold kL; omega) | exact kcat_null | exact kcat_ref _ | exact kcat_iv _) only [r104_15, r104_16, r104_17, r104_20, r104_55, r104_56, ho_6_5 hA, hg_6_5 hA, true_and, and_true, kk1_i, kk1_r, kk1_n, kk1_0, kcat_iv, kcat_ref, kcat_null, kisR_ref, kisR_null, ksz_nil, ksz_iv, ksz_ref, ksz_null, ksz_lv, kfit_int, kfit_long, kfit_obj, kfit_objN, kfit_arr, kfit_arrN, knarI, knarZ0, knarZ1, kret_v, kret_n, kret_x, Nat.reduceAdd, Nat.reduceLeDiff, reduceCtorEq, Int.reduceLE, Int.reduceLT, Int.reduceEq, ite_true, ite_false, true_or, or_true, false_implies, true_implies, not_true_eq_false, not_false_eq_true, and_self, eq_self, klc_lt, klc_ge, klc_le, klc_gt, klc_eq, kmu_eq, kmu_f, kmu_i, kmu_j, e65, Int.le_refl]
      exact this
    | succ m =>
      have q101 := fun {Q} => c101 (E := E) (d := d - 1) (c := c) (l := l) (Q := Q) (J := J) (R := R) (C := C1) (g := C 20 i p) (n := C 21 i p) hA t1 t2 t3 t4 (by omega) (by omega)
      have o : ∀ f, f ≠ 6 → f ≠ 20 → f ≠ 21 → f ≠ 22 → kmu (g101 C1 j (C 20 i p) (C 21 i p)) 22 j p (C 22 i p) f = C1 f := by
        intro f a b c' d'
        unfold g101
        rw [kmu_ff d', kmu_ff a, kmu_ff d', kmu_ff c', kmu_ff b]
      have o2 : ∀ f q, q ≠ j → kmu (g101 C1 j (C 20 i p) (C 21 i p)) 22 j p (C 22 i p) f q = C1 f q := by
        intro f q a
        funext w
        unfold g101
        rw [kmu_i a, kmu_i a, kmu_i a, kmu_i a, kmu_i a]
      have o6 : ∀ w, kmu (g101 C1 j (C 20 i p) (C 21 i p)) 22 j p (C 22 i p) 6 j w = if w = 5 then p + 1 else C1 6 j w := by
        intro w
        unfold g101
        rw [kmu_f (by decide), y4]
        by_cases e : w = 5
        · rw [e, kmu_eq, if_pos rfl]
        · rw [kmu_j e, kmu_f (by decide), kmu_f (by decide), kmu_f (by decide), if_neg e]
      have o20 : ∀ w, kmu (g101 C1 j (C 20 i p) (C 21 i p)) 22 j p (C 22 i p) 20 j w = if w = p then C 20 i p else C1 20 j w := by
        intro w
        unfold g101
        rw [kmu_f (by decide), kmu_f (by decide), kmu_f (by decide), kmu_f (by decide), y4]
        by_cases e : w = p
        · rw [e, kmu_eq, if_pos rfl]
        · rw [kmu_j e, if_neg e]
      have o21 : ∀ w, kmu (g101 C1 j (C 20 i p) (C 21 i p)) 22 j p (C 22 i p) 21 j w = if w = p then C 21 i p else C1 21 j w := by
        intro w
        unfold g101
        rw [kmu_f (by decide), kmu_f (by decide), kmu_f (by decide), y4]
        by_cases e : w = p
        · rw [e, kmu_eq, if_pos rfl]
        · rw [kmu_j e, if_neg e, kmu_f (by decide)]
      have o22 : ∀ w, kmu (g101 C1 j (C 20 i p) (C 21 i p)) 22 j p (C 22 i p) 22 j w = if w = p then C 22 i p else C1 22 j w := by
        intro w
        by_cases e : w = p
        · rw [e, kmu_eq, if_pos rfl]
        · unfold g101
          rw [kmu_j e, if_neg e, kmu_f (by decide), y4, kmu_j e, kmu_f (by decide), kmu_f (by decide)]
      have g65 : g101 C1 j (C 20 i p) (C 21 i p) 6 j 5 = p + 1 := by unfold g101; rw [kmu_eq, y4]
      have g22 : g101 C1 j (C 20 i p) (C 21 i p) 22 i p = C 22 i p := by unfold g101; rw [kmu_i hne, kmu_i hne, kmu_i hne, kmu_i hne, e22]
      have q102 := fun {Q} => c102 (E := E) (d := d - 1) (c := c) (l := l) (Q := Q) (J := J) (R := R) (C := g101 C1 j (C 20 i p) (C 21 i p)) (g := C 22 i p) hA t1 t4 (by omega) (by omega)
      rw [g65, show p + 1 - 1 = p by omega] at q102
      have ih := c104_l hA ⟨r1, r2, r3, r4⟩ ⟨t1, t2, t3, t4⟩ hne hd n0 n5 m (p + 1) _ (by omega) (by omega) (show kCy C (kmu (g101 C1 j (C 20 i p) (C 21 i p)) 22 j p (C 22 i p)) i j (p + 1) from ⟨fun f a b c' d' => (o f a b c' d').trans (y1 f a b c' d'), fun f q a b => (o2 f q b).trans (y2 f q a b), by rw [o6, if_neg (by decide)]; exact y3, by rw [o6, if_pos rfl], fun q a b => by
        rw [o20, o21, o22]
        by_cases e : q = p
        · rw [e, if_pos rfl, if_pos rfl, if_pos rfl]; exact ⟨rfl, rfl, rfl⟩
        · rw [if_neg e, if_neg e, if_neg e]; exact y5 q a (by omega)⟩) H
      rw [r104_15]
      simp (disch := first | assumption | (unfold kR; decide) | exact klc_R | (unfold kR; omega) | omega | (unfold kL; omega) | exact kcat_null | exact kcat_ref _ | exact kcat_iv _) only [r104_16, r104_17, r104_20, r104_23, r104_24, r104_25, r104_28, r104_29, r104_30, r104_31, r104_34, r104_35, r104_36, r104_39, r104_40, r104_41, r104_44, r104_45, r104_46, r104_49, r104_52, ho_6_5 hA, hg_6_5 hA, ho_6_2 hA, hg_6_2 hA, hoa_20 hA, hga_20 hA, ho_6_3 hA, hg_6_3 hA, hoa_21 hA, hga_21 hA, ht_6 hA, ho_6_4 hA, hg_6_4 hA, hoa_22 hA, hga_22 hA, true_and, and_true, kk1_i, kk1_r, kk1_n, kk1_0, kcat_iv, kcat_ref, kcat_null, kisR_ref, kisR_null, ksz_nil, ksz_iv, ksz_ref, ksz_null, ksz_lv, kfit_int, kfit_long, kfit_obj, kfit_objN, kfit_arr, kfit_arrN, knarI, knarZ0, knarZ1, kret_v, kret_n, kret_x, Nat.reduceAdd, Nat.reduceLeDiff, reduceCtorEq, Int.reduceLE, Int.reduceLT, Int.reduceEq, ite_true, ite_false, true_or, or_true, false_implies, true_implies, not_true_eq_false, not_false_eq_true, and_self, eq_self, klc_lt, klc_ge, klc_le, klc_gt, klc_eq, kmu_eq, kmu_f, kmu_i, kmu_j, e65, e20, e21, q101, g22, q102, show ¬ C 6 i 5 ≤ p by omega, Nat.zero_le, hd]
      exact ih
theorem c104 (hA : kJ A V) {i j : Int} (hi : kRc V C i) (j0 : 0 ≤ j) (h6 : ¬ V 6 j) (h20 : ¬ V 20 j) (h21 : ¬ V 21 j) (h22 : ¬ V 22 j) (hp : knp V C R 6 j) (hd : 2 ≤ d) (hc : 4 ≤ c) (hl : 21 ≤ l) (n0 : 0 ≤ C 6 i 5) (n5 : C 6 i 5 ≤ 5)
    (H : ∀ J' A' C', kJ A' (kVr V j) → (∀ f q, V f q → A' f q = A f q) → (∀ a e, koff A V a → J a = some e → e.1 = 4 → koff A' (kVr V j) a ∧ J' a = some e) → kCy C C' i j (C 6 i 5) → Q (.inl (some (.ref (A' 6 j)))) (kHp J' A' (kVr V j) C' R, c - 4, l - 21)) :
    ka_W (kp E) (d, (104, 0, [some (.ref (A 6 i)), none, none], []), (kHp J A V C R, c, l)) Q := by
  obtain ⟨r1, r2, r3, r4⟩ := hi
  have hne : i ≠ j := fun e => h6 (e ▸ r1)
  rw [r104_0]
  refine ⟨by omega, by omega, fun a ha0 => ?_⟩
  have ha := koff_of hA ha0
  have ja0 : J a = none := by rw [kHp_off ha] at ha0; exact ha0
  have ta : ktg (kHp (ka_up J a (6, [iv 0, .null, .null, .null, .null, iv 0])) A V C R) a 6 := by rw [ktg_off ha, ktg_up]; trivial
  simp (disch := first | assumption | (unfold kR; decide) | exact klc_R | (unfold kR; omega) | omega | (unfold kL; omega) | exact kcat_null | exact kcat_ref _ | exact kcat_iv _) only [r104_3, r104_4, r104_5, r104_8, r104_9, ho_6_0 hA, hg_6_0 hA, ht_6 hA, true_and, and_true, kk1_i, kk1_r, kk1_n, kk1_0, kcat_iv, kcat_ref, kcat_null, kisR_ref, kisR_null, ksz_nil, ksz_iv, ksz_ref, ksz_null, ksz_lv, kfit_int, kfit_long, kfit_obj, kfit_objN, kfit_arr, kfit_arrN, knarI, knarZ0, knarZ1, kret_v, kret_n, kret_x, Nat.reduceAdd, Nat.reduceLeDiff, reduceCtorEq, Int.reduceLE, Int.reduceLT, Int.reduceEq, ite_true, ite_false, true_or, or_true, false_implies, true_implies, not_true_eq_false, not_false_eq_true, and_self, eq_self, klc_lt, klc_ge, klc_le, klc_gt, klc_eq, kmu_eq, kmu_f, kmu_i, kmu_j, kHp_upo ha, ta, Nat.zero_le, show 1 ≤ d by omega]
  refine c100 hA (Or.inl rfl) ha (by omega) (by omega) (by omega) (fun a1 a2 a3 oo1 oo2 oo3 m1 m2 n21 m3 n31 n32 j1 j2 j3 => ?_)
  have J1a : ∀ b e, J b = some e → (ka_up (ka_up (ka_up (ka_up J a (6, [iv (C 6 i 0), .null, .ref a1, .ref a2, .ref a3, iv 0])) a1 kz5) a2 kz5) a3 kz5) b = some e := by
    intro b e hb
    have b0 : b ≠ a := fun z => by rw [z, ja0] at hb; cases hb
    have b1 : b ≠ a1 := fun z => by rw [z, j1] at hb; cases hb
    have b2 : b ≠ a2 := fun z => by rw [z, j2] at hb; cases hb
    have b3 : b ≠ a3 := fun z => by rw [z, j3] at hb; cases hb
    rw [kup_atn b3, kup_atn b2, kup_atn b1, kup_atn b0]
    exact hb
  obtain ⟨A1, y1, y2, y3, y4⟩ := krole_r (J := ka_up (ka_up (ka_up (ka_up J a (6, [iv (C 6 i 0), .null, .ref a1, .ref a2, .ref a3, iv 0])) a1 kz5) a2 kz5) a3 kz5) (C := C) (R := R) (i := j) (day := C 6 i 0) (e := -1) hA ha oo1 oo2 oo3 m1 m2 n21 m3 n31 n32 h6 h20 h21 h22 hp (by omega) (by
    rw [kup_atn (Ne.symm m3), kup_atn (Ne.symm m2), kup_atn (Ne.symm m1), kup_at, if_pos (by decide)]
    rfl) (by rw [kup_atn (Ne.symm n31), kup_atn (Ne.symm n21), kup_at]) (by rw [kup_atn (Ne.symm n32), kup_at]) (by rw [kup_at])
  rw [y4]
  generalize ka_up (ka_up (ka_up (ka_up J a (6, [iv (C 6 i 0), .null, .ref a1, .ref a2, .ref a3, iv 0])) a1 kz5) a2 kz5) a3 kz5 = J1 at *
  have eA : ∀ f q, V f q → A1 f q = A f q := fun f q hv => y3 f q (fun w => by
    obtain ⟨rfl | rfl | rfl | rfl, rfl⟩ := w
    · exact h6 hv
    · exact h20 hv
    · exact h21 hv
    · exact h22 hv)
  have off : ∀ b e, koff A V b → J b = some e → e.1 = 4 → koff A1 (kVr V j) b ∧ J1 b = some e := by
    intro b e ob hb he
    refine ⟨fun f q hv => ?_, J1a b e hb⟩
    rcases hv with hv | ⟨hf, rfl⟩
    · rw [eA f q hv]; exact ob f q hv
    · intro z
      have hvr : kVr V q f q := Or.inr ⟨hf, rfl⟩
      have h1 := kHp_at (J := J1) (C := kCr C q (C 6 i 0) (-1)) (R := R) y1 hvr
      rw [← y4, z, kHp_off ob, J1a b e hb] at h1
      have h2 := congrArg (fun o => (o.getD (0, [])).1) h1
      dsimp only [Option.getD] at h2
      rw [he] at h2
      rcases hf with rfl | rfl | rfl | rfl <;> exact absurd h2 (by decide)
  have n6 : ∀ w, kCr C j (C 6 i 0) (-1) 6 i w = C 6 i w := fun w => by
    unfold kCr
    rw [if_neg (fun z => hne z.2), if_neg (fun z => absurd z.1 (by decide))]
  have nr : ∀ f q, q ≠ j → kCr C j (C 6 i 0) (-1) f q = C f q := fun f q hq => by
    funext w
    unfold kCr
    rw [if_neg (fun z => hq z.2), if_neg (fun z => hq z.2)]
  have nf : ∀ f, f ≠ 6 → f ≠ 20 → f ≠ 21 → f ≠ 22 → kCr C j (C 6 i 0) (-1) f = C f := fun f a b c' d' => by
    funext q w
    unfold kCr
    rw [if_neg (fun z => a z.1), if_neg (fun z => by omega)]
  have n61 : kCr C j (C 6 i 0) (-1) 6 j 1 = -1 := by unfold kCr; simp
  have n65 : kCr C j (C 6 i 0) (-1) 6 j 5 = 0 := by unfold kCr; simp
  generalize kCr C j (C 6 i 0) (-1) = C1 at *
  have z := c104_l (E := E) (d := d) (c := c - 4) (l := l - 21) (Q := Q) (J := J1) (R := R) (C := C1) y1 (i := i) (j := j) ⟨Or.inl r1, Or.inl r2, Or.inl r3, Or.inl r4⟩ ⟨Or.inr ⟨by omega, rfl⟩, Or.inr ⟨by omega, rfl⟩, Or.inr ⟨by omega, rfl⟩, Or.inr ⟨by omega, rfl⟩⟩ hne (by omega) (by rw [n6]; exact n0) (by rw [n6]; exact n5) (C 6 i 5).toNat 0 C1 (by omega) (by rw [n6]; omega) ⟨fun _ _ _ _ _ => rfl, fun _ _ _ _ => rfl, n61, n65, fun q a b => by omega⟩ (fun C' w => by
    obtain ⟨w1, w2, w3, w4, w5⟩ := w
    rw [n6] at w4 w5
    refine H J1 A1 C' y1 eA off ⟨fun f a b c' d' => (w1 f a b c' d').trans (nf f a b c' d'), fun f q a b => (w2 f q a b).trans (nr f q b), w3, w4, fun q a b => ?_⟩
    obtain ⟨u1, u2, u3⟩ := w5 q a b
    rw [nr 20 i hne] at u1
    rw [nr 21 i hne] at u2
    rw [nr 22 i hne] at u3
    exact ⟨u1, u2, u3⟩)
  rw [y2, eA 6 i r1] at z
  have ec : c - 1 - 1 - 1 - 1 = c - 4 := by omega
  have el : l - 6 - 5 - 5 - 5 = l - 21 := by omega
  simp (disch := first | assumption | (unfold kR; decide) | exact klc_R | (unfold kR; omega) | omega | (unfold kL; omega) | exact kcat_null | exact kcat_ref _ | exact kcat_iv _) only [r104_12, r104_13, r104_14, true_and, and_true, kk1_i, kk1_r, kk1_n, kk1_0, kcat_iv, kcat_ref, kcat_null, kisR_ref, kisR_null, ksz_nil, ksz_iv, ksz_ref, ksz_null, ksz_lv, kfit_int, kfit_long, kfit_obj, kfit_objN, kfit_arr, kfit_arrN, knarI, knarZ0, knarZ1, kret_v, kret_n, kret_x, Nat.reduceAdd, Nat.reduceLeDiff, reduceCtorEq, Int.reduceLE, Int.reduceLT, Int.reduceEq, ite_true, ite_false, true_or, or_true, false_implies, true_implies, not_true_eq_false, not_false_eq_true, and_self, eq_self, klc_lt, klc_ge, klc_le, klc_gt, klc_eq, kmu_eq, kmu_f, kmu_i, kmu_j, ec, el]
  exact z
end
