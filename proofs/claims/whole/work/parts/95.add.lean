/-! Lists: add, with or without growth. -/
section
variable {E : Nat × Nat} {d c l : Nat} {s : ka_S} {h : ka_H} {Q : ka_Q} {J : ka_H} {A : ka_A} {V : ka_V} {C R X : ka_M}
/-- what an add wants of a list -/
def kAl (V : ka_V) (C : ka_M) (i : Int) : Prop := (i = 0 ∨ i = 1 ∨ i = 2) ∧ V 10 i ∧ kLs V C i ∧ (∀ q, V 33 q → 1000 * i ≤ q → q < 1000 * i + 1000 → q = C 10 i 0) ∧ (∀ q, V 10 q → (q = 0 ∨ q = 1 ∨ q = 2) ∧ 1000 * q ≤ C 10 q 0 ∧ C 10 q 0 < 1000 * q + 1000) ∧ C 10 i 0 % 1000 ≤ 75 ∧ ∀ j, 0 ≤ j → j < C 10 i 1 → 0 ≤ C 33 (C 10 i 0) j ∧ V (kLg i) (C 33 (C 10 i 0) j)
/-- the roles behind an add -/
def kAv (V V' : ka_V) (A A' : ka_A) (i : Int) (id : Int) : Prop := (∀ f q, ¬ (f = 33 ∧ 1000 * i ≤ q ∧ q < 1000 * i + 1000) → (V' f q ↔ V f q)) ∧ (∀ f q, V' f q → ¬ (f = 33 ∧ 1000 * i ≤ q ∧ q < 1000 * i + 1000) → A' f q = A f q) ∧ V' 33 id ∧ ∀ q, V' 33 q → 1000 * i ≤ q → q < 1000 * i + 1000 → q = id
theorem c184_g (hA : kJ A V) (v : kLV V) (hE : A 34 0 = E.1) {i x cap : Int} (hL : kAl V C i) (hs : ¬ C 10 i 1 < C 10 i 0 % 1000) (hg : V (kLg i) x) (x0 : 0 ≤ x) (hd : 6 ≤ d) (hc : 1 ≤ c) (hl : 113 ≤ l) (h10 : C 10 i 0 % 1000 = 0 → cap = 10) (h11 : ¬ C 10 i 0 % 1000 = 0 → cap = C 10 i 1 + (if 1 < C 10 i 1 / 2 then C 10 i 1 / 2 else 1))
    (H : ∀ J' A' l', kJ A' (kVg V C i cap) → (∀ f q, ¬ (f = 33 ∧ q = 1000 * i + cap) → A' f q = A f q) → l ≤ l' + 113 → Q (.inl (some (iv 1))) (kHp J' A' (kVg V C i cap) (kmu (kmu (kGr (kmu C 10 i 2 (C 10 i 2 + 1)) i cap) 33 (1000 * i + cap) (C 10 i 1) x) 10 i 1 (C 10 i 1 + 1)) R, c - 1, l')) :
    ka_W (kp E) (d, (184, 0, [some (.ref (A 10 i)), some (.ref (A (kLg i) x))], []), (kHp J A V C R, c, l)) Q := by
  obtain ⟨hi, hv, hls, hx, hq, hb, hel⟩ := hL
  have hls' := hls
  obtain ⟨l1, l2, l3, l4, l5, l6⟩ := hls'
  have hsz : C 10 i 1 = C 10 i 0 % 1000 := by omega
  have hcb : C 10 i 1 < cap ∧ 10 ≤ cap ∨ C 10 i 1 < cap ∧ cap ≤ 113 := by
    by_cases z : C 10 i 0 % 1000 = 0
    · have := h10 z; omega
    · have := h11 z; right; rw [this]; split <;> omega
  have hcb' : C 10 i 1 < cap ∧ cap ≤ 113 := by
    by_cases z : C 10 i 0 % 1000 = 0
    · have := h10 z; omega
    · have := h11 z; rw [this]; split <;> omega
  have hcc : (1000 * i + cap) % 1000 = cap := by omega
  -- the list with its count of changes
  have e0 : kmu C 10 i 2 (C 10 i 2 + 1) 10 i 0 = C 10 i 0 := kmu_j (by decide)
  have e1 : kmu C 10 i 2 (C 10 i 2 + 1) 10 i 1 = C 10 i 1 := kmu_j (by decide)
  have e33 : kmu C 10 i 2 (C 10 i 2 + 1) 33 = C 33 := kmu_ff (by decide)
  have eq0 : ∀ q, kmu C 10 i 2 (C 10 i 2 + 1) 10 q 0 = C 10 q 0 := fun q => kmu_j (by decide)
  have ls1 : kLs V (kmu C 10 i 2 (C 10 i 2 + 1)) i := by
    unfold kLs
    rw [e0, e1, e33]
    exact hls
  have eV : kVg V (kmu C 10 i 2 (C 10 i 2 + 1)) i cap = kVg V C i cap := by
    unfold kVg
    rw [e0]
  -- behind the growth
  have tail : ∀ J' A' l', kJ A' (kVg V C i cap) → (∀ f q, ¬ (f = 33 ∧ q = 1000 * i + cap) → A' f q = A f q) → l ≤ l' + 113 →
      kret E (d - 1 - 1) 179 10 [some (.ref (A 10 i))] [] (kret E (d - 1) 183 10 [some (.ref (A 10 i)), some (.ref (A (kLg i) x)), some (kg (kHp J A V (kmu C 10 i 2 (C 10 i 2 + 1)) R) (A 10 i) 0), some (iv (C 10 i 1))] [] (kret E d 184 23 [some (.ref (A 10 i)), some (.ref (A (kLg i) x))] [] Q)) (.inl (some (.ref (A' 33 (1000 * i + cap))))) (kHp J' A' (kVg V C i cap) (kGr (kmu C 10 i 2 (C 10 i 2 + 1)) i cap) R, c - 1, l') := by
    intro J' A' l' hA' hAA hl'
    have v10' : kVg V C i cap 10 i := Or.inl ⟨hv, fun w => absurd w.1 (by decide)⟩
    have v33' : kVg V C i cap 33 (1000 * i + cap) := Or.inr ⟨rfl, rfl⟩
    have hkg : kLg i ≠ 33 := by
      unfold kLg
      rcases hi with rfl | rfl | rfl <;> decide
    have vg' : kVg V C i cap (kLg i) x := Or.inl ⟨hg, fun w => hkg w.1⟩
    have a10 : A 10 i = A' 10 i := (hAA 10 i (fun w => absurd w.1 (by decide))).symm
    have ag : A (kLg i) x = A' (kLg i) x := (hAA _ _ (fun w => hkg w.1)).symm
    have ek : ke A' 33 (1000 * i + cap) (C 10 i 1).toNat x = .ref (A' (kLg i) x) := by
      rw [ke33 hi (by omega) (by omega), if_neg (by omega)]
      rfl
    have put : kup (kHp J' A' (kVg V C i cap) (kGr (kmu C 10 i 2 (C 10 i 2 + 1)) i cap) R) (A' 33 (1000 * i + cap)) (C 10 i 1).toNat (.ref (A' (kLg i) x)) = kHp J' A' (kVg V C i cap) (kmu (kGr (kmu C 10 i 2 (C 10 i 2 + 1)) i cap) 33 (1000 * i + cap) (C 10 i 1) x) R := by
      rw [← ek]
      exact kHp_putac (f := 33) hA' v33' rfl l3 (show (C 10 i 1).toNat < ((1000 * i + cap) % 1000).toNat by omega)
    have ex : ∀ {P : Prop}, (∃ t u, t < 1000 ∧ ktg (kHp J' A' (kVg V C i cap) (kGr (kmu C 10 i 2 (C 10 i 2 + 1)) i cap) R) (A' (kLg i) x) t ∧ (u = 2000 + t ∨ (u = 2999 ∧ t < 10)) ∧ kok (kHp J' A' (kVg V C i cap) (kGr (kmu C 10 i 2 (C 10 i 2 + 1)) i cap) R) (A' 33 (1000 * i + cap)) u (C 10 i 1).toNat ∧ P) ↔ P := by
      intro P
      have t1 := kHp_tg (J := J') (C := kGr (kmu C 10 i 2 (C 10 i 2 + 1)) i cap) (R := R) hA' vg'
      have t2 := hoa_33 (J := J') (C := kGr (kmu C 10 i 2 (C 10 i 2 + 1)) i cap) (R := R) (y := C 10 i 1) hA' v33' l3 (by omega)
      constructor
      · rintro ⟨t, u, -, -, -, -, z⟩; exact z
      · intro z
        have ht : kt (kLg i) = kLg i ∧ kLg i < 10 := by
          unfold kLg
          rcases hi with rfl | rfl | rfl <;> exact ⟨rfl, by decide⟩
        exact ⟨kLg i, 2999, by omega, by rw [ht.1] at t1; exact t1, Or.inr ⟨rfl, ht.2⟩, t2, z⟩
    have := H J' A' l' hA' hAA hl'
    generalize kg (kHp J A V (kmu C 10 i 2 (C 10 i 2 + 1)) R) (A 10 i) 0 = w
    rw [a10, ag]
    simp (disch := first | assumption | (unfold kR; decide) | exact klc_R | (unfold kR; omega) | omega | (unfold kL; omega) | exact kcat_null | exact kcat_ref _ | exact kcat_iv _) only [r179_10, r183_10, r183_11, r183_12, r183_13, r183_14, r183_15, r183_16, r183_17, r183_18, r183_19, r183_22, ho_10_1 hA, hp_10_1 hA, r184_23, r184_24, true_and, and_true, kk1_i, kk1_r, kk1_n, kk1_0, kcat_iv, kcat_ref, kcat_null, kisR_ref, kisR_null, ksz_nil, ksz_iv, ksz_ref, ksz_null, ksz_lv, kfit_int, kfit_long, kfit_obj, kfit_objN, kfit_arr, kfit_arrN, knarI, knarZ0, knarZ1, kret_v, kret_n, kret_x, Nat.reduceAdd, Nat.reduceLeDiff, reduceCtorEq, Int.reduceLE, Int.reduceLT, Int.reduceEq, ite_true, ite_false, true_or, or_true, false_implies, true_implies, not_true_eq_false, not_false_eq_true, and_self, eq_self, klc_lt, klc_ge, klc_le, klc_gt, klc_eq, kmu_eq, kmu_f, kmu_i, kmu_j, ex, put, ho_10_1 hA' v10', hp_10_1 hA' v10']
    exact this
  have e34 : ((0 : Nat) : Int) = 0 := rfl
  by_cases z : C 10 i 0 % 1000 = 0
  · have hcap := h10 z
    have hs0 : C 10 i 1 = 0 := by omega
    have g0 : kg (kHp J A V (kmu C 10 i 2 (C 10 i 2 + 1)) R) (A 10 i) 0 = .ref (A 34 0) := hgn_10_0 hA hv (by rw [e0]; exact z)
    have G := c178_0 (E := E) (d := d - 1 - 1 - 1) (c := c) (l := l) (J := J) (R := R) (Q := kret E (d - 1 - 1) 179 10 [some (.ref (A 10 i))] [] (kret E (d - 1) 183 10 [some (.ref (A 10 i)), some (.ref (A (kLg i) x)), some (kg (kHp J A V (kmu C 10 i 2 (C 10 i 2 + 1)) R) (A 10 i) 0), some (iv (C 10 i 1))] [] (kret E d 184 23 [some (.ref (A 10 i)), some (.ref (A (kLg i) x))] [] Q))) hA v hE hi hv ls1 (fun q a b c' => by rw [e0]; exact hx q a b c') (fun q a => by rw [eq0]; exact hq q a) (by rw [e0]; exact z) (by omega) hc (by omega) (fun J' A' y1 y2 => by
      rw [hcap] at eV tail
      rw [eV] at y1 ⊢
      exact tail J' A' (l - 10) y1 y2 (by omega))
    rw [g0] at G
    have e2 : (0 : Int) + 1 = 1 := rfl
    simp (disch := first | assumption | (unfold kR; decide) | exact klc_R | (unfold kR; omega) | omega | (unfold kL; omega) | exact kcat_null | exact kcat_ref _ | exact kcat_iv _) only [r184_0, r184_1, r184_2, r184_5, r184_6, r184_7, r184_10, r184_11, r184_12, r184_13, r184_16, r184_17, r184_20, ho_10_2 hA, hg_10_2 hA, hp_10_2 hA, ho_10_0 hA, hg_10_0 hA, hgn_10_0 hA, ho_10_1 hA, hg_10_1 hA, ht_10 hA, r183_0, r183_1, r183_2, r183_3, r183_6, r183_7, ht_10 hA, r179_0, r179_1, r179_2, r179_5, r179_6, r179_7, ho_10_1 hA, hg_10_1 hA, ht_10 hA, true_and, and_true, kk1_i, kk1_r, kk1_n, kk1_0, kcat_iv, kcat_ref, kcat_null, kisR_ref, kisR_null, ksz_nil, ksz_iv, ksz_ref, ksz_null, ksz_lv, kfit_int, kfit_long, kfit_obj, kfit_objN, kfit_arr, kfit_arrN, knarI, knarZ0, knarZ1, kret_v, kret_n, kret_x, Nat.reduceAdd, Nat.reduceLeDiff, reduceCtorEq, Int.reduceLE, Int.reduceLT, Int.reduceEq, ite_true, ite_false, true_or, or_true, false_implies, true_implies, not_true_eq_false, not_false_eq_true, and_self, eq_self, klc_lt, klc_ge, klc_le, klc_gt, klc_eq, kmu_eq, kmu_f, kmu_i, kmu_j, g0, hal_34 hA v.l34, hl_34 hA v.l34, e34, hs0, e2, Nat.zero_le, show 1 ≤ d by omega, show 1 ≤ d - 1 by omega, show 1 ≤ d - 1 - 1 by omega] at G ⊢
    exact G
  · have hcap := h11 z
    have v33 := l5 z
    have g0 : kg (kHp J A V (kmu C 10 i 2 (C 10 i 2 + 1)) R) (A 10 i) 0 = .ref (A 33 (C 10 i 0)) := by rw [hg_10_0 hA hv (by rw [e0]; exact z), e0]
    have G := c178_1 (E := E) (d := d - 1 - 1 - 1) (c := c) (l := l) (J := J) (C := kmu C 10 i 2 (C 10 i 2 + 1)) (R := R) (cap := cap) (Q := kret E (d - 1 - 1) 179 10 [some (.ref (A 10 i))] [] (kret E (d - 1) 183 10 [some (.ref (A 10 i)), some (.ref (A (kLg i) x)), some (kg (kHp J A V (kmu C 10 i 2 (C 10 i 2 + 1)) R) (A 10 i) 0), some (iv (C 10 i 1))] [] (kret E d 184 23 [some (.ref (A 10 i)), some (.ref (A (kLg i) x))] [] Q))) hA v hi hv ls1 (fun q a b c' => by rw [e0]; exact hx q a b c') (fun q a => by rw [eq0]; exact hq q a) (by rw [e0]; exact z) (by rw [e0, e1]; exact hsz) (by rw [e0]; exact hb) (fun j a b => by rw [e1] at b; rw [e0, e33]; exact hel j a b) (by rw [e1]; exact hcap) (by omega) hc (by omega) (fun J' A' y1 y2 => by
      rw [eV] at y1 ⊢
      exact tail J' A' (l - cap.toNat) y1 y2 (by omega))
    rw [g0, e1] at G
    have eln : (((C 10 i 0 % 1000).toNat : Nat) : Int) = C 10 i 1 := by omega
    simp (disch := first | assumption | (unfold kR; decide) | exact klc_R | (unfold kR; omega) | omega | (unfold kL; omega) | exact kcat_null | exact kcat_ref _ | exact kcat_iv _) only [r184_0, r184_1, r184_2, r184_5, r184_6, r184_7, r184_10, r184_11, r184_12, r184_13, r184_16, r184_17, r184_20, ho_10_2 hA, hg_10_2 hA, hp_10_2 hA, ho_10_0 hA, hg_10_0 hA, hgn_10_0 hA, ho_10_1 hA, hg_10_1 hA, ht_10 hA, r183_0, r183_1, r183_2, r183_3, r183_6, r183_7, ht_10 hA, r179_0, r179_1, r179_2, r179_5, r179_6, r179_7, ho_10_1 hA, hg_10_1 hA, ht_10 hA, true_and, and_true, kk1_i, kk1_r, kk1_n, kk1_0, kcat_iv, kcat_ref, kcat_null, kisR_ref, kisR_null, ksz_nil, ksz_iv, ksz_ref, ksz_null, ksz_lv, kfit_int, kfit_long, kfit_obj, kfit_objN, kfit_arr, kfit_arrN, knarI, knarZ0, knarZ1, kret_v, kret_n, kret_x, Nat.reduceAdd, Nat.reduceLeDiff, reduceCtorEq, Int.reduceLE, Int.reduceLT, Int.reduceEq, ite_true, ite_false, true_or, or_true, false_implies, true_implies, not_true_eq_false, not_false_eq_true, and_self, eq_self, klc_lt, klc_ge, klc_le, klc_gt, klc_eq, kmu_eq, kmu_f, kmu_i, kmu_j, g0, hal_33 hA v33, hl_33 hA v33, eln, Nat.zero_le, show 1 ≤ d by omega, show 1 ≤ d - 1 by omega, show 1 ≤ d - 1 - 1 by omega]
    exact G
theorem kAdd_g {i x cap : Int} (hL : kAl V C i) (hs : ¬ C 10 i 1 < C 10 i 0 % 1000) (hc0 : C 10 i 1 < cap) (hc1 : cap ≤ 113) (hcn : cap = kNc (C 10 i 0 % 1000)) : kAdd C (kmu (kmu (kGr (kmu C 10 i 2 (C 10 i 2 + 1)) i cap) 33 (1000 * i + cap) (C 10 i 1) x) 10 i 1 (C 10 i 1 + 1)) i x := by
  obtain ⟨hi, hv, ⟨l1, l2, l3, l4, l5, l6⟩, hx, hq, hb, hel⟩ := hL
  have hcc : (1000 * i + cap) % 1000 = cap := by omega
  have e0 : kmu C 10 i 2 (C 10 i 2 + 1) 10 i 0 = C 10 i 0 := kmu_j (by decide)
  have e1 : kmu C 10 i 2 (C 10 i 2 + 1) 10 i 1 = C 10 i 1 := kmu_j (by decide)
  have e33 : kmu C 10 i 2 (C 10 i 2 + 1) 33 = C 33 := kmu_ff (by decide)
  have gid : kmu (kmu (kGr (kmu C 10 i 2 (C 10 i 2 + 1)) i cap) 33 (1000 * i + cap) (C 10 i 1) x) 10 i 1 (C 10 i 1 + 1) 10 i 0 = 1000 * i + cap := by
    rw [kmu_j (by decide), kmu_f (by decide)]
    unfold kGr
    rw [kmu_eq]
  have g33 : ∀ q j, kGr (kmu C 10 i 2 (C 10 i 2 + 1)) i cap 33 q j = if q = 1000 * i + cap then (if j < C 10 i 1 then C 33 (C 10 i 0) j else -1) else C 33 q j := by
    intro q j
    unfold kGr
    rw [kmu_f (by decide), e0, e1]
    by_cases e : q = 1000 * i + cap
    · rw [if_pos ⟨rfl, e⟩, if_pos e]
      split <;> rfl
    · rw [if_neg (fun w => e w.2), if_neg e]
      exact kmu_f (by decide)
  unfold kAdd
  rw [gid, kmu_eq, hcc]
  refine ⟨rfl, by omega, by omega, by omega, Or.inr ⟨by omega, hcn⟩, fun j a b => ?_, ?_, fun j a b => ?_, fun f a b => ?_, fun q a => ?_, fun q a => ?_⟩
  · rw [kmu_f (by decide), kmu_j (by omega), g33, if_pos rfl, if_pos b]
  · rw [kmu_f (by decide), kmu_eq]
  · rw [kmu_f (by decide), kmu_j (by omega), g33, if_pos rfl, if_neg (by omega)]
  · rw [kmu_ff a, kmu_ff b]
    unfold kGr
    rw [kmu_ff a]
    funext q j
    rw [if_neg (fun w => b w.1)]
    exact kmu_f a
  · rw [kmu_ii a, kmu_ff (by decide)]
    unfold kGr
    rw [kmu_ii a]
    funext j
    rw [if_neg (fun w => absurd w.1 (by decide))]
    exact kmu_i a
  · rw [kmu_ff (by decide), kmu_ii (by omega)]
    funext j
    rw [g33, if_neg (by omega)]
/-- add -/
theorem c184 (hA : kJ A V) (v : kLV V) (hE : A 34 0 = E.1) {i x : Int} (hL : kAl V C i) (hg : V (kLg i) x) (x0 : 0 ≤ x) (hd : 6 ≤ d) (hc : 1 ≤ c) (hl : 113 ≤ l)
    (H : ∀ J' A' V' C' c' l', kJ A' V' → kAv V V' A A' i (C' 10 i 0) → kAdd C C' i x → c ≤ c' + 1 → l ≤ l' + 113 → Q (.inl (some (iv 1))) (kHp J' A' V' C' R, c', l')) :
    ka_W (kp E) (d, (184, 0, [some (.ref (A 10 i)), some (.ref (A (kLg i) x))], []), (kHp J A V C R, c, l)) Q := by
  have hL' := hL
  obtain ⟨hi, hv, hls, hx, hq, hb, hel⟩ := hL'
  have hls' := hls
  obtain ⟨l1, l2, l3, l4, l5, l6⟩ := hls'
  by_cases hs : C 10 i 1 < C 10 i 0 % 1000
  · rw [c184_n hA hi hv hls hs hg x0 (by omega)]
    have ka := kAdd_n (x := x) hls hs
    refine H J A V _ c l hA ⟨fun f q _ => Iff.rfl, fun f q _ _ => rfl, ?_, ?_⟩ ka (by omega) (by omega)
    · rw [kmu_j (by decide), kmu_f (by decide), kmu_j (by decide)]; exact l5 (by omega)
    · rw [kmu_j (by decide), kmu_f (by decide), kmu_j (by decide)]; exact hx
  · have hcap : ∃ cap, (C 10 i 0 % 1000 = 0 → cap = 10) ∧ (¬ C 10 i 0 % 1000 = 0 → cap = C 10 i 1 + (if 1 < C 10 i 1 / 2 then C 10 i 1 / 2 else 1)) ∧ C 10 i 1 < cap ∧ cap ≤ 113 ∧ cap = kNc (C 10 i 0 % 1000) := by
      have hsz : C 10 i 1 = C 10 i 0 % 1000 := by omega
      by_cases z : C 10 i 0 % 1000 = 0
      · exact ⟨10, fun _ => rfl, fun w => absurd z w, by omega, by omega, by unfold kNc; rw [if_pos z]⟩
      · refine ⟨_, fun w => absurd w z, fun _ => rfl, ?_, ?_, by unfold kNc; rw [if_neg z, hsz]⟩ <;> split <;> omega
    obtain ⟨cap, h10, h11, hc0, hc1, hcn⟩ := hcap
    refine c184_g hA v hE hL hs hg x0 hd hc hl h10 h11 (fun J' A' l' y1 y2 y3 => ?_)
    have ka := kAdd_g (x := x) hL hs hc0 hc1 hcn
    have gid : kmu (kmu (kGr (kmu C 10 i 2 (C 10 i 2 + 1)) i cap) 33 (1000 * i + cap) (C 10 i 1) x) 10 i 1 (C 10 i 1 + 1) 10 i 0 = 1000 * i + cap := by
      rw [kmu_j (by decide), kmu_f (by decide)]
      unfold kGr
      rw [kmu_eq]
    refine H J' A' (kVg V C i cap) _ (c - 1) l' y1 ⟨fun f q w => ?_, fun f q _ w => ?_, ?_, ?_⟩ ka (by omega) y3
    · unfold kVg
      constructor
      · rintro (⟨z, -⟩ | ⟨rfl, rfl⟩)
        · exact z
        · exact absurd ⟨rfl, by omega, by omega⟩ w
      · intro z
        refine Or.inl ⟨z, ?_⟩
        rintro ⟨rfl, rfl⟩
        exact w ⟨rfl, by omega, by omega⟩
    · exact y2 f q (fun z => w ⟨z.1, by omega, by omega⟩)
    · rw [gid]; exact Or.inr ⟨rfl, rfl⟩
    · rw [gid]
      rintro q (⟨z, z2⟩ | ⟨-, z⟩) a b
      · exact absurd ⟨rfl, hx q z a b⟩ z2
      · exact z
end
