/-! Lists: add. -/
/-- the family of a list's elements -/
def kLg (i : Int) : Nat := if i = 0 then 3 else if i = 1 then 4 else 8
/-- the next capacity -/
def kNc (x : Int) : Int := if x = 0 then 10 else x + (if 1 < x / 2 then x / 2 else 1)
def kCap (x : Int) : Prop := x = 0 ∨ x = 10 ∨ x = 15 ∨ x = 22 ∨ x = 33 ∨ x = 49 ∨ x = 73
theorem kCap.next {x : Int} (h : kCap x) (h1 : x < 73) : kCap (kNc x) := by
  rcases h with rfl | rfl | rfl | rfl | rfl | rfl | rfl
  · exact Or.inr (Or.inl rfl)
  · exact Or.inr (Or.inr (Or.inl rfl))
  · exact Or.inr (Or.inr (Or.inr (Or.inl rfl)))
  · exact Or.inr (Or.inr (Or.inr (Or.inr (Or.inl rfl))))
  · exact Or.inr (Or.inr (Or.inr (Or.inr (Or.inr (Or.inl rfl)))))
  · exact Or.inr (Or.inr (Or.inr (Or.inr (Or.inr (Or.inr rfl)))))
  · omega
theorem kCap.le {x : Int} (h : kCap x) : 0 ≤ x ∧ x ≤ 73 := by
  rcases h with rfl | rfl | rfl | rfl | rfl | rfl | rfl <;> decide
/-- how a list stands behind an add -/
def kAdd (C C' : ka_M) (i x : Int) : Prop :=
  C' 10 i 1 = C 10 i 1 + 1 ∧ 1000 * i ≤ C' 10 i 0 ∧ C' 10 i 0 < 1000 * i + 1000 ∧ C 10 i 1 + 1 ≤ C' 10 i 0 % 1000 ∧ (C' 10 i 0 % 1000 = C 10 i 0 % 1000 ∨ (C 10 i 1 = C 10 i 0 % 1000 ∧ C' 10 i 0 % 1000 = kNc (C 10 i 0 % 1000))) ∧ (∀ j, 0 ≤ j → j < C 10 i 1 → C' 33 (C' 10 i 0) j = C 33 (C 10 i 0) j) ∧ C' 33 (C' 10 i 0) (C 10 i 1) = x ∧ (∀ j, C 10 i 1 < j → j < C' 10 i 0 % 1000 → C' 33 (C' 10 i 0) j = -1) ∧
  (∀ f, f ≠ 10 → f ≠ 33 → C' f = C f) ∧ (∀ q, q ≠ i → C' 10 q = C 10 q) ∧ ∀ q, ¬ (1000 * i ≤ q ∧ q < 1000 * i + 1000) → C' 33 q = C 33 q
section
variable {E : Nat × Nat} {d c l : Nat} {s : ka_S} {h : ka_H} {Q : ka_Q} {J : ka_H} {A : ka_A} {V : ka_V} {C R X : ka_M}
theorem ke33 {i id x : Int} {j : Nat} (hi : i = 0 ∨ i = 1 ∨ i = 2) (h0 : 1000 * i ≤ id) (h1 : id < 1000 * i + 1000) : ke A 33 id j x = kre A (if x < 0 then none else some (kLg i, x)) := by
  show kre A (if x < 0 then none else some (if id < 1000 then 3 else if id < 2000 then 4 else 8, x)) = _
  have : (if id < 1000 then 3 else if id < 2000 then 4 else 8) = kLg i := by
    unfold kLg
    rcases hi with rfl | rfl | rfl
    · rw [if_pos (by omega)]; rfl
    · rw [if_neg (by omega), if_pos (by omega)]; rfl
    · rw [if_neg (by omega), if_neg (by omega)]; rfl
  rw [this]
/-- add without growth -/
theorem c184_n (hA : kJ A V) {i x : Int} (hi : i = 0 ∨ i = 1 ∨ i = 2) (hv : V 10 i) (hl : kLs V C i) (hs : C 10 i 1 < C 10 i 0 % 1000) (hg : V (kLg i) x) (x0 : 0 ≤ x) (hd : 1 ≤ d) :
    ka_W (kp E) (d, (184, 0, [some (.ref (A 10 i)), some (.ref (A (kLg i) x))], []), (kHp J A V C R, c, l)) Q ↔ Q (.inl (some (iv 1))) (kHp J A V (kmu (kmu (kmu C 10 i 2 (C 10 i 2 + 1)) 33 (C 10 i 0) (C 10 i 1) x) 10 i 1 (C 10 i 1 + 1)) R, c, l) := by
  obtain ⟨l1, l2, l3, l4, l5, l6⟩ := hl
  have v33 := l5 (by omega)
  have hm : C 10 i 0 % 1000 < 1000 := Int.emod_lt_of_pos _ (by decide)
  have ek : ke A 33 (C 10 i 0) (C 10 i 1).toNat x = .ref (A (kLg i) x) := by
    rw [ke33 hi l1 l2, if_neg (by omega)]
    rfl
  have put : ∀ C' : ka_M, kup (kHp J A V C' R) (A 33 (C 10 i 0)) (C 10 i 1).toNat (.ref (A (kLg i) x)) = kHp J A V (kmu C' 33 (C 10 i 0) (C 10 i 1) x) R := by
    intro C'
    rw [← ek]
    exact kHp_putac (f := 33) hA v33 rfl l3 (show (C 10 i 1).toNat < (C 10 i 0 % 1000).toNat by omega)
  have ex : ∀ {C' : ka_M} {P : Prop}, (∃ t u, t < 1000 ∧ ktg (kHp J A V C' R) (A (kLg i) x) t ∧ (u = 2000 + t ∨ (u = 2999 ∧ t < 10)) ∧ kok (kHp J A V C' R) (A 33 (C 10 i 0)) u (C 10 i 1).toNat ∧ P) ↔ P := by
    intro C' P
    have t1 := kHp_tg (J := J) (C := C') (R := R) hA hg
    have t2 := hoa_33 (J := J) (C := C') (R := R) hA v33 l3 (by omega)
    constructor
    · rintro ⟨t, u, -, -, -, -, z⟩; exact z
    · intro z
      have ht : kt (kLg i) = kLg i ∧ kLg i < 10 := by
        unfold kLg
        rcases hi with rfl | rfl | rfl <;> exact ⟨rfl, by decide⟩
      exact ⟨kLg i, 2999, by omega, by rw [ht.1] at t1; exact t1, Or.inr ⟨rfl, ht.2⟩, t2, z⟩
  have hne : C 10 i 0 % 1000 ≠ 0 := by omega
  have eln : (((C 10 i 0 % 1000).toNat : Nat) : Int) = C 10 i 0 % 1000 := by omega
  have g0 : ∀ y, kg (kHp J A V (kmu C 10 i 2 y) R) (A 10 i) 0 = .ref (A 33 (C 10 i 0)) := by
    intro y
    have e : kmu C 10 i 2 y 10 i 0 = C 10 i 0 := kmu_j (by decide)
    rw [hg_10_0 hA hv (by rw [e]; exact hne), e]
  simp (disch := first | assumption | (unfold kR; decide) | exact klc_R | (unfold kR; omega) | omega | (unfold kL; omega) | exact kcat_null | exact kcat_ref _ | exact kcat_iv _) only [r184_0, r184_1, r184_2, r184_5, r184_6, r184_7, r184_10, r184_11, r184_12, r184_13, r184_16, r184_17, r184_20, r184_23, r184_24, ho_10_2 hA, hg_10_2 hA, hp_10_2 hA, ho_10_0 hA, hg_10_0 hA, hgn_10_0 hA, ho_10_1 hA, hg_10_1 hA, ht_10 hA, true_and, and_true, kk1_i, kk1_r, kk1_n, kk1_0, kcat_iv, kcat_ref, kcat_null, kisR_ref, kisR_null, ksz_nil, ksz_iv, ksz_ref, ksz_null, ksz_lv, kfit_int, kfit_long, kfit_obj, kfit_objN, kfit_arr, kfit_arrN, knarI, knarZ0, knarZ1, kret_v, kret_n, kret_x, Nat.reduceAdd, Nat.reduceLeDiff, reduceCtorEq, Int.reduceLE, Int.reduceLT, Int.reduceEq, ite_true, ite_false, true_or, or_true, false_implies, true_implies, not_true_eq_false, not_false_eq_true, and_self, eq_self, klc_lt, klc_ge, klc_le, klc_gt, klc_eq, kmu_eq, kmu_f, kmu_i, kmu_j, r183_0, r183_1, r183_2, r183_3, r183_11, r183_12, r183_13, r183_14, r183_15, r183_16, r183_17, r183_18, r183_19, r183_22, ho_10_1 hA, hp_10_1 hA, hal_33 hA v33, hl_33 hA v33, g0, ex, put, eln, show ¬ C 10 i 1 = C 10 i 0 % 1000 by omega, Nat.zero_le, hd]
theorem kAdd_n {i x : Int} (hl : kLs V C i) (hs : C 10 i 1 < C 10 i 0 % 1000) : kAdd C (kmu (kmu (kmu C 10 i 2 (C 10 i 2 + 1)) 33 (C 10 i 0) (C 10 i 1) x) 10 i 1 (C 10 i 1 + 1)) i x := by
  obtain ⟨l1, l2, l3, l4, l5, l6⟩ := hl
  have e0 : kmu (kmu (kmu C 10 i 2 (C 10 i 2 + 1)) 33 (C 10 i 0) (C 10 i 1) x) 10 i 1 (C 10 i 1 + 1) 10 i 0 = C 10 i 0 := by rw [kmu_j (by decide), kmu_f (by decide), kmu_j (by decide)]
  unfold kAdd
  rw [e0, kmu_eq]
  refine ⟨rfl, l1, l2, by omega, Or.inl rfl, fun j a b => ?_, ?_, fun j a b => ?_, fun f a b => ?_, fun q a => ?_, fun q a => ?_⟩
  · rw [kmu_f (by decide), kmu_j (by omega), kmu_f (by decide)]
  · rw [kmu_f (by decide), kmu_eq]
  · rw [kmu_f (by decide), kmu_j (by omega), kmu_f (by decide)]
    exact l6 j (by omega) b
  · rw [kmu_ff a, kmu_ff b, kmu_ff a]
  · rw [kmu_ii a, kmu_ff (by decide), kmu_ii a]
  · rw [kmu_ff (by decide), kmu_ii (by omega), kmu_ff (by decide)]
theorem c189 {o n p : Int} (hd : 1 ≤ d) (o0 : 0 ≤ o) (o1 : o ≤ 100) (n0 : 0 ≤ n) (n1 : n ≤ 100) (p0 : 0 ≤ p) (p1 : p ≤ 100) (hp : 1 ≤ n) : ka_W (kp E) (d, (189, 0, [some (iv o), some (iv n), some (iv p), none], []), s) Q ↔ Q (.inl (some (iv (o + (if n < p then p else n))))) s := by
  have hb : 0 < o + (if n < p then p else n) ∧ o + (if n < p then p else n) ≤ 200 := by split <;> omega
  have hr : kR (o + (if n < p then p else n)) := by unfold kR; omega
  generalize hx : (if n < p then p else n) = x at *
  simp (disch := first | assumption | (unfold kR; decide) | exact klc_R | (unfold kR; omega) | omega | (unfold kL; omega) | exact kcat_null | exact kcat_ref _ | exact kcat_iv _) only [r189_0, r189_1, r189_2, r189_3, r189_6, r189_7, r189_8, r189_9, r189_10, r189_13, r189_14, r189_16, r189_19, r189_20, true_and, and_true, kk1_i, kk1_r, kk1_n, kk1_0, kcat_iv, kcat_ref, kcat_null, kisR_ref, kisR_null, ksz_nil, ksz_iv, ksz_ref, ksz_null, ksz_lv, kfit_int, kfit_long, kfit_obj, kfit_objN, kfit_arr, kfit_arrN, knarI, knarZ0, knarZ1, kret_v, kret_n, kret_x, Nat.reduceAdd, Nat.reduceLeDiff, reduceCtorEq, Int.reduceLE, Int.reduceLT, Int.reduceEq, ite_true, ite_false, true_or, or_true, false_implies, true_implies, not_true_eq_false, not_false_eq_true, and_self, eq_self, klc_lt, klc_ge, klc_le, klc_gt, klc_eq, kmu_eq, kmu_f, kmu_i, kmu_j, hx, show ¬ o + x ≤ 0 by omega, show ¬ (2147483639:Int) < o + x by omega, Nat.zero_le, hd]
/-- what a growth leaves: the list has a new array of cap slots -/
def kGr (C : ka_M) (i cap : Int) : ka_M := kmu (fun f q j => if f = 33 ∧ q = 1000 * i + cap then (if j < C 10 i 1 then C 33 (C 10 i 0) j else -1) else C f q j) 10 i 0 (1000 * i + cap)
def kVg (V : ka_V) (C : ka_M) (i cap : Int) : ka_V := fun f q => (V f q ∧ ¬ (f = 33 ∧ q = C 10 i 0)) ∨ (f = 33 ∧ q = 1000 * i + cap)
/-- a raw array of references becomes the list's -/
theorem krole_g (hA : kJ A V) {i cap : Int} {a : Nat} (hi : i = 0 ∨ i = 1 ∨ i = 2) (hv : V 10 i) (hl : kLs V C i) (hx : ∀ q, V 33 q → 1000 * i ≤ q → q < 1000 * i + 1000 → q = C 10 i 0) (hq : ∀ q, V 10 q → (q = 0 ∨ q = 1 ∨ q = 2) ∧ 1000 * q ≤ C 10 q 0 ∧ C 10 q 0 < 1000 * q + 1000) (hc0 : C 10 i 0 % 1000 < cap) (hc1 : cap ≤ 150) (ha : koff A V a)
    (hJ : J a = some (2999, (List.range cap.toNat).map (fun (j : Nat) => if (j : Int) < C 10 i 1 then kre A (if C 33 (C 10 i 0) j < 0 then none else some (kLg i, C 33 (C 10 i 0) j)) else .null))) :
    ∃ J' A', kJ A' (kVg V C i cap) ∧ (∀ f q, ¬ (f = 33 ∧ q = 1000 * i + cap) → A' f q = A f q) ∧ A' 33 (1000 * i + cap) = a ∧ kup (kHp J A V C R) (A 10 i) 0 (.ref a) = kHp J' A' (kVg V C i cap) (kGr C i cap) R := by
  obtain ⟨l1, l2, l3, l4, l5, l6⟩ := hl
  have hcap : (1000 * i + cap) % 1000 = cap := by omega
  -- the old array's role goes
  have hne : ¬ V 33 (1000 * i + cap) := fun z => by
    have := hx _ z (by omega) (by omega)
    omega
  obtain ⟨A', x1, x2, x3, x4⟩ := kHp_new (J := J) (C := C) (R := R) (f := 33) (i := 1000 * i + cap) (a := a) (g := fun j => if j < C 10 i 1 then C 33 (C 10 i 0) j else -1) hA ha hne (knp_33 (fun q hvq z => by
      obtain ⟨h1, h2, h3⟩ := hq q hvq
      by_cases e : q = i
      · rw [e] at z; omega
      · omega)) rfl (by
      rw [hJ]
      have e1 : kl 33 (1000 * i + cap) = cap.toNat := by
        show ((1000 * i + cap) % 1000).toNat = cap.toNat
        rw [hcap]
      rw [e1]
      congr 2
      apply List.map_congr_left
      intro j hj
      rw [ke33 hi (by omega) (by omega)]
      split
      · rfl
      · rw [if_pos (by omega)]
        rfl) (fun j hj h => by
      rcases ktgt_inv h rfl (by decide) with z | z | z | z | ⟨-, -, z⟩ | z | z | z | z
      · omega
      · omega
      · omega
      · omega
      · split at z
        · omega
        · split at z <;> omega
      · omega
      · omega
      · omega
      · omega) (V' := fun f q => V f q ∨ (f = 33 ∧ q = 1000 * i + cap)) (fun _ _ => Iff.rfl)
  generalize hC1 : (fun (f' : Nat) (i' j' : Int) => if f' = 33 ∧ i' = 1000 * i + cap then (fun j => if j < C 10 i 1 then C 33 (C 10 i 0) j else -1 : Int → Int) j' else C f' i' j') = C1 at x4
  have put := hp_10_0 (J := J) (C := C1) (R := R) (x := 1000 * i + cap) x3 (i := i) (Or.inl hv) (by rw [hcap]; omega)
  rw [x1] at put
  have e10 : A' 10 i = A 10 i := x2 10 i (by omega)
  rw [e10] at put
  have less := kHp_less (J := J) (C := kmu C1 10 i 0 (1000 * i + cap)) (R := R) x3 (V' := kVg V C i cap) (fun f q h => by
    rcases h with ⟨h, -⟩ | h
    · exact Or.inl h
    · exact Or.inr h)
  refine ⟨kHp J A' (fun f q => V f q ∨ (f = 33 ∧ q = 1000 * i + cap)) (kmu C1 10 i 0 (1000 * i + cap)) R, A', ?_, x2, x1, ?_⟩
  · intro f q f' q' h1 h2 e
    refine x3 f q f' q' ?_ ?_ e
    · rcases h1 with ⟨h, -⟩ | h
      · exact Or.inl h
      · exact Or.inr h
    · rcases h2 with ⟨h, -⟩ | h
      · exact Or.inl h
      · exact Or.inr h
  · rw [x4, put]
    have e : kGr C i cap = kmu C1 10 i 0 (1000 * i + cap) := by
      unfold kGr
      rw [← hC1]
    rw [e]
    exact less
theorem kmap_null {n : Nat} : List.replicate n Value.null = (List.range n).map (fun _ => Value.null) := by
  apply List.ext_getElem
  · simp
  · intro i h1 h2
    simp
/-- grow, the first time -/
theorem c178_0 (hA : kJ A V) (v : kLV V) (hE : A 34 0 = E.1) {i : Int} (hi : i = 0 ∨ i = 1 ∨ i = 2) (hv : V 10 i) (hl : kLs V C i) (hx : ∀ q, V 33 q → 1000 * i ≤ q → q < 1000 * i + 1000 → q = C 10 i 0) (hq : ∀ q, V 10 q → (q = 0 ∨ q = 1 ∨ q = 2) ∧ 1000 * q ≤ C 10 q 0 ∧ C 10 q 0 < 1000 * q + 1000) (h0 : C 10 i 0 % 1000 = 0) (hd : 1 ≤ d) (hc : 1 ≤ c) (hll : 10 ≤ l)
    (H : ∀ J' A', kJ A' (kVg V C i 10) → (∀ f q, ¬ (f = 33 ∧ q = 1000 * i + 10) → A' f q = A f q) → Q (.inl (some (.ref (A' 33 (1000 * i + 10))))) (kHp J' A' (kVg V C i 10) (kGr C i 10) R, c - 1, l - 10)) :
    ka_W (kp E) (d, (178, 0, [some (.ref (A 10 i)), some (iv 1), none, none], []), (kHp J A V C R, c, l)) Q := by
  have hl' := hl
  obtain ⟨l1, l2, l3, l4, l5, l6⟩ := hl'
  have hs : C 10 i 1 = 0 := by omega
  have eE : (Value.ref (A 34 0) = Value.ref E.1) ↔ True := by rw [hE]; simp
  have e0 : ((0 : Nat) : Int) = 0 := rfl
  have e10 : (10 : Int).toNat = 10 := rfl
  simp (disch := first | assumption | (unfold kR; decide) | exact klc_R | (unfold kR; omega) | omega | (unfold kL; omega) | exact kcat_null | exact kcat_ref _ | exact kcat_iv _) only [r178_0, r178_1, r178_4, r178_5, r178_6, r178_7, r178_10, r178_11, r178_14, r178_17, r178_45, r178_46, r178_48, r178_49, r178_52, ho_10_0 hA, hg_10_0 hA, hgn_10_0 hA, true_and, and_true, kk1_i, kk1_r, kk1_n, kk1_0, kcat_iv, kcat_ref, kcat_null, kisR_ref, kisR_null, ksz_nil, ksz_iv, ksz_ref, ksz_null, ksz_lv, kfit_int, kfit_long, kfit_obj, kfit_objN, kfit_arr, kfit_arrN, knarI, knarZ0, knarZ1, kret_v, kret_n, kret_x, Nat.reduceAdd, Nat.reduceLeDiff, reduceCtorEq, Int.reduceLE, Int.reduceLT, Int.reduceEq, ite_true, ite_false, true_or, or_true, false_implies, true_implies, not_true_eq_false, not_false_eq_true, and_self, eq_self, klc_lt, klc_ge, klc_le, klc_gt, klc_eq, kmu_eq, kmu_f, kmu_i, kmu_j, hal_34 hA v.l34, hl_34 hA v.l34, eE, e0, e10, Nat.zero_le, hd, if_false, show ¬ (10:Int) < 1 by decide]
  refine ⟨hc, hll, fun a ha0 => ?_⟩
  have ho := koff_of hA ha0
  obtain ⟨J', A', z1, z2, z3, z4⟩ := krole_g (J := ka_up J a (2999, List.replicate 10 .null)) (R := R) (cap := 10) (a := a) hA hi hv hl hx hq (by omega) (by omega) ho (by
    rw [kup_at, kmap_null]
    congr 2
    apply List.map_congr_left
    intro j hj
    rw [if_neg (by omega)])
  have := H J' A' z1 z2
  rw [z3] at this
  have ok : kok (kHp (ka_up J a (2999, List.replicate 10 .null)) A V C R) (A 10 i) 10 0 := ho_10_0 hA hv
  simp (disch := first | assumption | (unfold kR; decide) | exact klc_R | (unfold kR; omega) | omega | (unfold kL; omega) | exact kcat_null | exact kcat_ref _ | exact kcat_iv _) only [r178_55, r178_56, r178_59, ho_10_0 hA, hp_10_0 hA, true_and, and_true, kk1_i, kk1_r, kk1_n, kk1_0, kcat_iv, kcat_ref, kcat_null, kisR_ref, kisR_null, ksz_nil, ksz_iv, ksz_ref, ksz_null, ksz_lv, kfit_int, kfit_long, kfit_obj, kfit_objN, kfit_arr, kfit_arrN, knarI, knarZ0, knarZ1, kret_v, kret_n, kret_x, Nat.reduceAdd, Nat.reduceLeDiff, reduceCtorEq, Int.reduceLE, Int.reduceLT, Int.reduceEq, ite_true, ite_false, true_or, or_true, false_implies, true_implies, not_true_eq_false, not_false_eq_true, and_self, eq_self, klc_lt, klc_ge, klc_le, klc_gt, klc_eq, kmu_eq, kmu_f, kmu_i, kmu_j, kHp_upo ho, ok, z4, Nat.zero_le, hd]
  exact this
/-- grow, later -/
theorem c178_1 (hA : kJ A V) (v : kLV V) {i cap : Int} (hi : i = 0 ∨ i = 1 ∨ i = 2) (hv : V 10 i) (hl : kLs V C i) (hx : ∀ q, V 33 q → 1000 * i ≤ q → q < 1000 * i + 1000 → q = C 10 i 0) (hq : ∀ q, V 10 q → (q = 0 ∨ q = 1 ∨ q = 2) ∧ 1000 * q ≤ C 10 q 0 ∧ C 10 q 0 < 1000 * q + 1000) (h0 : C 10 i 0 % 1000 ≠ 0) (hs : C 10 i 1 = C 10 i 0 % 1000) (hb : C 10 i 0 % 1000 ≤ 75) (hel : ∀ j, 0 ≤ j → j < C 10 i 1 → 0 ≤ C 33 (C 10 i 0) j ∧ V (kLg i) (C 33 (C 10 i 0) j)) (hcap : cap = C 10 i 1 + (if 1 < C 10 i 1 / 2 then C 10 i 1 / 2 else 1)) (hd : 3 ≤ d) (hc : 1 ≤ c) (hll : 113 ≤ l)
    (H : ∀ J' A', kJ A' (kVg V C i cap) → (∀ f q, ¬ (f = 33 ∧ q = 1000 * i + cap) → A' f q = A f q) → Q (.inl (some (.ref (A' 33 (1000 * i + cap))))) (kHp J' A' (kVg V C i cap) (kGr C i cap) R, c - 1, l - cap.toNat)) :
    ka_W (kp E) (d, (178, 0, [some (.ref (A 10 i)), some (iv (C 10 i 1 + 1)), none, none], []), (kHp J A V C R, c, l)) Q := by
  have hl' := hl
  obtain ⟨l1, l2, l3, l4, l5, l6⟩ := hl'
  have v33 := l5 h0
  have hcb : C 10 i 1 < cap ∧ cap ≤ 113 := by rw [hcap]; split <;> omega
  have g0 : kg (kHp J A V C R) (A 10 i) 0 = .ref (A 33 (C 10 i 0)) := hg_10_0 hA hv h0
  have eln : (((C 10 i 0 % 1000).toNat : Nat) : Int) = C 10 i 1 := by omega
  have hsh : kshr (C 10 i 1) 1 = C 10 i 1 / 2 := by
    rw [kshr_nat (by omega) (by omega) (by omega) (by omega)]
    show ((((C 10 i 1).toNat >>> 1 : Nat)) : Int) = _
    rw [Nat.shiftRight_eq_div_pow]
    omega
  have e1 : C 10 i 1 + 1 - C 10 i 1 = 1 := by omega
  have q189 := fun {Q} => c189 (E := E) (d := d - 1) (s := (kHp J A V C R, c, l)) (Q := Q) (o := C 10 i 1) (n := 1) (p := C 10 i 1 / 2) (by omega) (by omega) (by omega) (by omega) (by omega) (by omega) (by omega) (by omega)
  rw [← hcap] at q189
  have t33 := ht_33 (J := J) (C := C) (R := R) hA v33
  have step : (1 ≤ c ∧ cap.toNat ≤ l ∧ ∀ a, kHp J A V C R a = none → ka_W (kp E) (d - 1 - 1, (193, 10, [some (.ref (A 33 (C 10 i 0))), some (iv cap), some (.ref E.2), none], [.ref a]), (ka_up (kHp J A V C R) a (2999, List.replicate cap.toNat .null), c - 1, l - cap.toNat)) (kret E (d - 1) 192 9 [some (.ref (A 33 (C 10 i 0))), some (iv cap)] [] (kret E d 178 40 [some (.ref (A 10 i)), some (iv (C 10 i 1 + 1)), some (iv (C 10 i 1)), some (iv cap)] [.ref (A 10 i)] Q))) → ka_W (kp E) (d, (178, 0, [some (.ref (A 10 i)), some (iv (C 10 i 1 + 1)), none, none], []), (kHp J A V C R, c, l)) Q := by
    intro z
    simp (disch := first | assumption | (unfold kR; decide) | exact klc_R | (unfold kR; omega) | omega | (unfold kL; omega) | exact kcat_null | exact kcat_ref _ | exact kcat_iv _) only [r178_0, r178_1, r178_4, r178_5, r178_6, r178_7, r178_20, r178_21, r178_22, r178_23, r178_24, r178_25, r178_26, r178_27, r178_30, r178_31, r178_32, r178_33, r178_36, r178_37, ho_10_0 hA, hg_10_0 hA, hgn_10_0 hA, r192_0, r192_1, r192_2, r192_3, r192_6, r193_0, r193_1, r193_3, r193_6, r193_7, true_and, and_true, kk1_i, kk1_r, kk1_n, kk1_0, kcat_iv, kcat_ref, kcat_null, kisR_ref, kisR_null, ksz_nil, ksz_iv, ksz_ref, ksz_null, ksz_lv, kfit_int, kfit_long, kfit_obj, kfit_objN, kfit_arr, kfit_arrN, knarI, knarZ0, knarZ1, kret_v, kret_n, kret_x, Nat.reduceAdd, Nat.reduceLeDiff, reduceCtorEq, Int.reduceLE, Int.reduceLT, Int.reduceEq, ite_true, ite_false, true_or, or_true, false_implies, true_implies, not_true_eq_false, not_false_eq_true, and_self, eq_self, klc_lt, klc_ge, klc_le, klc_gt, klc_eq, kmu_eq, kmu_f, kmu_i, kmu_j, g0, hal_33 hA v33, hl_33 hA v33, eln, hsh, e1, q189, t33, Nat.zero_le, show 0 < C 10 i 1 by omega, show 1 ≤ d by omega, show 1 ≤ d - 1 by omega, show 1 ≤ d - 1 - 1 by omega]
    exact z
  refine step ⟨hc, by omega, fun a ha0 => ?_⟩
  have ho := koff_of hA ha0
  have e35 : (if cap < C 10 i 1 then cap else C 10 i 1) = C 10 i 1 := if_neg (by omega)
  have hA33 : kHp (ka_up J a (2999, List.replicate cap.toNat .null)) A V C R (A 33 (C 10 i 0)) = some (2999, kc A (kmx C R) 33 (C 10 i 0)) := kHp_at (f := 33) hA v33
  have hAa : kHp (ka_up J a (2999, List.replicate cap.toNat .null)) A V C R a = some (2999, List.replicate cap.toNat .null) := by rw [kHp_off ho, kup_at]
  have hlen : (kc A (kmx C R) 33 (C 10 i 0)).length = (C 10 i 1).toNat := by
    rw [kc_len]
    show (C 10 i 0 % 1000).toNat = _
    omega
  have htake : (kc A (kmx C R) 33 (C 10 i 0)).take (C 10 i 1).toNat = kc A (kmx C R) 33 (C 10 i 0) := List.take_of_length_le (by omega)
  have hcc : kc A (kmx C R) 33 (C 10 i 0) = (List.range (C 10 i 1).toNat).map (fun (j : Nat) => kre A (if C 33 (C 10 i 0) j < 0 then none else some (kLg i, C 33 (C 10 i 0) j))) := by
    unfold kc
    have e : kl 33 (C 10 i 0) = (C 10 i 1).toNat := by show (C 10 i 0 % 1000).toNat = _; omega
    rw [e]
    apply List.map_congr_left
    intro j hj
    rw [ke33 hi l1 l2, kmx_c rfl]
  have hobj : ∀ w ∈ kc A (kmx C R) 33 (C 10 i 0), w = .null ∨ ∃ x t ws, w = .ref x ∧ t < 10 ∧ kHp (ka_up J a (2999, List.replicate cap.toNat .null)) A V C R x = some (t, ws) := by
    intro w hw
    rw [hcc] at hw
    obtain ⟨j, hj, rfl⟩ := List.mem_map.mp hw
    rw [List.mem_range] at hj
    obtain ⟨h1, h2⟩ := hel j (by omega) (by omega)
    right
    refine ⟨A (kLg i) (C 33 (C 10 i 0) j), kLg i, kc A (kmx C R) (kLg i) (C 33 (C 10 i 0) j), by rw [if_neg (by omega)]; rfl, ?_, ?_⟩
    · unfold kLg
      rcases hi with rfl | rfl | rfl <;> decide
    · have := kHp_at (J := ka_up J a (2999, List.replicate cap.toNat .null)) (C := C) (R := R) hA h2
      have ht : kt (kLg i) = kLg i := by
        unfold kLg
        rcases hi with rfl | rfl | rfl <;> rfl
      rw [ht] at this
      exact this
  have a34 : ∃ t, ktg (kHp (ka_up J a (2999, List.replicate cap.toNat .null)) A V C R) (A 33 (C 10 i 0)) t ∧ (1000 ≤ t ∧ t < 3000 ∨ t = 4000 ∨ t = 4001) := hal_33 hA v33
  have l34 : kln (kHp (ka_up J a (2999, List.replicate cap.toNat .null)) A V C R) (A 33 (C 10 i 0)) = (C 10 i 0 % 1000).toNat := hl_33 hA v33
  obtain ⟨J', A', z1, z2, z3, z4⟩ := krole_g (J := ka_up J a (2999, kc A (kmx C R) 33 (C 10 i 0) ++ (List.replicate cap.toNat Value.null).drop (C 10 i 1).toNat)) (R := R) (cap := cap) (a := a) hA hi hv hl hx hq (by omega) (by omega) ho (by
    rw [kup_at, hcc]
    congr 2
    apply List.ext_getElem
    · simp; omega
    · intro n h1 h2
      simp only [List.length_map, List.length_range] at h2
      rw [List.getElem_map, List.getElem_range]
      by_cases e : n < (C 10 i 1).toNat
      · rw [List.getElem_append_left (by simp; omega), List.getElem_map, List.getElem_range, if_pos (show (n : Int) < C 10 i 1 by omega)]
      · rw [List.getElem_append_right (by simp; omega), if_neg (show ¬ (n : Int) < C 10 i 1 by omega)]
        simp)
  have := H J' A' z1 z2
  rw [z3] at this
  have upup : ∀ e e' : ka_E, ka_up (ka_up J a e) a e' = ka_up J a e' := by
    intro e e'
    funext q
    unfold ka_up
    split <;> rfl
  have ok : kok (kHp (ka_up J a (2999, kc A (kmx C R) 33 (C 10 i 0) ++ (List.replicate cap.toNat Value.null).drop (C 10 i 1).toNat)) A V C R) (A 10 i) 10 0 := ho_10_0 hA hv
  simp (disch := first | assumption | (unfold kR; decide) | exact klc_R | (unfold kR; omega) | omega | (unfold kL; omega) | exact kcat_null | exact kcat_ref _ | exact kcat_iv _) only [r193_10, r193_13, r193_17, r193_24, r193_25, r193_26, r193_27, r193_28, r193_29, r193_30, r193_31, r193_32, true_and, and_true, kk1_i, kk1_r, kk1_n, kk1_0, kcat_iv, kcat_ref, kcat_null, kisR_ref, kisR_null, ksz_nil, ksz_iv, ksz_ref, ksz_null, ksz_lv, kfit_int, kfit_long, kfit_obj, kfit_objN, kfit_arr, kfit_arrN, knarI, knarZ0, knarZ1, kret_v, kret_n, kret_x, Nat.reduceAdd, Nat.reduceLeDiff, reduceCtorEq, Int.reduceLE, Int.reduceLT, Int.reduceEq, ite_true, ite_false, true_or, or_true, false_implies, true_implies, not_true_eq_false, not_false_eq_true, and_self, eq_self, klc_lt, klc_ge, klc_le, klc_gt, klc_eq, kmu_eq, kmu_f, kmu_i, kmu_j, kHp_upo ho, a34, l34, eln, e35, Nat.zero_le, show 1 ≤ d - 1 - 1 by omega]
  rw [r193_35 (by omega) (by omega)]
  refine ⟨by simp [ka_sz], by omega, _, _, hA33, hAa, by simp; omega, by omega, by simp; omega, by rw [htake]; exact hobj, ?_⟩
  rw [htake, kHp_upo ho, upup]
  simp (disch := first | assumption | (unfold kR; decide) | exact klc_R | (unfold kR; omega) | omega | (unfold kL; omega) | exact kcat_null | exact kcat_ref _ | exact kcat_iv _) only [r193_38, r193_39, r192_9, r178_40, r178_41, r178_44, ho_10_0 hA, hp_10_0 hA, true_and, and_true, kk1_i, kk1_r, kk1_n, kk1_0, kcat_iv, kcat_ref, kcat_null, kisR_ref, kisR_null, ksz_nil, ksz_iv, ksz_ref, ksz_null, ksz_lv, kfit_int, kfit_long, kfit_obj, kfit_objN, kfit_arr, kfit_arrN, knarI, knarZ0, knarZ1, kret_v, kret_n, kret_x, Nat.reduceAdd, Nat.reduceLeDiff, reduceCtorEq, Int.reduceLE, Int.reduceLT, Int.reduceEq, ite_true, ite_false, true_or, or_true, false_implies, true_implies, not_true_eq_false, not_false_eq_true, and_self, eq_self, klc_lt, klc_ge, klc_le, klc_gt, klc_eq, kmu_eq, kmu_f, kmu_i, kmu_j, ok, z4, Nat.zero_le]
  exact this
end
