/-! The book: what a text added is taken back. -/
/-- the roles that no call takes away -/
def kEx0 (V V' : ka_V) (A A' : ka_A) : Prop := ∀ f q, f ≠ 33 → f ≠ 3 → f ≠ 6 → f ≠ 20 → f ≠ 21 → f ≠ 22 → V f q → V' f q ∧ A' f q = A f q
theorem kEx0_rfl {V : ka_V} {A : ka_A} : kEx0 V V A A := fun _ _ _ _ _ _ _ _ h => ⟨h, rfl⟩
theorem kEx0.trans {V V' V'' : ka_V} {A A' A'' : ka_A} (h : kEx0 V V' A A') (h' : kEx0 V' V'' A' A'') : kEx0 V V'' A A'' := fun f q a1 a2 a3 a4 a5 a6 b => by
  obtain ⟨x1, x2⟩ := h f q a1 a2 a3 a4 a5 a6 b
  obtain ⟨y1, y2⟩ := h' f q a1 a2 a3 a4 a5 a6 x1
  exact ⟨y1, y2.trans x2⟩
theorem kExt.e0 {V V' : ka_V} {A A' : ka_A} (h : kExt V V' A A') : kEx0 V V' A A' := fun f q a _ _ _ _ _ b => h f q a b
theorem ksta_x {f : Nat} (h : ksta f = true) : f ≠ 33 ∧ f ≠ 3 ∧ f ≠ 6 ∧ f ≠ 20 ∧ f ≠ 21 ∧ f ≠ 22 := by
  refine ⟨?_, ?_, ?_, ?_, ?_, ?_⟩ <;> (rintro rfl; cases h)
theorem kra_x {f : Nat} (h : kra f = true) : f ≠ 33 ∧ f ≠ 3 ∧ f ≠ 6 ∧ f ≠ 20 ∧ f ≠ 21 ∧ f ≠ 22 := by
  refine ⟨?_, ?_, ?_, ?_, ?_, ?_⟩ <;> (rintro rfl; cases h)
theorem kEx0.lv {V V' : ka_V} {A A' : ka_A} (h : kEx0 V V' A A') (v : kLV V) : kLV V' := ⟨fun f hf => by
  obtain ⟨a1, a2, a3, a4, a5, a6⟩ := ksta_x hf
  exact (h f 0 a1 a2 a3 a4 a5 a6 (v.1 f hf)).1, (h 10 0 (by decide) (by decide) (by decide) (by decide) (by decide) (by decide) v.2.1).1, (h 10 1 (by decide) (by decide) (by decide) (by decide) (by decide) (by decide) v.2.2.1).1, (h 10 2 (by decide) (by decide) (by decide) (by decide) (by decide) (by decide) v.2.2.2).1⟩
theorem kEx0.rw {V V' : ka_V} {A A' : ka_A} {X : ka_M} (h : kEx0 V V' A A') (r : kRW V X) : kRW V' X := ⟨fun f hf => by
  obtain ⟨a1, a2, a3, a4, a5, a6⟩ := kra_x hf
  exact (h f 0 a1 a2 a3 a4 a5 a6 (r.1 f hf)).1, r.2⟩
/-- without kit k -/
def kVb (V : ka_V) (k : Int) : ka_V := fun f q => V f q ∧ ¬ (f = 3 ∧ q = k) ∧ ¬ ((f = 6 ∨ f = 20 ∨ f = 21 ∨ f = 22) ∧ 4 * k ≤ q ∧ q < 4 * k + 4)
def kCb (C : ka_M) (k g : Int) : ka_M := kmu (kmu (kmu (kmu (kmu C 32 0 g (-1)) 25 0 g 0) 10 0 2 (C 10 0 2 + 1)) 10 0 1 k) 33 (C 10 0 0) k (-1)
section
variable {E : Nat × Nat} {d c l : Nat} {s : ka_S} {h : ka_H} {Q : ka_Q} {J : ka_H} {A A' : ka_A} {V V' : ka_V} {C C' R X X' : ka_M}
/-- remove, at the end of the list of kits -/
theorem c185 (hA : kJ A V) (v : kLV V) (hl : kLs V C 0) {x y : Int} (hd : 2 ≤ d) (x0 : 0 ≤ x) (hx : C 10 0 1 = x + 1) (he : C 33 (C 10 0 0) x = y) (y0 : 0 ≤ y) :
    ka_W (kp E) (d, (185, 0, [some (.ref (A 10 0)), some (iv x), none, none], []), (kHp J A V C R, c, l)) Q ↔ Q (.inl (some (.ref (A 3 y)))) (kHp J A V (kmu (kmu (kmu C 10 0 2 (C 10 0 2 + 1)) 10 0 1 x) 33 (C 10 0 0) x (-1)) R, c, l) := by
  obtain ⟨l1, l2, l3, l4, l5, -⟩ := hl
  subst he
  have h10 := v.2.1
  have v33 := l5 (by omega)
  have g := hga_33_0 (J := J) (R := R) hA v33 (y := x) (by omega) (by omega) x0 (by omega) y0
  have ex : ∀ {C' : ka_M} {P : Prop}, (∃ t, 2000 ≤ t ∧ t < 3000 ∧ kok (kHp J A V C' R) (A 33 (C 10 0 0)) t x.toNat ∧ P) ↔ P := by
    intro C' P
    have t2 := hoa_33 (J := J) (C := C') (R := R) hA v33 x0 (by omega)
    constructor
    · rintro ⟨t, -, -, -, z⟩; exact z
    · intro z; exact ⟨2999, by decide, by decide, t2, z⟩
  have e1 : x + 1 - 1 = x := by omega
  have q : ∀ {Q}, ka_W (kp E) (d - 1, (186, 0, [some (.ref (A 10 0)), some (.ref (A 33 (C 10 0 0))), some (iv x), none], []), (kHp J A V C R, c, l)) Q ↔ Q (.inl none) (kHp J A V (kmu (kmu (kmu C 10 0 2 (C 10 0 2 + 1)) 10 0 1 x) 33 (C 10 0 0) x (-1)) R, c, l) := by
    intro Q
    simp (disch := first | assumption | (unfold kR; decide) | exact klc_R | (unfold kR; omega) | omega | (unfold kL; omega) | exact kcat_null | exact kcat_ref _ | exact kcat_iv _) only [r186_0, r186_0n, r186_1, r186_2, r186_5, r186_6, r186_7, r186_10, r186_10n, r186_11, r186_14, r186_15, r186_16, r186_17, r186_18, r186_19, r186_34, r186_34n, r186_35, r186_35n, r186_36, r186_37, r186_38, r186_41, r186_42n, r186_42, r186_43, ho_10_2 hA, hg_10_2 hA, hp_10_2 hA, ho_10_1 hA, hg_10_1 hA, hp_10_1 hA, true_and, and_true, kk1_i, kk1_r, kk1_n, kk1_0, kcat_iv, kcat_ref, kcat_null, kisR_ref, kisR_null, ksz_nil, ksz_iv, ksz_ref, ksz_null, ksz_lv, kfit_int, kfit_long, kfit_obj, kfit_objN, kfit_arr, kfit_arrN, knarI, knarZ0, knarZ1, kret_v, kret_n, kret_x, Nat.reduceAdd, Nat.reduceLeDiff, reduceCtorEq, Int.reduceLE, Int.reduceLT, Int.reduceEq, ite_true, ite_false, true_or, or_true, false_implies, true_implies, not_true_eq_false, not_false_eq_true, and_self, eq_self, klc_lt, klc_ge, klc_le, klc_gt, klc_eq, kmu_eq, kmu_f, kmu_i, kmu_j, hx, e1, ex, hpan_33 hA v33, Int.le_refl]
  have hne : C 10 0 0 % 1000 ≠ 0 := by omega
  have hx' : x < C 10 0 1 := by omega
  have hr : C 10 0 1 ≤ 2147483647 := by omega
  simp (disch := first | assumption | (unfold kR; decide) | exact klc_R | (unfold kR; omega) | omega | (unfold kL; omega) | exact kcat_null | exact kcat_ref _ | exact kcat_iv _) only [r185_0, r185_1, r185_2, r185_5, r185_8, r185_9, r185_10, r185_13, r185_14, r185_15, r185_16, r185_17, r185_18, r185_19, r185_20, r185_21, r185_24, r185_25, ho_10_1 hA, hg_10_1 hA, ho_10_0 hA, hg_10_0 hA, hgn_10_0 hA, ht_10 hA, true_and, and_true, kk1_i, kk1_r, kk1_n, kk1_0, kcat_iv, kcat_ref, kcat_null, kisR_ref, kisR_null, ksz_nil, ksz_iv, ksz_ref, ksz_null, ksz_lv, kfit_int, kfit_long, kfit_obj, kfit_objN, kfit_arr, kfit_arrN, knarI, knarZ0, knarZ1, kret_v, kret_n, kret_x, Nat.reduceAdd, Nat.reduceLeDiff, reduceCtorEq, Int.reduceLE, Int.reduceLT, Int.reduceEq, ite_true, ite_false, true_or, or_true, false_implies, true_implies, not_true_eq_false, not_false_eq_true, and_self, eq_self, klc_lt, klc_ge, klc_le, klc_gt, klc_eq, kmu_eq, kmu_f, kmu_i, kmu_j, c188, q, hea_33 hA v33, g, Nat.zero_le, show 1 ≤ d by omega]
theorem krb_lead (B : kBk X) {a b : Int} (a0 : 0 ≤ a) (a1 : a < 20) (hk : 0 < X 9 0 7) :
    klead (kmu (kmu X 9 0 7 (X 9 0 7 - 1)) 56 0 (X 58 0 (X 9 0 7 - 1)) (-1)) a b ↔ (klead X a b ∧ a ≠ X 58 0 (X 9 0 7 - 1)) := by
  unfold klead kPr kP
  rw [kmu_ff (show (59:Nat) ≠ 56 by decide), kmu_ff (show (61:Nat) ≠ 56 by decide), kmu_ff (show (62:Nat) ≠ 56 by decide), kmu_ff (show (64:Nat) ≠ 56 by decide), kmu_ff (show (59:Nat) ≠ 9 by decide), kmu_ff (show (61:Nat) ≠ 9 by decide), kmu_ff (show (62:Nat) ≠ 9 by decide), kmu_ff (show (64:Nat) ≠ 9 by decide)]
  by_cases e : a = X 58 0 (X 9 0 7 - 1)
  · rw [e, kmu_eq]
    simp
  · rw [kmu_j e, kmu_f (show (56:Nat) ≠ 9 by decide)]
    simp [e]
/-- one kit goes -/
theorem kBI_bk (rw : kRW V X) (I : kBI V C X) {k : Int} (hk : X 9 0 7 = k + 1) (k0 : 0 ≤ k) (hM : ∀ m, 1 ≤ m → m ≤ X 9 0 15 → X 66 0 m < k) :
    kBI (kVb V k) (kCb C k (X 58 0 k)) (kmu (kmu X 9 0 7 (X 9 0 7 - 1)) 56 0 (X 58 0 (X 9 0 7 - 1)) (-1)) := by
  obtain ⟨⟨i0, i32, i10, i3, i4, i8, i23, i20, i6, i33⟩, ⟨K1, K2, K3, K4, K5, K6, K7⟩, F, B, ⟨p0, p1, p2, p3⟩, M⟩ := I
  obtain ⟨rw', B'⟩ := kBk_back rw B (by omega)
  have B7 := rw.i7
  have ld := fun a b a0 a1 => krb_lead B (a := a) (b := b) a0 a1 (show 0 < X 9 0 7 by omega)
  have ek : X 9 0 7 - 1 = k := by omega
  rw [ek] at rw' B' ld ⊢
  have B58 := rw.a58 (j := k) (by omega) (by omega)
  obtain ⟨x1, x2, x3, x4, x5, x6⟩ := K3 k k0 (by omega)
  generalize hg : X 58 0 k = g at *
  have y7 : kmu (kmu X 9 0 7 k) 56 0 g (-1) 9 0 7 = k := by rw [kmu_f (by decide), kmu_eq]
  have y9 : ∀ j, j ≠ 7 → kmu (kmu X 9 0 7 k) 56 0 g (-1) 9 0 j = X 9 0 j := fun j hj => by rw [kmu_f (by decide), kmu_j hj]
  have yf : ∀ f, f ≠ 9 → f ≠ 56 → kmu (kmu X 9 0 7 k) 56 0 g (-1) f = X f := fun f a b => by rw [kmu_ff b, kmu_ff a]
  have y56 : ∀ j, kmu (kmu X 9 0 7 k) 56 0 g (-1) 56 0 j = if j = g then -1 else X 56 0 j := fun j => by
    by_cases e : j = g
    · rw [e, kmu_eq, if_pos rfl]
    · rw [kmu_j e, kmu_f (by decide), if_neg e]
  generalize kmu (kmu X 9 0 7 k) 56 0 g (-1) = Y at *
  have cf : ∀ f, f ≠ 32 → f ≠ 25 → f ≠ 10 → f ≠ 33 → kCb C k g f = C f := fun f a b c' d' => by
    unfold kCb
    rw [kmu_ff d', kmu_ff c', kmu_ff c', kmu_ff b, kmu_ff a]
  have c32 : ∀ j, kCb C k g 32 0 j = if j = g then -1 else C 32 0 j := fun j => by
    unfold kCb
    rw [kmu_f (by decide), kmu_f (by decide), kmu_f (by decide), kmu_f (by decide)]
    by_cases e : j = g
    · rw [e, kmu_eq, if_pos rfl]
    · rw [kmu_j e, if_neg e]
  have c25 : ∀ j, kCb C k g 25 0 j = if j = g then 0 else C 25 0 j := fun j => by
    unfold kCb
    rw [kmu_f (by decide), kmu_f (by decide), kmu_f (by decide)]
    by_cases e : j = g
    · rw [e, kmu_eq, if_pos rfl]
    · rw [kmu_j e, kmu_f (by decide), if_neg e]
  have c101 : kCb C k g 10 0 1 = k := by
    unfold kCb
    rw [kmu_f (by decide), kmu_eq]
  have c100 : kCb C k g 10 0 0 = C 10 0 0 := by
    unfold kCb
    rw [kmu_f (by decide), kmu_j (by decide), kmu_j (by decide), kmu_f (by decide), kmu_f (by decide)]
  have c10 : ∀ q, q ≠ 0 → kCb C k g 10 q = C 10 q := fun q hq => by
    funext j
    unfold kCb
    rw [kmu_f (by decide), kmu_i hq, kmu_i hq, kmu_f (by decide), kmu_f (by decide)]
  have c33 : ∀ q, q ≠ C 10 0 0 → kCb C k g 33 q = C 33 q := fun q hq => by
    funext j
    unfold kCb
    rw [kmu_i hq, kmu_f (by decide), kmu_f (by decide), kmu_f (by decide), kmu_f (by decide)]
  have c33' : ∀ j, kCb C k g 33 (C 10 0 0) j = if j = k then -1 else C 33 (C 10 0 0) j := fun j => by
    unfold kCb
    by_cases e : j = k
    · rw [e, kmu_eq, if_pos rfl]
    · rw [kmu_j e, kmu_f (by decide), kmu_f (by decide), kmu_f (by decide), kmu_f (by decide), if_neg e]
  generalize kCb C k g = C1 at *
  have c3 := cf 3 (by decide) (by decide) (by decide) (by decide)
  have c6 := cf 6 (by decide) (by decide) (by decide) (by decide)
  have vb : ∀ f q, kVb V k f q → V f q := fun f q z => z.1
  obtain ⟨l1, l2, l3, l4, l5, l6⟩ := K1
  refine ⟨⟨fun i z => i0 i z.1, fun i z => i32 i z.1, fun i z => i10 i z.1, fun i z => ?_, fun i z => ?_, fun i z => ?_, fun f i hf z => ?_, fun f i hf z => ?_, fun i z => ?_, fun i z => ?_⟩, ⟨?_, ?_, fun k' b0 b1 => ?_, fun k' q b0 b1 q0 q1 => ?_, fun k' q p b0 b1 q0 q1 r0 r1 => ?_, fun q b0 b1 => ?_, fun a b0 b1 => ?_⟩, ?_, B', ?_, fun m b0 b1 => ?_⟩
  · have := i3 i z.1
    have : i ≠ k := fun w => z.2.1 ⟨rfl, w⟩
    rw [c101]
    omega
  · rw [c10 1 (by decide)]; exact i4 i z.1
  · rw [c10 2 (by decide)]; exact i8 i z.1
  · exact ⟨i23 f i hf z.1, fun w => by omega, fun w => by omega⟩
  · exact ⟨i20 f i hf z.1, fun w => by omega, fun w => z.2.2 ⟨by omega, w.2⟩⟩
  · rw [c101, c3, c10 1 (by decide)]
    rcases i6 i z.1 with ⟨k', q, b0, b1, b2, b3, b4⟩ | w
    · left
      refine ⟨k', q, b0, ?_, b2, b3, b4⟩
      by_cases e : k' = k
      · exfalso
        subst e
        have hq := rw.a59 (j := k') (by omega) (by omega)
        exact z.2.2 ⟨by omega, by omega, by omega⟩
      · omega
    · exact Or.inr w
  · rw [c100, c10 1 (by decide), c10 2 (by decide)]
    exact i33 i z.1
  · refine ⟨by rw [c100]; exact l1, by rw [c100]; exact l2, by rw [c101]; exact k0, by rw [c101, c100]; omega, fun w => ?_, fun j a b => ?_⟩
    · rw [c100] at w ⊢
      exact ⟨l5 w, fun w => by omega, fun w => by omega⟩
    · rw [c101] at a
      rw [c100] at b ⊢
      rw [c33']
      by_cases e : j = k
      · rw [if_pos e]
      · rw [if_neg e]; exact l6 j (by omega) b
  · rw [c101, y7]
  · rw [y7] at b1
    obtain ⟨z1, z2, z3, z4, z5, z6⟩ := K3 k' b0 (by omega)
    rw [c3, c100, c33', if_neg (by omega), yf 58 (by decide) (by decide), yf 59 (by decide) (by decide)]
    exact ⟨⟨z1, fun w => by omega, fun w => by omega⟩, z2, z3, z4, z5, z6⟩
  · rw [y7] at b1
    rw [yf 59 (by decide) (by decide)] at q1
    have B59 := rw.a59 (j := k') b0 (by omega)
    obtain ⟨⟨z1, z2, z3, z4⟩, z5, z6, z7⟩ := K4 k' q b0 (by omega) q0 q1
    rw [c6, yf 60 (by decide) (by decide), yf 61 (by decide) (by decide)]
    exact ⟨⟨⟨z1, fun w => by omega, fun w => by omega⟩, ⟨z2, fun w => by omega, fun w => by omega⟩, ⟨z3, fun w => by omega, fun w => by omega⟩, ⟨z4, fun w => by omega, fun w => by omega⟩⟩, z5, z6, z7⟩
  · rw [y7] at b1
    rw [yf 59 (by decide) (by decide)] at q1
    rw [yf 61 (by decide) (by decide)] at r1
    rw [cf 20 (by decide) (by decide) (by decide) (by decide), cf 21 (by decide) (by decide) (by decide) (by decide), cf 22 (by decide) (by decide) (by decide) (by decide), yf 62 (by decide) (by decide), yf 63 (by decide) (by decide), yf 64 (by decide) (by decide)]
    exact K5 k' q p b0 (by omega) q0 q1 r0 r1
  · rw [c32, y56]
    split
    · rfl
    · exact K6 q b0 b1
  · obtain ⟨z1, z2, z3⟩ := K7 a b0 b1
    rw [c25]
    by_cases e : a = g
    · rw [if_pos e]
      refine ⟨by decide, by decide, fun h h0 h1 => ?_⟩
      rw [ld a h b0 b1]
      unfold kbit
      constructor
      · intro w
        exact absurd w ((kbit_z (x := 0) (by decide) (by decide)).mp rfl h h0 h1)
      · intro w; exact absurd e w.2
    · rw [if_neg e]
      refine ⟨z1, z2, fun h h0 h1 => ?_⟩
      rw [ld a h b0 b1, z3 h h0 h1]
      simp [e]
  · refine kRF_fr F (fun f q hf z => ⟨z, fun w => by omega, fun w => by omega⟩) (fun q hq z => ⟨z, fun w => by omega, fun w => by omega⟩) (fun f hf => cf f (by omega) (by omega) (by omega) (by omega)) (fun f q hf hq => by rw [cf f (by omega) (by omega) (by omega) (by omega)]) (fun q hq => c10 q (by omega)) (fun q hq => c33 q (by omega)) (y9 15 (by decide)) (y9 26 (by decide)) (fun f hf => yf f (by omega) (by omega)) (fun m _ _ => by rw [yf 58 (by decide) (by decide)])
  · refine ⟨by rw [c100]; exact p0, by rw [c10 1 (by decide)]; exact p1, by rw [c10 2 (by decide)]; exact p2, ?_⟩
    rw [cf 0 (by decide) (by decide) (by decide) (by decide), c10 1 (by decide)]
    exact p3
  · rw [y9 15 (by decide)] at b1
    rw [yf 66 (by decide) (by decide), y7]
    exact ⟨(M m b0 b1).1, hM m b0 b1⟩
/-- takeBack -/
theorem c59_l (hd : 3 ≤ d) {had : Int} (h0 : 0 ≤ had) :
    ∀ (n : Nat) (J : ka_H) (V : ka_V) (C X : ka_M) (l3 : Option Value), kJ A V → kLV V → kRW V X → kBI V C X → X 9 0 7 = had + n → (∀ m, 1 ≤ m → m ≤ X 9 0 15 → X 66 0 m < had) →
    (∀ J' V' C', kJ A V' → kEx0 V V' A A → kRW V' (krb' n X) → kBI V' C' (krb' n X) → (∀ f, f ≠ 32 → f ≠ 25 → f ≠ 10 → f ≠ 33 → C' f = C f) → Q (.inl none) (kHp J' A V' C' R, c, l)) →
    ka_W (kp E) (d, (59, 10, [some (.ref (A 1 0)), some (iv had), some (iv (had + n - 1)), l3], []), (kHp J A V C R, c, l)) Q
  | 0, J, V, C, X, l3, hA, v, rw, I, hn, hM, H => by
    have B7 := rw.i7
    have := H J V C hA kEx0_rfl rw I (fun _ _ _ _ _ => rfl)
    have e : had + ((0:Nat):Int) - 1 = had - 1 := by omega
    rw [e]
    by_cases z : had - 1 < 0
    · simp (disch := first | assumption | (unfold kR; decide) | exact klc_R | (unfold kR; omega) | omega | (unfold kL; omega) | exact kcat_null | exact kcat_ref _ | exact kcat_iv _) only [r59_10, r59_11, r59_63, true_and, and_true, kk1_i, kk1_r, kk1_n, kk1_0, kcat_iv, kcat_ref, kcat_null, kisR_ref, kisR_null, ksz_nil, ksz_iv, ksz_ref, ksz_null, ksz_lv, kfit_int, kfit_long, kfit_obj, kfit_objN, kfit_arr, kfit_arrN, knarI, knarZ0, knarZ1, kret_v, kret_n, kret_x, Nat.reduceAdd, Nat.reduceLeDiff, reduceCtorEq, Int.reduceLE, Int.reduceLT, Int.reduceEq, ite_true, ite_false, true_or, or_true, false_implies, true_implies, not_true_eq_false, not_false_eq_true, and_self, eq_self, klc_lt, klc_ge, klc_le, klc_gt, klc_eq, kmu_eq, kmu_f, kmu_i, kmu_j, z]
      exact this
    · simp (disch := first | assumption | (unfold kR; decide) | exact klc_R | (unfold kR; omega) | omega | (unfold kL; omega) | exact kcat_null | exact kcat_ref _ | exact kcat_iv _) only [r59_10, r59_11, r59_14, r59_15, r59_16, r59_63, true_and, and_true, kk1_i, kk1_r, kk1_n, kk1_0, kcat_iv, kcat_ref, kcat_null, kisR_ref, kisR_null, ksz_nil, ksz_iv, ksz_ref, ksz_null, ksz_lv, kfit_int, kfit_long, kfit_obj, kfit_objN, kfit_arr, kfit_arrN, knarI, knarZ0, knarZ1, kret_v, kret_n, kret_x, Nat.reduceAdd, Nat.reduceLeDiff, reduceCtorEq, Int.reduceLE, Int.reduceLT, Int.reduceEq, ite_true, ite_false, true_or, or_true, false_implies, true_implies, not_true_eq_false, not_false_eq_true, and_self, eq_self, klc_lt, klc_ge, klc_le, klc_gt, klc_eq, kmu_eq, kmu_f, kmu_i, kmu_j, z, show had - 1 < had by omega]
      exact this
  | n + 1, J, V, C, X, l3, hA, v, rw, I, hn, hM, H => by
    have B7 := rw.i7
    have e : had + ((n + 1 : Nat) : Int) - 1 = had + n := by omega
    rw [e]
    have hI := I
    obtain ⟨VI, ⟨K1, K2, K3, K4, K5, K6, K7⟩, F, B, P, M⟩ := hI
    obtain ⟨x1, x2, x3, x4, x5, x6⟩ := K3 (had + n) (by omega) (by omega)
    have B58 := rw.a58 (j := had + n) (by omega) (by omega)
    have q182 := fun {Q} => c182_0 (E := E) (d := d - 1) (c := c) (l := l) (Q := Q) (J := J) (R := R) hA v K1 (x := had + n) (y := had + n) (by omega) (by omega) (by omega) x2 (by omega)
    have e10 : ∀ y z, kmu (kmu C 32 0 (X 58 0 (had + n)) y) 25 0 (X 58 0 (had + n)) z 10 = C 10 := fun y z => by rw [kmu_ff (by decide), kmu_ff (by decide)]
    have e33 : ∀ y z, kmu (kmu C 32 0 (X 58 0 (had + n)) y) 25 0 (X 58 0 (had + n)) z 33 = C 33 := fun y z => by rw [kmu_ff (by decide), kmu_ff (by decide)]
    have q185 := fun {Q} => c185 (E := E) (d := d - 1) (c := c) (l := l) (Q := Q) (J := J) (R := R) (C := kmu (kmu C 32 0 (X 58 0 (had + n)) (-1)) 25 0 (X 58 0 (had + n)) 0) hA v (K1.c (e10 _ _) (e33 _ _)) (x := had + n) (y := had + n) (by omega) (by omega) (by rw [e10]; omega) (by rw [e10, e33]; exact x2) (by omega)
    rw [e10] at q185
    have I1 := kBI_bk rw I (k := had + n) (by omega) (by omega) (fun m a b => by have := hM m a b; omega)
    have hs : ∀ f q, kVb V (had + n) f q → V f q := fun f q z => z.1
    have hA1 : kJ A (kVb V (had + n)) := fun f i f' i' h1 h2 e => hA f i f' i' (hs _ _ h1) (hs _ _ h2) e
    have ex : kEx0 V (kVb V (had + n)) A A := fun f q a1 a2 a3 a4 a5 a6 z => ⟨⟨z, fun w => a2 w.1, fun w => by omega⟩, rfl⟩
    have B1 := (kBk_back rw B (by omega)).1
    have ih := c59_l hd h0 n (kHp J A V (kCb C (had + n) (X 58 0 (had + n))) R) (kVb V (had + n)) (kCb C (had + n) (X 58 0 (had + n))) (kmu (kmu X 9 0 7 (X 9 0 7 - 1)) 56 0 (X 58 0 (X 9 0 7 - 1)) (-1)) (some (iv (X 58 0 (had + n)))) hA1 (ex.lv v) (ex.rw B1) I1 (by rw [kmu_f (by decide), kmu_eq]; omega) (fun m a b => by
      rw [kmu_f (by decide), kmu_j (by decide)] at b
      rw [kmu_f (by decide), kmu_f (by decide)]
      exact hM m a b) (fun J' V' C' a1 a2 a3 a4 a5 => H J' V' C' a1 (ex.trans a2) a3 a4 (fun f b1 b2 b3 b4 => (a5 f b1 b2 b3 b4).trans (by unfold kCb; rw [kmu_ff b4, kmu_ff b3, kmu_ff b3, kmu_ff b2, kmu_ff b1])))
    rw [← kHp_less hA hs] at ih
    have ex32 : ∀ {C' : ka_M} {P : Prop}, (∃ t, 2000 ≤ t ∧ t < 3000 ∧ kok (kHp J A V C' R) (A 32 0) t (X 58 0 (had + n)).toNat ∧ P) ↔ P := by
      intro C' P
      have t2 := hoa_32 (J := J) (C := C') (R := R) hA v.l32 B58.1 (by omega)
      constructor
      · rintro ⟨t, -, -, -, z⟩; exact z
      · intro z; exact ⟨2003, by decide, by decide, t2, z⟩
    have v100 := v.2.1
    have v3 := x1
    rw [r59_10]
    simp (disch := first | assumption | (unfold kR; decide) | exact klc_R | (unfold kR; omega) | omega | (unfold kL; omega) | exact kcat_null | exact kcat_ref _ | exact kcat_iv _) only [r59_11, r59_14, r59_15, r59_16, r59_19, r59_19n, r59_20, r59_23, r59_24, r59_27n, r59_27, r59_30, r59_33, r59_34, r59_34n, r59_35, r59_38, r59_39, r59_40n, r59_40, r59_41, r59_41n, r59_42, r59_45, r59_46, r59_47, r59_48, r59_48n, r59_49, r59_52, r59_53, r59_56, r59_57, r59_60, ho_1_0 hA v.l1, hg_1_0 hA v.l1, ht_10 hA, ht_3 hA, ho_3_1 hA, hg_3_1 hA, ho_1_1 hA v.l1, hg_1_1 hA v.l1, hoa_32 hA v.l32, hga_32 hA v.l32, hgan_32 hA v.l32, hpa_32 hA v.l32, hpan_32 hA v.l32, ho_1_2 hA v.l1, hg_1_2 hA v.l1, hoa_25 hA v.l25, hga_25 hA v.l25, hpa_25 hA v.l25, true_and, and_true, kk1_i, kk1_r, kk1_n, kk1_0, kcat_iv, kcat_ref, kcat_null, kisR_ref, kisR_null, ksz_nil, ksz_iv, ksz_ref, ksz_null, ksz_lv, kfit_int, kfit_long, kfit_obj, kfit_objN, kfit_arr, kfit_arrN, knarI, knarZ0, knarZ1, kret_v, kret_n, kret_x, Nat.reduceAdd, Nat.reduceLeDiff, reduceCtorEq, Int.reduceLE, Int.reduceLT, Int.reduceEq, ite_true, ite_false, true_or, or_true, false_implies, true_implies, not_true_eq_false, not_false_eq_true, and_self, eq_self, klc_lt, klc_ge, klc_le, klc_gt, klc_eq, kmu_eq, kmu_f, kmu_i, kmu_j, q182, q185, x4, ex32, hpan_32 hA v.l32, show ¬ (had + n < 0) by omega, show ¬ (had + n < had) by omega, Nat.zero_le, show 1 ≤ d by omega]
    exact ih
theorem c59 (hA : kJ A V) (v : kLV V) (rw : kRW V X) (I : kBI V C X) (hd : 3 ≤ d) {had : Int} (h0 : 0 ≤ had) {n : Nat} (hn : X 9 0 7 = had + n) (hM : ∀ m, 1 ≤ m → m ≤ X 9 0 15 → X 66 0 m < had)
    (H : ∀ J' V' C', kJ A V' → kEx0 V V' A A → kRW V' (krb' n X) → kBI V' C' (krb' n X) → (∀ f, f ≠ 32 → f ≠ 25 → f ≠ 10 → f ≠ 33 → C' f = C f) → Q (.inl none) (kHp J' A V' C' R, c, l)) :
    ka_W (kp E) (d, (59, 0, [some (.ref (A 1 0)), some (iv had), none, none], []), (kHp J A V C R, c, l)) Q := by
  have z := c59_l (E := E) (d := d) (c := c) (l := l) (Q := Q) (R := R) (A := A) hd h0 n J V C X none hA v rw I hn hM H
  have v100 := v.2.1
  have K2 := I.2.1.2.1
  have B7 := rw.i7
  rw [← hn] at z
  simp (disch := first | assumption | (unfold kR; decide) | exact klc_R | (unfold kR; omega) | omega | (unfold kL; omega) | exact kcat_null | exact kcat_ref _ | exact kcat_iv _) only [r59_0, r59_1, r59_4, r59_7, r59_8, r59_9, ho_1_0 hA v.l1, hg_1_0 hA v.l1, ht_10 hA, true_and, and_true, kk1_i, kk1_r, kk1_n, kk1_0, kcat_iv, kcat_ref, kcat_null, kisR_ref, kisR_null, ksz_nil, ksz_iv, ksz_ref, ksz_null, ksz_lv, kfit_int, kfit_long, kfit_obj, kfit_objN, kfit_arr, kfit_arrN, knarI, knarZ0, knarZ1, kret_v, kret_n, kret_x, Nat.reduceAdd, Nat.reduceLeDiff, reduceCtorEq, Int.reduceLE, Int.reduceLT, Int.reduceEq, ite_true, ite_false, true_or, or_true, false_implies, true_implies, not_true_eq_false, not_false_eq_true, and_self, eq_self, klc_lt, klc_ge, klc_le, klc_gt, klc_eq, kmu_eq, kmu_f, kmu_i, kmu_j, c180 hA v100, K2, Nat.zero_le, show 1 ≤ d by omega]
  exact z
end
