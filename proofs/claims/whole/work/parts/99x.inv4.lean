/-! What stays true of the reference: the book. -/
def kBY (X : ka_M) : Prop := kSi X ∧ kPc X ∧ kAc X
section
variable {E : Nat × Nat} {d c l : Nat} {s : ka_S} {h : ka_H} {Q : ka_Q} {J : ka_H} {A A' : ka_A} {V V' : ka_V} {C C' R X X' X'' Y Z : ka_M} {b b' : Int}
theorem kWy_q (hX : ∀ f, f = 56 ∨ f = 59 ∨ f = 61 ∨ f = 62 ∨ f = 64 → X' f = X f) (a b : Int) : kWy X' a b ↔ kWy X a b :=
  kWy_c (fun a b _ _ _ _ => klead_c (hX 56 (by omega)) (hX 59 (by omega)) (hX 61 (by omega)) (hX 62 (by omega)) (hX 64 (by omega)) a b)
theorem kBY_c (h : kBY X) (hX : ∀ f, f = 56 ∨ f = 59 ∨ f = 60 ∨ f = 61 ∨ f = 62 ∨ f = 63 ∨ f = 64 → X' f = X f) (h7 : X' 9 0 7 = X 9 0 7) : kBY X' := by
  obtain ⟨h1, h2, h3⟩ := h
  refine ⟨?_, ?_, kAc_mono (fun a b z => (kWy_q (fun f hf => hX f (by omega)) a b).mp z) h3⟩
  · unfold kSi
    rw [h7, hX 59 (by omega), hX 60 (by omega)]
    exact h1
  · unfold kPc
    rw [h7, hX 59 (by omega), hX 61 (by omega), hX 63 (by omega)]
    exact h2
theorem kBY.ps (h : kBY X) (p : kPS X X') : kBY X' := kBY_c h (fun f hf => p.1 f (by omega)) (p.2 7 (by decide) (by decide) (by decide) (by decide))
theorem kBY_123 (rw : kRW V X) (bk : kBk X) (h : kBY X) {g : Int} (g0 : 0 ≤ g) (hg : X 56 0 g = -1) (hn : X 9 0 7 < 20) : kBY (f123 X g) := by
  obtain ⟨h1, h2, h3⟩ := h
  have B7 := rw.i7
  obtain ⟨o1, o2, o3, o4, o5, o6, o7, o8⟩ := f123_o (X := X) (g := g)
  refine ⟨fun k q k0 k1 q0 q1 => ?_, fun k q p k0 k1 q0 q1 p0 p1 => ?_, ?_⟩
  · rw [o1] at k1
    rw [o5] at q1
    by_cases e : k = X 9 0 7
    · rw [if_pos e] at q1; omega
    · rw [if_neg e] at q1
      have B59 := rw.a59 (j := k) k0 (by omega)
      rw [o6, o6, if_neg (by omega), if_neg (by omega)]
      exact h1 k q k0 (by omega) q0 q1
  · rw [o1] at k1
    rw [o5] at q1
    rw [o7] at p1
    by_cases e : k = X 9 0 7
    · rw [if_pos e] at q1
      rw [if_pos (by omega)] at p1
      omega
    · rw [if_neg e] at q1
      have B59 := rw.a59 (j := k) k0 (by omega)
      rw [if_neg (by omega)] at p1
      rw [o8 63 (by decide) (by decide) (by decide) (by decide) (by decide) (by decide)]
      exact h2 k q p k0 (by omega) q0 q1 p0 p1
  · exact kAc_mono (fun a b z => (kWy_c (fun a b x y _ _ => f123_lead bk g0 hg B7.1 (fun k z1 z2 => (rw.a59 (j := k) z1 (by omega)).2) x y)).mp z) h3
theorem kto (bk : kBk X) {k a : Int} (k0 : 0 ≤ k) (k1 : k < X 9 0 7) (a0 : 0 ≤ a) (a1 : a < 20) (h : X 56 0 a = k) : a = X 58 0 k := by
  have := (bk.2.2.1 a a0 a1 (by omega)).2.2
  rw [h] at this
  exact this.symm
theorem kBY_130 (rw : kRW V X) (bk : kBk X) (h : kBY X) {k g n : Int} (k0 : 0 ≤ k) (k1 : k < X 9 0 7) (hp : X 61 0 (4 * k + X 59 0 k - 1) < 5) (n1 : 1 ≤ n) (hr : ¬ kRch X g (X 58 0 k)) : kBY (f130 X k g n) := by
  obtain ⟨h1, h2, h3⟩ := h
  have B7 := rw.i7
  have B59 := rw.a59 (j := k) k0 (by omega)
  have hk := bk.2.2.2 k k0 k1
  have B61 := rw.a61 (j := 4 * k + X 59 0 k - 1) (by omega) (by omega)
  obtain ⟨o1, o2, o3, o4⟩ := f130_o (X := X) (k := k) (g := g) (n := n)
  have ps := f130_ps (R := X) (k := k) (g := g) (n := n)
  refine ⟨?_, fun k' q p c0 c1 q0 q1 p0 p1 => ?_, kAc_add (t := X 58 0 k) (g := g) h3 hr (fun a b z => ?_)⟩
  · unfold kSi
    rw [ps 9 (by decide) (by decide) (by decide) (by decide), ps 59 (by decide) (by decide) (by decide) (by decide), ps 60 (by decide) (by decide) (by decide) (by decide)]
    exact h1
  · rw [ps 9 (by decide) (by decide) (by decide) (by decide)] at c1
    rw [ps 59 (by decide) (by decide) (by decide) (by decide)] at q1
    rw [o1] at p1
    rw [o3]
    have B59' := rw.a59 (j := k') c0 (by omega)
    have B61' := rw.a61 (j := 4 * k' + q) (by omega) (by omega)
    by_cases e : 4 * k' + q = 4 * k + X 59 0 k - 1
    · rw [if_pos e] at p1
      by_cases ep : p = X 61 0 (4 * k + X 59 0 k - 1)
      · rw [if_pos (by omega)]; exact n1
      · rw [if_neg (by omega)]
        exact h2 k' q p c0 c1 q0 q1 p0 (by rw [e]; omega)
    · rw [if_neg e] at p1
      rw [if_neg (by omega)]
      exact h2 k' q p c0 c1 q0 q1 p0 p1
  · obtain ⟨a0, a1, b0, b1, z⟩ := z
    rcases (f130_lead rw bk k0 k1 hp a0 a1 b0).mp z with z | ⟨z1, z2⟩
    · exact Or.inl ⟨a0, a1, b0, b1, z⟩
    · exact Or.inr ⟨kto bk k0 k1 a0 a1 z1, z2⟩
theorem kBY_64 (rw : kRW V X) (bk : kBk X) (h : kBY X) {k g : Int} (k0 : 0 ≤ k) (k1 : k < X 9 0 7) (hp : 1 ≤ X 61 0 (4 * k + X 59 0 k - 1)) (hi : X 64 0 (f131 X k) = -1) (hr : ¬ kRch X g (X 58 0 k)) : kBY (kmu X 64 0 (f131 X k) g) := by
  obtain ⟨h1, h2, h3⟩ := h
  refine ⟨?_, ?_, kAc_add (t := X 58 0 k) (g := g) h3 hr (fun a b z => ?_)⟩
  · unfold kSi
    rw [kmu_ff (show (9:Nat) ≠ 64 by decide), kmu_ff (show (59:Nat) ≠ 64 by decide), kmu_ff (show (60:Nat) ≠ 64 by decide)]
    exact h1
  · unfold kPc
    rw [kmu_ff (show (9:Nat) ≠ 64 by decide), kmu_ff (show (59:Nat) ≠ 64 by decide), kmu_ff (show (61:Nat) ≠ 64 by decide), kmu_ff (show (63:Nat) ≠ 64 by decide)]
    exact h2
  · obtain ⟨a0, a1, b0, b1, z⟩ := z
    rcases (f64_lead rw bk k0 k1 hp hi a0 a1 b0).mp z with z | ⟨z1, z2⟩
    · exact Or.inl ⟨a0, a1, b0, b1, z⟩
    · exact Or.inr ⟨kto bk k0 k1 a0 a1 z1, z2⟩
theorem kBY_135 (rw : kRW V X) (bk : kBk X) (h : kBY X) {k x : Int} (k0 : 0 ≤ k) (k1 : k < X 9 0 7) (h4 : X 59 0 k < 4) (hx : X 60 0 (4 * k + X 59 0 k - 1) < x) : kBY (f135 X k x) := by
  obtain ⟨h1, h2, h3⟩ := h
  have B7 := rw.i7
  have hk := bk.2.2.2 k k0 k1
  obtain ⟨o1, o2, o3, o4⟩ := f135_o (X := X) (k := k) (x := x)
  have e9 : f135 X k x 9 = X 9 := o4 9 (by decide) (by decide) (by decide)
  refine ⟨fun k' q c0 c1 q0 q1 => ?_, fun k' q p c0 c1 q0 q1 p0 p1 => ?_, kAc_mono (fun a b z => (kWy_c (fun a b y z _ _ => f135_lead rw bk k0 k1 h4 y z)).mp z) h3⟩
  · rw [e9] at c1
    rw [o1] at q1
    have B59 := rw.a59 (j := k') c0 (by omega)
    rw [o2, o2]
    by_cases e : k' = k
    · rw [if_pos e] at q1
      by_cases e2 : q + 1 = X 59 0 k
      · rw [if_neg (by omega), if_pos (by omega)]
        have : 4 * k' + q = 4 * k + X 59 0 k - 1 := by omega
        rw [this]
        exact hx
      · rw [if_neg (by omega), if_neg (by omega)]
        exact h1 k' q c0 c1 q0 (by rw [e]; omega)
    · rw [if_neg e] at q1
      rw [if_neg (by omega), if_neg (by omega)]
      exact h1 k' q c0 c1 q0 q1
  · rw [e9] at c1
    rw [o1] at q1
    rw [o3] at p1
    by_cases e : 4 * k' + q = 4 * k + X 59 0 k
    · rw [if_pos e] at p1; omega
    · rw [if_neg e] at p1
      rw [o4 63 (by decide) (by decide) (by decide)]
      refine h2 k' q p c0 c1 q0 ?_ p0 p1
      by_cases e2 : k' = k
      · rw [if_pos e2] at q1; rw [e2] at e ⊢; omega
      · rw [if_neg e2] at q1; exact q1
theorem kBY_back : ∀ (n : Nat) (X : ka_M), kRW V X → kBk X → (n : Int) ≤ X 9 0 7 → kBY X → kBY (krb' n X)
  | 0, X, _, _, _, h => h
  | n + 1, X, rw, bk, hn, h => by
    obtain ⟨r1, b1⟩ := kBk_back rw bk (by omega)
    unfold krb'
    have e7 : kmu (kmu X 9 0 7 (X 9 0 7 - 1)) 56 0 (X 58 0 (X 9 0 7 - 1)) (-1) 9 0 7 = X 9 0 7 - 1 := by rw [kmu_f (by decide), kmu_eq]
    refine kBY_back n _ r1 b1 (by omega) ?_
    obtain ⟨h1, h2, h3⟩ := h
    refine ⟨fun k q k0 k1 q0 q1 => ?_, fun k q p k0 k1 q0 q1 p0 p1 => ?_, kAc_mono (fun a b z => ?_) h3⟩
    · rw [e7] at k1
      rw [kmu_ff (show (59:Nat) ≠ 56 by decide), kmu_ff (show (59:Nat) ≠ 9 by decide)] at q1
      rw [kmu_ff (show (60:Nat) ≠ 56 by decide), kmu_ff (show (60:Nat) ≠ 9 by decide)]
      exact h1 k q k0 (by omega) q0 q1
    · rw [e7] at k1
      rw [kmu_ff (show (59:Nat) ≠ 56 by decide), kmu_ff (show (59:Nat) ≠ 9 by decide)] at q1
      rw [kmu_ff (show (61:Nat) ≠ 56 by decide), kmu_ff (show (61:Nat) ≠ 9 by decide)] at p1
      rw [kmu_ff (show (63:Nat) ≠ 56 by decide), kmu_ff (show (63:Nat) ≠ 9 by decide)]
      exact h2 k q p k0 (by omega) q0 q1 p0 p1
    · obtain ⟨a0, a1, b0, b1', z⟩ := z
      exact ⟨a0, a1, b0, b1', ((krb_lead bk a0 a1 (by omega)).mp z).1⟩
/-- a good that may be led to -/
theorem g94_y (h : kBY X) {k nt : Int} : kBY (g94 X k nt).1 ∧ (∀ f, f ≠ 9 → f ≠ 87 → (g94 X k nt).1 f = X f) ∧ (¬ (g94 X k nt).2 = 0 → 0 ≤ (g94 X k nt).1 9 0 41 ∧ (g94 X k nt).1 9 0 41 ≤ 19 ∧ ¬ kRch (g94 X k nt).1 ((g94 X k nt).1 9 0 41) ((g94 X k nt).1 58 0 k)) := by
  have p := f145_ps (R := X) (lo := 0) (hi := 19)
  have i := f145_in (R := X) (lo := 0) (hi := 19)
  unfold g94
  generalize f145 X 0 19 = Z at *
  have hZ := h.ps p
  have h125 : ∀ to, kBY (f125 Z.1 to) := fun to => kBY_c hZ (fun f hf => f125_ps f (by omega)) (by rw [f125_ps 9 (by decide)])
  by_cases h1 : Z.2 = 0
  · rw [kth_0 h1]
    exact ⟨hZ, fun f a _ => p.1 f a, fun w => absurd rfl w⟩
  · rw [kth_1 h1]
    split
    · exact ⟨hZ.ps (kPS_rfl.mu (by omega)), fun f a _ => (kmu_ff a).trans (p.1 f a), fun w => absurd rfl w⟩
    · split
      · exact ⟨(h125 _).ps (kPS_rfl.mu (by omega)), fun f a b => (kmu_ff a).trans ((f125_ps f b).trans (p.1 f a)), fun w => absurd rfl w⟩
      · rename_i q
        refine ⟨h125 _, fun f a b => (f125_ps f b).trans (p.1 f a), fun _ => ?_⟩
        dsimp only
        rw [f125_ps 9 (by decide), f125_ps 58 (by decide)]
        refine ⟨(i h1).1, (i h1).2, fun r => kfars_no q (kRch_mono (fun a b z => (kWy_q (fun f hf => f125_ps f (by omega)) a b).mp z) r)⟩
theorem f146_y (rw : kRW V X) (bk : kBk X) (h : kBY X) {k : Int} (k0 : 0 ≤ k) (k1 : k < X 9 0 7) (hp : X 61 0 (4 * k + X 59 0 k - 1) < 5) (ha : X 9 0 39 ≤ X 9 0 3) : kBY (f146 X k).1 := by
  rw [f146_g]
  have p1 := f144_ps (R := X) (x := 32)
  have rw1 := f144_rw rw (x := 32) (by omega)
  have at1 := f144_at (R := X) (x := 32) (by omega) ha
  generalize f144 X 32 = Z1 at *
  have y1 := h.ps p1
  by_cases h1 : Z1.2 = 0
  · rw [kth_0 h1]; exact y1
  rw [kth_1 h1]
  have p2 := f145_ps (R := Z1.1) (lo := 1) (hi := 9)
  have i2 := f145_in (R := Z1.1) (lo := 1) (hi := 9)
  have rw2 := f145_rw rw1 (lo := 1) (hi := 9) at1.1
  have at2 := f145_at (R := Z1.1) (lo := 1) (hi := 9) at1.1
  generalize f145 Z1.1 1 9 = Z2 at *
  have y2 := y1.ps p2
  by_cases h2 : Z2.2 = 0
  · rw [kth_0 h2]; exact y2
  rw [kth_1 h2]
  obtain ⟨v0, v1⟩ := i2 h2
  have p3 := f144_ps (R := Z2.1) (x := 42)
  have rw3 := f144_rw rw2 (x := 42) (by omega)
  have at3 := f144_at (R := Z2.1) (x := 42) (by omega) at2.1
  generalize f144 Z2.1 42 = Z3 at *
  have y3 := y2.ps p3
  have ps := p1.trans (p2.trans p3)
  by_cases h3 : Z3.2 = 0
  · rw [kth_0 h3]; exact y3
  rw [kth_1 h3]
  -- the part itself
  obtain ⟨y4, f4, g4⟩ := g94_y y3 (k := k) (nt := -1)
  have rw4 : kRW V (g94 Z3.1 k (-1)).1 := by
    have q1 := f145_rw rw3 (lo := 0) (hi := 19) at3.1
    unfold g94
    generalize f145 Z3.1 0 19 = Z at *
    have B42 := q1.i42
    by_cases e : Z.2 = 0
    · rw [kth_0 e]; exact q1
    · rw [kth_1 e]
      split
      · exact q1.pi40 B42.1 B42.2
      · split
        · exact (f125_rw q1).pi40 B42.1 B42.2
        · exact f125_rw q1
  have s4 : (g94 Z3.1 k (-1)).1 9 0 7 = X 9 0 7 := by
    have q1 := f145_ps (R := Z3.1) (lo := 0) (hi := 19)
    have q7 := (ps.trans q1).2 7 (by decide) (by decide) (by decide) (by decide)
    unfold g94
    generalize f145 Z3.1 0 19 = Z at *
    by_cases e : Z.2 = 0
    · rw [kth_0 e]; exact q7
    · rw [kth_1 e]
      split
      · dsimp only; rw [kmu_j (by decide)]; exact q7
      · split
        · dsimp only; rw [kmu_j (by decide), f125_ps 9 (by decide)]; exact q7
        · dsimp only; rw [f125_ps 9 (by decide)]; exact q7
  generalize g94 Z3.1 k (-1) = Z4 at *
  have ff : ∀ f, f ≠ 9 → f ≠ 87 → Z4.1 f = X f := fun f a b => (f4 f a b).trans (ps.1 f a)
  by_cases h4 : Z4.2 = 0
  · rw [kth_0 h4]; exact y4
  rw [kth_1 h4]
  obtain ⟨g0, g1, g2⟩ := g4 h4
  have bk4 : kBk Z4.1 := bk.c (ff 56 (by decide) (by decide)) (ff 58 (by decide) (by decide)) (ff 59 (by decide) (by decide)) s4
  have hp4 : Z4.1 61 0 (4 * k + Z4.1 59 0 k - 1) < 5 := by rw [ff 61 (by decide) (by decide), ff 59 (by decide) (by decide)]; exact hp
  have k4 : k < Z4.1 9 0 7 := by rw [s4]; exact k1
  have B7 := rw4.i7
  have hk4 := bk4.2.2.2 k k0 k4
  have y5 := kBY_130 rw4 bk4 y4 (g := Z4.1 9 0 41) (n := Z2.1 9 0 41) k0 k4 hp4 v0 g2
  have rw5 := f130_rw rw4 (k := k) (g := Z4.1 9 0 41) (n := Z2.1 9 0 41) g0 g1 (by omega) v1 k0 (by omega) hk4 hp4
  have o := f130_o (X := Z4.1) (k := k) (g := Z4.1 9 0 41) (n := Z2.1 9 0 41)
  have ps5 := f130_ps (R := Z4.1) (k := k) (g := Z4.1 9 0 41) (n := Z2.1 9 0 41)
  unfold g93
  generalize f130 Z4.1 k (Z4.1 9 0 41) (Z2.1 9 0 41) = Y at *
  by_cases h5 : f142 Y = 47
  · rw [if_pos h5]
    have lt := f144_lt (R := Y) (x := 47) (by omega) h5
    have e9 : Y 9 = Z4.1 9 := ps5 9 (by decide) (by decide) (by decide) (by decide)
    have B3 := rw5.i3
    have B39 := rw5.i39
    have rw6 : kRW V (kmu Y 9 0 39 (Z4.1 9 0 39 + 1)) := rw5.pi39 (by rw [← e9]; omega) (by rw [← e9]; omega)
    obtain ⟨y7, f7, g7⟩ := g94_y (y5.ps (X' := kmu Y 9 0 39 (Z4.1 9 0 39 + 1)) (kPS_rfl.mu (by omega))) (k := k) (nt := Z4.1 9 0 41)
    have at6 : (kmu Y 9 0 39 (Z4.1 9 0 39 + 1)) 9 0 39 ≤ (kmu Y 9 0 39 (Z4.1 9 0 39 + 1)) 9 0 3 := by rw [kmu_eq, kmu_j (by decide), ← e9]; omega
    have rw7 : kRW V (g94 (kmu Y 9 0 39 (Z4.1 9 0 39 + 1)) k (Z4.1 9 0 41)).1 := by
      have q1 := f145_rw rw6 (lo := 0) (hi := 19) at6
      unfold g94
      generalize f145 (kmu Y 9 0 39 (Z4.1 9 0 39 + 1)) 0 19 = Z at *
      have B42 := q1.i42
      by_cases e : Z.2 = 0
      · rw [kth_0 e]; exact q1
      · rw [kth_1 e]
        split
        · exact q1.pi40 B42.1 B42.2
        · split
          · exact (f125_rw q1).pi40 B42.1 B42.2
          · exact f125_rw q1
    have s7 : (g94 (kmu Y 9 0 39 (Z4.1 9 0 39 + 1)) k (Z4.1 9 0 41)).1 9 0 7 = Y 9 0 7 := by
      have q1 := f145_ps (R := kmu Y 9 0 39 (Z4.1 9 0 39 + 1)) (lo := 0) (hi := 19)
      have q7 := q1.2 7 (by decide) (by decide) (by decide) (by decide)
      rw [kmu_j (show (7:Int) ≠ 39 by decide)] at q7
      unfold g94
      generalize f145 (kmu Y 9 0 39 (Z4.1 9 0 39 + 1)) 0 19 = Z at *
      by_cases e : Z.2 = 0
      · rw [kth_0 e]; exact q7
      · rw [kth_1 e]
        split
        · dsimp only; rw [kmu_j (by decide)]; exact q7
        · split
          · dsimp only; rw [kmu_j (by decide), f125_ps 9 (by decide)]; exact q7
          · dsimp only; rw [f125_ps 9 (by decide)]; exact q7
    generalize g94 (kmu Y 9 0 39 (Z4.1 9 0 39 + 1)) k (Z4.1 9 0 41) = Z7 at *
    by_cases h7 : Z7.2 = 0
    · rw [kth_0 h7]; exact y7
    · rw [kth_1 h7]
      obtain ⟨u0, u1, u2⟩ := g7 h7
      have f7' : ∀ f, f ≠ 9 → f ≠ 87 → Z7.1 f = Y f := fun f a b => (f7 f a b).trans (kmu_ff a)
      have bk7 : kBk Z7.1 := bk4.c ((f7' 56 (by decide) (by decide)).trans (ps5 56 (by decide) (by decide) (by decide) (by decide))) ((f7' 58 (by decide) (by decide)).trans (ps5 58 (by decide) (by decide) (by decide) (by decide))) ((f7' 59 (by decide) (by decide)).trans (ps5 59 (by decide) (by decide) (by decide) (by decide))) (by rw [s7, e9])
      have e59 : Z7.1 59 = Z4.1 59 := (f7' 59 (by decide) (by decide)).trans (ps5 59 (by decide) (by decide) (by decide) (by decide))
      have e61 := f7' 61 (by decide) (by decide)
      have e64 := f7' 64 (by decide) (by decide)
      have o1 := o.1 (4 * k + Z4.1 59 0 k - 1)
      rw [if_pos rfl] at o1
      have B59' := rw4.a59 (j := k) (by omega) (by omega)
      have B61 := rw4.a61 (j := 4 * k + Z4.1 59 0 k - 1) (by omega) (by omega)
      refine kBY_64 rw7 bk7 y7 k0 (by rw [s7, e9]; exact k4) (by rw [e59, e61, o1]; omega) ?_ u2
      unfold f131
      rw [e59, e61, e64, o1, o.2.2.2, if_pos (by omega)]
  · rw [if_neg h5]; exact y5
theorem kpl_y {k : Int} (k0 : 0 ≤ k) : ∀ (m : Nat) (n : Int) (R : ka_M), kRW V R → kBk R → kBY R → k < R 9 0 7 → n + m = 5 → R 59 0 k = 1 → R 61 0 (4 * k) = n → R 9 0 39 ≤ R 9 0 3 → kBY (kpl k m R).1
  | 0, n, R, r, bk, y, k1, hn, h59, h61, ha => y.ps f144_ps
  | m + 1, n, R, r, bk, y, k1, hn, h59, h61, ha => by
    have hb : 4 * k + R 59 0 k - 1 = 4 * k := by omega
    have B7 := r.i7
    by_cases h1 : f142 R = 32
    · simp only [kpl, if_pos h1]
      obtain ⟨o1, o2, o3, o4, o5, o6⟩ := f146_o r (k := k) k0 (by omega) (by omega) (by rw [hb]; omega) ha
      rw [hb] at o6
      have y1 := f146_y r bk y k0 k1 (by rw [hb]; omega) ha
      have e59 := o2.1 59 (by decide) (by decide) (by decide) (by decide) (by decide) (by decide)
      have e7 := o2.2.1 7 (by decide) (by decide) (by decide) (by decide)
      have bk1 := o2.bk bk
      generalize f146 R k = X at *
      by_cases h2 : X.2 = 0
      · rw [kth_0 h2]; exact y1
      · rw [kth_1 h2]
        have e5 := o6 (o5.resolve_left h2)
        clear o5
        exact kpl_y k0 m (n + 1) X.1 o1 bk1 y1 (by omega) (by omega) (by rw [e59]; exact h59) (by rw [e5]; omega) o4
    · simp only [kpl, if_neg h1]
      exact y.ps f144_ps
theorem f147_y (rw : kRW V X) (b : kBk X) (y : kBY X) (ha : X 9 0 39 ≤ X 9 0 3) : kBY (f147 X).1 := by
  have p1 := f144_ps (R := X) (x := 75)
  have rw1 := f144_rw rw (x := 75) (by omega)
  have at1 := f144_at (R := X) (x := 75) (by omega) ha
  unfold f147
  generalize f144 X 75 = Z1 at *
  by_cases h1 : Z1.2 = 0
  · rw [kth_0 h1]; exact y.ps p1
  rw [kth_1 h1]
  have p2 := p1.trans (f144_ps (R := Z1.1) (x := 32))
  have rw2 := f144_rw rw1 (x := 32) (by omega)
  have at2 := f144_at (R := Z1.1) (x := 32) (by omega) at1.1
  generalize f144 Z1.1 32 = Z2 at *
  by_cases h2 : Z2.2 = 0
  · rw [kth_0 h2]; exact y.ps p2
  rw [kth_1 h2]
  have p3 := p2.trans (f145_ps (R := Z2.1) (lo := 0) (hi := 19))
  have i3 := f145_in (R := Z2.1) (lo := 0) (hi := 19)
  have rw3 := f145_rw rw2 (lo := 0) (hi := 19) at2.1
  have at3 := f145_at (R := Z2.1) (lo := 0) (hi := 19) at2.1
  generalize f145 Z2.1 0 19 = Z3 at *
  have y3 := y.ps p3
  by_cases h3 : Z3.2 = 0
  · rw [kth_0 h3]; exact y3
  rw [kth_1 h3]
  obtain ⟨g0, g1⟩ := i3 h3
  have b3 := p3.pk (k := 0) |>.bk b
  by_cases h4 : Z3.1 56 0 (Z3.1 9 0 41) = -1
  · rw [if_pos h4]
    have hk := b3.free g0 (by omega) h4
    have rw4 := f123_rw rw3 g0 (by omega) hk
    have y4 := kBY_123 rw3 b3 y3 g0 h4 hk
    have b4 := f123_bk rw3 b3 g0 (by omega) h4
    have B7 := rw3.i7
    have e59 : f123 Z3.1 (Z3.1 9 0 41) 59 0 (Z3.1 9 0 7) = 1 := f123_59
    have e61 : f123 Z3.1 (Z3.1 9 0 41) 61 0 (4 * Z3.1 9 0 7) = 0 := f123_61
    have e39 : f123 Z3.1 (Z3.1 9 0 41) 9 0 39 = Z3.1 9 0 39 := f123_9 (by decide)
    have e3 : f123 Z3.1 (Z3.1 9 0 41) 9 0 3 = Z3.1 9 0 3 := f123_9 (by decide)
    have e7 : f123 Z3.1 (Z3.1 9 0 41) 9 0 7 = Z3.1 9 0 7 + 1 := f123_7
    generalize f123 Z3.1 (Z3.1 9 0 41) = Y at *
    generalize Z3.1 9 0 7 = k at *
    have hb : 4 * k + Y 59 0 k - 1 = 4 * k := by omega
    obtain ⟨o1, o2, o3, o4, o5, o6⟩ := f146_o rw4 (k := k) B7.1 hk (by omega) (by rw [hb]; omega) (by omega)
    rw [hb] at o6
    have y5 := f146_y rw4 b4 y4 (k := k) B7.1 (by omega) (by rw [hb]; omega) (by omega)
    have f59 := o2.1 59 (by decide) (by decide) (by decide) (by decide) (by decide) (by decide)
    have f7 := o2.2.1 7 (by decide) (by decide) (by decide) (by decide)
    have b5 := o2.bk b4
    generalize f146 Y k = Z5 at *
    by_cases h5 : Z5.2 = 0
    · rw [kth_0 h5]; exact y5
    rw [kth_1 h5]
    have e5 := o6 (o5.resolve_left h5)
    clear o5
    exact kpl_y B7.1 4 1 Z5.1 o1 b5 y5 (by omega) (by omega) (by rw [f59]; exact e59) (by rw [e5]; omega) o4
  · rw [if_neg h4]
    exact y3.ps (kPS_rfl.mu (by omega))
theorem krd_y (hA : kJ A V) (v : kLV V) : ∀ (n : Nat) (X : ka_M), kRW V X → kBk X → kBY X → X 9 0 39 ≤ X 9 0 3 → kRW V (krd n X).1 ∧ kBk (krd n X).1 ∧ kBY (krd n X).1 ∧ kRd X (krd n X).1
  | 0, X, rw, b, y, ha => ⟨rw, b, y, kRd_rfl⟩
  | n + 1, X, rw, b, y, ha => by
    by_cases h : X 9 0 39 < X 9 0 3
    · simp only [krd, if_pos h]
      have y1 := f147_y rw b y ha
      have d1 := f147_rd rw b ha
      obtain ⟨⟨o1, o2, -, o3, -⟩, -⟩ := j147 (E := (0, 0)) (d := 4) (c := 0) (l := 0) (Q := fun _ _ => True) (J := fun _ => none) (C := X) hA v rw b (by omega) ha
      generalize f147 X = Z at *
      by_cases h2 : Z.2 = 0
      · rw [kth_0 h2]; exact ⟨o1, o2, y1, d1⟩
      · rw [kth_1 h2]
        obtain ⟨i1, i2, i3, i4⟩ := krd_y hA v n Z.1 o1 o2 y1 o3
        exact ⟨i1, i2, i3, d1.trans i4⟩
    · simp only [krd, if_neg h]
      exact ⟨rw, b, y, kRd_rfl⟩
end
