/-! Without rings: ranks, and the costs' fixed point. -/
def kWy (X : ka_M) (a b : Int) : Prop := 0 ≤ a ∧ a < 20 ∧ 0 ≤ b ∧ b < 20 ∧ klead X a b
/-- a good is reached -/
def kRch (X : ka_M) (a b : Int) : Prop := ∀ P : Int → Prop, P a → (∀ x y, P x → kWy X x y → P y) → P b
def kAc (X : ka_M) : Prop := ∀ a b, kWy X a b → ¬ kRch X b a
noncomputable def krk (X : ka_M) (g : Int) : Int := kcn (fun q => ∃ x, kWy X g x ∧ kRch X x (X 58 0 (q - 1))) (X 9 0 7).toNat
section
variable {E : Nat × Nat} {d c l : Nat} {s : ka_S} {h : ka_H} {Q : ka_Q} {J : ka_H} {A A' : ka_A} {V V' : ka_V} {C C' R X X' Y : ka_M}
theorem kRch_rfl {a : Int} : kRch X a a := fun _ h _ => h
theorem kRch.trans {a b e : Int} (h : kRch X a b) (h' : kRch X b e) : kRch X a e := fun P p s => h' P (h P p s) s
theorem kRch_1 {a b : Int} (h : kWy X a b) : kRch X a b := fun _ p s => s a b p h
theorem kWy_c {a b : Int} (h : ∀ a b, 0 ≤ a → a < 20 → 0 ≤ b → b < 20 → (klead X' a b ↔ klead X a b)) : kWy X' a b ↔ kWy X a b := by
  unfold kWy
  constructor
  · rintro ⟨h1, h2, h3, h4, h5⟩; exact ⟨h1, h2, h3, h4, (h a b h1 h2 h3 h4).mp h5⟩
  · rintro ⟨h1, h2, h3, h4, h5⟩; exact ⟨h1, h2, h3, h4, (h a b h1 h2 h3 h4).mpr h5⟩
theorem kRch_mono {a b : Int} (h : ∀ a b, kWy X' a b → kWy X a b) (r : kRch X' a b) : kRch X a b := fun P p s => r P p (fun x y px l => s x y px (h x y l))
/-- fewer ways, no ring -/
theorem kAc_mono (h : ∀ a b, kWy X' a b → kWy X a b) (k : kAc X) : kAc X' := fun a b l r => k a b (h a b l) (kRch_mono h r)
/-- one way more makes no ring, if its end doesn't lead to its start -/
theorem kAc_add {t g : Int} (k : kAc X) (hn : ¬ kRch X g t) (h : ∀ a b, kWy X' a b → kWy X a b ∨ (a = t ∧ b = g)) : kAc X' := by
  have hr : ∀ a b, kRch X' a b → kRch X a b ∨ (kRch X a t ∧ kRch X g b) := by
    intro a b r
    refine r (fun b => kRch X a b ∨ (kRch X a t ∧ kRch X g b)) (Or.inl kRch_rfl) (fun x y p l => ?_)
    rcases h x y l with l | ⟨rfl, rfl⟩
    · rcases p with p | p
      · exact Or.inl (p.trans (kRch_1 l))
      · exact Or.inr ⟨p.1, p.2.trans (kRch_1 l)⟩
    · rcases p with p | p
      · exact Or.inr ⟨p, kRch_rfl⟩
      · exact Or.inr ⟨p.1, kRch_rfl⟩
  intro a b l r
  rcases h a b l with l | ⟨rfl, rfl⟩
  · rcases hr b a r with r | ⟨r1, r2⟩
    · exact k a b l r
    · exact hn (r2.trans ((kRch_1 l).trans r1))
  · rcases hr b a r with r | ⟨r1, r2⟩
    · exact hn r
    · exact hn r1
theorem kfars_cl {to x y : Int} (l : kWy X x y) (h : kfars X to 20 y ≠ -1) : kfars X to 20 x ≠ -1 := by
  obtain ⟨x0, x1, y0, y1, l⟩ := l
  have B := kfars_rng (R := X) (to := to) 20 y
  have B19 := kfars_19 (R := X) (to := to) y0 y1
  obtain ⟨s, hs⟩ : ∃ s : Nat, kfars X to 20 y = s := ⟨(kfars X to 20 y).toNat, by omega⟩
  obtain ⟨a1, a2⟩ := kfars_at (m := s) 20 hs
  have ns : kfars X to (s + 1) x ≠ -1 := by
    rw [kfars_s]
    unfold knxt
    by_cases z : kfars X to s x = -1 ∧ khit X (kfars X to s) s x 0
    · rw [if_pos z]; omega
    · rw [if_neg z]
      intro e
      exact z ⟨e, y, y0, y1, a2, l⟩
  have : 20 = (s + 1) + (19 - s) := by omega
  rw [this, kfars_keep (n := s + 1) (19 - s) ns]
  exact ns
theorem kfars_no {to g : Int} (h : ¬ kfars X to 20 g ≠ -1) : ¬ kRch X g to := by
  intro r
  have := r (fun x => ¬ kfars X to 20 x ≠ -1) h (fun x y p l q => p (kfars_cl l q))
  apply this
  rw [(kfars_0 (R := X) (to := to) (n := 20)).mpr rfl]
  decide
theorem kcn_t : ∀ n : Nat, kcn (fun _ => True) n = n
  | 0 => rfl
  | n + 1 => by
    show kcn _ n + kb True = _
    rw [kcn_t n, kb_t trivial]
    omega
theorem krk_lt (bk : kBk X) (ac : kAc X) {g h : Int} (l : kWy X g h) (hk : X 56 0 h ≠ -1) : krk X h + 1 ≤ krk X g := by
  obtain ⟨b1, b2, b3⟩ := bk.2.2.1 h l.2.2.1 l.2.2.2.1 hk
  refine kcn_lt (u := X 56 0 h + 1) _ (fun j x y => ?_) (by omega) (by omega) ?_ ?_
  · rintro ⟨z, z1, z2⟩
    exact ⟨h, l, (kRch_1 z1).trans z2⟩
  · rintro ⟨z, z1, z2⟩
    have e : X 56 0 h + 1 - 1 = X 56 0 h := by omega
    rw [e, b3] at z2
    exact ac h z z1 z2
  · refine ⟨h, l, ?_⟩
    have e : X 56 0 h + 1 - 1 = X 56 0 h := by omega
    rw [e, b3]
    exact kRch_rfl
theorem krk_0 {g : Int} : 0 ≤ krk X g := (kcn_b _ _).1
theorem krk_n (bk : kBk X) (ac : kAc X) {k : Int} (k0 : 0 ≤ k) (k1 : k < X 9 0 7) : krk X (X 58 0 k) + 1 ≤ X 9 0 7 := by
  have := kcn_lt (p := fun q => ∃ x, kWy X (X 58 0 k) x ∧ kRch X x (X 58 0 (q - 1))) (q := fun _ => True) (u := k + 1) (X 9 0 7).toNat (fun _ _ _ _ => trivial) (by omega) (by omega) (by
    rintro ⟨z, z1, z2⟩
    have e : k + 1 - 1 = k := by omega
    rw [e] at z2
    exact ac _ z z1 z2) trivial
  rw [kcn_t] at this
  unfold krk
  omega
/-- a part of today's recipe is a way -/
theorem kpart_L (rw : kRW V X) (bk : kBk X) {k p : Int} (k0 : 0 ≤ k) (k1 : k < X 9 0 7) (p0 : 5 * f138 X k ≤ p) (p1 : p < 5 * f138 X k + X 61 0 (f138 X k)) : kWy X (X 58 0 k) (X 62 0 p) := by
  have B7 := rw.i7
  obtain ⟨b1, b2, b3, b4⟩ := f138_b rw bk (k := k) ⟨k0, by omega⟩
  have B58 := rw.a58 (j := k) (by omega) (by omega)
  have B61 := rw.a61 (j := f138 X k) (by omega) (by omega)
  have B62 := rw.a62 (j := p) (by omega) (by omega)
  have e := bk.2.1 k k0 k1
  refine ⟨B58.1, by omega, B62.1, by omega, by rw [e]; omega, ?_⟩
  rw [e]
  refine ⟨f138 X k - 4 * k, by omega, by omega, p, ?_, ?_, Or.inl rfl⟩
  · omega
  · have e2 : 4 * k + (f138 X k - 4 * k) = f138 X k := by omega
    rw [e2]
    exact p1
theorem keach_c {p : Int} (h : kCo X Y) (h88 : X 56 0 (X 62 0 p) ≠ -1 → Y 88 0 (X 56 0 (X 62 0 p)) = X 88 0 (X 56 0 (X 62 0 p))) : keach Y p = keach X p := by
  unfold keach
  rw [h 56 (by decide), h 62 (by decide), h 54 (by decide)]
  split
  · rfl
  · rename_i z; exact h88 z
theorem ksum_c (h : kCo X Y) : ∀ (n : Nat) (p s : Int), (∀ q, p ≤ q → q < p + n → X 56 0 (X 62 0 q) ≠ -1 → Y 88 0 (X 56 0 (X 62 0 q)) = X 88 0 (X 56 0 (X 62 0 q))) → ksum Y n p s = ksum X n p s
  | 0, _, _, _ => rfl
  | n + 1, p, s, hq => by
    unfold ksum
    rw [keach_c h (hq p (by omega) (by omega)), h 63 (by decide)]
    exact ksum_c h n (p + 1) _ (fun q a b => hq q (by omega) (by omega))
theorem f140_c (rw : kRW V X) (bk : kBk X) (ac : kAc X) (h : kCo X Y) {k : Int} (k0 : 0 ≤ k) (k1 : k < X 9 0 7) (hk : ∀ k', 0 ≤ k' → k' < X 9 0 7 → krk X (X 58 0 k') < krk X (X 58 0 k) → Y 88 0 k' = X 88 0 k') : f140 Y k = f140 X k := by
  have e138 : f138 Y k = f138 X k := f138_c (by rw [h 9 (by decide)]) (h 59 (by decide)) (h 60 (by decide)) k
  have B7 := rw.i7
  obtain ⟨b1, b2, b3, b4⟩ := f138_b rw bk (k := k) ⟨k0, by omega⟩
  have B61 := rw.a61 (j := f138 X k) (by omega) (by omega)
  unfold f140
  rw [e138, h 61 (by decide), ksum_c h _ _ _ (fun q x y z => ?_)]
  have l := kpart_L rw bk k0 k1 x (by omega)
  have b := bk.2.2.1 (X 62 0 q) l.2.2.1 l.2.2.2.1 z
  have := krk_lt bk ac l z
  refine hk _ b.1 b.2.1 ?_
  rw [b.2.2]
  omega
/-- settled costs -/
def kSt (X Y : ka_M) (i j : Int) : Prop := kCo X Y ∧ ∀ k, 0 ≤ k → k < X 9 0 7 → (krk X (X 58 0 k) < i ∨ (krk X (X 58 0 k) = i ∧ k < j)) → Y 88 0 k = f140 Y k

theorem kSt_step {i j : Int} (rw : kRW V X) (bk : kBk X) (ac : kAc X) (rY : kRW V Y) (j0 : 0 ≤ j) (j1 : j < X 9 0 7) (h : kSt X Y i j) : kSt X (kck j Y) i (j + 1) := by
  obtain ⟨h1, h2⟩ := h
  have bY : kBk Y := bk.c (h1 56 (by decide)) (h1 58 (by decide)) (h1 59 (by decide)) (by rw [h1 9 (by decide)])
  have lc : ∀ a b, kWy Y a b ↔ kWy X a b := fun a b => kWy_c (fun a b _ _ _ _ => klead_c (h1 56 (by decide)) (h1 59 (by decide)) (h1 61 (by decide)) (h1 62 (by decide)) (h1 64 (by decide)) a b)
  have acY : kAc Y := kAc_mono (fun a b z => (lc a b).mp z) ac
  have e58 := h1 58 (by decide)
  have e7 : Y 9 0 7 = X 9 0 7 := by rw [h1 9 (by decide)]
  have rk : ∀ g, krk Y g = krk X g := by
    intro g
    unfold krk
    rw [e58, e7]
    refine kcn_c _ (fun q _ _ => ?_)
    constructor
    · rintro ⟨x, z1, z2⟩; exact ⟨x, (lc _ _).mp z1, kRch_mono (fun a b z => (lc a b).mp z) z2⟩
    · rintro ⟨x, z1, z2⟩; exact ⟨x, (lc _ _).mpr z1, kRch_mono (fun a b z => (lc a b).mpr z) z2⟩
  have hc : kCo Y (kck j Y) := fun f hf => kmu_ff hf
  have h88 : ∀ k, kck j Y 88 0 k = if k = j then f140 Y j else Y 88 0 k := by
    intro k
    unfold kck
    by_cases e : k = j
    · rw [e, kmu_eq, if_pos rfl]
    · rw [kmu_j e, if_neg e]
  refine ⟨fun f hf => (hc f hf).trans (h1 f hf), fun k k0 k1 hk => ?_⟩
  have fc : f140 (kck j Y) k = f140 Y k := by
    refine f140_c rY bY acY hc k0 (by omega) (fun k' x y z => ?_)
    rw [rk, rk, e58] at z
    rw [h88]
    by_cases e : k' = j
    · rw [if_pos e, e]
      rw [e] at z
      exact (h2 j j0 j1 (Or.inl (by
        rcases hk with hk | hk <;> omega))).symm
    · rw [if_neg e]
  rw [fc, h88]
  by_cases e : k = j
  · rw [if_pos e, e]
  · rw [if_neg e]
    refine h2 k k0 k1 ?_
    rcases hk with hk | hk
    · exact Or.inl hk
    · exact Or.inr ⟨hk.1, by omega⟩
/-- the reference's costs are a fixed point -/
theorem f139_fix (rw : kRW V X) (bk : kBk X) (ac : kAc X) : kRW V (f139 X) ∧ kCo X (f139 X) ∧ ∀ k, 0 ≤ k → k < X 9 0 7 → f139 X 88 0 k = f140 (f139 X) k := by
  have B7 := rw.i7
  have rnd : ∀ (i : Int) (Y : ka_M), kRW V Y → kSt X Y i 0 → kRW V (kfd kck (X 9 0 7).toNat 0 Y) ∧ kSt X (kfd kck (X 9 0 7).toNat 0 Y) (i + 1) 0 := by
    intro i Y rY hY
    have z := kfd_inv (P := fun j Z => 0 ≤ j ∧ kRW V Z ∧ kSt X Z i j) (f := kck) (X 9 0 7).toNat 0 Y (fun j Z j0 j1 ⟨_, rZ, sZ⟩ => by
      have bZ : 1 ≤ Z 59 0 j := by rw [sZ.1 59 (by decide)]; exact bk.2.2.2 j j0 (by omega)
      have fb := f140_b rZ (k := j) j0 (by omega) bZ
      exact ⟨by omega, rZ.pa88 fb.1 fb.2, kSt_step rw bk ac rZ j0 (by omega) sZ⟩) ⟨by omega, rY, hY⟩
    refine ⟨z.2.1, z.2.2.1, fun k k0 k1 hk => z.2.2.2 k k0 k1 ?_⟩
    rcases hk with hk | hk
    · by_cases e : krk X (X 58 0 k) < i
      · exact Or.inl e
      · exact Or.inr ⟨by omega, by omega⟩
    · omega
  have z0 := kfd_inv (P := fun j Z => 0 ≤ j ∧ kRW V Z ∧ kCo X Z) (f := fun k R => kmu R 88 0 k 0) (X 9 0 7).toNat 0 X (fun j Z j0 j1 ⟨_, rZ, cZ⟩ => ⟨by omega, rZ.pa88 (by omega) (by omega), fun f hf => (kmu_ff hf).trans (cZ f hf)⟩) ⟨by omega, rw, fun _ _ => rfl⟩
  have z := kfd_inv (P := fun i Z => 0 ≤ i ∧ kRW V Z ∧ kSt X Z i 0) (f := kcr (X 9 0 7).toNat) ((X 9 0 7).toNat + 1) 0 (kfd (fun k R => kmu R 88 0 k 0) (X 9 0 7).toNat 0 X) (fun i Z i0 i1 ⟨_, rZ, sZ⟩ => by
    obtain ⟨y1, y2⟩ := rnd i Z rZ sZ
    exact ⟨by omega, y1, y2⟩) ⟨by omega, z0.2.1, z0.2.2, fun k k0 k1 hk => by
      have := krk_0 (X := X) (g := X 58 0 k)
      rcases hk with hk | hk <;> omega⟩
  unfold f139
  refine ⟨z.2.1, z.2.2.1, fun k k0 k1 => z.2.2.2 k k0 k1 (Or.inl ?_)⟩
  have := krk_n bk ac k0 k1
  omega
end
