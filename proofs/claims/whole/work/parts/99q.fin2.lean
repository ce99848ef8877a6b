/-! A making is done: the relation. -/
def kVu (V : ka_V) (w : Int) : ka_V := fun f j => V f j ∨ (f = 8 ∧ j = w)
def kCu (C : ka_M) (w g m : Int) : ka_M := fun f j q => if f = 8 ∧ j = w then (if q = 0 then w else if q = 1 then g else if q = 2 then m else if q = 3 then 0 else -1) else C f j q
section
variable {E : Nat × Nat} {d c l : Nat} {s : ka_S} {h : ka_H} {Q : ka_Q} {J : ka_H} {A A' : ka_A} {V V' : ka_V} {C C' C1 C2 R X X' : ka_M}
/-- how the program's numbers stand behind done, before the pieces are offered -/
def kFn (C C' X : ka_M) (m w g : Int) : Prop :=
  (∀ f, f ≠ 8 → f ≠ 4 → f ≠ 10 → f ≠ 33 → f ≠ 29 → C' f = C f) ∧ (∀ q j, ¬ (q = m ∧ (j = 7 ∨ j = 9)) → C' 4 q j = C 4 q j) ∧ C' 4 m 7 = 1 ∧ C' 4 m 9 = w ∧ (∀ q, C' 29 0 q = if q = g then C 29 0 q + 1 else C 29 0 q) ∧
  (∀ u, u ≠ w → ¬ (1 ≤ u ∧ u < w ∧ X 78 0 u = 1 ∧ X 80 0 u = m) → C' 8 u = C 8 u) ∧ (∀ u, 1 ≤ u → u < w → X 78 0 u = 1 → X 80 0 u = m → (∀ j, j ≤ 2 → C' 8 u j = C 8 u j) ∧ C' 8 u 3 = 2 ∧ C' 8 u 4 = -1 ∧ C' 8 u 5 = -1 ∧ C' 8 u 6 = w) ∧
  C' 8 w 0 = w ∧ C' 8 w 1 = g ∧ C' 8 w 2 = m ∧ C' 8 w 3 = 0 ∧ C' 8 w 4 = -1 ∧ C' 8 w 5 = -1 ∧ C' 8 w 6 = -1
theorem kBI_fin (rw : kRW V X) (I : kBI V C X) (fu : kFu X) {m w g : Int} (m0 : 1 ≤ m) (m1 : m ≤ X 9 0 15) (hs : X 68 0 m = 0) (hw : X 9 0 26 + 1 = w) (hw60 : w ≤ 60) (hg : X 58 0 (X 66 0 m) = g)
    (fn : kFn C C' X m w g)
    (hv1 : ∀ f q, f ≠ 33 → (V' f q ↔ V f q ∨ (f = 8 ∧ q = w))) (hv33 : ∀ q, ¬ (2000 ≤ q ∧ q < 3000) → (V' 33 q ↔ V 33 q)) (hvn : V' 33 (C' 10 2 0)) (hvu : ∀ q, V' 33 q → 2000 ≤ q → q < 3000 → q = C' 10 2 0)
    (c10 : ∀ q, q ≠ 2 → C' 10 q = C 10 q) (c33 : ∀ q, ¬ (2000 ≤ q ∧ q < 3000) → C' 33 q = C 33 q)
    (a1 : C' 10 2 1 = w) (a2 : 2000 ≤ C' 10 2 0) (a3 : C' 10 2 0 < 3000) (a4 : w ≤ C' 10 2 0 % 1000) (a5 : kCap (C' 10 2 0 % 1000)) (a6 : ∀ j, 0 ≤ j → j < X 9 0 26 → C' 33 (C' 10 2 0) j = C 33 (C 10 2 0) j) (a7 : C' 33 (C' 10 2 0) (w - 1) = w) (a8 : ∀ j, w ≤ j → j < C' 10 2 0 % 1000 → C' 33 (C' 10 2 0) j = -1) : kBI V' C' (f163b X m) := by
  have B7 := rw.i7
  have B15 := rw.i15
  have B26 := rw.i26
  obtain ⟨⟨i0, i32, i10, i3, i4, i8, i23, i20, i6, i33⟩, ⟨K1, K2, K3, K4, K5, K6, K7⟩, F, B, ⟨p0, p1, p2, p3⟩, M⟩ := I
  obtain ⟨F1, F2, F3, F4, F5, F6, F7, F8⟩ := F
  obtain ⟨o1, o2, o3, o77, o79, o68, o71, o78, o80⟩ := f163b_q (X := X) (m := m) B26.1
  rw [hw] at o1 o77 o79 o71 o78 o80
  generalize hY : f163b X m = Y at *
  obtain ⟨cf, c4, c47, c49, c29, c8, c8b, u0, u1, u2, u3, u4, u5, u6⟩ := fn
  have vm : ∀ f q, f ≠ 33 → V f q → V' f q := fun f q hf z => (hv1 f q hf).mpr (Or.inl z)
  have vn : ∀ f q, f ≠ 33 → f ≠ 8 → V' f q → V f q := fun f q hf h8 z => by
    rcases (hv1 f q hf).mp z with z | z
    · exact z
    · omega
  have o66 : Y 66 = X 66 := o3 66 (by decide) (by decide) (by decide) (by decide) (by decide) (by decide) (by decide)
  have o58 : Y 58 = X 58 := o3 58 (by decide) (by decide) (by decide) (by decide) (by decide) (by decide) (by decide)
  have o59 : Y 59 = X 59 := o3 59 (by decide) (by decide) (by decide) (by decide) (by decide) (by decide) (by decide)
  have o56 : Y 56 = X 56 := o3 56 (by decide) (by decide) (by decide) (by decide) (by decide) (by decide) (by decide)
  have o70 : Y 70 = X 70 := o3 70 (by decide) (by decide) (by decide) (by decide) (by decide) (by decide) (by decide)
  have o75 : Y 75 = X 75 := o3 75 (by decide) (by decide) (by decide) (by decide) (by decide) (by decide) (by decide)
  have o81 : Y 81 = X 81 := o3 81 (by decide) (by decide) (by decide) (by decide) (by decide) (by decide) (by decide)
  have c6 := fun f (hf : f = 6 ∨ f = 20 ∨ f = 21 ∨ f = 22 ∨ f = 3 ∨ f = 32 ∨ f = 25 ∨ f = 0 ∨ f = 23 ∨ f = 24 ∨ f = 28) => cf f (by omega) (by omega) (by omega) (by omega) (by omega)
  -- the counts
  have ew : (Y 9 0 26).toNat = (X 9 0 26).toNat + 1 := by omega
  have ew' : (((X 9 0 26).toNat : Nat) : Int) + 1 = w := by omega
  have hu : ∀ m' p, m' ≠ m → khu Y m' p = khu X m' p := by
    intro m' p hne
    unfold khu
    rw [ew]
    show kcn _ _ + kb _ = _
    rw [kb_f (by
      rintro ⟨h1, -, -⟩
      rw [ew', o78, if_pos rfl] at h1
      omega), Int.add_zero]
    refine kcn_c _ (fun u x y => ?_)
    rw [o78, if_neg (by omega), o80, o81]
    by_cases z : 1 ≤ u ∧ u ≤ X 9 0 26 ∧ X 78 0 u = 1 ∧ X 80 0 u = m
    · rw [if_pos z, if_pos z]
      constructor
      · rintro ⟨h1, -, -⟩; omega
      · rintro ⟨-, h1, -⟩; omega
    · rw [if_neg z, if_neg z]
  have h149 : ∀ q, f149 Y q = if q = g then f149 X q + 1 else f149 X q := by
    intro q
    have e1 : f149 Y q = f149 X q + kb (g = q ∧ (0:Int) = 0) := by
      unfold f149
      rw [ew]
      show kcn _ _ + kb _ = _
      have e2 : (Y 77 0 (((X 9 0 26).toNat : Nat) + 1) = q ∧ Y 78 0 (((X 9 0 26).toNat : Nat) + 1) = 0) = (g = q ∧ (0:Int) = 0) := by
        rw [ew', o77, if_pos rfl, o78, if_pos rfl, hg]
      dsimp only
      rw [e2]
      congr 1
      refine kcn_c _ (fun u x y => ?_)
      rw [o77, if_neg (by omega), o78, if_neg (by omega)]
      by_cases z : 1 ≤ u ∧ u ≤ X 9 0 26 ∧ X 78 0 u = 1 ∧ X 80 0 u = m
      · rw [if_pos z]
        constructor
        · rintro ⟨-, h1⟩; omega
        · rintro ⟨-, h1⟩; omega
      · rw [if_neg z]
    rw [e1]
    by_cases e : q = g
    · rw [if_pos e, kb_t ⟨e.symm, rfl⟩]
    · rw [if_neg e, kb_f (fun z => e z.1.symm), Int.add_zero]
  refine ⟨⟨fun i z => i0 i (vn _ _ (by decide) (by decide) z), fun i z => i32 i (vn _ _ (by decide) (by decide) z), fun i z => i10 i (vn _ _ (by decide) (by decide) z), fun i z => ?_, fun i z => ?_, fun i z => ?_, fun f i hf z => ?_, fun f i hf z => ?_, fun i z => ?_, fun i z => ?_⟩, ⟨?_, ?_, fun k' b0 b1 => ?_, fun k' q b0 b1 q0 q1 => ?_, fun k' q p b0 b1 q0 q1 p0' p1' => ?_, fun q b0 b1 => ?_, fun a b0 b1 => ?_⟩, ⟨?_, ?_, ?_, ?_, fun m' b0 b1 => ?_, fun m' p b0 b1 d0 d1 => ?_, fun u b0 b1 => ?_, fun q b0 b1 => ?_⟩, ?_, ?_, fun m' b0 b1 => ?_⟩
  · rw [c10 0 (by decide)]; exact i3 i (vn _ _ (by decide) (by decide) z)
  · rw [c10 1 (by decide)]; exact i4 i (vn _ _ (by decide) (by decide) z)
  · rw [a1]
    rcases (hv1 8 i (by decide)).mp z with z | z
    · have := i8 i z; omega
    · omega
  · exact vm _ _ (by decide) (i23 f i hf (vn _ _ (by omega) (by omega) z))
  · exact vm _ _ (by decide) (i20 f i hf (vn _ _ (by omega) (by omega) z))
  · rw [c10 0 (by decide), c10 1 (by decide), c6 3 (by omega)]
    exact i6 i (vn _ _ (by decide) (by decide) z)
  · by_cases e : 2000 ≤ i ∧ i < 3000
    · exact Or.inr (Or.inr (hvu i z e.1 e.2))
    · rw [c10 0 (by decide), c10 1 (by decide)]
      rcases i33 i ((hv33 i e).mp z) with y | y | y
      · exact Or.inl y
      · exact Or.inr (Or.inl y)
      · have := F2.1; have := F2.2.1; omega
  · obtain ⟨l1, l2, l3, l4, l5, l6⟩ := K1
    unfold kLs
    rw [c10 0 (by decide)]
    exact ⟨l1, l2, l3, l4, fun z => (hv33 _ (by omega)).mpr (l5 z), fun j a b => by rw [c33 _ (by omega)]; exact l6 j a b⟩
  · rw [c10 0 (by decide), o2 7 (by decide)]; exact K2
  · rw [o2 7 (by decide)] at b1
    obtain ⟨z1, z2⟩ := K3 k' b0 b1
    rw [c6 3 (by omega), c10 0 (by decide), c33 _ (by have := K1.1; have := K1.2.1; omega), o58, o59]
    exact ⟨vm _ _ (by decide) z1, z2⟩
  · rw [o2 7 (by decide)] at b1
    rw [o59] at q1
    obtain ⟨⟨z1, z2, z3, z4⟩, z5⟩ := K4 k' q b0 b1 q0 q1
    rw [c6 6 (by omega), o3 60 (by decide) (by decide) (by decide) (by decide) (by decide) (by decide) (by decide), o3 61 (by decide) (by decide) (by decide) (by decide) (by decide) (by decide) (by decide)]
    exact ⟨⟨vm _ _ (by decide) z1, vm _ _ (by decide) z2, vm _ _ (by decide) z3, vm _ _ (by decide) z4⟩, z5⟩
  · rw [o2 7 (by decide)] at b1
    rw [o59] at q1
    rw [o3 61 (by decide) (by decide) (by decide) (by decide) (by decide) (by decide) (by decide)] at p1'
    rw [c6 20 (by omega), c6 21 (by omega), c6 22 (by omega), o3 62 (by decide) (by decide) (by decide) (by decide) (by decide) (by decide) (by decide), o3 63 (by decide) (by decide) (by decide) (by decide) (by decide) (by decide) (by decide), o3 64 (by decide) (by decide) (by decide) (by decide) (by decide) (by decide) (by decide)]
    exact K5 k' q p b0 b1 q0 q1 p0' p1'
  · rw [c6 32 (by omega), o56]; exact K6 q b0 b1
  · rw [c6 25 (by omega)]
    obtain ⟨x1, x2, x3⟩ := K7 a b0 b1
    refine ⟨x1, x2, fun q q0 q1 => ?_⟩
    rw [x3 q q0 q1, klead_c (X := X) o56 o59 (o3 61 (by decide) (by decide) (by decide) (by decide) (by decide) (by decide) (by decide)) (o3 62 (by decide) (by decide) (by decide) (by decide) (by decide) (by decide) (by decide)) (o3 64 (by decide) (by decide) (by decide) (by decide) (by decide) (by decide) (by decide))]
  · obtain ⟨l1, l2, l3, l4, l5, l6⟩ := F1
    unfold kLs
    rw [c10 1 (by decide)]
    exact ⟨l1, l2, l3, l4, fun z => (hv33 _ (by omega)).mpr (l5 z), fun j a b => by rw [c33 _ (by omega)]; exact l6 j a b⟩
  · exact ⟨by omega, by omega, by omega, by omega, fun _ => hvn, fun j a b => a8 j (by omega) b⟩
  · rw [c10 1 (by decide), o2 15 (by decide)]; exact F3
  · rw [a1, o1]
  · rw [o2 15 (by decide)] at b1
    obtain ⟨M1, M2, M3, ⟨r1, r2, r3, r4⟩, M5, M6, M7, M8, M9, M10, M11, M12, M13, M14⟩ := F5 m' b0 b1
    unfold kRm
    rw [c6 6 (by omega), c10 1 (by decide), c33 _ (by have := F1.1; have := F1.2.1; omega), o66, o58, o3 67 (by decide) (by decide) (by decide) (by decide) (by decide) (by decide) (by decide), o3 69 (by decide) (by decide) (by decide) (by decide) (by decide) (by decide) (by decide), o70, o68, o71, c4 m' 0 (by omega), c4 m' 1 (by omega), c4 m' 2 (by omega), c4 m' 3 (by omega), c4 m' 8 (by omega)]
    refine ⟨vm _ _ (by decide) M1, vm _ _ (by decide) M2, vm _ _ (by decide) M3, ⟨vm _ _ (by decide) r1, vm _ _ (by decide) r2, vm _ _ (by decide) r3, vm _ _ (by decide) r4⟩, M5, M6, M7, M8, M9, ?_, M11, ?_, M13, M14⟩
    · by_cases e : m' = m
      · rw [e, if_pos rfl]; exact c47
      · rw [if_neg e, c4 m' 7 (by omega)]; exact M10
    · by_cases e : m' = m
      · rw [e, if_pos rfl]; exact c49
      · rw [if_neg e, c4 m' 9 (by omega)]; exact M12
  · rw [o2 15 (by decide)] at b1
    rw [o70] at d1
    obtain ⟨P1, P2, P3, P4, P5⟩ := F6 m' p b0 b1 d0 d1
    have B71 := rw.a71 (j := m') (by omega) (by omega)
    unfold kRp
    rw [c6 20 (by omega), c6 21 (by omega), c6 22 (by omega), c6 23 (by omega), c6 24 (by omega), o3 72 (by decide) (by decide) (by decide) (by decide) (by decide) (by decide) (by decide), o3 73 (by decide) (by decide) (by decide) (by decide) (by decide) (by decide) (by decide), o3 74 (by decide) (by decide) (by decide) (by decide) (by decide) (by decide) (by decide), o75, o68, o71]
    by_cases e : m' = m
    · subst e
      rw [if_pos rfl, if_pos rfl]
      refine ⟨P1, P2, P3, fun z => absurd z (by decide), fun _ => P5 (fun z => by omega)⟩
    · rw [if_neg e, if_neg e]
      refine ⟨P1, P2, P3, fun z => by rw [hu m' p e]; exact P4 z, fun z => P5 (fun y => z ⟨y.1, ?_⟩)⟩
      by_cases e2 : X 71 0 m' = w
      · have := (fu w (by omega) hw60).1
        rw [e2, this] at y
        omega
      · rw [o78, if_neg e2, if_neg (fun t => by omega)]
        exact y.2
  · rw [o1] at b1
    by_cases e : u = w
    · subst e
      refine ⟨(hv1 8 _ (by decide)).mpr (Or.inr ⟨rfl, rfl⟩), a7, u0, ?_, ?_, ?_, ?_, ?_, ?_⟩
      · rw [o77, if_pos rfl, hg]; exact u1
      · rw [o79, if_pos rfl]; exact u2
      · rw [o78, if_pos rfl]; exact u3
      · rw [o78, if_pos rfl, if_neg (by decide)]; exact u4
      · rw [o78, if_pos rfl, if_neg (by decide)]; exact u5
      · rw [o78, if_pos rfl, if_neg (by decide)]; exact u6
    · obtain ⟨z1, z2, z3, z4, z5, z6, z7, z8, z9⟩ := F7 u b0 (by omega)
      unfold kRu
      rw [a6 (u - 1) (by omega) (by omega), o77, if_neg e, o79, if_neg e, o78, if_neg e, o80, o81]
      by_cases z : 1 ≤ u ∧ u ≤ X 9 0 26 ∧ X 78 0 u = 1 ∧ X 80 0 u = m
      · obtain ⟨g1, g2, g3, g4, g5⟩ := c8b u b0 (by omega) z.2.2.1 z.2.2.2
        rw [if_pos z, if_pos z, g1 0 (by decide), g1 1 (by decide), g1 2 (by decide), g2, g3, g4, g5]
        exact ⟨vm _ _ (by decide) z1, z2, z3, z4, z5, rfl, rfl, rfl, rfl⟩
      · rw [if_neg z, if_neg z, c8 u e (fun y => z ⟨y.1, by omega, y.2.2⟩)]
        exact ⟨vm _ _ (by decide) z1, z2, z3, z4, z5, z6, z7, z8, z9⟩
  · obtain ⟨G1, G2⟩ := F8 q b0 b1
    rw [c6 28 (by omega), o3 55 (by decide) (by decide) (by decide) (by decide) (by decide) (by decide) (by decide), c29, h149]
    refine ⟨G1, ?_⟩
    by_cases e : q = g
    · rw [if_pos e, if_pos e, G2]
    · rw [if_neg e, if_neg e, G2]
  · exact B.c o56 o58 o59 (o2 7 (by decide))
  · refine ⟨by rw [c10 0 (by decide)]; exact p0, by rw [c10 1 (by decide)]; exact p1, a5, ?_⟩
    rw [c6 0 (by omega), c10 1 (by decide)]
    exact p3
  · rw [o2 15 (by decide)] at b1
    rw [o66, o2 7 (by decide)]
    exact M m' b0 b1
end
