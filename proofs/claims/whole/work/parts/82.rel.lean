/-! How the program's numbers stand to the reference's. -/
def kbit (x h : Int) : Prop := kand (kshr x h) 1 = 1
/-- a recipe of the program (i) says what stands at base b, its size n -/
def kRc (V : ka_V) (C : ka_M) (i : Int) : Prop := V 6 i ∧ V 20 i ∧ V 21 i ∧ V 22 i
def kRK (V : ka_V) (C R : ka_M) : Prop :=
  kLs V C 0 ∧ C 10 0 1 = R 9 0 7 ∧
  (∀ k, 0 ≤ k → k < R 9 0 7 → V 3 k ∧ C 33 (C 10 0 0) k = k ∧ C 3 k 0 = k ∧ C 3 k 1 = R 58 0 k ∧ C 3 k 2 = 4 * k + R 59 0 k - 1 ∧ C 3 k 3 = R 59 0 k) ∧
  (∀ k q, 0 ≤ k → k < R 9 0 7 → 0 ≤ q → q < R 59 0 k → kRc V C (4 * k + q) ∧ C 6 (4 * k + q) 0 = R 60 0 (4 * k + q) ∧ C 6 (4 * k + q) 1 = (if q = 0 then -1 else 4 * k + q - 1) ∧ C 6 (4 * k + q) 5 = R 61 0 (4 * k + q)) ∧
  (∀ k q p, 0 ≤ k → k < R 9 0 7 → 0 ≤ q → q < R 59 0 k → 0 ≤ p → p < R 61 0 (4 * k + q) → C 20 (4 * k + q) p = R 62 0 (5 * (4 * k + q) + p) ∧ C 21 (4 * k + q) p = R 63 0 (5 * (4 * k + q) + p) ∧ C 22 (4 * k + q) p = R 64 0 (5 * (4 * k + q) + p)) ∧
  (∀ g, 0 ≤ g → g < 20 → C 32 0 g = R 56 0 g) ∧
  (∀ g, 0 ≤ g → g < 20 → 0 ≤ C 25 0 g ∧ C 25 0 g < 1048576 ∧ ∀ h, 0 ≤ h → h < 20 → (kbit (C 25 0 g) h ↔ klead R g h))
/-- a making m -/
def kRm (V : ka_V) (C R : ka_M) (m : Int) : Prop :=
  V 4 m ∧ V 23 m ∧ V 24 m ∧ kRc V C (100 + m) ∧ C 33 (C 10 1 0) (m - 1) = m ∧ C 4 m 0 = m ∧ C 4 m 1 = R 66 0 m ∧ C 4 m 2 = R 58 0 (R 66 0 m) ∧ C 4 m 3 = R 67 0 m ∧ C 4 m 7 = R 68 0 m ∧ C 4 m 8 = R 69 0 m ∧ C 4 m 9 = R 71 0 m ∧ C 6 (100 + m) 5 = R 70 0 m ∧ C 6 (100 + m) 1 = -1
/-- its part p -/
def kRp (C R : ka_M) (m p : Int) : Prop :=
  C 20 (100 + m) p = R 72 0 (5 * m + p) ∧ C 21 (100 + m) p = R 73 0 (5 * m + p) ∧ C 22 (100 + m) p = R 74 0 (5 * m + p) ∧ (R 68 0 m = 0 → C 24 m p = khu R m p) ∧ (¬ (R 68 0 m = 1 ∧ R 78 0 (R 71 0 m) = 3) → C 23 m p = R 75 0 (5 * m + p))
/-- a unit u -/
def kRu (V : ka_V) (C R : ka_M) (u : Int) : Prop :=
  V 8 u ∧ C 33 (C 10 2 0) (u - 1) = u ∧ C 8 u 0 = u ∧ C 8 u 1 = R 77 0 u ∧ C 8 u 2 = R 79 0 u ∧ C 8 u 3 = R 78 0 u ∧ C 8 u 4 = (if R 78 0 u = 1 then R 80 0 u else -1) ∧ C 8 u 5 = (if R 78 0 u = 1 then R 81 0 u else -1) ∧ C 8 u 6 = (if R 78 0 u = 2 then R 80 0 u else -1)
def kRF (V : ka_V) (C R : ka_M) : Prop :=
  kLs V C 1 ∧ kLs V C 2 ∧ C 10 1 1 = R 9 0 15 ∧ C 10 2 1 = R 9 0 26 ∧ (∀ m, 1 ≤ m → m ≤ R 9 0 15 → kRm V C R m) ∧ (∀ m p, 1 ≤ m → m ≤ R 9 0 15 → 0 ≤ p → p < R 70 0 m → kRp C R m p) ∧ (∀ u, 1 ≤ u → u ≤ R 9 0 26 → kRu V C R u) ∧
  ∀ g, 0 ≤ g → g < 20 → C 28 0 g = R 55 0 g ∧ C 29 0 g = f149 R g
/-- what the floor's calls leave alone -/
def kFl (C C' : ka_M) : Prop := ∀ f, f ≠ 8 → f ≠ 23 → f ≠ 24 → f ≠ 28 → f ≠ 29 → C' f = C f
theorem kFl_rfl {C : ka_M} : kFl C C := fun _ _ _ _ _ _ => rfl
theorem kFl.trans {C C' C'' : ka_M} (h : kFl C C') (h' : kFl C' C'') : kFl C C'' := fun f a b c d e => (h' f a b c d e).trans (h f a b c d e)
theorem kFl.mu {C C' : ka_M} (h : kFl C C') {f : Nat} {i j x : Int} (hf : f = 8 ∨ f = 23 ∨ f = 24 ∨ f = 28 ∨ f = 29) : kFl C (kmu C' f i j x) := fun f' a b c d e => (kmu_ff (by omega)).trans (h f' a b c d e)
section
variable {V : ka_V} {C C' R R' : ka_M}
theorem kRc.c {i : Int} (h : kRc V C i) : kRc V C' i := h
theorem kRm.c {m : Int} (h : kRm V C R m) (c4 : C' 4 = C 4) (c6 : C' 6 = C 6) (c10 : C' 10 = C 10) (c33 : C' 33 = C 33) (r58 : R' 58 = R 58) (r66 : R' 66 = R 66) (r67 : R' 67 = R 67) (r68 : R' 68 = R 68) (r69 : R' 69 = R 69) (r70 : R' 70 = R 70) (r71 : R' 71 = R 71) : kRm V C' R' m := by
  unfold kRm
  rw [c4, c6, c10, c33, r58, r66, r67, r68, r69, r70, r71]
  exact h
theorem kRu.c {u : Int} (h : kRu V C R u) (c8 : C' 8 u = C 8 u) (c10 : C' 10 = C 10) (c33 : C' 33 = C 33) (r77 : R' 77 = R 77) (r79 : R' 79 = R 79) (r78 : R' 78 0 u = R 78 0 u) (r80 : R' 80 0 u = R 80 0 u) (r81 : R' 81 0 u = R 81 0 u) : kRu V C' R' u := by
  unfold kRu
  rw [c8, c10, c33, r77, r79, r78, r80, r81]
  exact h
/-- one unit changes hands on both sides -/
theorem kRF_unit (F : kRF V C R) {u : Int} (u1 : 1 ≤ u) (u2 : u ≤ R 9 0 26) (hne : R 78 0 u ≠ 3) (hR : ∀ f, f ≠ 78 → f ≠ 80 → f ≠ 81 → R' f = R f) (hU : kUd R R' u)
    (hC : ∀ f, f ≠ 8 → f ≠ 24 → f ≠ 29 → C' f = C f) (h8 : ∀ u', u' ≠ u → C' 8 u' = C 8 u') (h80 : ∀ j, j ≤ 2 → C' 8 u j = C 8 u j) (h83 : C' 8 u 3 = R' 78 0 u) (h84 : C' 8 u 4 = if R' 78 0 u = 1 then R' 80 0 u else -1) (h85 : C' 8 u 5 = if R' 78 0 u = 1 then R' 81 0 u else -1) (h86 : C' 8 u 6 = if R' 78 0 u = 2 then R' 80 0 u else -1)
    (h29 : ∀ g, 0 ≤ g → g < 20 → C' 29 0 g = f149 R' g) (h24 : ∀ m p, 1 ≤ m → m ≤ R 9 0 15 → 0 ≤ p → p < R 70 0 m → R 68 0 m = 0 → C' 24 m p = khu R' m p) : kRF V C' R' := by
  obtain ⟨F1, F2, F3, F4, F5, F6, F7, F8⟩ := F
  have c10 := hC 10 (by decide) (by decide) (by decide)
  have c33 := hC 33 (by decide) (by decide) (by decide)
  have r9 := hR 9 (by decide) (by decide) (by decide)
  have r70 := hR 70 (by decide) (by decide) (by decide)
  have r68 := hR 68 (by decide) (by decide) (by decide)
  have r71 := hR 71 (by decide) (by decide) (by decide)
  refine ⟨F1.c c10 c33, F2.c c10 c33, by rw [c10, r9]; exact F3, by rw [c10, r9]; exact F4, fun m a b => ?_, fun m p a b a' b' => ?_, fun u' a b => ?_, fun g a b => ⟨?_, h29 g a b⟩⟩
  · rw [r9] at b
    exact (F5 m a b).c (hC 4 (by decide) (by decide) (by decide)) (hC 6 (by decide) (by decide) (by decide)) c10 c33 (hR 58 (by decide) (by decide) (by decide)) (hR 66 (by decide) (by decide) (by decide)) (hR 67 (by decide) (by decide) (by decide)) r68 (hR 69 (by decide) (by decide) (by decide)) r70 r71
  · rw [r9] at b
    rw [r70] at b'
    obtain ⟨x1, x2, x3, x4, x5⟩ := F6 m p a b a' b'
    unfold kRp
    rw [hC 20 (by decide) (by decide) (by decide), hC 21 (by decide) (by decide) (by decide), hC 22 (by decide) (by decide) (by decide), hC 23 (by decide) (by decide) (by decide), hR 72 (by decide) (by decide) (by decide), hR 73 (by decide) (by decide) (by decide), hR 74 (by decide) (by decide) (by decide), hR 75 (by decide) (by decide) (by decide), r68, r71]
    refine ⟨x1, x2, x3, fun z => h24 m p a b a' b' z, fun z => x5 (fun y => z ⟨y.1, ?_⟩)⟩
    have hn : R 71 0 m ≠ u := fun w => hne (by rw [← w]; exact y.2)
    rw [(hU.2.2 _ hn).1]
    exact y.2
  · rw [r9] at b
    by_cases e : u' = u
    · subst e
      obtain ⟨x1, x2, x3, x4, x5, x6, x7, x8, x9⟩ := F7 u' a b
      unfold kRu
      rw [c10, c33, hR 77 (by decide) (by decide) (by decide), hR 79 (by decide) (by decide) (by decide), h80 0 (by decide), h80 1 (by decide), h80 2 (by decide)]
      exact ⟨x1, x2, x3, x4, x5, h83, h84, h85, h86⟩
    · obtain ⟨y1, y2, y3⟩ := hU.2.2 u' e
      exact (F7 u' a b).c (h8 u' e) c10 c33 (hR 77 (by decide) (by decide) (by decide)) (hR 79 (by decide) (by decide) (by decide)) y1 y2 y3
  · rw [hC 28 (by decide) (by decide) (by decide), hR 55 (by decide) (by decide) (by decide)]
    exact (F8 g a b).1
end
