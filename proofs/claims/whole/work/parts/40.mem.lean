/-! Memory by families: a cell is (f, i), at the place A f i; its slot j holds what M f i j says. Printed by wip/whole/gen7.py. -/
abbrev ka_A : Type := Nat → Int → Nat
abbrev ka_V : Type := Nat → Int → Prop
abbrev ka_M : Type := Nat → Int → Int → Int
/-- what a slot holds: 0 int, 1 long, 2 a pointer or null, 3-6 and 9 fixed pointers, 7 a list's array, 8 a list's element -/
def kd : Nat → Nat → Nat × Nat
  | 0, 0 => (3, 1)
  | 0, 1 => (3, 5)
  | 0, 2 => (3, 7)
  | 0, 3 => (3, 2)
  | 0, 4 => (3, 30)
  | 0, 5 => (2, 6)
  | 1, 0 => (3, 10)
  | 1, 1 => (3, 32)
  | 1, 2 => (3, 25)
  | 1, 3 => (3, 26)
  | 2, 0 => (5, 10)
  | 2, 1 => (6, 10)
  | 2, 2 => (3, 28)
  | 2, 3 => (3, 29)
  | 3, 2 => (2, 6)
  | 3, 4 => (1, 0)
  | 4, 4 => (9, 6)
  | 4, 5 => (4, 23)
  | 4, 6 => (4, 24)
  | 5, 0 => (3, 31)
  | 6, 1 => (2, 6)
  | 6, 2 => (4, 20)
  | 6, 3 => (4, 21)
  | 6, 4 => (4, 22)
  | 7, 0 => (3, 27)
  | 8, 2 => (2, 4)
  | 8, 4 => (2, 4)
  | 8, 6 => (2, 8)
  | 9, 2 => (3, 52)
  | 9, 4 => (3, 54)
  | 9, 5 => (3, 55)
  | 9, 6 => (3, 56)
  | 9, 8 => (3, 58)
  | 9, 9 => (3, 59)
  | 9, 10 => (3, 60)
  | 9, 11 => (3, 61)
  | 9, 12 => (3, 62)
  | 9, 13 => (3, 63)
  | 9, 14 => (3, 64)
  | 9, 16 => (3, 66)
  | 9, 17 => (3, 67)
  | 9, 18 => (3, 68)
  | 9, 19 => (3, 69)
  | 9, 20 => (3, 70)
  | 9, 21 => (3, 71)
  | 9, 22 => (3, 72)
  | 9, 23 => (3, 73)
  | 9, 24 => (3, 74)
  | 9, 25 => (3, 75)
  | 9, 27 => (3, 77)
  | 9, 28 => (3, 78)
  | 9, 29 => (3, 79)
  | 9, 30 => (3, 80)
  | 9, 31 => (3, 81)
  | 9, 33 => (3, 83)
  | 9, 34 => (3, 84)
  | 9, 35 => (3, 85)
  | 9, 37 => (3, 87)
  | 9, 38 => (3, 88)
  | 10, 0 => (7, 0)
  | 32, _ => (2, 3)
  | 33, _ => (8, 0)
  | 36, _ => (1, 0)
  | 88, _ => (1, 0)
  | _, _ => (0, 0)
def kt (f : Nat) : Nat := if f < 11 then f else if f = 31 then 1002 else if f = 32 then 2003 else if f = 33 then 2999 else if f = 34 then 4001 else if f = 35 then 4000 else if f = 36 then 1001 else if f = 88 then 1001 else 1000
def kl (f : Nat) (i : Int) : Nat := match f with
  | 0 => 7
  | 1 => 4
  | 2 => 4
  | 3 => 5
  | 4 => 10
  | 5 => 4
  | 6 => 6
  | 7 => 2
  | 8 => 7
  | 9 => 43
  | 10 => 3
  | 20 => 5
  | 21 => 5
  | 22 => 5
  | 23 => 5
  | 24 => 5
  | 25 => 20
  | 26 => 20
  | 27 => 20
  | 28 => 20
  | 29 => 20
  | 30 => 20
  | 32 => 20
  | 31 => 1000
  | 33 => (i % 1000).toNat
  | 35 => i.toNat
  | 36 => 1
  | 52 => 1000
  | 54 => 20
  | 55 => 20
  | 56 => 20
  | 58 => 21
  | 59 => 21
  | 60 => 84
  | 61 => 84
  | 62 => 420
  | 63 => 420
  | 64 => 420
  | 66 => 41
  | 67 => 41
  | 68 => 41
  | 69 => 41
  | 70 => 41
  | 71 => 41
  | 72 => 205
  | 73 => 205
  | 74 => 205
  | 75 => 205
  | 77 => 61
  | 78 => 61
  | 79 => 61
  | 80 => 61
  | 81 => 61
  | 83 => 5
  | 84 => 5
  | 85 => 21
  | 87 => 20
  | 88 => 21
  | _ => 0
def ktgt (f : Nat) (i : Int) (j : Nat) (x : Int) : Option (Nat × Int) := match kd f j with
  | (2, g) => if x < 0 then none else some (g, x)
  | (3, g) => some (g, 0)
  | (4, g) => some (g, i)
  | (5, g) => some (g, 1)
  | (6, g) => some (g, 2)
  | (7, _) => if x % 1000 = 0 then some (34, 0) else some (33, x)
  | (8, _) => if x < 0 then none else some (if i < 1000 then 3 else if i < 2000 then 4 else 8, x)
  | (9, g) => some (g, 100 + i)
  | _ => none
def kre (A : ka_A) : Option (Nat × Int) → Value
  | none => .null
  | some q => .ref (A q.1 q.2)
def ke (A : ka_A) (f : Nat) (i : Int) (j : Nat) (x : Int) : Value := match (kd f j).1 with
  | 0 => iv x
  | 1 => lv x
  | _ => kre A (ktgt f i j x)
def kc (A : ka_A) (M : ka_M) (f : Nat) (i : Int) : List Value := (List.range (kl f i)).map (fun j => ke A f i j (M f i j))
def kmu (M : ka_M) (f : Nat) (i j x : Int) : ka_M := fun f' i' j' => if f' = f ∧ i' = i ∧ j' = j then x else M f' i' j'
def KW (h : ka_H) (A : ka_A) (V : ka_V) (M : ka_M) : Prop :=
  (∀ f i f' i', A f i = A f' i' → f = f' ∧ i = i') ∧ (∀ f i, V f i → h (A f i) = some (kt f, kc A M f i)) ∧
  ∀ f i (j : Nat) q, V f i → j < kl f i → ktgt f i j (M f i j) = some q → V q.1 q.2
theorem kc_len (A : ka_A) (M : ka_M) (f : Nat) (i : Int) : (kc A M f i).length = kl f i := by simp [kc]
theorem kc_get (A : ka_A) (M : ka_M) (f : Nat) (i : Int) {j : Nat} (h : j < kl f i) : (kc A M f i)[j]? = some (ke A f i j (M f i j)) := by simp [kc, h]
theorem kup_ne {h : ka_H} {a b k : Nat} {v : Value} (hne : b ≠ a) : kup h a k v b = h b := by
  cases hh : h a with
  | none => simp [kup, hh]
  | some e =>
    obtain ⟨t, vs⟩ := e
    simp [kup, hh, ka_up, hne]
section
variable {h : ka_H} {A : ka_A} {V : ka_V} {M : ka_M} {f : Nat} {i : Int} {j : Nat}
theorem KW.ok (w : KW h A V M) (hv : V f i) (hj : j < kl f i) : kok h (A f i) (kt f) j := ⟨_, w.2.1 f i hv, by rw [kc_len]; exact hj⟩
theorem KW.tg (w : KW h A V M) (hv : V f i) : ktg h (A f i) (kt f) := ⟨_, w.2.1 f i hv⟩
theorem KW.get (w : KW h A V M) (hv : V f i) (hj : j < kl f i) : kg h (A f i) j = ke A f i j (M f i j) := (kg_of (w.2.1 f i hv) (kc_get A M f i hj)).1
theorem KW.geta (w : KW h A V M) (hv : V f i) {x : Int} (h0 : 0 ≤ x) (hj : x.toNat < kl f i) : kg h (A f i) x.toNat = ke A f i x.toNat (M f i x) := by
  rw [w.get hv hj, Int.toNat_of_nonneg h0]
theorem KW.ln (w : KW h A V M) (hv : V f i) : kln h (A f i) = kl f i := by
  unfold kln
  rw [w.2.1 f i hv]
  exact kc_len A M f i
theorem KW.inj (w : KW h A V M) {f' : Nat} {i' : Int} : A f i = A f' i' ↔ f = f' ∧ i = i' := ⟨w.1 f i f' i', fun ⟨a, b⟩ => by rw [a, b]⟩
theorem KW.put (w : KW h A V M) (hv : V f i) (hj : j < kl f i) {x : Int} (hp : ∀ q, ktgt f i j x = some q → V q.1 q.2) : KW (kup h (A f i) j (ke A f i j x)) A V (kmu M f i j x) := by
  refine ⟨w.1, fun f' i' hv' => ?_, fun f' i' j' q hv' hj' hq => ?_⟩
  · by_cases e : f' = f ∧ i' = i
    · obtain ⟨rfl, rfl⟩ := e
      rw [kup_of (w.2.1 f' i' hv')]
      simp only [ka_up, if_true]
      congr 2
      apply List.ext_getElem?
      intro k
      by_cases hk : k < kl f' i'
      · rw [kc_get A _ f' i' hk]
        by_cases hkj : j = k
        · subst hkj
          rw [List.getElem?_set_self (by rw [kc_len]; exact hk)]
          simp [kmu]
        · rw [List.getElem?_set_ne hkj, kc_get A M f' i' hk]
          have : ¬ ((k : Int) = (j : Int)) := by omega
          simp [kmu, this]
      · rw [List.getElem?_eq_none (by rw [List.length_set, kc_len]; omega), List.getElem?_eq_none (by rw [kc_len]; omega)]
    · rw [kup_ne (fun z => e (w.1 _ _ _ _ z)), w.2.1 f' i' hv']
      congr 2
      unfold kc
      congr 1
      funext k
      have : ¬ (f' = f ∧ i' = i ∧ (k : Int) = (j : Int)) := fun z => e ⟨z.1, z.2.1⟩
      simp [kmu, this]
  · unfold kmu at hq
    split at hq
    · rename_i e
      obtain ⟨rfl, rfl, e3⟩ := e
      have : j' = j := by omega
      subst this
      exact hp q hq
    · exact w.2.2 f' i' j' q hv' hj' hq
theorem KW.puta (w : KW h A V M) (hv : V f i) {y : Int} (h0 : 0 ≤ y) (hj : y.toNat < kl f i) {x : Int} (hp : ∀ q, ktgt f i y.toNat x = some q → V q.1 q.2) : KW (kup h (A f i) y.toNat (ke A f i y.toNat x)) A V (kmu M f i y x) := by
  have := w.put hv hj hp
  rwa [Int.toNat_of_nonneg h0] at this
/-- a cell that no role has -/
theorem KW.off (w : KW h A V M) {a : Nat} {e : ka_E} (ha : ∀ f i, V f i → A f i ≠ a) : KW (ka_up h a e) A V M :=
  ⟨w.1, fun f i hv => by simp only [ka_up, if_neg (ha f i hv)]; exact w.2.1 f i hv, w.2.2⟩
theorem KW.offk (w : KW h A V M) {a k : Nat} {v : Value} (ha : ∀ f i, V f i → A f i ≠ a) : KW (kup h a k v) A V M :=
  ⟨w.1, fun f i hv => by rw [kup_ne (ha f i hv)]; exact w.2.1 f i hv, w.2.2⟩
theorem KW.fresh (w : KW h A V M) {a : Nat} (ha : h a = none) : ∀ f i, V f i → A f i ≠ a := fun f i hv z => by
  have := w.2.1 f i hv
  rw [z, ha] at this
  cases this
/-- fewer roles -/
theorem KW.less (w : KW h A V M) {V' : ka_V} (hs : ∀ f i, V' f i → V f i) (hc : ∀ f i (j : Nat) q, V' f i → j < kl f i → ktgt f i j (M f i j) = some q → V' q.1 q.2) : KW h A V' M :=
  ⟨w.1, fun f i hv => w.2.1 f i (hs f i hv), hc⟩
def ksw (a b n : Nat) : Nat := if n = a then b else if n = b then a else n
theorem ksw_inj {a b m n : Nat} (e : ksw a b m = ksw a b n) : m = n := by
  unfold ksw at e
  split at e <;> split at e <;> (try split at e) <;> (try split at e) <;> omega
theorem ke_same {A' : ka_A} {x : Int} (hq : ∀ q, ktgt f i j x = some q → A' q.1 q.2 = A q.1 q.2) : ke A' f i j x = ke A f i j x := by
  unfold ke
  split
  · rfl
  · rfl
  · cases ht : ktgt f i j x with
    | none => rfl
    | some q =>
      show Value.ref (A' q.1 q.2) = Value.ref (A q.1 q.2)
      rw [hq q ht]
theorem kc_same {A' : ka_A} {M' : ka_M} (hm : ∀ j : Nat, j < kl f i → M' f i j = M f i j) (hq : ∀ (j : Nat) q, j < kl f i → ktgt f i j (M f i j) = some q → A' q.1 q.2 = A q.1 q.2) : kc A' M' f i = kc A M f i := by
  unfold kc
  apply List.map_congr_left
  intro j hj
  rw [List.mem_range] at hj
  rw [hm j hj]
  exact ke_same (fun q h => hq j q hj h)
/-- a cell comes under a role that was free: only its own place in A, its own cell in M change -/
theorem KW.new (w : KW h A V M) {a : Nat} {g : Nat → Int} (ha : ∀ f i, V f i → A f i ≠ a) (hn : ¬ V f i) (hc : h a = some (kt f, (List.range (kl f i)).map (fun j => ke A f i j (g j)))) (hp : ∀ (j : Nat) q, j < kl f i → ktgt f i j (g j) = some q → V q.1 q.2) {V' : ka_V} {M' : ka_M} (hV : ∀ f' i', V' f' i' ↔ V f' i' ∨ (f' = f ∧ i' = i))
    (hM1 : ∀ j : Nat, j < kl f i → M' f i j = g j) (hM2 : ∀ f' i' (j : Nat), V f' i' → M' f' i' j = M f' i' j) : ∃ A' : ka_A, A' f i = a ∧ (∀ f' i', V f' i' → A' f' i' = A f' i') ∧ KW h A' V' M' := by
  refine ⟨fun f' i' => ksw a (A f i) (A f' i'), ?_, fun f' i' hv => ?_, ?_⟩
  · show ksw a (A f i) (A f i) = a
    unfold ksw
    split
    · assumption
    · rw [if_pos rfl]
  · show ksw a (A f i) (A f' i') = A f' i'
    unfold ksw
    rw [if_neg (ha f' i' hv), if_neg (fun z => ?_)]
    obtain ⟨rfl, rfl⟩ := w.1 _ _ _ _ z
    exact hn hv
  · have hA : ∀ f' i', V f' i' → ksw a (A f i) (A f' i') = A f' i' := by
      intro f' i' hv
      unfold ksw
      rw [if_neg (ha f' i' hv), if_neg (fun z => ?_)]
      obtain ⟨rfl, rfl⟩ := w.1 _ _ _ _ z
      exact hn hv
    have hA0 : ksw a (A f i) (A f i) = a := by
      unfold ksw
      split
      · assumption
      · rw [if_pos rfl]
    refine ⟨fun f1 i1 f2 i2 e => w.1 _ _ _ _ (ksw_inj e), fun f' i' hv' => ?_, fun f' i' j q hv' hj hq => ?_⟩
    · rcases (hV f' i').mp hv' with hv | ⟨rfl, rfl⟩
      · show h (ksw a (A f i) (A f' i')) = _
        rw [hA f' i' hv, w.2.1 f' i' hv, kc_same (A' := fun f' i' => ksw a (A f i) (A f' i')) (fun j _ => hM2 f' i' j hv) (fun j q hj hq => hA _ _ (w.2.2 f' i' j q hv hj hq))]
      · show h (ksw a (A f' i') (A f' i')) = _
        rw [hA0, hc]
        congr 2
        unfold kc
        apply List.map_congr_left
        intro j hj
        rw [List.mem_range] at hj
        rw [hM1 j hj]
        exact (ke_same (fun q hq => hA _ _ (hp j q hj hq))).symm
    · rcases (hV f' i').mp hv' with hv | ⟨rfl, rfl⟩
      · rw [hM2 f' i' j hv] at hq
        exact (hV _ _).mpr (Or.inl (w.2.2 f' i' j q hv hj hq))
      · rw [hM1 j hj] at hq
        exact (hV _ _).mpr (Or.inl (hp j q hj hq))
end
