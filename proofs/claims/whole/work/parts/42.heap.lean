/-! The heap by families, as one term: roles (f, i) that stand (V), at places A; the program's numbers C, the reference's R; all else is J. -/
def kmx (C R : ka_M) : ka_M := fun f i j => if kra f = true then R f i j else C f i j
/-- the roles lie apart -/
def kJ (A : ka_A) (V : ka_V) : Prop := ∀ f i f' i', V f i → V f' i' → A f i = A f' i' → f = f' ∧ i = i'
noncomputable def kHp (J : ka_H) (A : ka_A) (V : ka_V) (C R : ka_M) : ka_H := fun q =>
  @dite (Option ka_E) (∃ p : Nat × Int, V p.1 p.2 ∧ A p.1 p.2 = q) (Classical.propDecidable _) (fun e => some (kt (Classical.choose e).1, kc A (kmx C R) (Classical.choose e).1 (Classical.choose e).2)) (fun _ => J q)
theorem kmx_r {C R : ka_M} {f : Nat} (h : kra f = true) (i j : Int) : kmx C R f i j = R f i j := if_pos h
theorem kmx_c {C R : ka_M} {f : Nat} (h : kra f = false) (i j : Int) : kmx C R f i j = C f i j := if_neg (by rw [h]; decide)
theorem kmx_mur {C R : ka_M} {f : Nat} (h : kra f = true) (i j x : Int) : kmu (kmx C R) f i j x = kmx C (kmu R f i j x) := by
  funext f' i' j'
  unfold kmu kmx
  by_cases e : f' = f ∧ i' = i ∧ j' = j
  · obtain ⟨rfl, rfl, rfl⟩ := e
    simp [h]
  · simp [e]
theorem kmx_muc {C R : ka_M} {f : Nat} (h : kra f = false) (i j x : Int) : kmu (kmx C R) f i j x = kmx (kmu C f i j x) R := by
  funext f' i' j'
  unfold kmu kmx
  by_cases e : f' = f ∧ i' = i ∧ j' = j
  · obtain ⟨rfl, rfl, rfl⟩ := e
    simp [h]
  · simp [e]
section
variable {J : ka_H} {A : ka_A} {V : ka_V} {C R : ka_M} {f : Nat} {i : Int} {j : Nat} {a : Nat}
theorem kHp_at (hA : kJ A V) (hv : V f i) : kHp J A V C R (A f i) = some (kt f, kc A (kmx C R) f i) := by
  have e : ∃ p : Nat × Int, V p.1 p.2 ∧ A p.1 p.2 = A f i := ⟨(f, i), hv, rfl⟩
  unfold kHp
  rw [dif_pos e]
  obtain ⟨h1, h2⟩ := Classical.choose_spec e
  obtain ⟨e1, e2⟩ := hA _ _ _ _ h1 hv h2
  rw [e1, e2]
theorem kHp_off (ha : ∀ f i, V f i → A f i ≠ a) : kHp J A V C R a = J a := by
  unfold kHp
  rw [dif_neg]
  rintro ⟨p, h1, h2⟩
  exact ha _ _ h1 h2
/-- a place with no role -/
def koff (A : ka_A) (V : ka_V) (a : Nat) : Prop := ∀ f i, V f i → A f i ≠ a
theorem kHp_ok (hA : kJ A V) (hv : V f i) (hj : j < kl f i) : kok (kHp J A V C R) (A f i) (kt f) j := ⟨_, kHp_at hA hv, by rw [kc_len]; exact hj⟩
theorem kHp_tg (hA : kJ A V) (hv : V f i) : ktg (kHp J A V C R) (A f i) (kt f) := ⟨_, kHp_at hA hv⟩
theorem kHp_get (hA : kJ A V) (hv : V f i) (hj : j < kl f i) : kg (kHp J A V C R) (A f i) j = ke A f i j (kmx C R f i j) := (kg_of (kHp_at hA hv) (kc_get A (kmx C R) f i hj)).1
theorem kHp_geta (hA : kJ A V) (hv : V f i) {x : Int} (h0 : 0 ≤ x) (hj : x.toNat < kl f i) : kg (kHp J A V C R) (A f i) x.toNat = ke A f i x.toNat (kmx C R f i x) := by
  rw [kHp_get hA hv hj, Int.toNat_of_nonneg h0]
theorem kHp_ln (hA : kJ A V) (hv : V f i) : kln (kHp J A V C R) (A f i) = kl f i := by
  unfold kln
  rw [kHp_at hA hv]
  exact kc_len A (kmx C R) f i
theorem kJ.inj (hA : kJ A V) {f' : Nat} {i' : Int} (hv : V f i) (hv' : V f' i') : A f i = A f' i' ↔ f = f' ∧ i = i' := ⟨hA f i f' i' hv hv', fun ⟨a, b⟩ => by rw [a, b]⟩
theorem kJ.ref (hA : kJ A V) {i' : Int} (hv : V f i) (hv' : V f i') : Value.ref (A f i) = Value.ref (A f i') ↔ i = i' := by
  rw [Value.ref.injEq, hA.inj hv hv']
  simp
theorem kHp_mem {M : ka_M} (hA : kJ A V) (hv : V f i) (hj : j < kl f i) {C' R' : ka_M} {x : Int} (e : kmx C' R' = kmu (kmx C R) f i j x) : kup (kHp J A V C R) (A f i) j (ke A f i j x) = kHp J A V C' R' := by
  funext q
  by_cases hq : ∃ p : Nat × Int, V p.1 p.2 ∧ A p.1 p.2 = q
  · obtain ⟨⟨f', i'⟩, hv', rfl⟩ := hq
    show kup _ _ _ _ (A f' i') = kHp J A V C' R' (A f' i')
    rw [kHp_at hA hv', e]
    by_cases z : f' = f ∧ i' = i
    · obtain ⟨rfl, rfl⟩ := z
      rw [kup_of (kHp_at hA hv')]
      simp only [ka_up, if_true]
      congr 2
      apply List.ext_getElem?
      intro k
      by_cases hk : k < kl f' i'
      · rw [kc_get A _ f' i' hk]
        by_cases hkj : j = k
        · subst hkj
          rw [List.getElem?_set_self (by rw [kc_len]; exact hk)]
          simp [kmu]
        · rw [List.getElem?_set_ne hkj, kc_get A _ f' i' hk]
          have : ¬ ((k : Int) = (j : Int)) := by omega
          simp [kmu, this]
      · rw [List.getElem?_eq_none (by rw [List.length_set, kc_len]; omega), List.getElem?_eq_none (by rw [kc_len]; omega)]
    · rw [kup_ne (fun y => z (hA _ _ _ _ hv' hv y)), kHp_at hA hv']
      congr 2
      unfold kc
      congr 1
      funext k
      have : ¬ (f' = f ∧ i' = i ∧ (k : Int) = (j : Int)) := fun y => z ⟨y.1, y.2.1⟩
      simp [kmu, this]
  · have ho : ∀ f i, V f i → A f i ≠ q := fun f i hv y => hq ⟨(f, i), hv, y⟩
    rw [kup_ne (fun y => ho f i hv y.symm), kHp_off ho, kHp_off ho]
theorem kHp_putr (hA : kJ A V) (hv : V f i) (hr : kra f = true) (hj : j < kl f i) {x : Int} : kup (kHp J A V C R) (A f i) j (ke A f i j x) = kHp J A V C (kmu R f i j x) := kHp_mem (M := C) hA hv hj (kmx_mur hr i j x).symm
theorem kHp_putc (hA : kJ A V) (hv : V f i) (hr : kra f = false) (hj : j < kl f i) {x : Int} : kup (kHp J A V C R) (A f i) j (ke A f i j x) = kHp J A V (kmu C f i j x) R := kHp_mem (M := C) hA hv hj (kmx_muc hr i j x).symm
theorem kHp_putar (hA : kJ A V) (hv : V f i) (hr : kra f = true) {y : Int} (h0 : 0 ≤ y) (hj : y.toNat < kl f i) {x : Int} : kup (kHp J A V C R) (A f i) y.toNat (ke A f i y.toNat x) = kHp J A V C (kmu R f i y x) := by
  have := kHp_putr (J := J) (C := C) (R := R) (x := x) hA hv hr hj
  rwa [Int.toNat_of_nonneg h0] at this
theorem kHp_putac (hA : kJ A V) (hv : V f i) (hr : kra f = false) {y : Int} (h0 : 0 ≤ y) (hj : y.toNat < kl f i) {x : Int} : kup (kHp J A V C R) (A f i) y.toNat (ke A f i y.toNat x) = kHp J A V (kmu C f i y x) R := by
  have := kHp_putc (J := J) (C := C) (R := R) (x := x) hA hv hr hj
  rwa [Int.toNat_of_nonneg h0] at this
/-- writes beside the roles -/
theorem kHp_upo {e : ka_E} (ha : koff A V a) : ka_up (kHp J A V C R) a e = kHp (ka_up J a e) A V C R := by
  funext q
  by_cases hq : ∃ p : Nat × Int, V p.1 p.2 ∧ A p.1 p.2 = q
  · obtain ⟨⟨f', i'⟩, hv', rfl⟩ := hq
    have hne : A f' i' ≠ a := ha f' i' hv'
    show (if A f' i' = a then some e else kHp J A V C R (A f' i')) = kHp (ka_up J a e) A V C R (A f' i')
    rw [if_neg hne]
    unfold kHp
    have z : ∃ p : Nat × Int, V p.1 p.2 ∧ A p.1 p.2 = A f' i' := ⟨(f', i'), hv', rfl⟩
    rw [dif_pos z, dif_pos z]
  · have ho : ∀ f i, V f i → A f i ≠ q := fun f i hv y => hq ⟨(f, i), hv, y⟩
    rw [kHp_off ho]
    show (if q = a then some e else kHp J A V C R q) = if q = a then some e else J q
    rw [kHp_off ho]
theorem kHp_kupo {k : Nat} {v : Value} (ha : koff A V a) : kup (kHp J A V C R) a k v = kHp (kup J a k v) A V C R := by
  unfold kup
  rw [kHp_off ha]
  split
  · exact kHp_upo ha
  · rfl
theorem kg_off {k : Nat} (ha : koff A V a) : kg (kHp J A V C R) a k = kg J a k := by unfold kg; rw [kHp_off ha]
theorem kok_off {t k : Nat} (ha : koff A V a) : kok (kHp J A V C R) a t k ↔ kok J a t k := by unfold kok; rw [kHp_off ha]
theorem ktg_off {t : Nat} (ha : koff A V a) : ktg (kHp J A V C R) a t ↔ ktg J a t := by unfold ktg; rw [kHp_off ha]
theorem koff_of (hA : kJ A V) (ha : kHp J A V C R a = none) : koff A V a := fun f i hv z => by
  have := kHp_at (J := J) (C := C) (R := R) hA hv
  rw [z, ha] at this
  cases this
/-- no role's pointer leads here -/
def knp (V : ka_V) (C R : ka_M) (f : Nat) (i : Int) : Prop := ∀ f' i' (j : Nat), V f' i' → j < kl f' i' → ktgt f' i' j (kmx C R f' i' j) ≠ some (f, i)
/-- a cell gets a free role -/
theorem kHp_new (hA : kJ A V) (ha : koff A V a) (hn : ¬ V f i) (hp : knp V C R f i) (hr : kra f = false) {g : Int → Int} (hc : J a = some (kt f, (List.range (kl f i)).map (fun j => ke A f i j (g j)))) (hg : ∀ j : Nat, j < kl f i → ktgt f i j (g j) ≠ some (f, i)) {V' : ka_V} (hV : ∀ f' i', V' f' i' ↔ V f' i' ∨ (f' = f ∧ i' = i)) :
    ∃ A' : ka_A, A' f i = a ∧ (∀ f' i', ¬ (f' = f ∧ i' = i) → A' f' i' = A f' i') ∧ kJ A' V' ∧ kHp J A V C R = kHp J A' V' (fun f' i' j' => if f' = f ∧ i' = i then g j' else C f' i' j') R := by
  refine ⟨fun f' i' => if f' = f ∧ i' = i then a else A f' i', by simp, fun f' i' h => by simp [h], ?_, ?_⟩
  · intro f1 i1 f2 i2 h1 h2 e
    dsimp only at e
    by_cases z1 : f1 = f ∧ i1 = i
    · by_cases z2 : f2 = f ∧ i2 = i
      · exact ⟨z1.1.trans z2.1.symm, z1.2.trans z2.2.symm⟩
      · rw [if_pos z1, if_neg z2] at e
        exact absurd e.symm (ha _ _ (((hV _ _).mp h2).resolve_right z2))
    · by_cases z2 : f2 = f ∧ i2 = i
      · rw [if_neg z1, if_pos z2] at e
        exact absurd e (ha _ _ (((hV _ _).mp h1).resolve_right z1))
      · rw [if_neg z1, if_neg z2] at e
        exact hA _ _ _ _ (((hV _ _).mp h1).resolve_right z1) (((hV _ _).mp h2).resolve_right z2) e
  · have hA' : kJ (fun f' i' => if f' = f ∧ i' = i then a else A f' i') V' := by
      intro f1 i1 f2 i2 h1 h2 e
      dsimp only at e
      by_cases z1 : f1 = f ∧ i1 = i
      · by_cases z2 : f2 = f ∧ i2 = i
        · exact ⟨z1.1.trans z2.1.symm, z1.2.trans z2.2.symm⟩
        · rw [if_pos z1, if_neg z2] at e
          exact absurd e.symm (ha _ _ (((hV _ _).mp h2).resolve_right z2))
      · by_cases z2 : f2 = f ∧ i2 = i
        · rw [if_neg z1, if_pos z2] at e
          exact absurd e (ha _ _ (((hV _ _).mp h1).resolve_right z1))
        · rw [if_neg z1, if_neg z2] at e
          exact hA _ _ _ _ (((hV _ _).mp h1).resolve_right z1) (((hV _ _).mp h2).resolve_right z2) e
    funext q
    by_cases hqa : q = a
    · subst hqa
      rw [kHp_off ha, hc]
      have hv0 : V' f i := (hV f i).mpr (Or.inr ⟨rfl, rfl⟩)
      have e0 : (fun f' i' => if f' = f ∧ i' = i then q else A f' i') f i = q := by simp
      have := kHp_at (J := J) (C := fun f' i' j' => if f' = f ∧ i' = i then g j' else C f' i' j') (R := R) hA' hv0
      rw [if_pos ⟨rfl, rfl⟩] at this
      rw [this]
      congr 2
      unfold kc
      apply List.map_congr_left
      intro k hk
      rw [List.mem_range] at hk
      rw [kmx_c hr]
      simp only [and_self, if_true]
      refine (ke_same (fun q' hq' => ?_)).symm
      have hne : ¬ (q'.1 = f ∧ q'.2 = i) := fun z => hg k hk (by rw [hq', ← z.1, ← z.2])
      simp [hne]
    · by_cases hq : ∃ p : Nat × Int, V p.1 p.2 ∧ A p.1 p.2 = q
      · obtain ⟨⟨f', i'⟩, hv', rfl⟩ := hq
        have hne : ¬ (f' = f ∧ i' = i) := fun z => hn (z.1 ▸ z.2 ▸ hv')
        have e0 : (fun f' i' => if f' = f ∧ i' = i then a else A f' i') f' i' = A f' i' := by simp [hne]
        have := kHp_at (J := J) (C := fun f' i' j' => if f' = f ∧ i' = i then g j' else C f' i' j') (R := R) hA' ((hV f' i').mpr (Or.inl hv'))
        rw [if_neg hne] at this
        show kHp J A V C R (A f' i') = _
        rw [kHp_at hA hv', this]
        have hm : ∀ k : Int, kmx (fun f' i' j' => if f' = f ∧ i' = i then g j' else C f' i' j') R f' i' k = kmx C R f' i' k := by
          intro k
          unfold kmx
          simp [hne]
        rw [kc_same (A' := fun f' i' => if f' = f ∧ i' = i then a else A f' i') (fun k _ => hm k) (fun k q' hk hq' => ?_)]
        have hne' : ¬ (q'.1 = f ∧ q'.2 = i) := fun z => hp f' i' k hv' hk (by rw [hq', ← z.1, ← z.2])
        simp [hne']
      · have ho : ∀ f i, V f i → A f i ≠ q := fun f i hv y => hq ⟨(f, i), hv, y⟩
        rw [kHp_off ho, kHp_off]
        intro f' i' hv' e
        by_cases z : f' = f ∧ i' = i
        · rw [if_pos z] at e
          exact hqa e.symm
        · rw [if_neg z] at e
          exact ho _ _ (((hV _ _).mp hv').resolve_right z) e
/-- fewer roles -/
theorem kHp_less (hA : kJ A V) {V' : ka_V} (hs : ∀ f i, V' f i → V f i) : kHp J A V C R = kHp (kHp J A V C R) A V' C R := by
  have hA' : kJ A V' := fun f i f' i' h1 h2 e => hA f i f' i' (hs _ _ h1) (hs _ _ h2) e
  funext q
  by_cases hq : ∃ p : Nat × Int, V' p.1 p.2 ∧ A p.1 p.2 = q
  · obtain ⟨⟨f', i'⟩, hv', rfl⟩ := hq
    show kHp J A V C R (A f' i') = kHp (kHp J A V C R) A V' C R (A f' i')
    rw [kHp_at hA (hs _ _ hv'), kHp_at hA' hv']
  · have ho : ∀ f i, V' f i → A f i ≠ q := fun f i hv y => hq ⟨(f, i), hv, y⟩
    exact (kHp_off (J := kHp J A V C R) ho).symm
end
section
variable {M : ka_M} {f f' : Nat} {i i' j j' x : Int}
theorem kmu_eq : kmu M f i j x f i j = x := if_pos ⟨rfl, rfl, rfl⟩
theorem kmu_f (h : f' ≠ f) : kmu M f i j x f' i' j' = M f' i' j' := if_neg (fun z => h z.1)
theorem kmu_i (h : i' ≠ i) : kmu M f i j x f' i' j' = M f' i' j' := if_neg (fun z => h z.2.1)
theorem kmu_j (h : j' ≠ j) : kmu M f i j x f' i' j' = M f' i' j' := if_neg (fun z => h z.2.2)
end
