/-! What points where; raw cells. -/
theorem kd_inv (f j : Nat) : kd f j = (0, 0) ∨ kd f j = (1, 0) ∨ (f = 0 ∧ j = 5) ∨ (f = 3 ∧ j = 2) ∨ (f = 6 ∧ j = 1) ∨ (f = 8 ∧ j = 2) ∨ (f = 8 ∧ j = 4) ∨ (f = 8 ∧ j = 6) ∨ f = 32 ∨ f = 33 ∨ (f = 10 ∧ j = 0) ∨ (f = 4 ∧ j = 4) ∨ (f = 4 ∧ j = 5) ∨ (f = 4 ∧ j = 6) ∨ (f = 6 ∧ j = 2) ∨ (f = 6 ∧ j = 3) ∨ (f = 6 ∧ j = 4) ∨ (3 ≤ (kd f j).1 ∧ (kd f j).1 ≤ 6 ∧ (kd f j).1 ≠ 4 ∧ ksta (kd f j).2 = true) ∨ (3 ≤ (kd f j).1 ∧ (kd f j).1 ≤ 6 ∧ (kd f j).1 ≠ 4 ∧ (kd f j).2 = 10) := by
  unfold kd
  split <;> first | decide | simp
/-- the target of a slot, by cases -/
theorem ktgt_inv {f : Nat} {i : Int} {j : Nat} {x : Int} {g : Nat} {y : Int} (h : ktgt f i j x = some (g, y)) (hs : ksta g = false) (h10 : g ≠ 10) :
    (g = 6 ∧ x = y ∧ ((f = 0 ∧ j = 5) ∨ (f = 3 ∧ j = 2) ∨ (f = 6 ∧ j = 1))) ∨ (g = 4 ∧ x = y ∧ f = 8 ∧ (j = 2 ∨ j = 4)) ∨ (g = 8 ∧ x = y ∧ f = 8 ∧ j = 6) ∨ (g = 3 ∧ x = y ∧ f = 32) ∨ (f = 33 ∧ x = y ∧ g = (if i < 1000 then 3 else if i < 2000 then 4 else 8)) ∨ (g = 33 ∧ x = y ∧ f = 10 ∧ j = 0) ∨ (g = 6 ∧ f = 4 ∧ j = 4 ∧ y = 100 + i) ∨ ((g = 23 ∨ g = 24) ∧ f = 4 ∧ y = i) ∨ ((g = 20 ∨ g = 21 ∨ g = 22) ∧ f = 6 ∧ y = i) := by
  rcases kd_inv f j with z | z | ⟨rfl, rfl⟩ | ⟨rfl, rfl⟩ | ⟨rfl, rfl⟩ | ⟨rfl, rfl⟩ | ⟨rfl, rfl⟩ | ⟨rfl, rfl⟩ | rfl | rfl | ⟨rfl, rfl⟩ | ⟨rfl, rfl⟩ | ⟨rfl, rfl⟩ | ⟨rfl, rfl⟩ | ⟨rfl, rfl⟩ | ⟨rfl, rfl⟩ | ⟨rfl, rfl⟩ | ⟨z1, z2, z3, z4⟩ | ⟨z1, z2, z3, z4⟩
  · unfold ktgt at h; rw [z] at h; cases h
  · unfold ktgt at h; rw [z] at h; cases h
  · change (if x < 0 then none else some (6, x)) = some (g, y) at h
    split at h
    · cases h
    · cases h; simp
  · change (if x < 0 then none else some (6, x)) = some (g, y) at h
    split at h
    · cases h
    · cases h; simp
  · change (if x < 0 then none else some (6, x)) = some (g, y) at h
    split at h
    · cases h
    · cases h; simp
  · change (if x < 0 then none else some (4, x)) = some (g, y) at h
    split at h
    · cases h
    · cases h; simp
  · change (if x < 0 then none else some (4, x)) = some (g, y) at h
    split at h
    · cases h
    · cases h; simp
  · change (if x < 0 then none else some (8, x)) = some (g, y) at h
    split at h
    · cases h
    · cases h; simp
  · change (if x < 0 then none else some (3, x)) = some (g, y) at h
    split at h
    · cases h
    · cases h; simp
  · change (if x < 0 then none else some (if i < 1000 then 3 else if i < 2000 then 4 else 8, x)) = some (g, y) at h
    split at h
    · cases h
    · simp only [Option.some.injEq, Prod.mk.injEq] at h
      exact Or.inr (Or.inr (Or.inr (Or.inr (Or.inl ⟨rfl, h.2, h.1.symm⟩))))
  · change (if x % 1000 = 0 then some (34, 0) else some (33, x)) = some (g, y) at h
    split at h
    · cases h; cases hs
    · cases h; simp
  · change some (6, 100 + i) = some (g, y) at h
    cases h; simp
  · change some (23, i) = some (g, y) at h
    cases h; simp
  · change some (24, i) = some (g, y) at h
    cases h; simp
  · change some (20, i) = some (g, y) at h
    cases h; simp
  · change some (21, i) = some (g, y) at h
    cases h; simp
  · change some (22, i) = some (g, y) at h
    cases h; simp
  · exfalso
    unfold ktgt at h
    generalize kd f j = q at *
    obtain ⟨a, b⟩ := q
    dsimp only at z1 z2 z3 z4
    have : a = 3 ∨ a = 5 ∨ a = 6 := by omega
    rcases this with rfl | rfl | rfl <;> (cases h; rw [z4] at hs; cases hs)
  · exfalso
    unfold ktgt at h
    generalize kd f j = q at *
    obtain ⟨a, b⟩ := q
    dsimp only at z1 z2 z3 z4
    have : a = 3 ∨ a = 5 ∨ a = 6 := by omega
    rcases this with rfl | rfl | rfl <;> (cases h; exact h10 z4)
section
variable {J : ka_H} {A : ka_A} {V : ka_V} {C R : ka_M} {i0 : Int} {a b k t : Nat} {e : ka_E} {vs : List Value} {v : Value}
theorem knp_20 {g : Nat} (hg : g = 20 ∨ g = 21 ∨ g = 22) (h6 : ¬ V 6 i0) : knp V C R g i0 := by
  intro f i j hv hj h
  have hs : ksta g = false ∧ g ≠ 10 := by rcases hg with rfl | rfl | rfl <;> exact ⟨rfl, by decide⟩
  rcases ktgt_inv h hs.1 hs.2 with z | z | z | z | ⟨-, -, z⟩ | z | z | z | ⟨z, rfl, rfl⟩
  · omega
  · omega
  · omega
  · omega
  · split at z
    · omega
    · split at z <;> omega
  · omega
  · omega
  · omega
  · exact h6 hv
theorem knp_23 {g : Nat} (hg : g = 23 ∨ g = 24) (h4 : ¬ V 4 i0) : knp V C R g i0 := by
  intro f i j hv hj h
  have hs : ksta g = false ∧ g ≠ 10 := by rcases hg with rfl | rfl <;> exact ⟨rfl, by decide⟩
  rcases ktgt_inv h hs.1 hs.2 with z | z | z | z | ⟨-, -, z⟩ | z | z | ⟨-, rfl, rfl⟩ | z
  · omega
  · omega
  · omega
  · omega
  · split at z
    · omega
    · split at z <;> omega
  · omega
  · omega
  · exact h4 hv
  · omega
theorem knp_6 (h0 : ∀ i, V 0 i → C 0 i 5 ≠ i0) (h3 : ∀ i, V 3 i → C 3 i 2 ≠ i0) (h6 : ∀ i, V 6 i → C 6 i 1 ≠ i0) (h4 : ∀ i, V 4 i → 100 + i ≠ i0) : knp V C R 6 i0 := by
  intro f i j hv hj h
  rcases ktgt_inv h rfl (by decide) with ⟨-, z, ⟨rfl, rfl⟩ | ⟨rfl, rfl⟩ | ⟨rfl, rfl⟩⟩ | z | z | z | ⟨-, -, z⟩ | z | ⟨-, rfl, rfl, z⟩ | z | z
  · exact h0 i hv z
  · exact h3 i hv z
  · exact h6 i hv z
  · omega
  · omega
  · omega
  · split at z
    · omega
    · split at z <;> omega
  · omega
  · exact h4 i hv z.symm
  · omega
  · omega
theorem knp_4 (h8 : ∀ i, V 8 i → C 8 i 2 ≠ i0 ∧ C 8 i 4 ≠ i0) (h33 : ∀ i (j : Nat), V 33 i → 1000 ≤ i → i < 2000 → j < (i % 1000).toNat → C 33 i j ≠ i0) : knp V C R 4 i0 := by
  intro f i j hv hj h
  rcases ktgt_inv h rfl (by decide) with z | ⟨-, z, rfl, rfl | rfl⟩ | z | z | ⟨rfl, y, z⟩ | z | z | z | z
  · omega
  · exact (h8 i hv).1 z
  · exact (h8 i hv).2 z
  · omega
  · omega
  · split at z
    · omega
    · split at z
      · exact h33 i j hv (by omega) (by omega) hj y
      · omega
  · omega
  · omega
  · omega
  · omega
theorem knp_8 (h8 : ∀ i, V 8 i → C 8 i 6 ≠ i0) (h33 : ∀ i (j : Nat), V 33 i → 2000 ≤ i → j < (i % 1000).toNat → C 33 i j ≠ i0) : knp V C R 8 i0 := by
  intro f i j hv hj h
  rcases ktgt_inv h rfl (by decide) with z | z | ⟨-, z, rfl, rfl⟩ | z | ⟨rfl, y, z⟩ | z | z | z | z
  · omega
  · omega
  · exact h8 i hv z
  · omega
  · split at z
    · omega
    · split at z
      · omega
      · exact h33 i j hv (by omega) hj y
  · omega
  · omega
  · omega
  · omega
theorem knp_3 (h32 : ∀ i (j : Nat), V 32 i → j < 20 → C 32 i j ≠ i0) (h33 : ∀ i (j : Nat), V 33 i → i < 1000 → j < (i % 1000).toNat → C 33 i j ≠ i0) : knp V C R 3 i0 := by
  intro f i j hv hj h
  rcases ktgt_inv h rfl (by decide) with z | z | z | ⟨-, z, rfl⟩ | ⟨rfl, y, z⟩ | z | z | z | z
  · omega
  · omega
  · omega
  · exact h32 i j hv hj z
  · split at z
    · exact h33 i j hv (by omega) hj y
    · split at z <;> omega
  · omega
  · omega
  · omega
  · omega
theorem knp_33 (h10 : ∀ i, V 10 i → C 10 i 0 ≠ i0) : knp V C R 33 i0 := by
  intro f i j hv hj h
  rcases ktgt_inv h rfl (by decide) with z | z | z | z | ⟨-, -, z⟩ | ⟨-, z, rfl, rfl⟩ | z | z | z
  · omega
  · omega
  · omega
  · omega
  · split at z
    · omega
    · split at z <;> omega
  · exact h10 i hv z
  · omega
  · omega
  · omega
/-! Raw cells. -/
theorem kup_up : kup (ka_up J a (t, vs)) a k v = ka_up J a (t, vs.set k v) := by
  have e : ka_up J a (t, vs) a = some (t, vs) := if_pos rfl
  rw [kup_of e]
  funext q
  unfold ka_up
  split <;> rfl
theorem kup_upn (h : a ≠ b) : kup (ka_up J b e) a k v = ka_up (kup J a k v) b e := by
  have e1 : ka_up J b e a = J a := if_neg h
  unfold kup
  rw [e1]
  split
  · funext q
    unfold ka_up
    by_cases z : q = a
    · subst z; rw [if_pos rfl, if_neg h, if_pos rfl]
    · rw [if_neg z, if_neg z]
  · rfl
theorem kok_up : kok (ka_up J a (t, vs)) a t k ↔ k < vs.length := by
  have e : ka_up J a (t, vs) a = some (t, vs) := if_pos rfl
  constructor
  · rintro ⟨us, h1, h2⟩
    rw [e] at h1
    cases h1
    exact h2
  · intro h; exact ⟨vs, e, h⟩
theorem kok_upn (h : a ≠ b) : kok (ka_up J b e) a t k ↔ kok J a t k := by
  have e1 : ka_up J b e a = J a := if_neg h
  unfold kok
  rw [e1]
theorem ktg_up : ktg (ka_up J a (t, vs)) a t ↔ True := ⟨fun _ => trivial, fun _ => ⟨vs, if_pos rfl⟩⟩
theorem ktg_upn (h : a ≠ b) : ktg (ka_up J b e) a t ↔ ktg J a t := by
  have e1 : ka_up J b e a = J a := if_neg h
  unfold ktg
  rw [e1]
theorem kup_at : ka_up J a e a = some e := if_pos rfl
theorem kup_atn (h : a ≠ b) : ka_up J b e a = J a := if_neg h
theorem kfresh_ne (h : kHp (ka_up J b e) A V C R a = none) (hb : koff A V b) : a ≠ b := by
  rintro rfl
  rw [kHp_off hb] at h
  unfold ka_up at h
  rw [if_pos rfl] at h
  cases h
theorem kfresh_up (hA : kJ A V) (hb : koff A V b) (h : kHp (ka_up J b e) A V C R a = none) : kHp J A V C R a = none := by
  have hn := kfresh_ne h hb
  have ha : koff A V a := koff_of hA h
  rw [kHp_off ha] at h ⊢
  rwa [kup_atn hn] at h
end
