/-! Calls and throws in the semantics. -/
abbrev ka_SM (l : Launch) (Tw : List Cond) (cl : List vw_C) (D : va_G) (dA dX : Nat → ClassId) (xN : List String) (H0 : Heap) (E0 : Nat) (P : ka_P) (mN : Nat → MethodName) (mB : Nat → ByteArray) (mH : Nat → List (Nat × Nat × Nat × Nat)) : ka_X :=
  ka_Sem l Tw (ka_KK cl D dA dX xN H0 E0) H0.size (ka_WR cl D dA H0) dX P mN mB mH
def ko_move (Tw : List Cond) : Prop := ∀ w ∈ Tw, ∀ (a a' : Array Value) (s U : State), s.WarmedH U.vm → w.before a s = true → w.before a' U = true
def ko_cal (Tw : List Cond) (cl : List vw_C) (P : ka_P) (mN : Nat → MethodName) (mB : Nat → ByteArray) (mH : Nat → List (Nat × Nat × Nat × Nat)) : Prop := ∀ (y i z na : Nat), P.cal y i = some (z, na) →
  Cond.methodLink (mN y).cls i (mN z) ∈ Tw ∧ ka_cw (mN z) (mB z) (P.max z) (P.ret z) (mH z) ∈ Tw ∧ Cond.initialized (mN z).cls ∈ Tw ∧ ((mN z).cls ≠ "java/lang/invoke/MethodHandle" ∧ (mN z).cls ≠ "java/lang/invoke/VarHandle") ∧ plainName (mN z).cls = true ∧ P.max z ≤ 45 ∧
  ((P.rcv z).1 = 0 → Cond.static (mN z) ∈ Tw ∧ (parseMethodDescriptor (mN z).desc).map (fun d => d.parameters.length) = some na) ∧
  ((P.rcv z).1 ≠ 0 → Cond.instanceMethod (mN z) ∈ Tw ∧ (parseMethodDescriptor (mN z).desc).map (fun d => d.parameters.length + 1) = some na) ∧
  ((P.rcv z).1 = 1 → Cond.selects (mN z).cls (mN z) (mN z) ∈ Tw ∧ ∃ r : vw_C, cl[(P.rcv z).2]? = some r ∧ (P.rcv z).2 < 1000 ∧ r.1 = (mN z).cls) ∧
  ((P.rcv z).1 = 2 → (mN z).name = "<init>" ∧ mH z = [] ∧ P.ret z = none)
def ko_hnd (Tw : List Cond) (P : ka_P) (mN : Nat → MethodName) (mH : Nat → List (Nat × Nat × Nat × Nat)) (xN : List String) : Prop := ∀ (y pc k : Nat),
  (P.hnd y pc k = none → ∀ x ∈ mH y, ¬ (x.1 ≤ pc ∧ pc < x.2.1)) ∧
  ∀ hp, P.hnd y pc k = some hp → hp < 65535 → ∃ (pre : List (Nat × Nat × Nat × Nat)) (x : Nat × Nat × Nat × Nat) (rest : List (Nat × Nat × Nat × Nat)), mH y = pre ++ x :: rest ∧
    (∀ w ∈ pre, ¬ (w.1 ≤ pc ∧ pc < w.2.1) ∨ ((w.1 ≤ pc ∧ pc < w.2.1) ∧ w.2.2.2 ≠ 0 ∧ ∃ (j : Nat) (nm : String), j ≠ k ∧ xN[j]? = some nm ∧ Cond.classLink (mN y).cls w.2.2.2 nm ∈ Tw)) ∧
    (x.1 ≤ pc ∧ pc < x.2.1) ∧ x.2.2.2 ≠ 0 ∧ x.2.2.1 = hp ∧ ∃ nm : String, xN[k]? = some nm ∧ Cond.classLink (mN y).cls x.2.2.2 nm ∈ Tw
theorem ka_sz_sl (vs : List Value) : (lg_sl vs).length = ka_sz vs := by
  induction vs with
  | nil => rfl
  | cons v r ih =>
    have h1 : (lg_sl (v :: r)).length = (if v.category = 2 then [Slot.val v, .second] else [.val v]).length + (lg_sl r).length := by simp [lg_sl]
    have h2 : ka_sz (v :: r) = v.category + ka_sz r := by simp [ka_sz]
    rw [h1, h2, ih]
    rcases lv_cat v with hc | hc <;> simp [hc]
theorem ka_sz_rev (vs : List Value) : ka_sz vs.reverse = ka_sz vs := by
  simp [ka_sz]
theorem ka_ent_L (as : List Value) {n : Nat} (h : ka_sz as ≤ n) : ka_L ((lg_sl as ++ List.replicate (n - (lg_sl as).length) Slot.unset).toArray) n (ka_ent as n) := by
  have h0 : (lg_sl as).length ≤ n := by rw [ka_sz_sl]; exact h
  obtain ⟨e1, e2, -⟩ := lv_entry as h0
  have hm : (as.flatMap (fun v => if v.category = 2 then [some v, none] else [some v])) = (lg_sl as).map (fun s => match s with
      | .val v => some v
      | _ => none) := by
    unfold lg_sl
    rw [List.map_flatMap]
    congr 1
    funext v
    rcases lv_cat v with hc | hc <;> simp [hc]
  have hl : (as.flatMap (fun v => if v.category = 2 then [some v, none] else [some v])).length = (lg_sl as).length := by rw [hm]; simp
  refine ⟨by unfold ka_ent; simp only [List.length_append, List.length_replicate, hl]; omega, e1, e2, fun i v hi => ?_⟩
  unfold ka_ent at hi
  simp only at hi
  rw [List.getElem?_append] at hi
  split at hi
  · rename_i hlt
    rw [hm, List.getElem?_map] at hi
    cases hq : (lg_sl as)[i]? with
    | none => simp [hq] at hi
    | some x =>
      rw [hq] at hi
      have hlt' : i < (lg_sl as).length := (List.getElem?_eq_some_iff.mp hq).1
      have : x = .val v := by
        cases x with
        | val w => simp at hi; rw [hi]
        | _ => simp at hi
      rw [List.getElem?_toArray, List.getElem?_append_left hlt', hq, this]
  · rw [List.getElem?_replicate] at hi
    split at hi <;> simp at hi
section
variable {l : Launch} {Tw : List Cond} {cl : List vw_C} {D : va_G} {dA dX : Nat → ClassId} {xN : List String} {H0 : Heap} {E0 : Nat} {P : ka_P} {mN : Nat → MethodName} {mB : Nat → ByteArray} {mH : Nat → List (Nat × Nat × Nat × Nat)}
/-- a callee's contract out of what its first frame says -/
theorem ka_met (hfl : ∀ e : Env, l.admits e → e.platform.stackTraces = false) {d z gc gs : Nat} {as : List Value} {h : ka_H} {P' : ka_Q} (hpl : plainName (mN z).cls = true) (hsz : ka_sz as ≤ P.max z)
    (ih : ka_SM l Tw cl D dA dX xN H0 E0 P mN mB mH (d, (z, 0, ka_ent as (P.max z), []), (h, gc, gs)) P') :
    MetFree l (mN z) (headSpec (ka_cw (mN z) (mB z) (P.max z) (P.ret z) (mH z) :: Tw) { frames := d, cells := gc, slots := gs, locals := d * 64 }) (fun a U => a = as.toArray ∧ ka_KK cl D dA dX xN H0 E0 U ∧ ka_WR cl D dA H0 h U.heap) (fun _ _ _ _ _ => True)
      (fun _ st o t => ka_End H0.size (ka_WR cl D dA H0) dX { frames := d, cells := gc, slots := gs, locals := d * 64 } st P' o t) := by
  refine MetFree.of_bodyS (code := mB z) (maxLocals := P.max z) (ret := P.ret z) hpl ?_ ?_
  · intro args s m hpre hn
    obtain ⟨mk, meth, c, h1, h2, h3, h4, h5, h6, h7, h8, h9⟩ := ka_cw_spec (atoms_spec (ws := ka_cw (mN z) (mB z) (P.max z) (P.ret z) (mH z) :: Tw) hpre _ List.mem_cons_self)
    cases h1.symm.trans hn
    exact ⟨meth, c, h2, h3, h4, h5, h7, h8⟩
  · intro p e s m args below meth c s₁ B hml hP _
    obtain ⟨rfl, hk, hw⟩ := hP
    have hts := atoms_spec (ws := ka_cw (mN z) (mB z) (P.max z) (P.ret z) (mH z) :: Tw) B.pre
    have X₀ : Stand p l e _ s m as.toArray below meth c s₁ [] 0 0 := Stand.of_body B
    have hh0 : s₁.heap = s.heap := by rw [B.state]; rfl
    have hH : c.exceptionTable.toList.map (fun h => (h.startPc, h.endPc, h.handlerPc, h.catchType)) = mH z := by
      obtain ⟨mk, meth', c', h1, h2, h3, h4, h5, h6, h7, h8, h9⟩ := ka_cw_spec (hts _ List.mem_cons_self)
      cases h1.symm.trans B.named
      cases h2.symm.trans B.method
      cases h3.symm.trans X₀.code
      exact h6
    have k := ih p e { frames := d, cells := gc, slots := gs, locals := d * 64 } s m as.toArray below meth c s.heap [] 0 0 _
      ⟨B.exec, B.bytes, B.returns, hml, findClass_of_methodNamed B.named, (name_of_methodNamed B.named B.method).1, fun w hw => hts w (List.mem_cons_of_mem _ hw), B.notSynchronized, hH, hk, hfl e B.admits⟩
      hw (ka_ent_L as hsz) (fun q hq => by cases hq) (Nat.le_refl _) (Nat.le_refl _) (by show 0 + gc ≤ gc; omega) (by show 0 + gs ≤ gs; omega)
    obtain ⟨t, a1, o, b1, b2, b3⟩ := k s₁ hh0 X₀
    rw [lg_entry_eq]
    exact ⟨t, o, a1, b1, b2, b3⟩
end
