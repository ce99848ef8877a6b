/-! A call, whole. -/
section
variable {p : Program} {l : Launch} {e : Env} {R : Room} {s : State} {m : MethodId} {args : Array Value} {below : List Frame} {meth : Method} {c : Code} {T : State} {locs : List Loc} {cells slots : Nat}
/-- the invoking instruction: linked, the callee found -/
theorem ka_entV (X : Stand p l e R s m args below meth c T locs cells slots) (hexec : p.tables.exec = Jvm.exec) {own C : String} {index : Nat} {y : MethodName} {mk : MethodId} {methM : Method} (hown : s.vm.findClass own = some m.cls) (hlink : (Cond.methodLink own index y).before args s = true) (hinst : (Cond.instanceMethod y).before args s = true) (hsel : (Cond.selects C y y).before args s = true)
    (hnamed : s.methodNamed? y = some mk) (hmethM : s.vm.method? mk = some methM) (hy : y.cls ≠ "java/lang/invoke/MethodHandle" ∧ y.cls ≠ "java/lang/invoke/VarHandle") {b : Addr} {cellB : Cell} (hcell : T.heap[b]? = some cellB) (hobj : cellB.vm.isStatics = false) (hcls : s.vm.findClass C = some cellB.cls)
    {g : JFrame} (hg : g.method = m) {argsL rest : List Value} (hlen : argsL.length = methM.sig.parameters.length) (hstack : g.stack = argsL.reverse ++ .ref b :: rest) (hdg : decode c.code g.pc = .ok (.invokevirtual index, 3)) :
    ∃ vm₁ : Vm, s.WarmedH vm₁ ∧ ∀ target, (∀ acts, Steps p.tables e below (doInvoke e ((T.setVm vm₁).setTop { g with stack := rest }) acts mk (Value.ref b :: argsL).toArray).1 target) → Steps p.tables e below (T.setTop g) target := by
  obtain ⟨mk', methM', hnamed', hmethM', hstM, habM⟩ := Cond.instanceMethod_spec hinst
  cases hnamed.symm.trans hnamed'
  cases hmethM.symm.trans hmethM'
  obtain ⟨c2, r2, m2, q1, q2, q3, q4, kP, hkP, hkPi⟩ := Cond.selects_spec hsel
  cases hcls.symm.trans q1
  cases (State.methodFound?_of_named hnamed hy).symm.trans q2
  cases hnamed.symm.trans q3
  have hselP : selectMethod e.platform s.vm cellB.cls mk = .method mk := by rw [Launch.admits_selectMethod X.admits]; exact q4
  obtain ⟨vm₁, X₁, hstep₁⟩ := X.invokevirtual hexec hown hlink hnamed hmethM hstM hkP hkPi hy (a := b) (cell := cellB) hcell
    (fun z h => by rw [h] at hobj; cases hobj) hselP hmethM habM hkP hkPi (g := g) hg (argsL := argsL) (rest := rest) hlen hstack hdg
  exact ⟨vm₁, X₁.warmed, hstep₁⟩
theorem ka_entS (X : Stand p l e R s m args below meth c T locs cells slots) (hexec : p.tables.exec = Jvm.exec) {own : String} {index : Nat} {y : MethodName} {mk : MethodId} {methM : Method} (hown : s.vm.findClass own = some m.cls) (hlink : (Cond.methodLink own index y).before args s = true) (hstat : (Cond.static y).before args s = true) (hinit : (Cond.initialized y.cls).before args s = true)
    (hnamed : s.methodNamed? y = some mk) (hmethM : s.vm.method? mk = some methM) (hy : y.cls ≠ "java/lang/invoke/MethodHandle" ∧ y.cls ≠ "java/lang/invoke/VarHandle")
    {g : JFrame} (hg : g.method = m) {argsL rest : List Value} (hlen : argsL.length = methM.sig.parameters.length) (hstack : g.stack = argsL.reverse ++ rest) (hdg : decode c.code g.pc = .ok (.invokestatic index, 3)) :
    ∃ vm₁ : Vm, s.WarmedH vm₁ ∧ ∀ target, (∀ acts, Steps p.tables e below (doInvoke e ((T.setVm vm₁).setTop { g with stack := rest }) acts mk argsL.toArray).1 target) → Steps p.tables e below (T.setTop g) target := by
  have hstatic : methM.isStatic = true := Cond.static_spec hnamed hmethM hstat
  obtain ⟨kP, hkP, -⟩ := className_of_methodNamed hnamed
  have hinitP : kP.init = .initialized := Cond.initialized_spec (findClass_of_methodNamed hnamed) hkP hinit
  obtain ⟨vm₁, X₁, hstep₁⟩ := X.invokestatic hexec hown hlink hnamed hmethM hstatic hkP hinitP hy (g := g) hg (argsL := argsL) (rest := rest) hlen hstack hdg
  exact ⟨vm₁, X₁.warmed, hstep₁⟩
theorem ka_entI (X : Stand p l e R s m args below meth c T locs cells slots) (hexec : p.tables.exec = Jvm.exec) {own : String} {index : Nat} {y : MethodName} {mk : MethodId} {bytes : ByteArray} {maxL : Nat} (hown : s.vm.findClass own = some m.cls) (hlink : (Cond.methodLink own index y).before args s = true) (hinst : (Cond.instanceMethod y).before args s = true) (hy1 : y.name = "<init>") (hcode : (Cond.code y bytes maxL none).before args s = true)
    (hnamed : s.methodNamed? y = some mk) (hy : y.cls ≠ "java/lang/invoke/MethodHandle" ∧ y.cls ≠ "java/lang/invoke/VarHandle") {b : Addr}
    {g : JFrame} (hg : g.method = m) {argsL rest : List Value} (hlen : ∀ sig, parseMethodDescriptor y.desc = some sig → argsL.length = sig.parameters.length) (hstack : g.stack = argsL.reverse ++ .ref b :: rest) (hdg : decode c.code g.pc = .ok (.invokespecial index, 3)) :
    ∃ vm₁ : Vm, s.WarmedH vm₁ ∧ ∀ target, (∀ acts, Steps p.tables e below (doInvoke e ((T.setVm vm₁).setTop { g with stack := rest }) acts mk (Value.ref b :: argsL).toArray).1 target) → Steps p.tables e below (T.setTop g) target := by
  subst hg
  have hpl : e.platform.magicAccessors = ({} : Platform).magicAccessors := by rw [X.admits.platform]
  obtain ⟨mk', methM, cM, kP, vm₁, hnamed', hmethM, hcodeM, -, hlocalsM, -, hkP, -, hW₁, hstep₁⟩ := Steps.initColdArgs (e := e) X.here hexec X.warmed hpl hown hy1 hy hlink hinst hcode (f := g) rfl hlen hstack hdg
  cases hnamed.symm.trans hnamed'
  exact ⟨vm₁, hW₁, hstep₁⟩
end
section
variable {l : Launch} {Tw : List Cond} {cl : List vw_C} {D : va_G} {dA dX : Nat → ClassId} {xN : List String} {H0 : Heap} {E0 : Nat} {P : ka_P} {mN : Nat → MethodName} {mB : Nat → ByteArray} {mH : Nat → List (Nat × Nat × Nat × Nat)}
variable {p : Program} {e : Env} {R : Room} {s : State} {m : MethodId} {args : Array Value} {below : List Frame} {meth : Method} {cd : Code} {H : Heap} {locs : List Loc} {cells slots : Nat}
set_option maxHeartbeats 4000000 in
theorem ka_callW (hfl : ∀ e : Env, l.admits e → e.platform.stackTraces = false) (om : ko_move Tw) (oc : ko_cal Tw cl P mN mB mH) (oh : ko_hnd Tw P mN mH xN)
    {kd d y pc i z na : Nat} {ls : List (Option Value)} {st : List Value} {h : ka_H} {gc gs : Nat} {Q : ka_Q} {als : Array Slot} {ig : Instr} (hcal : P.cal y i = some (z, na))
    (hig : (kd = 0 ∧ ig = .invokestatic i) ∨ (kd = 1 ∧ ig = .invokevirtual i) ∨ (kd = 2 ∧ ig = .invokespecial i)) (hdec : decode (mB y) pc = .ok (ig, 3))
    (hh : ka_Here Tw (ka_KK cl D dA dX xN H0 E0) P mN mB mH y p e s m args meth cd) (hW : ka_WR cl D dA H0 h H) (hL : ka_L als (P.max y) ls) (hlc : ∀ q ∈ locs, H0.size ≤ q.base) (hd : d ≤ R.frames) (hlo : d * 64 ≤ R.locals) (hcc : cells + gc ≤ R.cells) (hss : slots + gs ≤ R.slots)
    (q : ka_call P kd d y pc 3 z na ls (h, gc, gs) st Q (fun pc ls st s => ka_SM l Tw cl D dA dX xN H0 E0 P mN mB mH (d, (y, pc, ls, st), s) Q) (fun d z as s P' => ka_SM l Tw cl D dA dX xN H0 E0 P mN mB mH (d, (z, 0, ka_ent as (P.max z), []), s) P')) :
    W p l e R s m args below meth cd H locs cells slots (ka_Z H0.size (ka_WR cl D dA H0) dX R s Q below) (F0 m pc als st) := by
  obtain ⟨q1, q2, q3, q4, q5, q6, P', q7, q8, q9⟩ := q
  obtain ⟨hx, hb, hr, hml, hown, hname, hts, hlk, hHt, hK, htr⟩ := id hh
  obtain ⟨w1, w2, w3, w4, w5, w6, w7, w8, w9, w10⟩ := oc _ _ _ _ hcal
  obtain ⟨mk, methM, cM, n1, n2, n3, n4, n5, n6, n7, n8, n9⟩ := ka_cw_spec (hts _ w2)
  intro T hT X
  have hst : st = ((st.take na).reverse).reverse ++ st.drop na := by rw [List.reverse_reverse, List.take_append_drop]
  have htl : (st.take na).reverse.length = na := by rw [List.length_reverse, List.length_take]; omega
  have ent : ∃ vm₁ : Vm, s.WarmedH vm₁ ∧ ∀ target, (∀ acts, Steps p.tables e below (doInvoke e ((T.setVm vm₁).setTop { (F0 m pc als st) with stack := st.drop na }) acts mk (st.take na).reverse.toArray).1 target) → Steps p.tables e below (T.setTop (F0 m pc als st)) target := by
    rcases hig with ⟨rfl, rfl⟩ | ⟨rfl, rfl⟩ | ⟨rfl, rfl⟩
    · obtain ⟨v1, v2⟩ := w7 q5
      refine ka_entS X hx hown (hts _ w1) (hts _ v1) (hts _ w3) n1 n2 w4 rfl ?_ hst (by rw [hb]; exact hdec)
      rw [n9] at v2
      rw [htl]
      exact (Option.some.inj v2).symm
    · obtain ⟨a, r, vs, a1, a2⟩ := q6.resolve_left (by decide)
      obtain ⟨v1, v2⟩ := w8 (by rw [q5]; decide)
      obtain ⟨u1, rr, u2, u3, u4⟩ := w9 q5
      obtain ⟨r', r1, r2, ⟨cv, c1, c2, c3, c4⟩, r4⟩ := hW.obj a2 u3
      have hKn := hK.1.1 _ _ u2
      rw [a1]
      refine ka_entV X hx hown (hts _ w1) (hts _ v1) (hts _ u1) n1 n2 w4 (by rw [hT]; exact c1) (by rw [c3]; rfl) (by rw [c2, ← u4]; exact hKn.2.1) rfl ?_ ?_ (by rw [hb]; exact hdec)
      · rw [n9] at v2
        have h1 : (st.take na).reverse.length = r.length + 1 := by rw [a1]; rfl
        have h2 := Option.some.inj v2
        simp at h2
        omega
      · have h2 := hst
        rw [a1, List.reverse_cons, List.append_assoc] at h2
        exact h2
    · obtain ⟨a, r, vs, a1, a2⟩ := q6.resolve_left (by decide)
      obtain ⟨v1, v2⟩ := w8 (by rw [q5]; decide)
      obtain ⟨u1, u2, u3⟩ := w10 q5
      rw [a1]
      have hcode := hts _ w2
      rw [u2, u3] at hcode
      refine ka_entI X hx hown (hts _ w1) (hts _ v1) u1 (bytes := mB z) (maxL := P.max z) hcode n1 w4 rfl ?_ ?_ (by rw [hb]; exact hdec)
      · intro sig hs
        rw [hs] at v2
        have h1 : (st.take na).reverse.length = r.length + 1 := by rw [a1]; rfl
        have h2 := Option.some.inj v2
        simp at h2
        omega
      · have h2 := hst
        rw [a1, List.reverse_cons, List.append_assoc] at h2
        exact h2
  obtain ⟨vm₁, hW₁, hstep⟩ := ent
  have X₁ := X.noted hW₁
  have hmet := ka_met (mN := mN) (mB := mB) (mH := mH) (d := d - 1) hfl w5 (by rw [ka_sz_rev]; exact q4) q7
  have hal := hW₁.alike
  have hmY : (T.setVm vm₁).vm.method? mk = some methM := by show vm₁.method? mk = _; rw [hal.method?]; exact n2
  obtain ⟨o, t, hq, hj⟩ := ka_join X₁ (g := { (F0 m pc als st) with stack := st.drop na }) rfl (by rw [hml]; exact hL.2.1) (by rw [hb]; exact hdec) (X₁.named n1) hmet (a := (st.take na).reverse.toArray) hmY n3 (om _ w3 _ _ _ _ hW₁ (hts _ w3))
    (atoms_intro fun w hw => by
      rcases List.mem_cons.mp hw with rfl | hw
      · exact om _ w2 _ _ _ _ hW₁ (hts _ w2)
      · exact om _ hw _ _ _ _ hW₁ (hts _ hw))
    (by show d - 1 + 1 ≤ R.frames; omega) (by
      rw [n5]
      show 2 * 0 + ka_sz (st.drop na) + (P.max z + 11) + (d - 1) * 64 ≤ R.locals
      have h64 : (d - 1) * 64 + 64 ≤ d * 64 := by omega
      omega) hcc hss ⟨rfl, ka_KK.moved (u := s) hal (by show ka_HB H0 T.heap; rw [hT]; exact hW.1) hK, by show ka_WR cl D dA H0 h T.heap; rw [hT]; exact hW⟩
  obtain ⟨L, k, n, o', h', gc', gs', x1, x2, x3, x4, x5, x6, x7, x8⟩ := hq
  obtain ⟨T', e1, X', hret, hthr⟩ := hj L k n x1 x2
  have hlc' : ∀ q ∈ locs ++ L, H0.size ≤ q.base := fun q hq => (List.mem_append.mp hq).elim (hlc q) (x3 q)
  have x6' : k + gc' ≤ gc := x6
  have x7' : n + gs' ≤ gs := x7
  cases o with
  | returned v =>
    cases o' with
    | inr k' => exact x4.elim
    | inl v' =>
      have hv : v = v' := x4
      subst hv
      obtain ⟨u, a1, b1⟩ := q8 v _ x8 p e R s m args below meth cd t.heap (locs ++ L) (cells + k) (slots + n) als hh x5 hL hlc' hd hlo (by show cells + k + gc' ≤ _; omega) (by show slots + n + gs' ≤ _; omega) T' e1 X'
      exact ⟨u, hstep u (fun acts => by rw [doInvoke_state]; exact (hret v rfl).trans a1), b1⟩
  | threw x =>
    cases o' with
    | inl v' => exact x4.elim
    | inr k' =>
      obtain ⟨ce, ce1, ce2, ce3⟩ := x4
      have z9 := q9 k' _ x8
      have hHl : ∀ {P1 : Nat × Nat × Nat × Nat → Prop}, (∀ w ∈ mH y, P1 w) → ∀ w ∈ cd.exceptionTable.toList, P1 (w.startPc, w.endPc, w.handlerPc, w.catchType) := fun hp w hw => hp _ (by rw [← hHt]; exact List.mem_map.mpr ⟨w, hw, rfl⟩)
      split at z9
      · rename_i hn
        have hout : ∀ w ∈ cd.exceptionTable.toList, covers w pc = false := by
          intro w hw
          have := hHl ((oh y pc k').1 hn) w hw
          simp only [covers]
          rw [Bool.and_eq_false_iff, decide_eq_false_iff_not, decide_eq_false_iff_not]
          by_cases h1 : w.startPc ≤ pc
          · exact Or.inr (fun h2 => this ⟨h1, h2⟩)
          · exact Or.inl h1
        obtain ⟨k1, k2, k3, k4, k5⟩ := X'.leaveThrown x (g := { (F0 m pc als st) with stack := st.drop na }) rfl rfl rfl hout
        refine ⟨_, hstep _ (fun acts => by rw [doInvoke_state]; exact (hthr x rfl).trans k1), .threw x, k2, k3, locs ++ L, cells + k, slots + n, .inr k', h', gc', gs', k4, k5, hlc', ⟨ce, by show T'.heap[x]? = _; rw [e1]; exact ce1, ce2, ce3⟩, by show ka_WR cl D dA H0 h' T'.heap; rw [e1]; exact x5, by omega, by omega, z9⟩
      · rename_i hp hn
        obtain ⟨pre, xx, rest, s1, s2, s3, s4, s5, nm, s6, s7⟩ := (oh y pc k').2 hp hn z9.1
        rw [s1] at hHt
        obtain ⟨preE, tailE, t1, t2, t3⟩ := List.map_eq_append_iff.mp hHt
        obtain ⟨xE, restE, t4, t5, t6⟩ := List.map_eq_cons_iff.mp t3
        rw [t4] at t1
        have hcov : ∀ w : ExceptionTableEntry, covers w pc = decide (w.startPc ≤ pc ∧ pc < w.endPc) := fun w => by simp [covers]
        have hcX : s.vm.findClass nm = some (dX k') := hK.2.2.1 k' nm s6
        have hasg : s.vm.assignable ce.cls (dX k') = true := by rw [ce2, hK.2.2.2.1 k' k' nm nm s6 s6]; simp
        obtain ⟨vm', Y, hc⟩ := ka_caught X' hown (g := { (F0 m pc als st) with stack := st.drop na }) rfl (a := x) (cell := ce) (by rw [e1]; exact ce1) (fun k z => by rw [ce3] at z; cases z) (by rw [ce2]; obtain ⟨kk, hkk, -⟩ := Vm.findClass_spec hcX; exact ⟨kk, hkk⟩) preE xE restE t1
          (fun w hw => by
            have hm : (w.startPc, w.endPc, w.handlerPc, w.catchType) ∈ pre := by rw [← t2]; exact List.mem_map.mpr ⟨w, hw, rfl⟩
            rcases s2 _ hm with hno | ⟨hy, hz, j, nj, hj1, hj2, hj3⟩
            · exact Or.inl (by rw [hcov]; exact decide_eq_false hno)
            · refine Or.inr ⟨by rw [hcov]; exact decide_eq_true hy, hz, nj, dX j, hts _ hj3, hK.2.2.1 j nj hj2, ?_⟩
              rw [ce2, hK.2.2.2.1 k' j nm nj s6 hj2]
              exact decide_eq_false (fun z => hj1 z.symm))
          (by rw [hcov]; exact decide_eq_true (by rw [← t5] at s3; exact s3)) (by rw [← t5] at s4; exact s4) (nm := nm) (by rw [← t5] at s7; exact hts _ s7) hcX hasg
        have hhp : xE.handlerPc = hp := by rw [← t5] at s5; exact s5
        obtain ⟨u, a1, b1⟩ := z9.2 x p e R s m args below meth cd t.heap (locs ++ L) (cells + k) (slots + n) als hh x5 hL hlc' hd hlo (by show cells + k + gc' ≤ _; omega) (by show slots + n + gs' ≤ _; omega) (T'.setVm vm') e1 Y
        have a3 := hc u (by rw [hhp]; exact a1)
        exact ⟨u, hstep u (fun acts => by rw [doInvoke_state]; exact (hthr x rfl).trans a3), b1⟩
end
