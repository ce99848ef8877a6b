/-! An exception that is caught: the handlers' classes may be linked at that moment. -/
def ka_Finds (e : Env) (s : State) (f : JFrame) (a : Addr) (h : Handler) (vm' : Vm) : Prop :=
  ∀ (Q : Handler → Pre) (E : CtlPost) (d : Bool) (acts : List Action), wp (findHandler f a) Q E e d acts s ↔ Q h d acts (s.setVm vm')
theorem ka_go_link {Q : Handler → Pre} {E : CtlPost} {e : Env} {d : Bool} {acts : List Action} {s : State} {f : JFrame} {a : Addr} {x : ExceptionTableEntry} {t : List ExceptionTableEntry} {c : ClassId} {cell : Cell} (hx : covers x f.pc = true) (h0 : x.catchType ≠ 0)
    (hl : s.vm.ClassLinks e.platform f.method.cls x.catchType c) (hcell : s.heap[a]? = some cell) (hobj : ∀ k, cell.vm ≠ .statics k)
    (hk : ∃ k, s.vm.classes[cell.cls]? = some k) (hc : ∃ k, s.vm.classes[c]? = some k) :
    wp (findHandler.go f a (x :: t)) Q E e d acts s ↔
      if s.vm.assignable cell.cls c = true then Q (.found x.handlerPc) d acts (s.setVm (s.vm.noted f.method.cls x.catchType (.cls c)))
      else wp (findHandler.go f a t) Q E e d acts (s.setVm (s.vm.noted f.method.cls x.catchType (.cls c))) := by
  simp only [covers] at hx
  obtain ⟨ha, ht⟩ := (resolveClass_links e.toSetting hl).op (op := VmOp.resolveClass f.method.cls x.catchType) rfl
  have hal : s.vm.Alike (s.vm.noted f.method.cls x.catchType (.cls c)) := (Vm.Alike.refl s.vm).noted _ _ _
  obtain ⟨k1, hk1⟩ := hk
  obtain ⟨k2, hk2⟩ := hc
  obtain ⟨k1', hk1', -⟩ := hal.2.2 _ _ hk1
  obtain ⟨k2', hk2', -⟩ := hal.2.2 _ _ hk2
  cases hfit : s.vm.assignable cell.cls c with
  | true =>
    have hfit' : (s.vm.noted f.method.cls x.catchType (.cls c)).assignable cell.cls c = true := by rw [hal.assignable]; exact hfit
    simp [findHandler.go, hx, h0, ha, ht, hcell, hobj, hk1', hk2', hfit', VmOp.dirties, VmOp.acts]
  | false =>
    have hfit' : (s.vm.noted f.method.cls x.catchType (.cls c)).assignable cell.cls c = false := by rw [hal.assignable]; exact hfit
    simp [findHandler.go, hx, h0, ha, ht, hcell, hobj, hk1', hk2', hfit', VmOp.dirties, VmOp.acts]
/-- an entry that is passed: it doesn't cover the place, or its class isn't the exception's -/
def ka_Pass (s : State) (args : Array Value) (own : String) (pc : Nat) (cX : ClassId) (x : ExceptionTableEntry) : Prop :=
  covers x pc = false ∨ (covers x pc = true ∧ x.catchType ≠ 0 ∧ ∃ (nm : String) (cT : ClassId), (Cond.classLink own x.catchType nm).before args s = true ∧ s.vm.findClass nm = some cT ∧ s.vm.assignable cX cT = false)
theorem ka_search {p : Program} {l : Launch} {e : Env} {R : Room} {s : State} {m : MethodId} {args : Array Value} {below : List Frame} {meth : Method} {c : Code} {T : State} {locs : List Loc} {cells slots : Nat} (X : Stand p l e R s m args below meth c T locs cells slots)
    {own : String} (hown : s.vm.findClass own = some m.cls) {g : JFrame} (hg : g.method = m) {a : Addr} {cell : Cell} (hobj : ∀ k, cell.vm ≠ .statics k) (hkX : ∃ k, s.vm.classes[cell.cls]? = some k) (x : ExceptionTableEntry) (rest : List ExceptionTableEntry)
    (hx : covers x g.pc = true) (h0 : x.catchType ≠ 0) {nm : String} {cT : ClassId} (hlink : (Cond.classLink own x.catchType nm).before args s = true) (hcT : s.vm.findClass nm = some cT) (hfit : s.vm.assignable cell.cls cT = true) :
    ∀ (pre : List ExceptionTableEntry), (∀ z ∈ pre, ka_Pass s args own g.pc cell.cls z) → ∀ (U : State), U.heap[a]? = some cell → s.WarmedH U.vm →
      ∃ vm', s.WarmedH vm' ∧ ∀ (Q : Handler → Pre) (E : CtlPost) (d : Bool) (acts : List Action), wp (findHandler.go g a (pre ++ x :: rest)) Q E e d acts U ↔ Q (.found x.handlerPc) d acts (U.setVm vm') := by
  have hpl : e.platform.magicAccessors = ({} : Platform).magicAccessors := by rw [X.admits.platform]
  subst hg
  have one : ∀ (z : ExceptionTableEntry) (nz : String) (cz : ClassId), (Cond.classLink own z.catchType nz).before args s = true → s.vm.findClass nz = some cz → ∀ U : State, s.WarmedH U.vm →
      U.vm.ClassLinks e.platform g.method.cls z.catchType cz ∧ s.WarmedH (U.vm.noted g.method.cls z.catchType (.cls cz)) ∧ (∃ k, U.vm.classes[cz]? = some k) ∧ ∃ k, U.vm.classes[cell.cls]? = some k := by
    intro z nz cz hl hc U hW
    obtain ⟨c', hc', hcl⟩ := Cond.classLink_spec hown hl e.platform hpl
    cases hc.symm.trans hc'
    obtain ⟨dk, _, _, kt, hd, _, _, _, _, hkt, _, hopen⟩ := hcl.here
    obtain ⟨kt', hkt', -⟩ := hW.alike.2.2 _ _ hkt
    obtain ⟨kx, hkx⟩ := hkX
    obtain ⟨kx', hkx', -⟩ := hW.alike.2.2 _ _ hkx
    exact ⟨hW.classLinks hcl, hW.noted hd hopen (State.rightAt_cls hcl), ⟨kt', hkt'⟩, ⟨kx', hkx'⟩⟩
  intro pre
  induction pre with
  | nil =>
    intro _ U hU hW
    obtain ⟨h1, h2, h3, h4⟩ := one x nm cT hlink hcT U hW
    refine ⟨_, h2, fun Q E d acts => ?_⟩
    rw [List.nil_append, ka_go_link hx h0 h1 hU hobj h4 h3, if_pos (by rw [hW.alike.assignable]; exact hfit)]
  | cons z ps ih =>
    intro hp U hU hW
    rcases hp z List.mem_cons_self with hskip | ⟨hz, hz0, nz, cz, hl, hc, hno⟩
    · obtain ⟨vm', h1, h2⟩ := ih (fun y hy => hp y (List.mem_cons_of_mem _ hy)) U hU hW
      refine ⟨vm', h1, fun Q E d acts => ?_⟩
      rw [List.cons_append, W.findHandler_go_skip hskip]
      exact h2 Q E d acts
    · obtain ⟨h1, h2, h3, h4⟩ := one z nz cz hl hc U hW
      obtain ⟨vm', k1, k2⟩ := ih (fun y hy => hp y (List.mem_cons_of_mem _ hy)) (U.setVm (U.vm.noted g.method.cls z.catchType (.cls cz))) hU h2
      refine ⟨vm', k1, fun Q E d acts => ?_⟩
      rw [List.cons_append, ka_go_link hz hz0 h1 hU hobj h4 h3, if_neg (by rw [hW.alike.assignable, hno]; decide)]
      exact k2 Q E d acts
theorem ka_caught {p : Program} {l : Launch} {e : Env} {R : Room} {s : State} {m : MethodId} {args : Array Value} {below : List Frame} {meth : Method} {c : Code} {T : State} {locs : List Loc} {cells slots : Nat} (X : Stand p l e R s m args below meth c T locs cells slots)
    {own : String} (hown : s.vm.findClass own = some m.cls) {g : JFrame} (hg : g.method = m) {a : Addr} {cell : Cell} (hcell : T.heap[a]? = some cell) (hobj : ∀ k, cell.vm ≠ .statics k) (hkX : ∃ k, s.vm.classes[cell.cls]? = some k) (pre : List ExceptionTableEntry) (x : ExceptionTableEntry) (rest : List ExceptionTableEntry)
    (hsplit : c.exceptionTable.toList = pre ++ x :: rest) (hp : ∀ z ∈ pre, ka_Pass s args own g.pc cell.cls z)
    (hx : covers x g.pc = true) (h0 : x.catchType ≠ 0) {nm : String} {cT : ClassId} (hlink : (Cond.classLink own x.catchType nm).before args s = true) (hcT : s.vm.findClass nm = some cT) (hfit : s.vm.assignable cell.cls cT = true) :
    ∃ vm', Stand p l e R s m args below meth c (T.setVm vm') locs cells slots ∧
      ∀ target, Steps p.tables e below ((T.setVm vm').setTop { g with pc := x.handlerPc, stack := [.ref a] }) target → Steps p.tables e below ((T.setTop g).pushFrame (.throwing a)) target := by
  obtain ⟨vm', h1, h2⟩ := ka_search X hown hg hobj hkX x rest hx h0 hlink hcT hfit pre hp ((T.setTop g).pushFrame (.throwing a)) (by rw [Stand.throwing_heap]; exact hcell) (by rw [Stand.throwing_vm]; exact X.warmed)
  refine ⟨vm', X.noted h1, fun target hrest => ?_⟩
  subst hg
  have hA := X.here
  have hm : ((T.setTop g).pushFrame (.throwing a)).vm.method? g.method = some meth := by rw [Stand.throwing_vm]; exact X.method'
  have hf : ka_Finds e ((T.setTop g).pushFrame (.throwing a)) g a (.found x.handlerPc) vm' := by
    intro Q E d acts
    rw [W.findHandler_eq hm X.code, hsplit]
    exact h2 Q E d acts
  obtain ⟨hgo, hw⟩ := hA.throwing a
  refine Steps.head hgo hw ?_
  have hst : ∀ r : List Frame, (stepThrowing e ((T.setTop g).pushFrame (.throwing a)) a (.java g :: r)).Is ((((T.setTop g).pushFrame (.throwing a)).setVm vm').setFrames (.java { g with pc := x.handlerPc, stack := [.ref a] } :: r)) [] := by
    intro r
    simp only [stepThrowing, searchFrame, vmDo]
    generalize hr : Sem.go _ e false [] ((T.setTop g).pushFrame (.throwing a)) = res
    obtain ⟨as, rfl, ha⟩ := Sem.eq_ok_of hr (a := Handler.found x.handlerPc) (s' := ((T.setTop g).pushFrame (.throwing a)).setVm vm') (acts' := []) (by simp [hf _ _ _ _])
    exact ⟨rfl, ha⟩
  rw [stepThread_throwing (frames_entered hA.top _), (hst _).1]
  obtain ⟨g₀, hg0⟩ := Option.isSome_iff_exists.mp hA.top
  obtain ⟨r, hr⟩ := State.topJava?_eq_some.mp hg0
  have hr' : (T.setVm vm').frames = .java g₀ :: r := hr
  have hcom : ∀ (u : State) (F G : List Frame), ((u.setFrames F).setVm vm').setFrames G = (u.setVm vm').setFrames G := by
    intro u F G
    have h1 : (u.setFrames F).setVm vm' = (u.setVm vm').setFrames F := rfl
    rw [h1, State.setFrames_setFrames]
  rw [State.setTop_of_frames _ hr'] at hrest
  rw [hr, List.tail_cons, State.pushFrame, hcom, State.setTop_of_frames _ hr, hcom]
  exact hrest
