/-! What the abstract machine's frames say of the machine itself. -/
/-- how many bytes an instruction of ours has (0: it says so itself) -/
def ka_len : Instr → Nat
  | .bipush _ | .ldc _ | .iload _ | .lload _ | .aload _ | .istore _ | .lstore _ | .astore _ | .newarray _ => 2
  | .sipush _ | .ldc_w _ | .ldc2_w _ | .iinc _ _ | .goto _ | .ifCond _ _ | .if_icmp _ _ | .if_acmp _ _ | .ifnull _ | .ifnonnull _ | .getstatic _ | .getfield _ | .putfield _ | .new _ | .anewarray _ | .checkcast _ | .invokevirtual _ | .invokespecial _ | .invokestatic _ => 3
  | .tableswitch _ _ _ _ | .lookupswitch _ _ => 0
  | _ => 1
/-- the machine's locals hold the list's -/
def ka_L (als : Array Slot) (nL : Nat) (ls : List (Option Value)) : Prop := ls.length = nL ∧ als.size = nL ∧ lv_wf als ∧ ∀ (i : Nat) (v : Value), ls[i]? = some (some v) → als[i]? = some (.val v)
def ka_al (ls : List (Option Value)) : List (Nat × Value) := (List.range ls.length).filterMap (fun i => match ls[i]? with
  | some (some v) => some (i, v)
  | _ => none)
theorem ka_al_mem {ls : List (Option Value)} {i : Nat} {v : Value} : (i, v) ∈ ka_al ls ↔ ls[i]? = some (some v) := by
  unfold ka_al
  rw [List.mem_filterMap]
  constructor
  · rintro ⟨j, -, hj⟩
    split at hj
    · rename_i w hw
      cases hj
      exact hw
    · cases hj
  · intro h
    refine ⟨i, List.mem_range.mpr (List.getElem?_eq_some_iff.mp h).1, ?_⟩
    rw [h]
theorem ka_L.has {als : Array Slot} {nL : Nat} {ls : List (Option Value)} (h : ka_L als nL ls) : lv_has als nL (ka_al ls) := ⟨h.2.1, h.2.2.1, fun q hq => h.2.2.2 q.1 q.2 (ka_al_mem.mp hq)⟩
theorem ka_ok1_spec {ls : List (Option Value)} {i j : Nat} {v : Value} (h : ka_ok1 ls i = true) (hj : ls[j]? = some (some v)) (hi : j + 1 = i) : v.category = 1 := by
  subst hi
  simp only [ka_ok1, hj] at h
  simpa using h
theorem ka_L.set1 {als : Array Slot} {nL : Nat} {ls : List (Option Value)} {i : Nat} {v : Value} {lv : List (Nat × Value)} (h0 : ls.length = nL) (hok : ka_ok1 ls i = true) (he : (i, v) :: (ka_al ls).filter (fun q => !(q.1 == i) && !(q.1 + 1 == i && q.2.category == 2)) = lv) (h : lv_has als nL lv) : ka_L als nL (ls.set i (some v)) := by
  refine ⟨by simpa using h0, h.1, h.2.1, fun j w hj => ?_⟩
  refine h.2.2 (j, w) ?_
  rw [← he]
  by_cases hji : j = i
  · subst hji
    have hlt : j < ls.length := by
      have := (List.getElem?_eq_some_iff.mp hj).1
      simpa using this
    rw [List.getElem?_set_self hlt] at hj
    cases hj
    exact List.mem_cons_self
  · rw [List.getElem?_set_ne (Ne.symm hji)] at hj
    refine List.mem_cons_of_mem _ (List.mem_filter.mpr ⟨ka_al_mem.mpr hj, ?_⟩)
    by_cases hs : j + 1 = i
    · have hc := ka_ok1_spec hok hj hs
      simp [hji, hc]
    · simp [hji, hs]
theorem ka_L.set2 {als : Array Slot} {nL : Nat} {ls : List (Option Value)} {i : Nat} {v : Value} {lv : List (Nat × Value)} (h0 : ls.length = nL) (hok : ka_ok1 ls i = true) (he : (i, v) :: (ka_al ls).filter (fun q => !(q.1 == i) && (!(q.1 == i + 1) && !(q.1 + 1 == i && q.2.category == 2))) = lv) (h : lv_has als nL lv) : ka_L als nL ((ls.set i (some v)).set (i + 1) none) := by
  refine ⟨by simpa using h0, h.1, h.2.1, fun j w hj => ?_⟩
  refine h.2.2 (j, w) ?_
  rw [← he]
  by_cases hj1 : j = i + 1
  · subst hj1
    rw [List.getElem?_set] at hj
    simp at hj
  · rw [List.getElem?_set_ne (Ne.symm hj1)] at hj
    by_cases hji : j = i
    · subst hji
      have hlt : j < ls.length := by
        have := (List.getElem?_eq_some_iff.mp hj).1
        simpa using this
      rw [List.getElem?_set_self hlt] at hj
      cases hj
      exact List.mem_cons_self
    · rw [List.getElem?_set_ne (Ne.symm hji)] at hj
      refine List.mem_cons_of_mem _ (List.mem_filter.mpr ⟨ka_al_mem.mpr hj, ?_⟩)
      by_cases hs : j + 1 = i
      · have hc := ka_ok1_spec hok hj hs
        simp [hji, hj1, hc]
      · simp [hji, hj1, hs]
def ka_out (dX : Nat → ClassId) (o : Outcome) (o' : ka_O) (t : State) : Prop := match o, o' with
  | .returned v, .inl v' => v = v'
  | .threw x, .inr k => ∃ cell : Cell, t.heap[x]? = some cell ∧ cell.cls = dX k ∧ cell.vm = .none
  | _, _ => False
def ka_End (N0 : Nat) (WR : ka_H → Heap → Prop) (dX : Nat → ClassId) (R : Room) (s : State) (Q : ka_Q) (o : Outcome) (t : State) : Prop :=
  ∃ (L : List Loc) (k n : Nat) (o' : ka_O) (h : ka_H) (gc gs : Nat), s.WarmedH t.vm ∧ s.sameButNew ({ t with vm := s.vm } : State) L k n ∧ (∀ q ∈ L, N0 ≤ q.base) ∧ ka_out dX o o' t ∧ WR h t.heap ∧ k + gc ≤ R.cells ∧ n + gs ≤ R.slots ∧ Q o' (h, gc, gs)
def ka_Z (N0 : Nat) (WR : ka_H → Heap → Prop) (dX : Nat → ClassId) (R : Room) (s : State) (Q : ka_Q) (below : List Frame) : State → Prop := fun t => ∃ o, t.status = .running ∧ Ended t below o ∧ ka_End N0 WR dX R s Q o t
/-- a method's surroundings: its number y -/
def ka_Here (Tw : List Cond) (KK : State → Prop) (P : ka_P) (mN : Nat → MethodName) (mB : Nat → ByteArray) (mH : Nat → List (Nat × Nat × Nat × Nat)) (y : Nat) (p : Program) (e : Env) (s : State) (m : MethodId) (args : Array Value) (meth : Method) (cd : Code) : Prop :=
  p.tables.exec = Jvm.exec ∧ cd.code = mB y ∧ meth.sig.returnType = P.ret y ∧ cd.maxLocals = P.max y ∧ s.vm.findClass (mN y).cls = some m.cls ∧ meth.name = (mN y).name ∧ (∀ w ∈ Tw, w.before args s = true) ∧ meth.locks = false ∧ cd.exceptionTable.toList.map (fun h => (h.startPc, h.endPc, h.handlerPc, h.catchType)) = mH y ∧ KK s ∧ e.platform.stackTraces = false
def ka_Sem (l : Launch) (Tw : List Cond) (KK : State → Prop) (N0 : Nat) (WR : ka_H → Heap → Prop) (dX : Nat → ClassId) (P : ka_P) (mN : Nat → MethodName) (mB : Nat → ByteArray) (mH : Nat → List (Nat × Nat × Nat × Nat)) : ka_X := fun c Q =>
  ∀ (p : Program) (e : Env) (R : Room) (s : State) (m : MethodId) (args : Array Value) (below : List Frame) (meth : Method) (cd : Code) (H : Heap) (locs : List Loc) (cells slots : Nat) (als : Array Slot),
    ka_Here Tw KK P mN mB mH c.2.1.1 p e s m args meth cd → WR c.2.2.1 H → ka_L als (P.max c.2.1.1) c.2.1.2.2.1 → (∀ q ∈ locs, N0 ≤ q.base) → c.1 ≤ R.frames → c.1 * 64 ≤ R.locals → cells + c.2.2.2.1 ≤ R.cells → slots + c.2.2.2.2 ≤ R.slots →
    W p l e R s m args below meth cd H locs cells slots (ka_Z N0 WR dX R s Q below) (F0 m c.2.1.2.1 als c.2.1.2.2.2)
/-- the instructions that touch locals and operands alone -/
def ka_loc : Instr → Bool
  | .aconst_null | .iconst _ | .bipush _ | .sipush _ | .lconst _ | .iload _ | .iload_n _ | .lload _ | .lload_n _ | .aload _ | .aload_n _ | .istore _ | .istore_n _ | .lstore _ | .lstore_n _ | .astore _ | .astore_n _ | .iinc _ _ | .iadd | .isub | .imul | .iand | .ior | .ixor | .idiv | .irem | .ineg | .ishl | .ishr | .ladd | .lsub | .lmul | .lcmp | .i2l | .l2i | .i2c | .dup | .dup_x1 | .dup_x2 | .dup2 | .pop | .goto _ | .ifCond _ _ | .if_icmp _ _ | .if_acmp _ _ | .ifnull _ | .ifnonnull _ | .tableswitch _ _ _ _ | .lookupswitch _ _ => true
  | _ => false
theorem ka_isR_cases {v : Value} (h : ka_isR v = true) : v = .null ∨ ∃ a, v = .ref a := by
  cases v <;> simp [ka_isR] at h ⊢
theorem ka_tgt_spec {pc : Nat} {o : Int} {f : Nat → Prop} (h : ka_tgt pc o f) : ∃ t : Nat, (pc : Int) + o = (t : Int) ∧ f t := by
  unfold ka_tgt at h
  split at h
  · rename_i t ht
    exact ⟨t, ht, h⟩
  · exact h.elim
section
variable {l : Launch} {p : Program} {e : Env} {R : Room} {s : State} {m : MethodId} {args : Array Value} {below : List Frame} {meth : Method} {cd : Code} {H : Heap} {locs : List Loc} {cells slots : Nat} {Z : State → Prop}
set_option maxHeartbeats 4000000 in
theorem ka_locals {P : ka_P} {d y pc n nL : Nat} {ls : List (Option Value)} {st : List Value} {h : ka_S} {Q : ka_Q} {als : Array Slot} {C : Nat → Nat → List Value → ka_S → ka_Q → Prop} {cc : ByteArray} {i : Instr} (hx : p.tables.exec = Jvm.exec) (hb : cd.code = cc) (hdec : decode cc pc = .ok (i, n)) (hlen : ka_len i = 0 ∨ ka_len i = n) (hloc : ka_loc i = true) (hL : ka_L als nL ls)
    {K : Nat → List (Option Value) → List Value → ka_S → Prop} (go : ∀ (pc' : Nat) (als' : Array Slot) (ls' : List (Option Value)) (st' : List Value), ka_L als' nL ls' → K pc' ls' st' h → W p l e R s m args below meth cd H locs cells slots Z (F0 m pc' als' st'))
    (q : ka_I P d y pc ls h Q n st K C i) : W p l e R s m args below meth cd H locs cells slots Z (F0 m pc als st) := by
  have hg := hL.2.2.2
  cases i with
  | aconst_null =>
    have hn : 1 = n := by simpa [ka_len] using hlen
    subst hn
    exact lv_null hx hb hdec (go _ _ _ _ hL q)
  | iconst v =>
    have hn : 1 = n := by simpa [ka_len] using hlen
    subst hn
    exact lv_iconst hx hb hdec rfl (go _ _ _ _ hL q)
  | bipush v =>
    have hn : 2 = n := by simpa [ka_len] using hlen
    subst hn
    exact lv_bipush hx hb hdec rfl (go _ _ _ _ hL q)
  | sipush v =>
    have hn : 3 = n := by simpa [ka_len] using hlen
    subst hn
    exact lv_sipush hx hb hdec rfl (go _ _ _ _ hL q)
  | lconst v =>
    have hn : 1 = n := by simpa [ka_len] using hlen
    subst hn
    exact lv_lconst hx hb hdec rfl (go _ _ _ _ hL q)
  | iload i =>
    have hn : 2 = n := by simpa [ka_len] using hlen
    subst hn
    simp only [ka_I, ka_ldI] at q
    split at q
    · rename_i x h0
      exact lv_iload hx hb hdec (hg _ _ h0) (go _ _ _ _ hL q)
    · exact q.elim
  | iload_n i =>
    have hn : 1 = n := by simpa [ka_len] using hlen
    subst hn
    simp only [ka_I, ka_ldI] at q
    split at q
    · rename_i x h0
      exact lv_iload_n hx hb hdec rfl (hg _ _ h0) (go _ _ _ _ hL q)
    · exact q.elim
  | lload i =>
    have hn : 2 = n := by simpa [ka_len] using hlen
    subst hn
    simp only [ka_I, ka_ldL] at q
    split at q
    · rename_i x h0
      exact lv_lload hx hb hdec (hg _ _ h0) (go _ _ _ _ hL q)
    · exact q.elim
  | lload_n i =>
    have hn : 1 = n := by simpa [ka_len] using hlen
    subst hn
    simp only [ka_I, ka_ldL] at q
    split at q
    · rename_i x h0
      exact lv_lload_n hx hb hdec rfl (hg _ _ h0) (go _ _ _ _ hL q)
    · exact q.elim
  | aload i =>
    have hn : 2 = n := by simpa [ka_len] using hlen
    subst hn
    simp only [ka_I, ka_ldA] at q
    split at q
    · rename_i v h0
      rcases ka_isR_cases q.1 with rfl | ⟨a, rfl⟩
      · exact lv_aloadN hx hb hdec (hg _ _ h0) (go _ _ _ _ hL q.2)
      · exact lv_aload hx hb hdec (hg _ _ h0) (go _ _ _ _ hL q.2)
    · exact q.elim
  | aload_n i =>
    have hn : 1 = n := by simpa [ka_len] using hlen
    subst hn
    simp only [ka_I, ka_ldA] at q
    split at q
    · rename_i v h0
      rcases ka_isR_cases q.1 with rfl | ⟨a, rfl⟩
      · exact lv_aload_nN hx hb hdec rfl (hg _ _ h0) (go _ _ _ _ hL q.2)
      · exact lv_aload_n hx hb hdec rfl (hg _ _ h0) (go _ _ _ _ hL q.2)
    · exact q.elim
  | istore i =>
    have hn : 2 = n := by simpa [ka_len] using hlen
    subst hn
    simp only [ka_I, ka_stI] at q
    split at q
    · exact lv_istore hx hb hdec hL.has (by rw [← hL.1]; exact q.1) rfl (fun als' h' => go _ _ _ _ (ka_L.set1 hL.1 q.2.1 rfl h') q.2.2)
    · exact q.elim
  | istore_n i =>
    have hn : 1 = n := by simpa [ka_len] using hlen
    subst hn
    simp only [ka_I, ka_stI] at q
    split at q
    · exact lv_istore_n hx hb hdec rfl hL.has (by rw [← hL.1]; exact q.1) rfl (fun als' h' => go _ _ _ _ (ka_L.set1 hL.1 q.2.1 rfl h') q.2.2)
    · exact q.elim
  | lstore i =>
    have hn : 2 = n := by simpa [ka_len] using hlen
    subst hn
    simp only [ka_I, ka_stL] at q
    split at q
    · exact lv_lstore hx hb hdec hL.has (by rw [← hL.1]; exact q.1) rfl (fun als' h' => go _ _ _ _ (ka_L.set2 hL.1 q.2.1 rfl h') q.2.2)
    · exact q.elim
  | lstore_n i =>
    have hn : 1 = n := by simpa [ka_len] using hlen
    subst hn
    simp only [ka_I, ka_stL] at q
    split at q
    · exact lv_lstore_n hx hb hdec rfl hL.has (by rw [← hL.1]; exact q.1) rfl (fun als' h' => go _ _ _ _ (ka_L.set2 hL.1 q.2.1 rfl h') q.2.2)
    · exact q.elim
  | astore i =>
    have hn : 2 = n := by simpa [ka_len] using hlen
    subst hn
    simp only [ka_I, ka_stA] at q
    split at q
    · rcases ka_isR_cases q.1 with rfl | ⟨a, rfl⟩
      · exact lv_astoreN hx hb hdec hL.has (by rw [← hL.1]; exact q.2.1) rfl (fun als' h' => go _ _ _ _ (ka_L.set1 hL.1 q.2.2.1 rfl h') q.2.2.2)
      · exact lv_astore hx hb hdec hL.has (by rw [← hL.1]; exact q.2.1) rfl (fun als' h' => go _ _ _ _ (ka_L.set1 hL.1 q.2.2.1 rfl h') q.2.2.2)
    · exact q.elim
  | astore_n i =>
    have hn : 1 = n := by simpa [ka_len] using hlen
    subst hn
    simp only [ka_I, ka_stA] at q
    split at q
    · rcases ka_isR_cases q.1 with rfl | ⟨a, rfl⟩
      · exact lv_astore_nN hx hb hdec rfl hL.has (by rw [← hL.1]; exact q.2.1) rfl (fun als' h' => go _ _ _ _ (ka_L.set1 hL.1 q.2.2.1 rfl h') q.2.2.2)
      · exact lv_astore_n hx hb hdec rfl hL.has (by rw [← hL.1]; exact q.2.1) rfl (fun als' h' => go _ _ _ _ (ka_L.set1 hL.1 q.2.2.1 rfl h') q.2.2.2)
    · exact q.elim
  | iinc i v =>
    have hn : 3 = n := by simpa [ka_len] using hlen
    subst hn
    simp only [ka_I, ka_ldI, ka_b1] at q
    split at q
    · rename_i x h0
      obtain ⟨k, hk⟩ := List.getElem?_of_mem (ka_al_mem.mpr h0)
      exact lv_iinc hx hb hdec hL.has hk rfl (by rw [← hL.1]; exact q.1) rfl (fun als' h' => go _ _ _ _ (ka_L.set1 hL.1 q.2.1 rfl h') q.2.2)
    · exact q.elim
  | iadd =>
    have hn : 1 = n := by simpa [ka_len] using hlen
    subst hn
    simp only [ka_I, ka_b2] at q
    split at q
    · exact lv_iadd hx hb hdec (go _ _ _ _ hL q)
    · exact q.elim
  | isub =>
    have hn : 1 = n := by simpa [ka_len] using hlen
    subst hn
    simp only [ka_I, ka_b2] at q
    split at q
    · exact lv_isub hx hb hdec (go _ _ _ _ hL q)
    · exact q.elim
  | imul =>
    have hn : 1 = n := by simpa [ka_len] using hlen
    subst hn
    simp only [ka_I, ka_b2] at q
    split at q
    · exact lv_imul hx hb hdec (go _ _ _ _ hL q)
    · exact q.elim
  | iand =>
    have hn : 1 = n := by simpa [ka_len] using hlen
    subst hn
    simp only [ka_I, ka_b2] at q
    split at q
    · exact lv_iand hx hb hdec (go _ _ _ _ hL q)
    · exact q.elim
  | ior =>
    have hn : 1 = n := by simpa [ka_len] using hlen
    subst hn
    simp only [ka_I, ka_b2] at q
    split at q
    · exact lv_ior hx hb hdec (go _ _ _ _ hL q)
    · exact q.elim
  | ixor =>
    have hn : 1 = n := by simpa [ka_len] using hlen
    subst hn
    simp only [ka_I, ka_b2] at q
    split at q
    · exact lv_ixor hx hb hdec (go _ _ _ _ hL q)
    · exact q.elim
  | idiv =>
    have hn : 1 = n := by simpa [ka_len] using hlen
    subst hn
    simp only [ka_I, ka_b2] at q
    split at q
    · exact lv_idiv hx hb hdec q.1 (go _ _ _ _ hL q.2)
    · exact q.elim
  | irem =>
    have hn : 1 = n := by simpa [ka_len] using hlen
    subst hn
    simp only [ka_I, ka_b2] at q
    split at q
    · exact lv_irem hx hb hdec q.1 (go _ _ _ _ hL q.2)
    · exact q.elim
  | ineg =>
    have hn : 1 = n := by simpa [ka_len] using hlen
    subst hn
    simp only [ka_I, ka_b1] at q
    split at q
    · exact lv_ineg hx hb hdec (go _ _ _ _ hL q)
    · exact q.elim
  | ishl =>
    have hn : 1 = n := by simpa [ka_len] using hlen
    subst hn
    simp only [ka_I, ka_b2] at q
    split at q
    · exact lv_ishl hx hb hdec (go _ _ _ _ hL q)
    · exact q.elim
  | ishr =>
    have hn : 1 = n := by simpa [ka_len] using hlen
    subst hn
    simp only [ka_I, ka_b2] at q
    split at q
    · exact lv_ishr hx hb hdec (go _ _ _ _ hL q)
    · exact q.elim
  | ladd =>
    have hn : 1 = n := by simpa [ka_len] using hlen
    subst hn
    simp only [ka_I, ka_l2] at q
    split at q
    · exact lv_ladd hx hb hdec (go _ _ _ _ hL q)
    · exact q.elim
  | lsub =>
    have hn : 1 = n := by simpa [ka_len] using hlen
    subst hn
    simp only [ka_I, ka_l2] at q
    split at q
    · exact lv_lsub hx hb hdec (go _ _ _ _ hL q)
    · exact q.elim
  | lmul =>
    have hn : 1 = n := by simpa [ka_len] using hlen
    subst hn
    simp only [ka_I, ka_l2] at q
    split at q
    · exact lv_lmul hx hb hdec (go _ _ _ _ hL q)
    · exact q.elim
  | lcmp =>
    have hn : 1 = n := by simpa [ka_len] using hlen
    subst hn
    simp only [ka_I, ka_l2] at q
    split at q
    · exact W.lcmp hx hb hdec (go _ _ _ _ hL q)
    · exact q.elim
  | i2l =>
    have hn : 1 = n := by simpa [ka_len] using hlen
    subst hn
    simp only [ka_I, ka_b1] at q
    split at q
    · exact lv_i2l hx hb hdec rfl (go _ _ _ _ hL q)
    · exact q.elim
  | l2i =>
    have hn : 1 = n := by simpa [ka_len] using hlen
    subst hn
    simp only [ka_I, ka_l1] at q
    split at q
    · exact lv_l2i hx hb hdec rfl (go _ _ _ _ hL q)
    · exact q.elim
  | i2c =>
    have hn : 1 = n := by simpa [ka_len] using hlen
    subst hn
    simp only [ka_I, ka_b1] at q
    split at q
    · exact lv_i2c hx hb hdec rfl (go _ _ _ _ hL q)
    · exact q.elim
  | dup =>
    have hn : 1 = n := by simpa [ka_len] using hlen
    subst hn
    simp only [ka_I] at q
    split at q
    · exact lv_dup hx hb hdec q.1 (go _ _ _ _ hL q.2)
    · exact q.elim
  | dup_x1 =>
    have hn : 1 = n := by simpa [ka_len] using hlen
    subst hn
    simp only [ka_I] at q
    split at q
    · exact lv_dup_x1 hx hb hdec q.1 q.2.1 (go _ _ _ _ hL q.2.2)
    · exact q.elim
  | dup_x2 =>
    have hn : 1 = n := by simpa [ka_len] using hlen
    subst hn
    simp only [ka_I] at q
    split at q
    · exact lv_dup_x2 hx hb hdec q.1 q.2.1 q.2.2.1 (go _ _ _ _ hL q.2.2.2)
    · exact q.elim
  | dup2 =>
    have hn : 1 = n := by simpa [ka_len] using hlen
    subst hn
    simp only [ka_I] at q
    split at q
    · exact lv_dup2_11 hx hb hdec q.1 q.2.1 (go _ _ _ _ hL q.2.2)
    · exact q.elim
  | pop =>
    have hn : 1 = n := by simpa [ka_len] using hlen
    subst hn
    simp only [ka_I] at q
    split at q
    · exact lv_pop hx hb hdec q.1 (go _ _ _ _ hL q.2)
    · exact q.elim
  | goto o =>
    have hn : 3 = n := by simpa [ka_len] using hlen
    subst hn
    simp only [ka_I] at q
    obtain ⟨t, ht, q⟩ := ka_tgt_spec q
    exact lv_goto hx hb hdec ht (go _ _ _ _ hL q)
  | ifCond cnd o =>
    have hn : 3 = n := by simpa [ka_len] using hlen
    subst hn
    simp only [ka_I, ka_b1] at q
    split at q
    · obtain ⟨t, ht, q1, q2⟩ := ka_tgt_spec q
      cases cnd with
      | eq => exact lv_if_eq hx hb hdec ht (fun z => go _ _ _ _ hL (q1 z)) (fun z => go _ _ _ _ hL (q2 z))
      | ne => exact lv_if_ne hx hb hdec ht (fun z => go _ _ _ _ hL (q1 z)) (fun z => go _ _ _ _ hL (q2 (fun k => k z)))
      | lt => exact lv_if_lt hx hb hdec ht (fun z => go _ _ _ _ hL (q1 z)) (fun z => go _ _ _ _ hL (q2 z))
      | ge => exact lv_if_ge hx hb hdec ht (fun z => go _ _ _ _ hL (q1 z)) (fun z => go _ _ _ _ hL (q2 z))
      | gt => exact lv_if_gt hx hb hdec ht (fun z => go _ _ _ _ hL (q1 z)) (fun z => go _ _ _ _ hL (q2 z))
      | le => exact lv_if_le hx hb hdec ht (fun z => go _ _ _ _ hL (q1 z)) (fun z => go _ _ _ _ hL (q2 z))
    · exact q.elim
  | if_icmp cnd o =>
    have hn : 3 = n := by simpa [ka_len] using hlen
    subst hn
    simp only [ka_I, ka_b2] at q
    split at q
    · obtain ⟨t, ht, q1, q2⟩ := ka_tgt_spec q
      cases cnd with
      | eq => exact lv_icmp_eq hx hb hdec ht (fun z => go _ _ _ _ hL (q1 z)) (fun z => go _ _ _ _ hL (q2 z))
      | ne => exact lv_icmp_ne hx hb hdec ht (fun z => go _ _ _ _ hL (q1 z)) (fun z => go _ _ _ _ hL (q2 (fun k => k z)))
      | lt => exact lv_icmp_lt hx hb hdec ht (fun z => go _ _ _ _ hL (q1 z)) (fun z => go _ _ _ _ hL (q2 z))
      | ge => exact lv_icmp_ge hx hb hdec ht (fun z => go _ _ _ _ hL (q1 z)) (fun z => go _ _ _ _ hL (q2 z))
      | gt => exact lv_icmp_gt hx hb hdec ht (fun z => go _ _ _ _ hL (q1 z)) (fun z => go _ _ _ _ hL (q2 z))
      | le => exact lv_icmp_le hx hb hdec ht (fun z => go _ _ _ _ hL (q1 z)) (fun z => go _ _ _ _ hL (q2 z))
    · exact q.elim
  | if_acmp cnd o =>
    have hn : 3 = n := by simpa [ka_len] using hlen
    subst hn
    simp only [ka_I] at q
    split at q
    · rename_i w v r
      obtain ⟨hv, hw, q⟩ := q
      obtain ⟨t, ht, q⟩ := ka_tgt_spec q
      have hv' : ∃ rx : Option Nat, v = va_rf rx := by
        rcases ka_isR_cases hv with rfl | ⟨a, rfl⟩
        · exact ⟨none, rfl⟩
        · exact ⟨some a, rfl⟩
      have hw' : ∃ rx : Option Nat, w = va_rf rx := by
        rcases ka_isR_cases hw with rfl | ⟨a, rfl⟩
        · exact ⟨none, rfl⟩
        · exact ⟨some a, rfl⟩
      obtain ⟨rx, rfl⟩ := hv'
      obtain ⟨ry, rfl⟩ := hw'
      have hinj : ∀ {a b : Option Nat}, va_rf a = va_rf b → a = b := by
        intro a b hab
        cases a <;> cases b <;> simp [va_rf] at hab ⊢
        exact hab
      cases cnd with
      | eq => exact lv_acmp_eq hx hb hdec ht (fun z => go _ _ _ _ hL (q.1 (by rw [z]))) (fun z => go _ _ _ _ hL (q.2 (fun k => z (hinj k))))
      | ne => exact lv_acmp_ne hx hb hdec ht (fun z => go _ _ _ _ hL (q.1 (fun k => z (hinj k)))) (fun z => go _ _ _ _ hL (q.2 (by rw [z])))
    · exact q.elim
  | ifnull o =>
    have hn : 3 = n := by simpa [ka_len] using hlen
    subst hn
    simp only [ka_I] at q
    split at q
    · rcases ka_isR_cases q.1 with rfl | ⟨a, rfl⟩
      · obtain ⟨t, ht, q1⟩ := ka_tgt_spec (q.2.1 rfl)
        exact lv_ifnullN hx hb hdec ht (go _ _ _ _ hL q1)
      · exact lv_ifnull hx hb hdec (go _ _ _ _ hL (q.2.2 (by simp)))
    · exact q.elim
  | ifnonnull o =>
    have hn : 3 = n := by simpa [ka_len] using hlen
    subst hn
    simp only [ka_I] at q
    split at q
    · rcases ka_isR_cases q.1 with rfl | ⟨a, rfl⟩
      · exact lv_ifnonnullN hx hb hdec (go _ _ _ _ hL (q.2.2 rfl))
      · obtain ⟨t, ht, q1⟩ := ka_tgt_spec (q.2.1 (by simp))
        exact lv_ifnonnull hx hb hdec ht (go _ _ _ _ hL q1)
    · exact q.elim
  | tableswitch df lo hi os =>
    simp only [ka_I, ka_b1] at q
    split at q
    · rename_i x r
      by_cases hout : x.toInt < lo ∨ hi < x.toInt
      · obtain ⟨t, ht, q1⟩ := ka_tgt_spec (q.1 hout)
        exact lv_tableOut hx hb hdec hout ht (go _ _ _ _ hL q1)
      · obtain ⟨o, ho, q1⟩ := q.2 (fun z => hout (Or.inl z)) (fun z => hout (Or.inr z))
        obtain ⟨t, ht, q1⟩ := ka_tgt_spec q1
        exact lv_tableIn hx hb hdec (fun z => hout (Or.inl z)) (fun z => hout (Or.inr z)) ho ht (go _ _ _ _ hL q1)
    · exact q.elim
  | lookupswitch df ps =>
    simp only [ka_I, ka_b1] at q
    split at q
    · obtain ⟨t, ht, q1⟩ := ka_tgt_spec q.2
      exact lv_lookup hx hb hdec q.1 rfl ht (go _ _ _ _ hL q1)
    · exact q.elim
  | _ => simp [ka_loc] at hloc
end
