/-! Worlds: which heap a world's cells are. -/
/-- what an array's kind holds -/
def ka_aty (cl : List vw_C) (t : Nat) : Option FieldType :=
  if t = 1000 then some .int else if t = 1001 then some .long else if t = 1002 then some .char else if t = 2999 then some (.object "java/lang/Object") else if t = 4000 then some .int
  else if t = 2003 then (cl[t - 2000]?).map (fun r => .object r.1) else if t = 4001 then some (.object "java/lang/Object") else none
/-- the cell's class, of a thing of this kind that is an array -/
def ka_arr (dA : Nat → ClassId) (e : ka_E) : Cell := arrV (dA e.1) e.2.length (fun j => e.2.getD j .null)
def ka_at (cl : List vw_C) (D : va_G) (dA : Nat → ClassId) (H : Heap) (a : Nat) (e : ka_E) : Prop :=
  (e.1 < 1000 ∧ ∃ r : vw_C, cl[e.1]? = some r ∧ e.2.length = r.2.2 ∧ t_OB a (D.1 e.1) r.2.2 (D.2 e.1) H (vp_V e.2)) ∨
  (1000 ≤ e.1 ∧ e.1 < 3000 ∧ (∃ ty, ka_aty cl e.1 = some ty) ∧ H[a]? = some (ka_arr dA e)) ∨
  (4000 ≤ e.1 ∧ ∃ cell : Cell, H[a]? = some cell ∧ cell.cls = dA e.1 ∧ cell.vm ≠ .unknown ∧ (∀ k, cell.vm ≠ .statics k) ∧ cell.slots.toList = e.2)
/-- the heap over a first one: that one stands, what lies above are no statics -/
def ka_HB (H0 H : Heap) : Prop := H0.size ≤ H.size ∧ (∀ q, q < H0.size → H[q]? = H0[q]?) ∧ ∀ (q : Nat) (cell : Cell), H0.size ≤ q → H[q]? = some cell → cell.vm.isStatics = false
def ka_WR (cl : List vw_C) (D : va_G) (dA : Nat → ClassId) (H0 : Heap) (h : ka_H) (H : Heap) : Prop :=
  ka_HB H0 H ∧ ∀ a e, h a = some e → ka_at cl D dA H a e ∧ (H0.size ≤ a ∨ 4000 ≤ e.1)
/-- what stays known of every state: the classes' numbers, the arrays' classes, the exceptions' classes and that they are apart, the library's statics, the heap below -/
def ka_KK (cl : List vw_C) (D : va_G) (dA dX : Nat → ClassId) (xN : List String) (H0 : Heap) (E0 : Nat) (s : State) : Prop :=
  va_K D cl [] s ∧ (∀ t ty, ka_aty cl t = some ty → ArrOfT s (dA t) ty ∧ (t ≠ 4000 → va_RA s (dA t) ty)) ∧ (∀ (k : Nat) (nm : String), xN[k]? = some nm → s.vm.findClass nm = some (dX k)) ∧
  (∀ (i j : Nat) (a b : String), xN[i]? = some a → xN[j]? = some b → s.vm.assignable (dX i) (dX j) = decide (i = j)) ∧
  va_Z "java/util/ArrayList" "DEFAULTCAPACITY_EMPTY_ELEMENTDATA" "[Ljava/lang/Object;" (.ref E0) (fun q => H0.size ≤ q) s H0 ∧
  vx_Zq "java/lang/Throwable" "UNASSIGNED_STACK" "[Ljava/lang/StackTraceElement;" (fun q => H0.size ≤ q) s H0 ∧ vx_Zq "java/lang/Throwable" "SUPPRESSED_SENTINEL" "Ljava/util/List;" (fun q => H0.size ≤ q) s H0 ∧
  ka_HB H0 s.heap ∧ va_Mi "[Ljava/lang/Object;" (dX 100) s
theorem ka_KK.moved {cl : List vw_C} {D : va_G} {dA dX : Nat → ClassId} {xN : List String} {H0 : Heap} {E0 : Nat} {u U : State} (hvm : u.vm.Alike U.vm) (hh : ka_HB H0 U.heap) (h : ka_KK cl D dA dX xN H0 E0 u) : ka_KK cl D dA dX xN H0 E0 U :=
  ⟨va_K.moved hvm h.1, fun t ty ht => ⟨arrOfT_moved hvm (h.2.1 t ty ht).1, fun h4 => ((h.2.1 t ty ht).2 h4).moved hvm⟩, fun k nm hk => by rw [hvm.findClass]; exact h.2.2.1 k nm hk,
    fun i j a b hi hj => by rw [hvm.assignable]; exact h.2.2.2.1 i j a b hi hj, va_Z.moved hvm h.2.2.2.2.1, vx_Zq.moved hvm h.2.2.2.2.2.1, vx_Zq.moved hvm h.2.2.2.2.2.2.1, hh, va_Mi.moved hvm h.2.2.2.2.2.2.2.2⟩
section
variable {cl : List vw_C} {D : va_G} {dA : Nat → ClassId} {H0 : Heap} {h : ka_H} {H H' : Heap} {a : Nat} {e : ka_E}
theorem ka_at.kept (k : ka_at cl D dA H a e) (hq : H'[a]? = H[a]?) : ka_at cl D dA H' a e := by
  rcases k with ⟨h1, r, h2, h3, h4⟩ | ⟨h1, h2, h3, h4⟩ | ⟨h1, c, h2, h3⟩
  · exact Or.inl ⟨h1, r, h2, h3, h4.kept hq⟩
  · exact Or.inr (Or.inl ⟨h1, h2, h3, hq.trans h4⟩)
  · exact Or.inr (Or.inr ⟨h1, c, hq.trans h2, h3⟩)
theorem ka_at.lt (k : ka_at cl D dA H a e) : a < H.size := by
  rcases k with ⟨h1, r, h2, h3, c, h4, -⟩ | ⟨h1, h2, h3, h4⟩ | ⟨h1, c, h2, h3⟩
  · exact (Array.getElem?_eq_some_iff.mp h4).1
  · exact (Array.getElem?_eq_some_iff.mp h4).1
  · exact (Array.getElem?_eq_some_iff.mp h2).1
theorem ka_at.plain (k : ka_at cl D dA H a e) {cell : Cell} (hc : H[a]? = some cell) : cell.vm.isStatics = false := by
  rcases k with ⟨h1, r, h2, h3, c, h4, h5, h6, -⟩ | ⟨h1, h2, h3, h4⟩ | ⟨h1, c, h2, h3, h4, h5, h6⟩
  · rw [hc] at h4
    cases h4
    rw [h6]; rfl
  · rw [hc] at h4
    cases h4
    rfl
  · rw [hc] at h2
    cases h2
    cases hv : cell.vm with
    | statics k => exact absurd hv (h5 k)
    | _ => rfl
theorem ka_WR.put (w : ka_WR cl D dA H0 h H) (ha : H0.size ≤ a) (z : H'.size = H.size) (oq : ∀ q, q ≠ a → H'[q]? = H[q]?) (k : ka_at cl D dA H' a e) : ka_WR cl D dA H0 (ka_up h a e) H' := by
  refine ⟨⟨by rw [z]; exact w.1.1, fun q hq => (oq q (by omega)).trans (w.1.2.1 q hq), fun q cell hq hc => ?_⟩, fun q x hq => ?_⟩
  · by_cases e1 : q = a
    · subst e1
      exact k.plain hc
    · exact w.1.2.2 q cell hq (by rw [← oq q e1]; exact hc)
  unfold ka_up at hq
  split at hq
  · rename_i e1
    subst e1
    cases hq
    exact ⟨k, Or.inl ha⟩
  · rename_i e1
    exact ⟨(w.2 q x hq).1.kept (oq q e1), (w.2 q x hq).2⟩
theorem ka_WR.none (w : ka_WR cl D dA H0 h H) (ha : H.size ≤ a) : h a = none := by
  cases hq : h a with
  | none => rfl
  | some x => exact absurd (w.2 a x hq).1.lt (Nat.not_lt.mpr ha)
theorem ka_WR.new (w : ka_WR cl D dA H0 h H) (z : H'.size = H.size + 1) (oq : ∀ q, q < H.size → H'[q]? = H[q]?) (k : ka_at cl D dA H' H.size e) : ka_WR cl D dA H0 (ka_up h H.size e) H' := by
  refine ⟨⟨by rw [z]; exact Nat.le_succ_of_le w.1.1, fun q hq => (oq q (Nat.lt_of_lt_of_le hq w.1.1)).trans (w.1.2.1 q hq), fun q cell hq hc => ?_⟩, fun q x hq => ?_⟩
  · by_cases e1 : q = H.size
    · subst e1
      exact k.plain hc
    · have hlt : q < H'.size := (Array.getElem?_eq_some_iff.mp hc).1
      exact w.1.2.2 q cell hq (by rw [← oq q (by omega)]; exact hc)
  unfold ka_up at hq
  split at hq
  · rename_i e1
    subst e1
    cases hq
    exact ⟨k, Or.inl w.1.1⟩
  · have hw := w.2 q x hq
    exact ⟨hw.1.kept (oq q hw.1.lt), hw.2⟩
/-- more of the heap comes that the world doesn't know -/
theorem ka_WR.grow (w : ka_WR cl D dA H0 h H) (z : H.size ≤ H'.size) (oq : ∀ q, q < H.size → H'[q]? = H[q]?) (hp : ∀ (q : Nat) (cell : Cell), H.size ≤ q → H'[q]? = some cell → cell.vm.isStatics = false) : ka_WR cl D dA H0 h H' :=
  ⟨⟨Nat.le_trans w.1.1 z, fun q hq => (oq q (Nat.lt_of_lt_of_le hq w.1.1)).trans (w.1.2.1 q hq), fun q cell hq hc => by
    by_cases e1 : q < H.size
    · exact w.1.2.2 q cell hq (by rw [← oq q e1]; exact hc)
    · exact hp q cell (Nat.not_lt.mp e1) hc⟩, fun q x hq => ⟨(w.2 q x hq).1.kept (oq q (w.2 q x hq).1.lt), (w.2 q x hq).2⟩⟩
theorem ka_WR.obj {t : Nat} {vs : List Value} (w : ka_WR cl D dA H0 h H) (he : h a = some (t, vs)) (ht : t < 1000) : ∃ r : vw_C, cl[t]? = some r ∧ vs.length = r.2.2 ∧ t_OB a (D.1 t) r.2.2 (D.2 t) H (vp_V vs) ∧ H0.size ≤ a := by
  obtain ⟨h1, h2⟩ := w.2 a _ he
  have h3 : H0.size ≤ a := by
    rcases h2 with h2 | h2
    · exact h2
    · have : 4000 ≤ t := h2
      omega
  rcases h1 with ⟨-, r, q1, q2, q3⟩ | ⟨q, -⟩ | ⟨q, -⟩
  · exact ⟨r, q1, q2, q3, h3⟩
  · have : 1000 ≤ t := q
    omega
  · have : 4000 ≤ t := q
    omega
theorem ka_WR.arr {t : Nat} {vs : List Value} (w : ka_WR cl D dA H0 h H) (he : h a = some (t, vs)) (h1 : 1000 ≤ t) (h2 : t < 3000) : (∃ ty, ka_aty cl t = some ty) ∧ H[a]? = some (ka_arr dA (t, vs)) ∧ (0 < vs.length → H0.size ≤ a) := by
  obtain ⟨k1, k2⟩ := w.2 a _ he
  have h3 : 0 < vs.length → H0.size ≤ a := by
    intro hv
    rcases k2 with k2 | k2
    · exact k2
    · have : 4000 ≤ t := k2
      omega
  rcases k1 with ⟨q, -⟩ | ⟨-, -, q1, q2⟩ | ⟨q, -⟩
  · have : t < 1000 := q
    omega
  · exact ⟨q1, q2, h3⟩
  · have : 4000 ≤ t := q
    omega
end
theorem ka_arr_size (dA : Nat → ClassId) (e : ka_E) : (ka_arr dA e).slots.size = e.2.length := arrV_size _ _ _
theorem ka_arr_read (dA : Nat → ClassId) (e : ka_E) {j : Nat} {v : Value} (h : e.2[j]? = some v) : (ka_arr dA e).slots[j]? = some v := by
  have hj : j < e.2.length := (List.getElem?_eq_some_iff.mp h).1
  unfold ka_arr
  rw [arrV_read _ _ hj]
  simp [List.getD, h]
theorem ka_arr_store (dA : Nat → ClassId) (t : Nat) (vs : List Value) {j : Nat} (v : Value) (h : j < vs.length) : (ka_arr dA (t, vs)).setSlot j v = ka_arr dA (t, vs.set j v) := by
  unfold ka_arr
  rw [arrV_store, List.length_set]
  congr 1
  funext k
  by_cases hk : k = j
  · subst hk
    simp [updV, List.getD, h]
  · simp [updV, hk, List.getD, List.getElem?_set_ne (Ne.symm hk)]
theorem ka_arr_new (dA : Nat → ClassId) (t n : Nat) (v : Value) : ({ cls := dA t, slots := Array.replicate n v, vm := .none } : Cell) = ka_arr dA (t, List.replicate n v) := by
  rw [arrV_new]
  unfold ka_arr
  rw [List.length_replicate]
  show ({ cls := dA t, slots := Array.ofFn (n := n) fun j => v, vm := .none } : Cell) = ({ cls := dA t, slots := Array.ofFn (n := n) fun j => (List.replicate n v).getD j.val .null, vm := .none } : Cell)
  congr 2
  funext j
  simp [List.getD, j.isLt]
section
variable {l : Launch} {p : Program} {e : Env} {R : Room} {s : State} {m : MethodId} {args : Array Value} {below : List Frame} {meth : Method} {c : Code} {H : Heap} {locs : List Loc} {cells slots : Nat} {Q : State → Prop}
variable {cc : ByteArray} {pc : Nat} {ls : Array Slot} {rest : List Value} {a : Nat}
/-- a field's store, what else there is stays -/
theorem ka_putO (hexec : p.tables.exec = Jvm.exec) (hb : c.code = cc) {own ref C : String} {T : u_T} {N index : Nat} {Ts : List Cond} {cC : ClassId} {iS : Nat → Nat} (hts : ∀ w ∈ Ts, w.before args s = true) (hin : ∀ w ∈ u_ws C T N, w ∈ Ts) (ty0 : Nat → FieldType) (hty : ∀ k, k < N → parseFieldDescriptor (T k).2.2.1 = some (ty0 k)) (hnm : ∀ a, a < N → ∀ b, b < N → a ≠ b → (T a).2.1 ≠ (T b).2.1) (hown : s.vm.findClass own = some m.cls) (hK : u_Kn s C T N cC iS) {fs : List Value} (hO : t_OB a cC N iS H (vp_V fs)) (k : Nat) (hk : k < N) (hlink : (Cond.fieldLink own index ref (T k).2.1 (T k).2.2.1).before args s = true) (hsame : ∀ x, s.fieldFound? (T k).1 (T k).2.1 (T k).2.2.1 = some x → s.fieldFound? ref (T k).2.1 (T k).2.2.1 = some x) (hfin : (T k).2.2.2 = false ∨ (meth.name = "<init>" ∧ (T k).1 = own)) {v : Value} (hn : narrow (ty0 k) v = v) (hfit : fits (ty0 k) v = true) (hl : k < fs.length)
    (hdg : decode cc pc = .ok (.putfield index, 3)) (kk : ∀ (H1 : Heap), t_OB a cC N iS H1 (vp_V (fs.set k v)) → H1.size = H.size → (∀ q, q ≠ a → H1[q]? = H[q]?) → W p l e R s m args below meth c H1 (locs ++ [⟨a, iS k⟩]) cells slots Q (F0 m (pc + 3) ls rest)) : W p l e R s m args below meth c H locs cells slots Q (F0 m pc ls (v :: .ref a :: rest)) := by
  have hd := hty k hk
  obtain ⟨cell, q1, q2, q3, q4⟩ := hO
  obtain ⟨hS, hfc, kC, hkC, hkind⟩ := hK
  have hap : ∀ x y, x < N → y < N → x ≠ y → iS x ≠ iS y := by
    intro x y hx hy hne
    obtain ⟨_, _, _, fa, hia, ea⟩ := hS x hx
    obtain ⟨_, _, _, fb, hib, eb⟩ := hS y hy
    rw [← ea, ← eb]
    refine u_apart (u_lays hts hin hx) (u_lays hts hin hy) hia hib ?_
    rw [(State.fieldFound?_type hia (hty x hx)).1, (State.fieldFound?_type hib (hty y hy)).1]
    exact hnm x hx y hy hne
  obtain ⟨cf, kf, fi, f, hi, hsl⟩ := hS k hk
  have hlay := hts _ (hin _ (u_in_lay hk))
  unfold u_lay at hlay
  have hst := (u_facts hfc hkC (u_lays hts hin hk) hi).1
  have fin : ∀ (H' : Heap), H'[a]? = some (cell.setSlot f.slot v) → H'.size = H.size → (∀ q, q ≠ a → H'[q]? = H[q]?) → W p l e R s m args below meth c H' (locs ++ [⟨a, f.slot⟩]) cells slots Q (F0 m (pc + 3) ls rest) := by
    intro H' e1 e2 e3
    rw [hsl] at e1 ⊢
    exact kk H' (t_OB.to (V := updV (vp_V fs) k v) ⟨_, e1, q2, q3, t_set q4 hap hk v⟩ (fun j _ => vp_updV_set hl v j)) e2 e3
  by_cases hf : (T k).2.2.2 = true
  · rcases hfin with h0 | ⟨hin2, hdecl⟩
    · rw [hf] at h0
      cases h0
    · rw [if_pos hf] at hlay
      have hcf : m.cls = cf := by
        obtain ⟨_, _, c', _, _, _, -, -, hf', -, -, -, hown2, -⟩ := Cond.laysFinal_spec hlay
        have e1 : c' = cf := by have := hi.symm.trans hf'; simp at this; exact this.1.symm
        rw [hdecl] at hown2
        rw [← e1]; exact Option.some.inj (hown.symm.trans hown2)
      have h6 := u_fits hfc hkC hkind (Or.inr hlay) hi hd hn hfit
      exact W.putFinK hexec hb hown hlink (hsame _ hi) hst hcf hin2 (by rw [q2]; exact h6) q1 q3 (by rw [hsl]; exact k2_hasslot (q4 k hk)) rfl rfl hdg fin
  · rw [if_neg hf] at hlay
    have h6 := u_store hfc hkC hkind hlay hi hd hn hfit
    exact W.putK hexec hb (f := f) ⟨hown, hlink, ⟨_, _, _, hsame _ hi⟩, hst⟩ (by rw [q2]; exact h6) q1 q3 (by rw [hsl]; exact k2_hasslot (q4 k hk)) rfl rfl hdg fin
end
