/-! The instructions that touch the heap, and the answers. -/
def ko_cls (Tw : List Cond) (cl : List vw_C) (t : Nat) (C : String) (T : u_T) (N : Nat) (ty0 : Nat → FieldType) : Prop :=
  cl[t]? = some (C, T, N) ∧ t < 1000 ∧ (∀ w ∈ u_ws C T N, w ∈ Tw) ∧ (∀ k, k < N → parseFieldDescriptor (T k).2.2.1 = some (ty0 k)) ∧ (∀ a, a < N → ∀ b, b < N → a ≠ b → (T a).2.1 ≠ (T b).2.1)
def ko_fld (Tw : List Cond) (cl : List vw_C) (P : ka_P) (mN : Nat → MethodName) : Prop := ∀ (y i t k : Nat) (ty : FieldType), P.fld y i = some (t, k, ty) → ∃ (C : String) (T : u_T) (N : Nat) (ty0 : Nat → FieldType) (ref : String), ko_cls Tw cl t C T N ty0 ∧ k < N ∧ ty0 k = ty ∧ Cond.fieldLink (mN y).cls i ref (T k).2.1 (T k).2.2.1 ∈ Tw ∧ (ref = (T k).1 ∨ Cond.sameField ref (T k).1 (T k).2.1 (T k).2.2.1 ∈ Tw) ∧ (P.put y i = true → (T k).2.2.2 = false ∨ ((mN y).name = "<init>" ∧ (T k).1 = (mN y).cls))
def ko_new (Tw : List Cond) (cl : List vw_C) (P : ka_P) (mN : Nat → MethodName) : Prop := ∀ (y i t : Nat) (vs : List Value), P.new y i = some (t, vs) → ∃ (C : String) (T : u_T) (N : Nat) (ty0 : Nat → FieldType), ko_cls Tw cl t C T N ty0 ∧ vs = (List.range N).map (fun k => defaultValue (ty0 k)) ∧ Cond.classLink (mN y).cls i C ∈ Tw ∧ Cond.instantiable C N ∈ Tw ∧ Cond.initialized C ∈ Tw
def ko_arr (Tw : List Cond) (cl : List vw_C) (P : ka_P) (mN : Nat → MethodName) : Prop := (∀ (y i t : Nat), P.arr y i = some t → ∃ C : String, 2000 ≤ t ∧ t < 3000 ∧ ka_aty cl t = some (.object C) ∧ Cond.classLink (mN y).cls i C ∈ Tw ∧ Cond.arrayOver (.object C) ∈ Tw) ∧ Cond.arrayClass .int ∈ Tw ∧ Cond.arrayClass .long ∈ Tw ∧ Cond.arrayClass .char ∈ Tw
def ko_cast (Tw : List Cond) (cl : List vw_C) (P : ka_P) (mN : Nat → MethodName) : Prop := ∀ (y i t : Nat), P.cast y i = some t → ∃ r : vw_C, cl[t]? = some r ∧ t < 1000 ∧ Cond.classLink (mN y).cls i r.1 ∈ Tw
def ko_cst (Tw : List Cond) (P : ka_P) (mN : Nat → MethodName) (E0 MI : Nat) : Prop := (∀ (y i : Nat) (v : Int32), P.cst y i = some (.int v) → Cond.constant (mN y).cls i v ∈ Tw) ∧ (∀ (y i : Nat) (v : Int64), P.cst y i = some (.long v) → Cond.constantLong (mN y).cls i v ∈ Tw) ∧
  (∀ (y i a : Nat), i < 100000 → P.cst y i = some (.ref a) → a = E0 ∧ Cond.fieldLink (mN y).cls i "java/util/ArrayList" "DEFAULTCAPACITY_EMPTY_ELEMENTDATA" "[Ljava/lang/Object;" ∈ Tw) ∧
  ∀ (y i a : Nat), P.cst y (100000 + i) = some (.ref a) → a = MI ∧ Cond.classLink (mN y).cls i "[Ljava/lang/Object;" ∈ Tw
def ka_mem : Instr → Bool
  | .ldc _ | .ldc2_w _ | .getstatic _ | .getfield _ | .putfield _ | .new _ | .newarray _ | .anewarray _ | .arraylength | .iaload | .laload | .caload | .aaload | .iastore | .lastore | .castore | .aastore | .checkcast _ | .ireturn | .lreturn | .areturn | .return_ => true
  | _ => false
theorem ka_Wmono {p : Program} {l : Launch} {e : Env} {R : Room} {s : State} {m : MethodId} {args : Array Value} {below : List Frame} {meth : Method} {c : Code} {H : Heap} {locs : List Loc} {cells slots : Nat} {Q Q' : State → Prop} {g : JFrame} (h : ∀ t, Q t → Q' t) (k : W p l e R s m args below meth c H locs cells slots Q g) : W p l e R s m args below meth c H locs cells slots Q' g := fun T hT X => by
  obtain ⟨t, a, b⟩ := k T hT X
  exact ⟨t, a, h t b⟩
theorem ka_Pone {D : va_G} {cl : List vw_C} {a t : Nat} {vs : List Value} {H : Heap} {r : vw_C} (hc : cl[t]? = some r) (h : t_OB a (D.1 t) r.2.2 (D.2 t) H (vp_V vs)) : va_P D cl [(a, .inr (t, vs))] H := by
  intro k q hq
  cases k with
  | zero =>
    simp at hq
    subst hq
    exact ⟨r, hc, h⟩
  | succ k => simp at hq
theorem ka_aty_obj {cl : List vw_C} {t : Nat} {ty : FieldType} (h1 : 2000 ≤ t) (h2 : t < 3000) (h : ka_aty cl t = some ty) : ∃ C, ty = .object C := by
  unfold ka_aty at h
  rw [if_neg (by omega), if_neg (by omega), if_neg (by omega)] at h
  split at h
  · cases h
    exact ⟨_, rfl⟩
  · rw [if_neg (by omega)] at h
    split at h
    · cases hc : cl[t - 2000]? with
      | none => simp [hc] at h
      | some r =>
        simp [hc] at h
        exact ⟨_, h.symm⟩
    · rw [if_neg (by omega)] at h
      cases h
theorem ka_aty_ref {cl : List vw_C} {t : Nat} {ty : FieldType} (h1 : 2000 ≤ t) (h2 : t < 3000) (h : ka_aty cl t = some ty) : ty.isReference = true := by
  obtain ⟨C, rfl⟩ := ka_aty_obj h1 h2 h
  rfl
section
variable {l : Launch} {p : Program} {e : Env} {R : Room} {s : State} {m : MethodId} {args : Array Value} {below : List Frame} {meth : Method} {cd : Code} {H : Heap} {locs : List Loc} {cells slots : Nat}
variable {cl : List vw_C} {D : va_G} {dA dX : Nat → ClassId} {xN : List String} {H0 : Heap} {E0 : Nat} {Tw : List Cond} {mN : Nat → MethodName}
set_option maxHeartbeats 8000000 in
theorem ka_heap {P : ka_P} {d y pc n nL : Nat} {ls : List (Option Value)} {st : List Value} {h : ka_H} {gc gs : Nat} {Q : ka_Q} {als : Array Slot} {C : Nat → Nat → List Value → ka_S → ka_Q → Prop} {cc : ByteArray} {i : Instr} (hx : p.tables.exec = Jvm.exec) (hb : cd.code = cc) (hdec : decode cc pc = .ok (i, n)) (hlen : ka_len i = 0 ∨ ka_len i = n) (hmem : ka_mem i = true) (hL : ka_L als nL ls)
    (hr : meth.sig.returnType = P.ret y) (hown : s.vm.findClass (mN y).cls = some m.cls) (hname : meth.name = (mN y).name) (hts : ∀ w ∈ Tw, w.before args s = true) (hlocks : meth.locks = false) (hK : ka_KK cl D dA dX xN H0 E0 s) (hW : ka_WR cl D dA H0 h H) (hlc : ∀ q ∈ locs, H0.size ≤ q.base) (hcc : cells + gc ≤ R.cells) (hss : slots + gs ≤ R.slots)
    (of : ko_fld Tw cl P mN) (on : ko_new Tw cl P mN) (oa : ko_arr Tw cl P mN) (oc : ko_cast Tw cl P mN) (ok : ko_cst Tw P mN E0 (dX 100)) (asg : ∀ {u t : Nat} {r : vw_C} {C' : String} {comp c0 : ClassId}, (u = 2000 + t ∨ (u = 2999 ∧ t < 10)) → ka_aty cl u = some (.object C') → cl[t]? = some r → s.vm.findClass C' = some comp → s.vm.findClass r.1 = some c0 → s.vm.assignable c0 comp = true)
    {K : Nat → List (Option Value) → List Value → ka_S → Prop} (go : ∀ (pc' : Nat) (st' : List Value) (h' : ka_H) (gc' gs' : Nat) (H' : Heap) (locs' : List Loc) (cells' slots' : Nat), ka_WR cl D dA H0 h' H' → (∀ q ∈ locs', H0.size ≤ q.base) → cells' + gc' ≤ R.cells → slots' + gs' ≤ R.slots → K pc' ls st' (h', gc', gs') → W p l e R s m args below meth cd H' locs' cells' slots' (ka_Z H0.size (ka_WR cl D dA H0) dX R s Q below) (F0 m pc' als st'))
    (q : ka_I P d y pc ls (h, gc, gs) Q n st K C i) : W p l e R s m args below meth cd H locs cells slots (ka_Z H0.size (ka_WR cl D dA H0) dX R s Q below) (F0 m pc als st) := by
  have hput : ∀ {a j : Nat}, H0.size ≤ a → ∀ q ∈ locs ++ [(⟨a, j⟩ : Loc)], H0.size ≤ q.base := by
    intro a j ha q hq
    rcases List.mem_append.mp hq with h1 | h1
    · exact hlc q h1
    · rw [List.mem_singleton.mp h1]
      exact ha
  have ends : ∀ (v : Option Value), Q (.inl v) (h, gc, gs) → ∀ t, MQ below (fun _ _ o t => o = .returned v ∧ t.heap = H) args s cells slots (fun q => H0.size ≤ q) t → ka_Z H0.size (ka_WR cl D dA H0) dX R s Q below t := by
    intro v hq t ht
    obtain ⟨o, o1, o2, ⟨rfl, o3⟩, L, ⟨-, w1, w2⟩, o5⟩ := ht
    exact ⟨_, o1, o2, L, cells, slots, .inl v, h, gc, gs, w1, w2, o5, rfl, by rw [o3]; exact hW, hcc, hss, hq⟩
  have scr : ∀ {a t : Nat} {ty : FieldType} {vs : List Value}, 4000 ≤ t → ka_aty cl t = some ty → h a = some (t, vs) → ∃ cell : Cell, H[a]? = some cell ∧ s.isArrayOf cell ty ∧ cell.vm ≠ .unknown ∧ cell.slots.size = vs.length ∧ ∀ j : Nat, cell.slots[j]? = vs[j]? := by
    intro a t ty vs ht hty ha
    rcases (hW.2 a _ ha).1 with ⟨z, -⟩ | ⟨-, z, -⟩ | ⟨-, cell, c1, c2, c3, c4, c5⟩
    · have : t < 1000 := z
      omega
    · have : t < 3000 := z
      omega
    · have c6 : cell.slots.toList = vs := c5
      refine ⟨cell, c1, ?_, c3, by rw [← c6]; simp, fun j => by rw [← c6]; simp⟩
      obtain ⟨-, k, hk, comp, hkd⟩ := (hK.2.1 t ty hty).1 0 (fun _ => .null)
      exact ⟨c4, k, by rw [c2]; exact hk, comp, hkd⟩
  cases i with
  | ldc i =>
    have hn : 2 = n := by simpa [ka_len] using hlen
    subst hn
    simp only [ka_I] at q
    split at q
    · rename_i v hv
      exact lv_ldc hx hb hown (hts _ (ok.1 _ _ _ hv)) hdec (go _ _ _ _ _ _ _ _ _ hW hlc hcc hss q.2)
    · split at q
      · rename_i a hv
        obtain ⟨rfl, hl⟩ := ok.2.2.2 _ _ _ hv
        exact va_ldcM hx hb hown (hts _ hl) hK.2.2.2.2.2.2.2.2 hdec (go _ _ _ _ _ _ _ _ _ hW hlc hcc hss q.2)
      · exact q.elim
    · exact q.elim
  | ldc2_w i =>
    have hn : 3 = n := by simpa [ka_len] using hlen
    subst hn
    simp only [ka_I] at q
    split at q
    · rename_i v hv
      exact lv_ldc2 hx hb hown (hts _ (ok.2.1 _ _ _ hv)) hdec (go _ _ _ _ _ _ _ _ _ hW hlc hcc hss q)
    · exact q.elim
  | getstatic i =>
    have hn : 3 = n := by simpa [ka_len] using hlen
    subst hn
    simp only [ka_I] at q
    split at q
    · rename_i a hv
      obtain ⟨hlt, q⟩ := q
      obtain ⟨rfl, hl⟩ := ok.2.2.1 _ _ _ hlt hv
      obtain ⟨cf, kf, fi, f, b, cell, h1, h2, h3, h4, h5, h6, h7, h8⟩ := hK.2.2.2.2.1
      have hb1 : b < H0.size := (Array.getElem?_eq_some_iff.mp h5).1
      exact W.gets hx hb hown (hts _ hl) h1 h2 h3 h4 (by rw [hW.1.2.1 b hb1]; exact h5) (fun z => by rw [z] at h6; cases h6) h7 rfl hdec (go _ _ _ _ _ _ _ _ _ hW hlc hcc hss q)
    · exact q.elim
  | getfield i =>
    have hn : 3 = n := by simpa [ka_len] using hlen
    subst hn
    simp only [ka_I] at q
    split at q
    · split at q
      · rename_i t k ty hf
        obtain ⟨vs, v, h1, h2, h3⟩ := q
        obtain ⟨C', T, N, ty0, ref, ⟨c1, c2, c3, c4, c5⟩, hk, hty, hl, hsame, -⟩ := of _ _ _ _ _ hf
        obtain ⟨r, r1, r2, r3, r4⟩ := hW.obj h1 c2
        exact va_get (D := D) (cl := cl) (tys := []) (ci := t) (C := C') (T := T) (N := N) hx hb hts c3 hown hK.1 (ka_Pone r1 r3) 0 rfl c1 k hk (hts _ hl) (by
          rcases hsame with rfl | hs
          · exact fun _ z => z
          · exact u_same (hts _ hs)) h2 hdec (go _ _ _ _ _ _ _ _ _ hW hlc hcc hss h3)
      · exact q.elim
    · exact q.elim
  | putfield i =>
    have hn : 3 = n := by simpa [ka_len] using hlen
    subst hn
    simp only [ka_I] at q
    split at q
    · split at q
      · rename_i t k ty hf hpt
        obtain ⟨vs, h1, h2, h3, h4, h5⟩ := q
        obtain ⟨C', T, N, ty0, ref, ⟨c1, c2, c3, c4, c5⟩, hk, hty, hl, hsame, hfin⟩ := of _ _ _ _ _ hf
        obtain ⟨r, r1, r2, r3, r4⟩ := hW.obj h1 c2
        have hr' : r = (C', T, N) := Option.some.inj (r1.symm.trans c1)
        subst hr'
        refine ka_putO hx hb hts c3 ty0 c4 c5 hown (hK.1.1 t _ c1) r3 k hk (hts _ hl) (by
          rcases hsame with rfl | hs
          · exact fun _ z => z
          · exact u_same (hts _ hs)) (by rw [hname]; exact hfin hpt) (by rw [hty]; exact h3) (by rw [hty]; exact h4) h2 hdec (fun H1 o1 o2 o3 => ?_)
        exact go _ _ _ _ _ _ _ _ _ (hW.put r4 o2 o3 (Or.inl ⟨c2, _, c1, by simpa using r2, o1⟩)) (hput r4) hcc hss h5
      · exact q.elim
    · exact q.elim
  | new i =>
    have hn : 3 = n := by simpa [ka_len] using hlen
    subst hn
    simp only [ka_I] at q
    split at q
    · rename_i ev hf
      obtain ⟨t, vs⟩ := ev
      obtain ⟨q1, q2, q3⟩ := q
      obtain ⟨C', T, N, ty0, ⟨c1, c2, c3, c4, c5⟩, hvs, hl, hin, hini⟩ := on _ _ _ _ hf
      have hKn := hK.1.1 t _ c1
      have hlenv : vs.length = N := by rw [hvs]; simp
      have q1' : 1 ≤ gc := q1
      have q2' : vs.length ≤ gs := q2
      refine W.newcK hx hb hown (hts _ hl) (hts _ hin) (hts _ hini) rfl hdec (by omega) (by omega) hKn.2.1 rfl (fun H' kC o1 o2 o3 o4 => ?_)
      have hO := u_born ty0 hts c3 hKn o1 o2 c4
      refine go _ _ _ _ _ _ _ _ _ (hW.new o3 o4 (e := (t, vs)) (Or.inl ⟨c2, _, c1, hlenv, hO.to (fun k hk => ?_)⟩)) hlc (by show cells + 1 + (gc - 1) ≤ _; omega) (by show slots + N + (gs - vs.length) ≤ _; omega) (q3 H.size (hW.none (Nat.le_refl _)))
      show _ = vs.getD k .null
      rw [hvs]
      simp [hk]
    · exact q.elim
  | newarray t =>
    have hn : 2 = n := by simpa [ka_len] using hlen
    subst hn
    have key : ∀ (tg : Nat) (ty : FieldType) (v0 : Value), 1000 ≤ tg → tg < 2000 → ka_aty cl tg = some ty → newarray.typeOf t = ty → defaultValue ty = v0 → componentBytes ty ≤ 8 → Cond.arrayClass ty ∈ Tw → (∀ z : va_RA s (dA tg) ty, s.vm.findClass ("[" ++ ty.toString) = some (dA tg)) → ka_nwa tg v0 (h, gc, gs) st (fun st s => K (pc + 2) ls st s) → W p l e R s m args below meth cd H locs cells slots (ka_Z H0.size (ka_WR cl D dA H0) dX R s Q below) (F0 m pc als st) := by
      intro tg ty v0 t1 t2 haty hty hv0 hcb hac hra q
      simp only [ka_nwa] at q
      split at q
      · rename_i x r _
        obtain ⟨hn, hsm, q1, q2, q3⟩ := q
        have q1' : 1 ≤ gc := q1
        have q2' : x.toNatClampNeg ≤ gs := by simpa using q2
        refine W.newa hx hb (by rw [hty]; exact hts _ hac) rfl hdec rfl hn (by rw [hty]; exact Nat.le_trans (Nat.mul_le_mul hsm hcb) (by decide)) (by omega) (by omega) (fun cA kA comp o1 o2 o3 => ?_)
        rw [hty] at o1
        have hcA : cA = dA tg := Option.some.inj (o1.symm.trans (hra ((hK.2.1 tg ty haty).2 (by omega))))
        subst hcA
        rw [hty, hv0, ka_arr_new dA tg x.toNatClampNeg v0]
        refine go _ _ _ _ _ _ _ _ _ (hW.new (e := (tg, List.replicate x.toNatClampNeg v0)) (by simp) (fun q hq => ?_) (Or.inr (Or.inl ⟨t1, by show tg < 3000; omega, ⟨ty, haty⟩, by simp⟩))) hlc (by show cells + 1 + (gc - 1) ≤ _; omega) (by show slots + x.toNatClampNeg + (gs - (List.replicate x.toNatClampNeg v0).length) ≤ _; simp; omega) (q3 H.size (hW.none (Nat.le_refl _)))
        rw [Array.getElem?_push, if_neg (by omega)]
      · exact q.elim
    cases t with
    | int => exact key 1000 .int (.int 0) (by omega) (by omega) rfl rfl rfl (by decide) oa.2.1 (fun z => z) q
    | long => exact key 1001 .long (.long 0) (by omega) (by omega) rfl rfl rfl (by decide) oa.2.2.1 (fun z => z) q
    | char => exact key 1002 .char (.int 0) (by omega) (by omega) rfl rfl rfl (by decide) oa.2.2.2 (fun z => z) q
    | _ => exact q.elim
  | anewarray i =>
    have hn : 3 = n := by simpa [ka_len] using hlen
    subst hn
    simp only [ka_I] at q
    split at q
    · rename_i tg hf
      obtain ⟨C', t1, t2, haty, hl, hov⟩ := oa.1 _ _ _ hf
      simp only [ka_nwa] at q
      split at q
      · rename_i x r
        obtain ⟨hn, hsm, q1, q2, q3⟩ := q
        have q1' : 1 ≤ gc := q1
        have q2' : x.toNatClampNeg ≤ gs := by simpa using q2
        refine W.anew hx hb hown (hts _ hl) (hts _ hov) rfl hdec rfl hn (by omega) (by omega) (by omega) (fun cA kA comp o1 o2 o3 o4 => ?_)
        obtain ⟨kA', comp', z1, z2, z3, z4⟩ := (hK.2.1 tg _ haty).2 (by omega)
        have hcA : cA = dA tg := Option.some.inj (o1.symm.trans z4)
        subst hcA
        rw [ka_arr_new dA tg x.toNatClampNeg .null]
        refine go _ _ _ _ _ _ _ _ _ (hW.new (e := (tg, List.replicate x.toNatClampNeg .null)) (by simp) (fun q hq => ?_) (Or.inr (Or.inl ⟨by show 1000 ≤ tg; omega, t2, ⟨_, haty⟩, by simp⟩))) hlc (by show cells + 1 + (gc - 1) ≤ _; omega) (by show slots + x.toNatClampNeg + (gs - (List.replicate x.toNatClampNeg Value.null).length) ≤ _; simp; omega) (q3 H.size (hW.none (Nat.le_refl _)))
        rw [Array.getElem?_push, if_neg (by omega)]
      · exact q.elim
    · exact q.elim
  | arraylength =>
    have hn : 1 = n := by simpa [ka_len] using hlen
    subst hn
    simp only [ka_I] at q
    split at q
    · obtain ⟨t, vs, h1, h2, h3⟩ := q
      rcases h2 with ⟨t1, t2⟩ | rfl | rfl
      · obtain ⟨⟨ty, hty⟩, hc, -⟩ := hW.arr h1 t1 t2
        exact W.alen hx hb hc ((hK.2.1 t ty hty).1 _ _) (by rw [ka_arr_size]; rfl) rfl rfl hdec (go _ _ _ _ _ _ _ _ _ hW hlc hcc hss h3)
      · obtain ⟨cell, c1, c2, c3, c4, c5⟩ := scr (ty := .int) (by omega) rfl h1
        exact W.alen hx hb c1 c2 (by rw [c4]; rfl) rfl rfl hdec (go _ _ _ _ _ _ _ _ _ hW hlc hcc hss h3)
      · obtain ⟨cell, c1, c2, c3, c4, c5⟩ := scr (ty := .object "java/lang/Object") (by omega) rfl h1
        exact W.alen hx hb c1 c2 (by rw [c4]; rfl) rfl rfl hdec (go _ _ _ _ _ _ _ _ _ hW hlc hcc hss h3)
    · exact q.elim
  | iaload =>
    have hn : 1 = n := by simpa [ka_len] using hlen
    subst hn
    simp only [ka_I] at q
    split at q
    · obtain ⟨t, vs, v, h0, h1, h2, h3, h4⟩ := q
      have hlt := (List.getElem?_eq_some_iff.mp h3).1
      rcases h0 with rfl | rfl
      · obtain ⟨⟨ty, hty⟩, hc, -⟩ := hW.arr h1 (by omega) (by omega)
        exact W.iald hx hb hc ((hK.2.1 1000 .int rfl).1 _ _) (fun z => by cases z) (by rw [ka_arr_size]; exact fun z => z.elim h2 (fun z => absurd hlt (Nat.not_lt.mpr z))) (ka_arr_read dA _ h3) rfl rfl hdec (go _ _ _ _ _ _ _ _ _ hW hlc hcc hss h4)
      · obtain ⟨cell, c1, c2, c3, c4, c5⟩ := scr (ty := .int) (by omega) rfl h1
        exact W.iald hx hb c1 c2 c3 (by rw [c4]; exact fun z => z.elim h2 (fun z => absurd hlt (Nat.not_lt.mpr z))) (by rw [c5]; exact h3) rfl rfl hdec (go _ _ _ _ _ _ _ _ _ hW hlc hcc hss h4)
    · exact q.elim
  | laload =>
    have hn : 1 = n := by simpa [ka_len] using hlen
    subst hn
    simp only [ka_I, ka_ald] at q
    split at q
    · obtain ⟨vs, v, h1, h2, h3, h4⟩ := q
      have hlt := (List.getElem?_eq_some_iff.mp h3).1
      obtain ⟨⟨ty, hty⟩, hc, -⟩ := hW.arr h1 (by omega) (by omega)
      exact W.lald hx hb hc ((hK.2.1 1001 .long rfl).1 _ _) (fun z => by cases z) (by rw [ka_arr_size]; exact fun z => z.elim h2 (fun z => absurd hlt (Nat.not_lt.mpr z))) (ka_arr_read dA _ h3) rfl rfl hdec (go _ _ _ _ _ _ _ _ _ hW hlc hcc hss h4)
    · exact q.elim
  | caload =>
    have hn : 1 = n := by simpa [ka_len] using hlen
    subst hn
    simp only [ka_I, ka_ald] at q
    split at q
    · obtain ⟨vs, v, h1, h2, h3, h4⟩ := q
      have hlt := (List.getElem?_eq_some_iff.mp h3).1
      obtain ⟨⟨ty, hty⟩, hc, -⟩ := hW.arr h1 (by omega) (by omega)
      exact W.cald hx hb hc ((hK.2.1 1002 .char rfl).1 _ _) (fun z => by cases z) (by rw [ka_arr_size]; exact fun z => z.elim h2 (fun z => absurd hlt (Nat.not_lt.mpr z))) (ka_arr_read dA _ h3) rfl rfl hdec (go _ _ _ _ _ _ _ _ _ hW hlc hcc hss h4)
    · exact q.elim
  | aaload =>
    have hn : 1 = n := by simpa [ka_len] using hlen
    subst hn
    simp only [ka_I] at q
    split at q
    · obtain ⟨t, vs, v, t1, t2, h1, h2, h3, h4⟩ := q
      have hlt := (List.getElem?_eq_some_iff.mp h3).1
      obtain ⟨⟨ty, hty⟩, hc, -⟩ := hW.arr h1 (by omega) t2
      exact W.aald hx hb hc ((hK.2.1 t ty hty).1 _ _) (ka_aty_ref t1 t2 hty) (fun z => by cases z) (by rw [ka_arr_size]; exact fun z => z.elim h2 (fun z => absurd hlt (Nat.not_lt.mpr z))) (ka_arr_read dA _ h3) rfl rfl hdec (go _ _ _ _ _ _ _ _ _ hW hlc hcc hss h4)
    · exact q.elim
  | iastore =>
    have hn : 1 = n := by simpa [ka_len] using hlen
    subst hn
    simp only [ka_I] at q
    split at q
    · obtain ⟨vs, h1, h2, h3, h4⟩ := q
      obtain ⟨⟨ty, hty⟩, hc, hge⟩ := hW.arr h1 (by omega) (by omega)
      refine W.iast hx hb hc ((hK.2.1 1000 .int rfl).1 _ _) (fun z => by cases z) (by rw [ka_arr_size]; exact fun z => z.elim h2 (fun z => absurd h3 (Nat.not_lt.mpr z))) rfl rfl hdec (fun H' o1 o2 o3 => ?_)
      rw [ka_arr_store dA 1000 vs _ h3] at o1
      exact go _ _ _ _ _ _ _ _ _ (hW.put (hge (by omega)) o2 o3 (Or.inr (Or.inl ⟨by show 1000 ≤ 1000; omega, by show 1000 < 3000; omega, ⟨_, hty⟩, o1⟩))) (hput (hge (by omega))) hcc hss h4
    · exact q.elim
  | lastore =>
    have hn : 1 = n := by simpa [ka_len] using hlen
    subst hn
    simp only [ka_I] at q
    split at q
    · obtain ⟨vs, h1, h2, h3, h4⟩ := q
      obtain ⟨⟨ty, hty⟩, hc, hge⟩ := hW.arr h1 (by omega) (by omega)
      refine W.last hx hb hc ((hK.2.1 1001 .long rfl).1 _ _) (fun z => by cases z) (by rw [ka_arr_size]; exact fun z => z.elim h2 (fun z => absurd h3 (Nat.not_lt.mpr z))) rfl rfl hdec (fun H' o1 o2 o3 => ?_)
      rw [ka_arr_store dA 1001 vs _ h3] at o1
      exact go _ _ _ _ _ _ _ _ _ (hW.put (hge (by omega)) o2 o3 (Or.inr (Or.inl ⟨by show 1000 ≤ 1001; omega, by show 1001 < 3000; omega, ⟨_, hty⟩, o1⟩))) (hput (hge (by omega))) hcc hss h4
    · exact q.elim
  | castore =>
    have hn : 1 = n := by simpa [ka_len] using hlen
    subst hn
    simp only [ka_I] at q
    split at q
    · obtain ⟨hnar, vs, h1, h2, h3, h4⟩ := q
      obtain ⟨⟨ty, hty⟩, hc, hge⟩ := hW.arr h1 (by omega) (by omega)
      refine W.cast hx hb hc ((hK.2.1 1002 .char rfl).1 _ _) (fun z => by cases z) (by rw [ka_arr_size]; exact fun z => z.elim h2 (fun z => absurd h3 (Nat.not_lt.mpr z))) rfl rfl hdec (fun H' o1 o2 o3 => ?_)
      rw [hnar, ka_arr_store dA 1002 vs _ h3] at o1
      exact go _ _ _ _ _ _ _ _ _ (hW.put (hge (by omega)) o2 o3 (Or.inr (Or.inl ⟨by show 1000 ≤ 1002; omega, by show 1002 < 3000; omega, ⟨_, hty⟩, o1⟩))) (hput (hge (by omega))) hcc hss h4
    · exact q.elim
  | aastore =>
    have hn : 1 = n := by simpa [ka_len] using hlen
    subst hn
    simp only [ka_I] at q
    split at q
    · rename_i j a r
      obtain ⟨t, t1, t2, vs, h1, h2, h3, h4⟩ := q
      obtain ⟨⟨ty, hty⟩, hc, hge⟩ := hW.arr h1 (by omega) t2
      obtain ⟨C', rfl⟩ := ka_aty_obj t1 t2 hty
      refine fun T hT X => ?_
      obtain ⟨X', stp⟩ := va_aastN0 X hx (C := C') (a := a) (j := j) (cell := ka_arr dA (t, vs)) (by rw [hT]; exact hc) ((hK.2.1 t _ hty).1 _ _) (fun z => by cases z) (by rw [ka_arr_size]; exact fun z => z.elim h2 (fun z => absurd h3 (Nat.not_lt.mpr z))) (g := F0 m pc als _) rfl rfl (by rw [hb]; exact hdec)
      have hlt : a < T.heap.size := by rw [hT]; exact (Array.getElem?_eq_some_iff.mp hc).1
      have o1 := heapAt_setCell_self (s := T) ((ka_arr dA (t, vs)).setSlot j.toNatClampNeg .null) hlt
      rw [ka_arr_store dA t vs _ h3] at o1
      obtain ⟨u, a1, b1⟩ := go _ _ _ _ _ _ _ _ _ (hW.put (H' := (T.setCell a ((ka_arr dA (t, vs)).setSlot j.toNatClampNeg .null)).heap) (hge (by omega)) (by rw [size_setCell, hT]) (fun q hq => by rw [heapAt_setCell_ne _ (Ne.symm hq), hT]) (Or.inr (Or.inl ⟨by show 1000 ≤ t; omega, t2, ⟨_, hty⟩, by rw [ka_arr_store dA t vs _ h3]; exact o1⟩))) (hput (hge (by omega))) hcc hss h4 _ rfl X'
      exact ⟨u, stp u a1, b1⟩
    · obtain ⟨t, u, vs', t1, hv, hu, vs, h1, h2, h3, h4⟩ := q
      have u1 : 2000 ≤ u := by omega
      have u2 : u < 3000 := by omega
      obtain ⟨⟨ty, hty⟩, hc, hge⟩ := hW.arr h1 (by omega) u2
      obtain ⟨r, r1, r2, ⟨cv, v1, v2, v3, v4⟩, r4⟩ := hW.obj hv t1
      obtain ⟨C', hC'⟩ := ka_aty_obj u1 u2 hty
      subst hC'
      obtain ⟨kA, comp, z1, z2, z3, z4⟩ := (hK.2.1 u _ hty).2 (by omega)
      obtain ⟨kE, hkE, -⟩ := Vm.findClass_spec z3
      obtain ⟨-, hfc, kC, hkC, hkind⟩ := hK.1.1 t _ r1
      refine W.aast hx hb hc (fun q z => by cases z) (fun z => by cases z) z1 z2 rfl hkE ⟨h2, by rw [ka_arr_size]; exact h3⟩ v1 (fun q z => by rw [v3] at z; cases z) (by rw [v2]; exact hkC) (by rw [v2]; exact asg hu hty r1 z3 hfc) rfl rfl hdec (fun H' o1 o2 o3 => ?_)
      rw [ka_arr_store dA u vs _ h3] at o1
      exact go _ _ _ _ _ _ _ _ _ (hW.put (hge (by omega)) o2 o3 (Or.inr (Or.inl ⟨by show 1000 ≤ u; omega, u2, ⟨_, hty⟩, o1⟩))) (hput (hge (by omega))) hcc hss h4
    · exact q.elim
  | checkcast i =>
    have hn : 3 = n := by simpa [ka_len] using hlen
    subst hn
    simp only [ka_I] at q
    split at q
    · exact lv_castN hx hb hdec (go _ _ _ _ _ _ _ _ _ hW hlc hcc hss q)
    · split at q
      · rename_i t hf
        obtain ⟨vs, h1, h2⟩ := q
        obtain ⟨r, r1, c2, hl⟩ := oc _ _ _ hf
        obtain ⟨r', r1', r2, ⟨cv, v1, v2, v3, v4⟩, r4⟩ := hW.obj h1 c2
        have hKn := hK.1.1 t _ r1
        exact va_castS hx hb hown (hts _ hl) hKn.2 ⟨cv, v1, by rw [v3]; rfl, by rw [v2]; exact hKn.2.1⟩ hdec (go _ _ _ _ _ _ _ _ _ hW hlc hcc hss h2)
      · exact q.elim
    · exact q.elim
  | ireturn =>
    have hn : 1 = n := by simpa [ka_len] using hlen
    subst hn
    simp only [ka_I] at q
    split at q
    · split at q
      · rename_i v _ ty hret
        exact ka_Wmono (ends _ q.2) (W.zret (Qc := fun _ _ o t => o = .returned (some (.int v)) ∧ t.heap = H) (free := fun q => H0.size ≤ q) hx hb (by rw [hr]; exact hret) q.1 (fun t ht _ => ⟨rfl, ht⟩) hlc hdec)
      · exact q.elim
    · exact q.elim
  | lreturn =>
    have hn : 1 = n := by simpa [ka_len] using hlen
    subst hn
    simp only [ka_I] at q
    split at q
    · rename_i v
      exact ka_Wmono (ends _ q.2) (W.lret (Qc := fun _ _ o t => o = .returned (some (.long v)) ∧ t.heap = H) (free := fun q => H0.size ≤ q) hx hb (by rw [hr]; exact q.1) (fun t ht _ => ⟨rfl, ht⟩) hlc hdec)
    · exact q.elim
  | areturn =>
    have hn : 1 = n := by simpa [ka_len] using hlen
    subst hn
    simp only [ka_I] at q
    split at q
    · rename_i v
      obtain ⟨q1, q2, q3⟩ := q
      have hrt : ∃ rt, P.ret y = some rt ∧ ((∃ n, rt = .object n) ∨ ∃ t, rt = .array t) := by
        split at q2
        · rename_i nm hq
          exact ⟨_, hq, Or.inl ⟨_, rfl⟩⟩
        · rename_i nm hq
          exact ⟨_, hq, Or.inr ⟨_, rfl⟩⟩
        · exact q2.elim
      obtain ⟨rt, hrt1, hrt2⟩ := hrt
      exact ka_Wmono (ends _ q3) (W.aret (Qc := fun _ _ o t => o = .returned (some v) ∧ t.heap = H) (free := fun q => H0.size ≤ q) hx hb (by rw [hr]; exact hrt1) hrt2 (ka_isR_cases q1) (fun t ht _ => ⟨rfl, ht⟩) hlc hdec)
    · exact q.elim
  | return_ =>
    have hn : 1 = n := by simpa [ka_len] using hlen
    subst hn
    simp only [ka_I] at q
    split at q
    · exact ka_Wmono (ends _ q.2) (W.vret (Qc := fun _ _ o t => o = .returned none ∧ t.heap = H) (free := fun q => H0.size ≤ q) hx hb (by rw [hr]; exact q.1) (fun t ht _ => ⟨rfl, ht⟩) hlc hdec)
    · exact q.elim
  | _ => simp [ka_mem] at hmem
end
