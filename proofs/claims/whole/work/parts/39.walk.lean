/-! The claim out of one walk of the machine (after the skeleton's tail). -/
def kz_goal : Prop := ∀ (E : Nat × Nat) (b : Nat) (xs : List Int32), xs.length ≤ 2560 → b ≠ E.1 →
  ka_W (kp E) (1000, (0, 0, ka_ent [Value.ref b] 7, []), (kz_h b E.1 xs, 601024, 7293034)) (fun o _ => o = .inl (some (.int 1)))
def kz_P (b : Addr) (xs : List Int32) (args : Array Value) (s : State) : Prop := args = #[.ref b] ∧ s.IntsAt b xs ∧ xs.length ≤ 2560 ∧ (Jvm.Cond.and given_1 narrow_1).before args s = true
def kz_Q (_ : Array Value) (s : State) (o : Outcome) (t : State) : Prop := o = .returned (some (.int 1)) ∧ Framed s o t [] 601024 7293034
set_option maxHeartbeats 4000000 in
theorem kz_walk (hg : kz_goal) (l : Launch) (hfl : ∀ e : Env, l.admits e → e.platform.stackTraces = false) (b : Addr) (xs : List Int32) : MetFree l x (headSpec (Jvm.Cond.code x code maxLocals ret :: tables_1) room_1) (kz_P b xs) (fun _ _ _ _ _ => True) kz_Q := by
  refine MetFree.of_bodyS (code := code) (maxLocals := maxLocals) (ret := ret) (by decide) ?_ ?_
  · intro args s m h hn
    obtain ⟨meth, c, h1, h2, h3, h4, h5, h6, -, -⟩ := Cond.code_spec hn (atoms_spec (ws := Jvm.Cond.code x code maxLocals ret :: tables_1) h _ List.mem_cons_self)
    exact ⟨meth, c, h1, h2, h3, h4, h5, h6⟩
  · intro p e s m args below meth c s₁ B hml0 hP _
    obtain ⟨rfl, hx, hbd, hgv⟩ := hP
    obtain ⟨scr, harrAt, hlist, hof, hsmall⟩ := hx
    obtain ⟨hcb, hkn, -, -⟩ := State.arrayAt?_spec harrAt
    have hown : s.vm.findClass "KitRowsLaw" = some m.cls := findClass_of_methodNamed B.named
    have hts0 : ∀ c ∈ (Jvm.Cond.code x code maxLocals ret :: tables_1), c.before #[Value.ref b] s = true := atoms_spec (ws := Jvm.Cond.code x code maxLocals ret :: tables_1) B.pre
    have hts : ∀ w ∈ lw_tbl, w.before #[Value.ref b] s = true := k2_hts_sels lw_privs (fun w hw => hts0 w (List.mem_cons_of_mem _ hw)) lw_privs_ok
    have hml : c.maxLocals = 7 := B.maxLocals_eq (hts0 _ List.mem_cons_self)
    have X₀ : Stand p l e room_1 s m #[Value.ref b] below meth c s₁ [] 0 0 := Stand.of_body B
    have hh0 : s₁.heap = s.heap := by rw [B.state]; rfl
    have hH : c.exceptionTable.toList.map (fun h => (h.startPc, h.endPc, h.handlerPc, h.catchType)) = kH 0 := by
      obtain ⟨meth', c', h1, h2, h3, h4, h5, h6, h7, -⟩ := Cond.code_spec B.named (hts0 _ List.mem_cons_self)
      cases h1.symm.trans B.method
      cases h2.symm.trans X₀.code
      have h8 : c.exceptionTable = #[] := by simpa using h7
      rw [h8]
      rfl
    obtain ⟨D, dA, dX, E, hKK, hMI, hWR, hbE⟩ := ks_given hts hgv hcb hkn hof hlist
    have hs := ka_sound (l := l) (Tw := kTw) (cl := kcl) (D := D) (dA := dA) (dX := dX) (xN := kxN) (H0 := s.heap) (E0 := E.1) (P := kp E) (mN := kN) (mB := kB) (mH := kH) hfl ko_move_ok (ko_ins_ok E) (ko_fld_ok E) (ko_new_ok E) (ko_arr_ok E) (ko_cast_ok E) (by rw [hMI]; exact ko_cst_ok E) (ko_cal_ok E) (ko_hnd_ok E) (ko_thr_ok E) ko_asg_ok (ko_obj_ok E)
      (1000, (0, 0, ka_ent [Value.ref b] 7, []), (kz_h b E.1 xs, 601024, 7293034)) _ (hg E b xs hbd hbE)
    have k := hs p e room_1 s m #[Value.ref b] below meth c s.heap [] 0 0 _
      ⟨B.exec, B.bytes, B.returns, hml, hown, (name_of_methodNamed B.named B.method).1, fun w hw => hts w (List.mem_filter.mp hw).1, B.notSynchronized, hH, hKK, hfl e B.admits⟩
      hWR (ka_ent_L [Value.ref b] (by show 1 ≤ 7; decide)) (fun q hq => by cases hq) (by show 1000 ≤ 2048; decide) (by show 1000 * 64 ≤ 84000; decide) (by show 0 + 601024 ≤ 601024; decide) (by show 0 + 7293034 ≤ 7293034; decide)
    obtain ⟨t, a1, o, b1, b2, b3⟩ := k s₁ hh0 X₀
    have hent := lg_entry_eq m [Value.ref b] 7
    refine ⟨t, o, ?_, b1, b2, ?_⟩
    · have e7 : maxLocals = 7 := rfl
      rw [e7]
      exact hent ▸ a1
    · obtain ⟨L, k, n, o', h', gc, gs, w1, w2, w3, w4, w5, w6, w7, w8⟩ := b3
      subst w8
      have ho : o = .returned (some (.int 1)) := by
        cases o with
        | returned v =>
          have : v = some (.int 1) := w4
          rw [this]
        | threw x => exact w4.elim
      refine ⟨ho, ⟨_, ho⟩, w1, ?_⟩
      have w2' := State.sameButNew.mono w2 (show k ≤ 601024 by have := w6; show k ≤ room_1.cells; omega) (show n ≤ 7293034 by have := w7; show n ≤ room_1.slots; omega)
      obtain ⟨v1, v2, v3, v4, v5, v6⟩ := w2'
      refine ⟨v1, v2, v3, v4, v5, fun a cl hc => ?_⟩
      obtain ⟨c', z1, z2, z3, z4⟩ := v6 a cl hc
      refine ⟨c', z1, z2, z3, fun i _ => z4 i (fun hm => ?_)⟩
      have h1 := w3 _ hm
      have h2 := (Array.getElem?_eq_some_iff.mp hc).1
      exact Nat.not_lt.mpr h1 h2
theorem kz_pre_spec {args : Array Value} {s : State} (h : (Jvm.Cond.and given_1 narrow_1).before args s = true) (hr : rest_1_c.before args s = true) : ∃ (b : Addr) (xs : List Int32), kz_P b xs args s := by
  have hs := flat_of_before _ h
  have hq := flat_of_before _ hr
  have hc : (Cond.count 1).before args s = true := hs _ (by decide +kernel)
  have harr : (Cond.arrayOf (.arg 0) .int).before args s = true := hs _ (by decide +kernel)
  have hle : (Cond.le (.length (.arg 0)) (.int 2560)).before args s = true := hs _ (by decide +kernel)
  have hlen : (Cond.isInt (.length (.arg 0))).before args s = true := hq _ (by decide +kernel)
  have hall : (Cond.all (.arg 0) (.isInt (.elem (.arg 0) (.index 0)))).before args s = true := hq _ (by decide +kernel)
  obtain ⟨b, xs, hb, hx⟩ := State.ints_of_pre rfl harr hlen hall
  have hsm : xs.length < 2 ^ 31 := hx.choose_spec.2.2.2
  have hev : (Term.length (.arg 0)).eval args s none [] s = some (.int xs.length.toInt32) := hx.length_eval hb
  have hv := Cond.le_ints hev (show (Term.int 2560).eval args s none [] s = some (.int 2560) from rfl)
  have hd : xs.length.toInt32 ≤ 2560 := by
    simpa [Cond.before, Cond.holds, hv] using hle
  have hN : xs.length ≤ 2560 := (Int32.ofNat_le_ofNat hsm (by decide)).mp (show Int32.ofNat xs.length ≤ Int32.ofNat 2560 from hd)
  exact ⟨b, xs, Cond.one_arg hc (show args[0]? = some (.ref b) from hb), hx, hN, h⟩
theorem kz_comes (hg : kz_goal) (l : Launch) (hl : l.flags = flags0) : Comes l x (Jvm.Cond.code x code maxLocals ret :: tables_1) room_1 (fun tb e args s => Calls_1 tb e args s ∧ rest_1 tb e args s ∧ Pre_1 tb e args s)
    (fun _ _ args s o t => kz_Q args s o t) := by
  intro p e ha hc hk s m args below hf hfit hheap happ hpre
  obtain ⟨b, xs, hP⟩ := kz_pre_spec hpre.2.2 hpre.2.1
  obtain ⟨k, o, h1, h2, h3, hQ⟩ := kz_walk hg l (fun e ha => Launch.traces_off hl ha) b xs p e ha hc hk s m args below hf ((Spec.applies_iff_loose hf).mp happ).1 hP trivial
  exact ⟨k, o, h1, h2, h3, hQ⟩
theorem kz_frame {s t : State} {o : Outcome} {args : Array Value} (h : Framed s o t [] 601024 7293034) :
    Framed s o t (fieldLocs frame_1_writes args s ++ arrayLocs frame_1_arrays args s ++ staticLocs frame_1_statics s) 601024 7293034 := h
theorem kz_limb (hg : kz_goal) (L : Cond) (hL : ∀ (args : Array Value) (s t : State), L.after args s (.returned (some (.int 1))) t = true) :
    ArmFor flags0 classFile x code maxLocals ret World_1 tables_1 room_1 Calls_1 rest_1 Pre_1
      (fun tb e a s o t => postC L tb e a s o t ∧ Framed s o t (fieldLocs frame_1_writes a s ++ arrayLocs frame_1_arrays a s ++ staticLocs frame_1_statics s) 601024 7293034) := by
  intro l hl _ _ p e ha hc hk s m args below hf hfit hheap happ hpre
  obtain ⟨k, o, h1, h2, h3, rfl, hF⟩ := kz_comes hg l hl p e ha hc hk s m args below hf hfit hheap happ hpre
  exact ⟨k, _, h1, h2, h3, hL args s _, kz_frame hF⟩
theorem kz_vc (hg : kz_goal) : Claimed_1_1 ∧ Claimed_1_2 := ⟨kz_limb hg limb_1_1 (fun args s t => by simp [limb_1_1, Cond.after, Cond.holds, Cond.value]), kz_limb hg limb_1_2 (fun args s t => Cond.after_iff.mpr (by
  first | (rw [show limb_1_2 = Cond.eq .result (.int 1) from rfl, Cond.eq_ints (x := 1) (y := 1) rfl rfl]; simp; done) | (simp [limb_1_2, Cond.value, Term.eval]; done)))⟩
