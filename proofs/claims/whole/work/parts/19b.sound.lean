/-! The abstract machine is sound: what it says, the machine does. -/
def ko_ins (P : ka_P) (mB : Nat → ByteArray) : Prop := ∀ (y pc : Nat) (i : Instr) (n : Nat), P.ins y pc = some (i, n) → decode (mB y) pc = .ok (i, n) ∧ (ka_len i = 0 ∨ ka_len i = n)
def ko_thr (Tw : List Cond) (P : ka_P) (mN : Nat → MethodName) (mB : Nat → ByteArray) (mH : Nat → List (Nat × Nat × Nat × Nat)) (xN : List String) : Prop := ∀ (y pc k nc ns : Nat), P.thr y pc = some (k, nc, ns) → nc = 1 ∧ ns = 6 ∧ mH y = [] ∧
  ∃ (ik is ic ix pc2 : Nat) (rx : ByteArray) (tx nm : String), decode (mB y) pc = .ok (.new ik, 3) ∧ decode (mB y) (pc + 3) = .ok (.dup, 1) ∧ ((decode (mB y) (pc + 4) = .ok (.ldc is, 2) ∧ pc2 = pc + 6) ∨ (decode (mB y) (pc + 4) = .ok (.ldc_w is, 3) ∧ pc2 = pc + 7)) ∧ decode (mB y) pc2 = .ok (.invokespecial ic, 3) ∧ decode (mB y) (pc2 + 3) = .ok (.athrow, 1) ∧
    (decode rx 0 = .ok (.aload_n 0, 1) ∧ decode rx 1 = .ok (.aload_n 1, 1) ∧ decode rx 2 = .ok (.invokespecial ix, 3) ∧ decode rx 5 = .ok (.return_, 1)) ∧ xN[k]? = some nm ∧ Bundle.fit nm = true ∧ Cond.classLink (mN y).cls ik nm ∈ Tw ∧ Cond.instantiable nm 6 ∈ Tw ∧ Cond.initialized nm ∈ Tw ∧ Cond.stringRef (mN y).cls is tx ∈ Tw ∧
    ∀ w ∈ ka_oat (mN y).cls ic nm ix rx, w ∈ Tw ∨ w = .isRef (.static Bundle.tN "UNASSIGNED_STACK" Bundle.steD) ∨ w = .isRef (.static Bundle.tN "SUPPRESSED_SENTINEL" Bundle.listD) ∨ w = .laysStatic Bundle.tN "UNASSIGNED_STACK" Bundle.steD ∨ w = .laysStatic Bundle.tN "SUPPRESSED_SENTINEL" Bundle.listD
def ko_asg (Tw : List Cond) (cl : List vw_C) : Prop := cl.length < 900 ∧ ∀ (t : Nat) (r : vw_C), cl[t]? = some r → t < 10 → Cond.castable r.1 "java/lang/Object" ∈ Tw
def ko_obj (Tw : List Cond) (P : ka_P) (mN : Nat → MethodName) : Prop := (∀ (y i k : Nat), P.prim y i = some k → k = 1 ∨ k = 2 ∨ k = 3 ∨ k = 4 ∨ k = 5 ∨ k = 6) ∧ (∀ (y i : Nat), P.prim y i = some 4 → Cond.methodLink (mN y).cls i Lib.objectInit ∈ Tw ∧ Cond.instanceMethod Lib.objectInit ∈ Tw ∧ Cond.code Lib.objectInit ⟨#[0xb1]⟩ 1 none ∈ Tw) ∧
  (∀ (y i : Nat), P.prim y i = some 1 → Cond.methodLink (mN y).cls i Lib.Math.max.name ∈ Tw ∧ Cond.static Lib.Math.max.name ∈ Tw ∧ Cond.initialized "java/lang/Math" ∈ Tw ∧ Cond.code Lib.Math.max.name Lib.Math.max.code 2 (some .int) ∈ Tw) ∧
  (∀ (y i : Nat), P.prim y i = some 2 → Cond.methodLink (mN y).cls i Lib.Math.min.name ∈ Tw ∧ Cond.static Lib.Math.min.name ∈ Tw ∧ Cond.initialized "java/lang/Math" ∈ Tw ∧ Cond.code Lib.Math.min.name Lib.Math.min.code 2 (some .int) ∈ Tw) ∧
  (∀ (y i : Nat), P.prim y i = some 3 → Cond.methodLink (mN y).cls i Lib.MathLoose.min_long.x ∈ Tw ∧ Cond.static Lib.MathLoose.min_long.x ∈ Tw ∧ Cond.initialized "java/lang/Math" ∈ Tw ∧ Cond.code Lib.MathLoose.min_long.x Lib.MathLoose.min_long.code 4 (some .long) ∈ Tw) ∧
  (∀ (y i : Nat), P.prim y i = some 5 → Cond.methodLink (mN y).cls i ⟨"java/lang/Object", "getClass", "()Ljava/lang/Class;"⟩ ∈ Tw ∧ Cond.declares ⟨"java/lang/Object", "getClass", "()Ljava/lang/Class;"⟩ ∈ Tw ∧ Cond.selects "[Ljava/lang/Object;" ⟨"java/lang/Object", "getClass", "()Ljava/lang/Class;"⟩ ⟨"java/lang/Object", "getClass", "()Ljava/lang/Class;"⟩ ∈ Tw ∧ Cond.instanceMethod ⟨"java/lang/Object", "getClass", "()Ljava/lang/Class;"⟩ ∈ Tw ∧ Cond.native ⟨"java/lang/Object", "getClass", "()Ljava/lang/Class;"⟩ ∈ Tw) ∧
  (∀ (y i : Nat), P.prim y i = some 6 → Cond.methodLink (mN y).cls i arraycopyName ∈ Tw ∧ Cond.native arraycopyName ∈ Tw ∧ Cond.static arraycopyName ∈ Tw ∧ Cond.initialized "java/lang/System" ∈ Tw)
section
variable {l : Launch} {Tw : List Cond} {cl : List vw_C} {D : va_G} {dA dX : Nat → ClassId} {xN : List String} {H0 : Heap} {E0 : Nat} {P : ka_P} {mN : Nat → MethodName} {mB : Nat → ByteArray} {mH : Nat → List (Nat × Nat × Nat × Nat)}
variable {p : Program} {e : Env} {R : Room} {s : State} {m : MethodId} {args : Array Value} {below : List Frame} {meth : Method} {cd : Code} {H : Heap} {locs : List Loc} {cells slots : Nat}
theorem ka_throwW (ot : ko_thr Tw P mN mB mH xN) {d y pc k nc ns : Nat} {ls : List (Option Value)} {h : ka_H} {gc gs : Nat} {Q : ka_Q} {als : Array Slot} (hthr : P.thr y pc = some (k, nc, ns))
    (hh : ka_Here Tw (ka_KK cl D dA dX xN H0 E0) P mN mB mH y p e s m args meth cd) (hW : ka_WR cl D dA H0 h H) (hL : ka_L als (P.max y) ls) (hlc : ∀ q ∈ locs, H0.size ≤ q.base) (hd : d ≤ R.frames) (hlo : d * 64 ≤ R.locals) (hcc : cells + gc ≤ R.cells) (hss : slots + gs ≤ R.slots)
    (q1 : 8 ≤ d) (q2 : nc ≤ gc) (q3 : ns ≤ gs) (q4 : Q (.inr k) (h, gc - nc, gs - ns)) :
    W p l e R s m args below meth cd H locs cells slots (ka_Z H0.size (ka_WR cl D dA H0) dX R s Q below) (F0 m pc als []) := by
  obtain ⟨rfl, rfl, hmh, ik, is, ic, ix, pc2, rx, tx, nm, d0, d3, d4, d6, d9, ⟨x0, x1, x2, x5⟩, hk, hfit, hl, hin, hini, hstr, hat⟩ := ot _ _ _ _ _ hthr
  obtain ⟨hx, hb, hr, hml, hown, hname, hts, hlk, hHt, hK, htr⟩ := id hh
  have hcX : s.vm.findClass nm = some (dX k) := hK.2.2.1 k nm hk
  have hKh := hK.2.2.2.2.2.2.2.1
  have hZ1 := (vx_Zq.kept hK.2.2.2.2.2.1 (H1 := s.heap) (fun a ha _ => hKh.2.1 a ha))
  have hZ2 := (vx_Zq.kept hK.2.2.2.2.2.2.1 (H1 := s.heap) (fun a ha _ => hKh.2.1 a ha))
  have hat' : ∀ w ∈ ka_oat (mN y).cls ic nm ix rx, w.before args s = true := by
    intro w hw
    rcases hat w hw with z | rfl | rfl | rfl | rfl
    · exact hts _ z
    · exact vx_isRefq hZ1.1
    · exact vx_isRefq hZ2.1
    · exact hZ1.2.word
    · exact hZ2.2.word
  intro T0 hT0 X0
  have hsz : s.heap.size ≤ H.size := by
    have h1 := X0.same.2.1
    have h2 : (T0.setVm s.vm).heap = H := hT0
    rw [h2] at h1
    exact h1
  refine (?_ : W p l e R s m args below meth cd H locs cells slots (ka_Z H0.size (ka_WR cl D dA H0) dX R s Q below) (F0 m pc als [])) T0 hT0 X0
  refine W.newcK hx hb hown (hts _ hl) (hts _ hin) (hts _ hini) rfl d0 (by omega) (by omega) hcX rfl (fun H' kC o1 o2 o3 o4 => ?_)
  refine lv_dup hx hb d3 rfl ?_
  intro T hT X
  obtain ⟨k', cf, i, a', -, -, -, -, -, hev⟩ := Cond.stringRef_spec hown (hts _ hstr)
  have stp : ∀ target, Steps p.tables e below (T.setTop (F0 m pc2 als [.ref a', .ref H.size, .ref H.size])) target → Steps p.tables e below (T.setTop (F0 m (pc + 3 + 1) als [.ref H.size, .ref H.size])) target := by
    rcases d4 with ⟨d4, rfl⟩ | ⟨d4, rfl⟩
    · exact X.ldcString hx hown (hts _ hstr) hev (g := F0 m (pc + 3 + 1) als [.ref H.size, .ref H.size]) rfl (by rw [hb]; exact d4)
    · exact ka_ldcwS X hx hown (hts _ hstr) hev (g := F0 m (pc + 3 + 1) als [.ref H.size, .ref H.size]) rfl (by rw [hb]; exact d4)
  have hnoh : cd.exceptionTable.toList = [] := by
    rw [hmh] at hHt
    exact List.map_eq_nil_iff.mp hHt
  obtain ⟨U, u1, u2, u3, u4, u5, ⟨ce, c1, c2, c3⟩, u7, u8⟩ := ka_thrS X hx htr x0 x1 x2 x5 hown hfit hat' (fun z hz cell hc => hKh.2.2 z.base cell (hlc z hz) hc) hcX o1 (by rw [hT]; exact o2) hsz (msg := .ref a') rfl (g := F0 m pc2 als [.ref a', .ref H.size, .ref H.size]) rfl (by rw [hml]; exact hL.2.1) rfl rfl rfl (by rw [hb]; exact d6) (by rw [hb]; exact d9) (fun z hz => by rw [hnoh] at hz; cases hz) (by omega) (by
    show 2 * 0 + (1 + 0) + (13 * 3 + 42) ≤ R.locals
    have : 8 * 64 ≤ d * 64 := Nat.mul_le_mul_right 64 q1
    omega) hlk
  refine ⟨U, stp U u1, .threw H.size, u2, u3, locs, cells + 1, slots + 6, .inr k, h, gc - 1, gs - 6, u4, u5, hlc, ⟨ce, c1, c2, c3⟩, ?_, by omega, by omega, q4⟩
  rw [hT] at u7 u8
  refine hW.grow (by rw [u7, o3]; omega) (fun q hq => (u8 q (Nat.ne_of_lt hq)).trans (o4 q hq)) (fun q cell hq hc => ?_)
  have hlt : q < U.heap.size := (Array.getElem?_eq_some_iff.mp hc).1
  have he : q = H.size := by rw [u7, o3] at hlt; omega
  subst he
  rw [c1] at hc
  cases hc
  rw [c3]; rfl
set_option maxHeartbeats 4000000 in
theorem ka_sound (hfl : ∀ e : Env, l.admits e → e.platform.stackTraces = false) (om : ko_move Tw) (oi : ko_ins P mB) (of : ko_fld Tw cl P mN) (on : ko_new Tw cl P mN) (oa : ko_arr Tw cl P mN) (oc : ko_cast Tw cl P mN) (ok : ko_cst Tw P mN E0 (dX 100)) (oca : ko_cal Tw cl P mN mB mH) (oh : ko_hnd Tw P mN mH xN) (ot : ko_thr Tw P mN mB mH xN) (oas : ko_asg Tw cl) (oo : ko_obj Tw P mN) :
    ∀ c Q, ka_W P c Q → ka_SM l Tw cl D dA dX xN H0 E0 P mN mB mH c Q := by
  intro c Q hw
  refine hw _ ?_
  rintro ⟨d, ⟨y, pc, ls, st⟩, h, gc, gs⟩ Q q
  intro p e R s m args below meth cd H locs cells slots als hh hW hL hlc hd hlo hcc hss
  dsimp only at hh hW hL hd hlo hcc hss ⊢
  obtain ⟨hx, hb, hr, hml, hown, hname, hts, hlk, hHt, hK, htr⟩ := id hh
  simp only [ka_step] at q
  split at q
  · rename_i k nc ns hthr
    obtain ⟨q1, q2, q3, q4, q5⟩ := q
    subst q2
    exact ka_throwW ot hthr hh hW hL hlc hd hlo hcc hss q1 q3 q4 q5
  · split at q
    · exact q.elim
    · rename_i hthr i n hi
      obtain ⟨hdec, hlen⟩ := oi _ _ _ _ hi
      have prim : ∀ (kd j : Nat), n = 3 → ((kd = 0 ∧ i = .invokestatic j) ∨ (kd = 1 ∧ i = .invokevirtual j) ∨ (kd = 2 ∧ i = .invokespecial j)) → ka_inv P kd d y pc n j ls (h, gc, gs) st Q (fun pc ls st s => ka_SM l Tw cl D dA dX xN H0 E0 P mN mB mH (d, (y, pc, ls, st), s) Q) (fun d z as s P' => ka_SM l Tw cl D dA dX xN H0 E0 P mN mB mH (d, (z, 0, ka_ent as (P.max z), []), s) P') → W p l e R s m args below meth cd H locs cells slots (ka_Z H0.size (ka_WR cl D dA H0) dX R s Q below) (F0 m pc als st) := by
        intro kd j hn hig q
        subst hn
        unfold ka_inv at q
        split at q
        · rename_i k hk
          obtain ⟨q1, q2⟩ := q
          rcases oo.1 _ _ _ hk with rfl | rfl | rfl | rfl | rfl | rfl
          · have hkd : kd = 0 := q1.symm
            subst hkd
            have hi2 : i = .invokestatic j := by
              rcases hig with ⟨-, z⟩ | ⟨z, -⟩ | ⟨z, -⟩
              · exact z
              · cases z
              · cases z
            subst hi2
            unfold ka_prim at q2
            simp only at q2
            split at q2
            · rename_i vy vx r
              obtain ⟨z0, z1, z2⟩ := q2
              obtain ⟨w1, w2, w3, w4⟩ := oo.2.2.1 _ _ hk
              refine va_mmax hx hb (by rw [hml]; exact hL.2.1.symm) hown (hts _ w1) (hts _ w2) (hts _ w3) (hts _ w4) (by omega) (by
                show ka_sz r + 13 ≤ R.locals
                have : 1 * 64 ≤ d * 64 := Nat.mul_le_mul_right 64 z1
                omega) (by omega) (by omega) hdec ?_
              exact z2 p e R s m args below meth cd H locs cells slots als hh hW hL hlc hd hlo hcc hss
            · exact q2.elim
          · have hkd : kd = 0 := q1.symm
            subst hkd
            have hi2 : i = .invokestatic j := by
              rcases hig with ⟨-, z⟩ | ⟨z, -⟩ | ⟨z, -⟩
              · exact z
              · cases z
              · cases z
            subst hi2
            unfold ka_prim at q2
            simp only at q2
            split at q2
            · rename_i vy vx r
              obtain ⟨z0, z1, z2⟩ := q2
              obtain ⟨w1, w2, w3, w4⟩ := oo.2.2.2.1 _ _ hk
              refine va_mmin hx hb (by rw [hml]; exact hL.2.1.symm) hown (hts _ w1) (hts _ w2) (hts _ w3) (hts _ w4) (by omega) (by
                show ka_sz r + 13 ≤ R.locals
                have : 1 * 64 ≤ d * 64 := Nat.mul_le_mul_right 64 z1
                omega) (by omega) (by omega) hdec ?_
              exact z2 p e R s m args below meth cd H locs cells slots als hh hW hL hlc hd hlo hcc hss
            · exact q2.elim
          · have hkd : kd = 0 := q1.symm
            subst hkd
            have hi2 : i = .invokestatic j := by
              rcases hig with ⟨-, z⟩ | ⟨z, -⟩ | ⟨z, -⟩
              · exact z
              · cases z
              · cases z
            subst hi2
            unfold ka_prim at q2
            simp only at q2
            split at q2
            · rename_i vy vx r
              obtain ⟨z0, z1, z2⟩ := q2
              obtain ⟨w1, w2, w3, w4⟩ := oo.2.2.2.2.1 _ _ hk
              refine va_mmin_long hx hb (by rw [hml]; exact hL.2.1.symm) hown (hts _ w1) (hts _ w2) (hts _ w3) (hts _ w4) (by omega) (by
                show ka_sz r + 15 ≤ R.locals
                have : 1 * 64 ≤ d * 64 := Nat.mul_le_mul_right 64 z1
                omega) (by omega) (by omega) hdec ?_
              exact z2 p e R s m args below meth cd H locs cells slots als hh hW hL hlc hd hlo hcc hss
            · exact q2.elim
          · have hkd : kd = 2 := q1.symm
            subst hkd
            have hi2 : i = .invokespecial j := by
              rcases hig with ⟨z, -⟩ | ⟨z, -⟩ | ⟨-, z⟩
              · cases z
              · cases z
              · exact z
            subst hi2
            unfold ka_prim at q2
            simp only at q2
            split at q2
            · rename_i a r
              obtain ⟨z0, z1, z2⟩ := q2
              obtain ⟨w1, w2, w3⟩ := oo.2.1 _ _ hk
              refine W.objInit hx hb hown (hts _ w1) (hts _ w2) (hts _ w3) rfl (by rw [hml]; exact hL.2.1) rfl hdec (by omega) (by
                show 2 * 0 + ka_sz r + 12 ≤ R.locals
                have : 1 * 64 ≤ d * 64 := Nat.mul_le_mul_right 64 z1
                omega) ?_
              exact z2 p e R s m args below meth cd H locs cells slots als hh hW hL hlc hd hlo hcc hss
            · exact q2.elim
          · have hkd : kd = 1 := q1.symm
            subst hkd
            have hi2 : i = .invokevirtual j := by
              rcases hig with ⟨z, -⟩ | ⟨-, z⟩ | ⟨z, -⟩
              · cases z
              · exact z
              · cases z
            subst hi2
            unfold ka_prim at q2
            simp only at q2
            split at q2
            · rename_i mi a r hmi
              obtain ⟨z0, z1, ⟨vs, z2⟩, z3⟩ := q2
              obtain ⟨w1, w2, w3, w4, w5⟩ := oo.2.2.2.2.2.1 _ _ hk
              obtain ⟨rfl, -⟩ := ok.2.2.2 y 110 mi hmi
              obtain ⟨-, hc, -⟩ := hW.arr z2 (by omega) (by omega)
              refine va_getC hx hb (by rw [hml]; exact hL.2.1.symm) hown (hts _ w1) (hts _ w2) (hts _ w3) (hts _ w4) (hts _ w5) hK.2.2.2.2.2.2.2.2 ⟨_, hc, rfl, va_nmO ((hK.2.1 2999 (.object "java/lang/Object") (by simp [ka_aty])).2 (by omega)) (by decide)⟩ (by omega) (by
                show ka_sz r + 14 ≤ R.locals
                have : 1 * 64 ≤ d * 64 := Nat.mul_le_mul_right 64 z1
                omega) hdec ?_
              exact z3 p e R s m args below meth cd H locs cells slots als hh hW hL hlc hd hlo hcc hss
            · exact q2.elim
          · have hkd : kd = 0 := q1.symm
            subst hkd
            have hi2 : i = .invokestatic j := by
              rcases hig with ⟨-, z⟩ | ⟨z, -⟩ | ⟨z, -⟩
              · exact z
              · cases z
              · cases z
            subst hi2
            unfold ka_prim at q2
            simp only at q2
            split at q2
            · rename_i nn dp b sp a r
              obtain ⟨z0, z1, rfl, rfl, z2, vs, us, z3, z4, z5, z6, z7, z8, z9⟩ := q2
              obtain ⟨w1, w2, w3, w4⟩ := oo.2.2.2.2.2.2 _ _ hk
              obtain ⟨-, hc0, -⟩ := hW.arr z3 (by omega) (by omega)
              obtain ⟨hty, hc1, hge⟩ := hW.arr z4 (by omega) (by omega)
              obtain ⟨kA, comp, y1, y2, y3, y4⟩ := (hK.2.1 2999 (.object "java/lang/Object") (by simp [ka_aty])).2 (by omega)
              obtain ⟨kE, hkE, -⟩ := Vm.findClass_spec y3
              refine ka_acp hx hb (by rw [hml]; exact hL.2.1.symm) hown (hts _ w1) (hts _ w2) (hts _ w3) (hts _ w4) hc0 hc1 y1 y2 hkE z2 z6 z7 (fun i hi => ?_) (by omega) (by
                show ka_sz r + (nativeFrameWords "java/lang/System" "arraycopy" 5 + 11) ≤ R.locals
                have hw : nativeFrameWords "java/lang/System" "arraycopy" 5 ≤ 30 := by decide
                have : 1 * 64 ≤ d * 64 := Nat.mul_le_mul_right 64 z1
                omega) hdec (fun H1 locs1 o1 o2 o3 o4 => ?_)
              · have hv : vs[i]? = some (vs.getD i .null) := by
                  rw [List.getD_eq_getElem?_getD, List.getElem?_eq_getElem (by omega)]
                  rfl
                rcases z8 (vs.getD i .null) (List.mem_of_getElem? (i := i) (by rw [List.getElem?_take_of_lt hi]; exact hv)) with zz | ⟨x, t, ws, x1, x2, x3⟩
                · exact Or.inl zz
                · obtain ⟨rr, r1, r2, ⟨cv, v1, v2, v3, v4⟩, r4⟩ := hW.obj x3 (by omega)
                  obtain ⟨-, hfc, kC, hkC, hkind⟩ := hK.1.1 t _ r1
                  obtain ⟨c3, t3, f1, f2, f3⟩ := Cond.castable_spec (hts _ (oas.2 t rr r1 x2))
                  cases hfc.symm.trans f1
                  cases y3.symm.trans f2
                  exact Or.inr ⟨x, cv, kC, x1, v1, by rw [v3]; rfl, by rw [v2]; exact hkC, by rw [v2]; exact f3⟩
              · refine z9 p e R s m args below meth cd H1 locs1 cells slots als hh (hW.put (hge z5) o2 o3 (Or.inr (Or.inl ⟨by show 1000 ≤ 2999; omega, by show 2999 < 3000; omega, hty, ?_⟩))) hL (fun q hq => ?_) hd hlo hcc hss
                · rw [o1]
                  show some (arrV (dA 2999) us.length _) = some (arrV (dA 2999) (vs.take nn.toNatClampNeg ++ us.drop nn.toNatClampNeg).length _)
                  have hl : (vs.take nn.toNatClampNeg ++ us.drop nn.toNatClampNeg).length = us.length := by simp; omega
                  rw [hl]
                · rcases o4 q hq with h | h
                  · exact hlc q h
                  · rw [h]
                    exact hge z5
            · exact q2.elim
        · split at q
          · rename_i z na hcal
            exact ka_callW hfl om oca oh hcal hig hdec hh hW hL hlc hd hlo hcc hss q
          · exact q.elim
      by_cases h1 : ka_loc i = true
      · exact ka_locals hx hb hdec hlen h1 hL (fun pc' als' ls' st' hL' k => k p e R s m args below meth cd H locs cells slots als' hh hW hL' hlc hd hlo hcc hss) q
      · by_cases h2 : ka_mem i = true
        · refine ka_heap hx hb hdec hlen h2 hL hr hown hname hts hlk hK hW hlc hcc hss of on oa oc ok ?_ (fun pc' st' h' gc' gs' H' locs' cells' slots' w1 w2 w3 w4 k => k p e R s m args below meth cd H' locs' cells' slots' als hh w1 hL w2 hd hlo w3 w4) q
          intro u t r C' comp c0 hu haty hr1 hcomp hc0
          rcases hu with rfl | ⟨rfl, ht⟩
          · have hat2 : ka_aty cl (2000 + t) = some (.object r.1) := by
              unfold ka_aty at haty ⊢
              rw [if_neg (by omega), if_neg (by omega), if_neg (by omega)] at haty ⊢
              by_cases h9 : 2000 + t = 2999
              · have : t = 999 := by omega
                subst this
                have := (List.getElem?_eq_some_iff.mp hr1).1
                have := oas.1
                omega
              · rw [if_neg h9]
                by_cases h4 : 2000 + t = 4000
                · rw [if_neg h9, if_pos h4] at haty
                  cases haty
                · rw [if_neg h4]
                  by_cases h5 : 2000 + t = 2003
                  · rw [if_pos h5, Nat.add_sub_cancel_left, hr1]
                    rfl
                  · have hlt := (List.getElem?_eq_some_iff.mp hr1).1
                    have h900 := oas.1
                    rw [if_neg h9, if_neg h4, if_neg h5, if_neg (by omega)] at haty
                    cases haty
            have : C' = r.1 := by
              have := haty.symm.trans hat2
              cases this
              rfl
            subst this
            cases hcomp.symm.trans hc0
            exact va_asg _ _
          · have hob : C' = "java/lang/Object" := by
              have : ka_aty cl 2999 = some (.object "java/lang/Object") := by simp [ka_aty]
              cases haty.symm.trans this
              rfl
            subst hob
            obtain ⟨c3, t3, f1, f2, f3⟩ := Cond.castable_spec (hts _ (oas.2 t r hr1 ht))
            cases hc0.symm.trans f1
            cases hcomp.symm.trans f2
            exact f3
        · cases i with
          | invokevirtual j => exact prim 1 j (Eq.symm (by simpa [ka_len] using hlen)) (Or.inr (Or.inl ⟨rfl, rfl⟩)) q
          | invokespecial j => exact prim 2 j (Eq.symm (by simpa [ka_len] using hlen)) (Or.inr (Or.inr ⟨rfl, rfl⟩)) q
          | invokestatic j => exact prim 0 j (Eq.symm (by simpa [ka_len] using hlen)) (Or.inl ⟨rfl, rfl⟩) q
          | _ => first | exact absurd rfl h1 | exact absurd rfl h2 | exact q.elim
end
