/-! From the law's entry into the machine. -/
theorem ks_w (i : Nat) {w : Cond} (h : lw_tbl[i]? = some w) {args : Array Value} {s : State} (hts : ∀ w ∈ lw_tbl, w.before args s = true) : w.before args s = true := hts w (List.mem_of_getElem? h)
def kinst : List (String × Nat × Nat) := [("KitRows", 7, 84), ("KitRows$Book", 4, 92), ("KitRows$Floor", 4, 177), ("KitRows$Kit", 5, 380), ("KitRows$Making", 10, 781), ("KitRows$Reader", 4, 142), ("KitRows$Recipe", 6, 387), ("KitRows$Ring", 2, 163), ("KitRows$Unit", 7, 923), ("KitRowsModel", 43, 1049), ("java/util/ArrayList", 3, 98)]
theorem kinst_ok : ∀ e ∈ kinst, lw_tbl[e.2.2]? = some (.instantiable e.1 e.2.1) := by decide +kernel
theorem kinst_at : ∀ t, t < 11 → ∃ e ∈ kinst, ∀ r ∈ kcl[t]?, r.1 = e.1 := by decide +kernel
theorem ks_one {args : Array Value} {s : State} (hts : ∀ w ∈ lw_tbl, w.before args s = true) (t : Nat) : ∃ p : ClassId × (Nat → Nat), ∀ r, kcl[t]? = some r → u_Kn s r.1 r.2.1 r.2.2 p.1 p.2 := by
  cases hc : kcl[t]? with
  | none => exact ⟨(0, fun _ => 0), fun r h => by cases h⟩
  | some r =>
    obtain ⟨ty0, hy, hcls⟩ := kcls_ok hc
    have ht : t < 11 := (List.getElem?_eq_some_iff.mp hc).1
    obtain ⟨e, he, hr⟩ := kinst_at t ht
    have h1 : r.1 = e.1 := hr r hc
    have hi : (Cond.instantiable r.1 e.2.1).before args s = true := by rw [h1]; exact ks_w _ (kinst_ok e he) hts
    obtain ⟨cC, iS, hk⟩ := u_known (ws := kTw) (T := r.2.1) (N := r.2.2) (fun w hw => hts w (List.mem_filter.mp hw).1) hcls.2.2.1 hi
    exact ⟨(cC, iS), fun r' h' => by cases h'; exact hk⟩
theorem ks_arr {args : Array Value} {s : State} (hts : ∀ w ∈ lw_tbl, w.before args s = true) {scr : Cell} (hof : s.isArrayOf scr .int) (t : Nat) : ∃ c : ClassId, (t = 4000 → c = scr.cls) ∧ ∀ ty, ka_aty kcl t = some ty → ArrOfT s c ty ∧ (t ≠ 4000 → va_RA s c ty) := by
  have prim : ∀ (ty : FieldType), (∀ C, ty ≠ .object C) → (Cond.arrayClass ty).before args s = true → ∃ c : ClassId, ArrOfT s c ty ∧ va_RA s c ty := by
    intro ty hno h
    obtain ⟨c, k, comp, f1, f2, f3⟩ := Cond.arrayClass_spec h
    refine ⟨c, fun N z => ⟨(fun k h => by cases h), k, f2, comp, f3⟩, ?_⟩
    cases ty with
    | object C => exact absurd rfl (hno C)
    | _ => exact f1
  have obj : ∀ (C : String), (Cond.arrayOver (.object C)).before args s = true → ∃ c : ClassId, ArrOfT s c (.object C) ∧ va_RA s c (.object C) := by
    intro C h
    obtain ⟨comp, c, k, f1, f2, f3, f4, f5⟩ := Cond.arrayOver_spec h
    exact ⟨c, fun N z => ⟨(fun k h => by cases h), k, f3, comp, f4⟩, k, comp, f3, f4, f1, f5⟩
  have use : ∀ (ty : FieldType), t ≠ 4000 → ka_aty kcl t = some ty → (∃ c : ClassId, ArrOfT s c ty ∧ va_RA s c ty) → ∃ c : ClassId, (t = 4000 → c = scr.cls) ∧ ∀ ty, ka_aty kcl t = some ty → ArrOfT s c ty ∧ (t ≠ 4000 → va_RA s c ty) := by
    intro ty hne hty ⟨c, h1, h2⟩
    refine ⟨c, fun z => absurd z hne, fun ty' hty' => ?_⟩
    cases hty.symm.trans hty'
    exact ⟨h1, fun _ => h2⟩
  by_cases e1 : t = 1000
  · subst e1; exact use .int (by omega) rfl (prim _ (fun C h => by cases h) (ks_w 140 (by decide +kernel) hts))
  by_cases e2 : t = 1001
  · subst e2; exact use .long (by omega) rfl (prim _ (fun C h => by cases h) (ks_w 1184 (by decide +kernel) hts))
  by_cases e3 : t = 1002
  · subst e3; exact use .char (by omega) rfl (prim _ (fun C h => by cases h) (ks_w 161 (by decide +kernel) hts))
  by_cases e4 : t = 2999
  · subst e4; exact use (.object "java/lang/Object") (by omega) rfl (obj _ (ks_w 502 (by decide +kernel) hts))
  by_cases e5 : t = 4000
  · subst e5
    obtain ⟨g1, k, g2, comp, g3⟩ := hof
    refine ⟨scr.cls, fun _ => rfl, fun ty hty => ?_⟩
    cases hty
    exact ⟨fun N z => ⟨(fun k h => by cases h), k, g2, comp, g3⟩, fun z => absurd rfl z⟩
  by_cases e6 : t = 2003
  · subst e6; exact use (.object "KitRows$Kit") (by omega) rfl (obj _ (ks_w 124 (by decide +kernel) hts))
  by_cases e7 : t = 4001
  · subst e7; exact use (.object "java/lang/Object") (by omega) rfl (obj _ (ks_w 502 (by decide +kernel) hts))
  · refine ⟨0, fun z => absurd z e5, fun ty hty => ?_⟩
    unfold ka_aty at hty
    rw [if_neg e1, if_neg e2, if_neg e3, if_neg e4, if_neg e5, if_neg e6, if_neg e7] at hty
    cases hty
def kz_h (b E0 : Nat) (xs : List Int32) : ka_H := fun a => if a = b then some (4000, xs.map Value.int) else if a = E0 then some (4001, []) else none
theorem kx_cast : ∀ e ∈ [("java/lang/IllegalArgumentException", 0, 248), ("java/lang/IllegalStateException", 1, 591), ("java/util/NoSuchElementException", 2, 621), ("java/lang/UnsupportedOperationException", 3, 317)], lw_tbl[e.2.2]? = some (.castable e.1 e.1) ∧ kxN[e.2.1]? = some e.1 := by decide +kernel
set_option maxHeartbeats 1000000 in
theorem ks_given {s : State} {b : Nat} {xs : List Int32} {scr : Cell} (hts : ∀ w ∈ lw_tbl, w.before #[Value.ref b] s = true) (hgv : (Jvm.Cond.and given_1 narrow_1).before #[Value.ref b] s = true) (hcb : s.heap[b]? = some scr) (hkn : scr.vm ≠ .unknown) (hof : s.isArrayOf scr .int) (hlist : scr.slots.toList = xs.map Value.int) :
    ∃ (D : va_G) (dA dX : Nat → ClassId) (E : Nat × Nat), ka_KK kcl D dA dX kxN s.heap E.1 s ∧ dX 100 = E.2 ∧ ka_WR kcl D dA s.heap (kz_h b E.1 xs) s.heap ∧ b ≠ E.1 := by
  have hs := flat_of_before _ hgv
  obtain ⟨E0, cE, cell, kE, x1, x2, x3, x4, x5, x6, -⟩ := Cond.exactly_spec (show (Cond.exactly (.static "java/util/ArrayList" "DEFAULTCAPACITY_EMPTY_ELEMENTDATA" "[Ljava/lang/Object;") "[Ljava/lang/Object;").before #[Value.ref b] s = true from hs _ (by decide +kernel))
  have hlen : (Cond.eq (.length (.static "java/util/ArrayList" "DEFAULTCAPACITY_EMPTY_ELEMENTDATA" "[Ljava/lang/Object;")) (.int 0)).before #[Value.ref b] s = true := hs _ (by decide +kernel)
  obtain ⟨MI, hMI⟩ := va_Mi.of (show (Cond.isRef (.mirror "[Ljava/lang/Object;")).before #[Value.ref b] s = true from hs _ (by decide +kernel))
  have hD : ∃ D : va_G, ∀ (t : Nat) (r : vw_C), kcl[t]? = some r → u_Kn s r.1 r.2.1 r.2.2 (D.1 t) (D.2 t) := by
    have h := fun t => ks_one hts t
    exact ⟨(fun t => (Classical.choose (h t)).1, fun t => (Classical.choose (h t)).2), fun t r hr => Classical.choose_spec (h t) r hr⟩
  obtain ⟨D, hD⟩ := hD
  have hA : ∃ dA : Nat → ClassId, ∀ t, (t = 4000 → dA t = scr.cls) ∧ ∀ ty, ka_aty kcl t = some ty → ArrOfT s (dA t) ty ∧ (t ≠ 4000 → va_RA s (dA t) ty) := by
    have h := fun t => ks_arr hts hof t
    exact ⟨fun t => Classical.choose (h t), fun t => Classical.choose_spec (h t)⟩
  obtain ⟨dA, hA⟩ := hA
  have hX : ∃ dX : Nat → ClassId, dX 100 = MI ∧ ∀ (k : Nat) (nm : String), kxN[k]? = some nm → s.vm.findClass nm = some (dX k) := by
    have h : ∀ k, ∃ c : ClassId, (k = 100 → c = MI) ∧ ∀ nm, kxN[k]? = some nm → s.vm.findClass nm = some c := by
      intro k
      cases hk : kxN[k]? with
      | none => exact ⟨MI, fun _ => rfl, fun nm h => by cases h⟩
      | some nm =>
        have hlt : k < 4 := (List.getElem?_eq_some_iff.mp hk).1
        obtain ⟨g1, g2, g3, g4, g5⟩ := kx_all hk
        obtain ⟨c, k', h1, -⟩ := Cond.instantiable_spec (hts _ (List.mem_filter.mp g3).1)
        exact ⟨c, fun z => by omega, fun nm' h' => by cases h'; exact h1⟩
    exact ⟨fun k => Classical.choose (h k), (Classical.choose_spec (h 100)).1 rfl, fun k nm hk => (Classical.choose_spec (h k)).2 nm hk⟩
  obtain ⟨dX, hX0, hX⟩ := hX
  have hXX : ∀ (i j : Nat) (a c : String), kxN[i]? = some a → kxN[j]? = some c → s.vm.assignable (dX i) (dX j) = decide (i = j) := by
    intro i j a c hi hj
    have ilt : i < 4 := (List.getElem?_eq_some_iff.mp hi).1
    have jlt : j < 4 := (List.getElem?_eq_some_iff.mp hj).1
    have fi := hX i a hi
    have fj := hX j c hj
    by_cases hij : i = j
    · subst hij
      cases hi.symm.trans hj
      have hw : (Cond.castable a a).before #[Value.ref b] s = true := by
        have key : ∀ k, k < 4 → ∃ e ∈ [("java/lang/IllegalArgumentException", 0, 248), ("java/lang/IllegalStateException", 1, 591), ("java/util/NoSuchElementException", 2, 621), ("java/lang/UnsupportedOperationException", 3, 317)], e.2.1 = k := by decide
        obtain ⟨e, he, hk⟩ := key i ilt
        obtain ⟨w1, w2⟩ := kx_cast e he
        rw [hk] at w2
        cases hi.symm.trans w2
        exact ks_w _ w1 hts
      obtain ⟨c3, t3, f1, f2, f3⟩ := Cond.castable_spec hw
      cases fi.symm.trans f1
      cases fi.symm.trans f2
      simpa using f3
    · have hw : (Cond.not (.castable a c)).before #[Value.ref b] s = true := by
        refine hs _ ?_
        have key : ∀ i, i < 4 → ∀ j, j < 4 → i ≠ j → (Cond.not (.castable (kxN.getD i "") (kxN.getD j ""))) ∈ flatC (Jvm.Cond.and given_1 narrow_1) := by decide +kernel
        have h := key i ilt j jlt hij
        rw [List.getD_eq_getElem?_getD, List.getD_eq_getElem?_getD, hi, hj] at h
        exact h
      obtain ⟨c3, t3, f1, f2, f3⟩ := Cond.notCastable_spec hw
      cases fi.symm.trans f1
      cases fj.symm.trans f2
      rw [f3]
      simp [hij]
  have hcE : cE = dA 4001 := by
    obtain ⟨kA, comp, y1, y2, y3, y4⟩ := ((hA 4001).2 (.object "java/lang/Object") rfl).2 (by omega)
    have e1 : "[" ++ (FieldType.object "java/lang/Object").toString = "[Ljava/lang/Object;" := by decide
    rw [e1] at y4
    exact Option.some.inj (x2.symm.trans y4)
  have key : ∀ (t : Term), t.eval #[Value.ref b] s none [] s = some (.ref E0) → (Cond.eq (.length t) (.int 0)).before #[Value.ref b] s = true → ∃ cell', s.arrayAt? E0 = some cell' ∧ cell'.slots.size < 2 ^ 31 ∧ cell'.slots.size.toInt32 = 0 := by
    intro t ht hl
    cases harr : s.arrayAt? E0 with
    | none => simp [Cond.before, Cond.holds, Cond.value, Term.eval, ht, harr] at hl
    | some cell' =>
      refine ⟨cell', rfl, ?_⟩
      by_cases hlt : cell'.slots.size < 2 ^ 31
      · refine ⟨hlt, ?_⟩
        have hev : (Term.length t).eval #[Value.ref b] s none [] s = some (.int cell'.slots.size.toInt32) := by simp [Term.eval, ht, harr, hlt]
        have h2 := Cond.eq_ints hev (show (Term.int 0).eval #[Value.ref b] s none [] s = some (.int 0) from rfl)
        simpa [Cond.before, Cond.holds, h2] using hl
      · exfalso
        simp [Cond.before, Cond.holds, Cond.value, Term.eval, ht, harr, hlt] at hl
  have hslots : cell.slots.size = 0 ∧ cell.vm ≠ .unknown := by
    obtain ⟨cell', harr, hlt, h0⟩ := key _ x1 hlen
    obtain ⟨z1, z2, -, -⟩ := State.arrayAt?_spec harr
    cases x3.symm.trans z1
    refine ⟨?_, z2⟩
    have h1 := congrArg Int32.toInt h0
    rw [show cell.slots.size.toInt32 = Int32.ofNat cell.slots.size from rfl, Int32.toInt_ofNat_of_lt hlt] at h1
    simpa using h1
  have hbE : b ≠ E0 := by
    rintro rfl
    cases hcb.symm.trans x3
    obtain ⟨g1, k, g2, comp, g3⟩ := hof
    obtain ⟨kA, comp', y1, y2, y3, y4⟩ := ((hA 4001).2 (.object "java/lang/Object") rfl).2 (by omega)
    rw [x6, hcE] at g2
    cases y1.symm.trans g2
    rw [y2] at g3
    cases g3
  have hnot : ∀ a : Nat, a < s.heap.size → ¬ s.heap.size ≤ a := fun a h1 h2 => Nat.not_lt.mpr h2 h1
  refine ⟨D, dA, dX, (E0, MI), ⟨⟨hD, fun k q hk => by simp at hk⟩, fun t ty ht => (hA t).2 ty ht, hX, hXX, ?_, ?_, ?_, ⟨Nat.le_refl _, fun _ _ => rfl, fun q c hq hc => absurd hq (hnot q (Array.getElem?_eq_some_iff.mp hc).1)⟩, by rw [hX0]; exact hMI⟩, hX0, ⟨⟨Nat.le_refl _, fun _ _ => rfl, fun q c hq hc => absurd hq (hnot q (Array.getElem?_eq_some_iff.mp hc).1)⟩, fun a e ha => ?_⟩, hbE⟩
  · exact va_Zof (ks_w 110 (by decide +kernel) hts) (ks_w 61 (by decide +kernel) hts) x1 hnot
  · exact vx_Zqof (ks_w 273 (by decide +kernel) hts) (ks_w 66 (by decide +kernel) hts) (hs _ (by decide +kernel)) hnot
  · exact vx_Zqof (ks_w 275 (by decide +kernel) hts) (ks_w 66 (by decide +kernel) hts) (hs _ (by decide +kernel)) hnot
  · unfold kz_h at ha
    split at ha
    · rename_i e1
      subst e1
      cases ha
      exact ⟨Or.inr (Or.inr ⟨by show 4000 ≤ 4000; omega, scr, hcb, ((hA 4000).1 rfl).symm, hkn, hof.1, hlist⟩), Or.inr (by show 4000 ≤ 4000; omega)⟩
    · split at ha
      · rename_i e1
        subst e1
        cases ha
        refine ⟨Or.inr (Or.inr ⟨by show 4000 ≤ 4001; omega, cell, x3, x6.trans hcE, hslots.2, (fun k hk => by rw [hk] at x5; cases x5), ?_⟩), Or.inr (by show 4000 ≤ 4001; omega)⟩
        exact List.eq_nil_of_length_eq_zero (by simpa using hslots.1)
      · cases ha
