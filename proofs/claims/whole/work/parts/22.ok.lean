/-! The tables rest on the words of the Statement: checked by evaluation. -/
def ka_sr : Cond → Bool
  | .stringRef _ _ _ => true
  | _ => false
def kTw : List Cond := lw_tbl.filter (fun w => goodWord w || ka_sr w)
theorem kw (i : Nat) {w : Cond} (h : (lw_tbl[i]? == some w && (goodWord w || ka_sr w)) = true) : w ∈ kTw := by
  rw [Bool.and_eq_true] at h
  exact List.mem_filter.mpr ⟨List.mem_of_getElem? (by simpa using h.1), h.2⟩
/-- the word stands at this place, and stays -/
def kq (i : Nat) (w : Cond) : Bool := lw_tbl[i]? == some w && (goodWord w || ka_sr w)
theorem kOwn_eq : ∀ y, (kN y).cls = kOwn.getD (km_O.getD y 99) "" := by
  intro y
  by_cases h : y < 192
  · have h0 : ∀ y, y < 192 → (kN y).cls = kOwn.getD (km_O.getD y 99) "" := by decide +kernel
    exact h0 y h
  · have h1 : km_N.length = 192 := by decide +kernel
    have h2 : km_O.length = 192 := by decide +kernel
    have e1 : kN y = ⟨"", "", ""⟩ := by unfold kN; rw [List.getD_eq_getElem?_getD, List.getElem?_eq_none (by omega)]; rfl
    have e2 : km_O.getD y 99 = 99 := by rw [List.getD_eq_getElem?_getD, List.getElem?_eq_none (by omega)]; rfl
    rw [e1, e2]
    rfl
theorem ka_lk {α β : Type} [BEq α] [LawfulBEq α] {l : List (α × β)} {k : α} {v : β} (h : l.lookup k = some v) : (k, v) ∈ l := by
  induction l with
  | nil => simp at h
  | cons x r ih =>
    obtain ⟨a, b⟩ := x
    rw [List.lookup_cons] at h
    split at h
    · rename_i e
      have e1 : k = a := by simpa using e
      cases h
      rw [e1]
      exact List.mem_cons_self
    · exact List.mem_cons_of_mem _ (ih h)
theorem ka_lkx {α β γ : Type} [BEq α] [LawfulBEq α] {l : List ((α × β) × γ)} {k : α} {v : β} (h : (l.map (·.1)).lookup k = some v) : ∃ c, ((k, v), c) ∈ l := by
  obtain ⟨x, hx, he⟩ := List.mem_map.mp (ka_lk h)
  obtain ⟨y, c⟩ := x
  cases he
  exact ⟨c, hx⟩
/-- the classes: fields laid as the tables say -/
def kc_cls (t : Nat) : Bool := match kcl[t]?, kYs[t]? with
  | some (C, T, N), some ty => (u_ws C T N).all (fun w => kTw.contains w) && (List.range N).all (fun k => parseFieldDescriptor (T k).2.2.1 == some (ty k)) && (List.range N).all (fun a => (List.range N).all (fun b => a == b || (T a).2.1 != (T b).2.1))
  | _, _ => false
theorem kcls0 : kc_cls 0 = true := by decide +kernel
theorem kcls1 : kc_cls 1 = true := by decide +kernel
theorem kcls2 : kc_cls 2 = true := by decide +kernel
theorem kcls3 : kc_cls 3 = true := by decide +kernel
theorem kcls4 : kc_cls 4 = true := by decide +kernel
theorem kcls5 : kc_cls 5 = true := by decide +kernel
theorem kcls6 : kc_cls 6 = true := by decide +kernel
theorem kcls7 : kc_cls 7 = true := by decide +kernel
theorem kcls8 : kc_cls 8 = true := by decide +kernel
theorem kcls9 : kc_cls 9 = true := by decide +kernel
theorem kcls10 : kc_cls 10 = true := by decide +kernel
theorem kcls_all : ∀ t, t < 11 → kc_cls t = true := fun t ht => by
  match t, ht with
  | 0, _ => exact kcls0
  | 1, _ => exact kcls1
  | 2, _ => exact kcls2
  | 3, _ => exact kcls3
  | 4, _ => exact kcls4
  | 5, _ => exact kcls5
  | 6, _ => exact kcls6
  | 7, _ => exact kcls7
  | 8, _ => exact kcls8
  | 9, _ => exact kcls9
  | 10, _ => exact kcls10
  | n + 11, h => omega
theorem kcls_ok {t : Nat} {r : vw_C} (h : kcl[t]? = some r) : ∃ ty0, kYs[t]? = some ty0 ∧ ko_cls kTw kcl t r.1 r.2.1 r.2.2 ty0 := by
  have ht : t < 11 := (List.getElem?_eq_some_iff.mp h).1
  have hc := kcls_all t ht
  unfold kc_cls at hc
  rw [h] at hc
  obtain ⟨C, T, N⟩ := r
  cases hy : kYs[t]? with
  | none => rw [hy] at hc; simp at hc
  | some ty =>
    rw [hy] at hc
    simp only [Bool.and_eq_true, List.all_eq_true, List.mem_range] at hc
    obtain ⟨⟨h1, h2⟩, h3⟩ := hc
    refine ⟨ty, rfl, h, by omega, fun w hw => ?_, fun k hk => by simpa using h2 k hk, fun a ha b hb hne => ?_⟩
    · have := h1 w hw
      simpa using this
    · have := h3 a ha b hb
      simp at this
      exact this.resolve_left hne
def kc_fld (e : ((Nat × Nat) × (Nat × Nat × FieldType)) × (String × Nat)) : Bool := match kcl[e.1.2.1]?, kYs[e.1.2.1]? with
  | some (_, T, N), some ty => decide (e.1.2.2.1 < N) && decide (ty e.1.2.2.1 = e.1.2.2.2) && kq e.2.2 (.fieldLink (kOwn.getD e.1.1.1 "") e.1.1.2 e.2.1 (T e.1.2.2.1).2.1 (T e.1.2.2.1).2.2.1) && (e.2.1 == (T e.1.2.2.1).1 || kTw.contains (.sameField e.2.1 (T e.1.2.2.1).1 (T e.1.2.2.1).2.1 (T e.1.2.2.1).2.2.1)) && (if (T e.1.2.2.1).2.2.2 then kfin.contains e.1.1 && (!(kfown.contains e.1.1) || (T e.1.2.2.1).1 == kOwn.getD e.1.1.1 "") else true)
  | _, _ => false
theorem kf_ok : ∀ e ∈ kfx, kc_fld e = true := by decide +kernel
theorem kinit_ok : ∀ y ∈ kinit, (kN y).name = "<init>" := by decide +kernel
theorem ko_fld_ok (E0 : Nat) : ko_fld kTw kcl (kp E0) kN := by
  intro y i t k ty h
  obtain ⟨⟨ref, ri⟩, hm⟩ := ka_lkx (l := kfx) h
  have hc := kf_ok _ hm
  unfold kc_fld at hc
  dsimp only at hc
  cases hcl : kcl[t]? with
  | none => rw [hcl] at hc; simp at hc
  | some r =>
    obtain ⟨ty0, hy, hcls⟩ := kcls_ok hcl
    obtain ⟨C, T, N⟩ := r
    rw [hcl, hy] at hc
    simp only [Bool.and_eq_true, decide_eq_true_eq] at hc
    obtain ⟨⟨⟨⟨h1, h2⟩, h3⟩, h4⟩, h5⟩ := hc
    refine ⟨C, T, N, ty0, ref, hcls, h1, h2, by rw [kOwn_eq]; exact kw ri h3, ?_, fun hp => ?_⟩
    · simp only [Bool.or_eq_true, beq_iff_eq] at h4
      exact h4.imp id (fun z => by simpa using z)
    · by_cases hf : (T k).2.2.2 = true
      · rw [if_pos hf] at h5
        simp only [Bool.and_eq_true, Bool.or_eq_true, Bool.not_eq_true'] at h5
        have hp' : (!(kfin.contains (km_O.getD y 99, i)) || (kfown.contains (km_O.getD y 99, i) && kinit.contains y)) = true := hp
        rw [h5.1] at hp'
        simp only [Bool.not_true, Bool.false_or, Bool.and_eq_true] at hp'
        refine Or.inr ⟨kinit_ok y (by simpa using hp'.2), ?_⟩
        rcases h5.2 with z | z
        · rw [z] at hp'
          exact absurd hp'.1 (by decide)
        · rw [kOwn_eq]
          simpa using z
      · exact Or.inl (by simpa using hf)
def kc_new (e : ((Nat × Nat) × (Nat × List Value)) × (Nat × Nat × Nat)) : Bool := match kcl[e.1.2.1]?, kYs[e.1.2.1]? with
  | some (C, _, N), some ty => decide (e.1.2.2 = (List.range N).map (fun k => defaultValue (ty k))) && kq e.2.1 (.classLink (kOwn.getD e.1.1.1 "") e.1.1.2 C) && kq e.2.2.1 (.instantiable C N) && kq e.2.2.2 (.initialized C)
  | _, _ => false
theorem knew_ok : ∀ e ∈ knewx, kc_new e = true := by decide +kernel
theorem ko_new_ok (E0 : Nat) : ko_new kTw kcl (kp E0) kN := by
  intro y i t vs h
  obtain ⟨⟨r1, r2, r3⟩, hm⟩ := ka_lkx (l := knewx) h
  have hc := knew_ok _ hm
  unfold kc_new at hc
  dsimp only at hc
  cases hcl : kcl[t]? with
  | none => rw [hcl] at hc; simp at hc
  | some r =>
    obtain ⟨ty0, hy, hcls⟩ := kcls_ok hcl
    obtain ⟨C, T, N⟩ := r
    rw [hcl, hy] at hc
    simp only [Bool.and_eq_true, decide_eq_true_eq] at hc
    obtain ⟨⟨⟨h1, h2⟩, h3⟩, h4⟩ := hc
    exact ⟨C, T, N, ty0, hcls, h1, by rw [kOwn_eq]; exact kw r1 h2, kw r2 h3, kw r3 h4⟩
def kc_arr (e : ((Nat × Nat) × Nat) × (String × Nat × Nat)) : Bool := decide (2000 ≤ e.1.2) && decide (e.1.2 < 3000) && decide (ka_aty kcl e.1.2 = some (.object e.2.1)) && kq e.2.2.1 (.classLink (kOwn.getD e.1.1.1 "") e.1.1.2 e.2.1) && kq e.2.2.2 (.arrayOver (.object e.2.1))
theorem karr_ok : ∀ e ∈ karrx, kc_arr e = true := by decide +kernel
theorem ko_arr_ok (E0 : Nat) : ko_arr kTw kcl (kp E0) kN := by
  refine ⟨fun y i t h => ?_, kw 140 (by decide +kernel), kw 1184 (by decide +kernel), kw 161 (by decide +kernel)⟩
  obtain ⟨⟨C, r1, r2⟩, hm⟩ := ka_lkx (l := karrx) h
  have hc := karr_ok _ hm
  unfold kc_arr at hc
  simp only [Bool.and_eq_true, decide_eq_true_eq] at hc
  obtain ⟨⟨⟨⟨h1, h2⟩, h3⟩, h4⟩, h5⟩ := hc
  exact ⟨C, h1, h2, h3, by rw [kOwn_eq]; exact kw r1 h4, kw r2 h5⟩
def kc_cast (e : ((Nat × Nat) × Nat) × Nat) : Bool := match kcl[e.1.2]? with
  | some (C, _, _) => kq e.2 (.classLink (kOwn.getD e.1.1.1 "") e.1.1.2 C)
  | none => false
theorem kcast_ok : ∀ e ∈ kcastx, kc_cast e = true := by decide +kernel
theorem ko_cast_ok (E0 : Nat) : ko_cast kTw kcl (kp E0) kN := by
  intro y i t h
  obtain ⟨r1, hm⟩ := ka_lkx (l := kcastx) h
  have hc := kcast_ok _ hm
  unfold kc_cast at hc
  dsimp only at hc
  cases hcl : kcl[t]? with
  | none => rw [hcl] at hc; simp at hc
  | some r =>
    obtain ⟨ty0, hy, hcls⟩ := kcls_ok hcl
    obtain ⟨C, T, N⟩ := r
    rw [hcl] at hc
    exact ⟨_, rfl, hcls.2.1, by rw [kOwn_eq]; exact kw r1 hc⟩
def kc_cst (e : ((Nat × Nat) × Value) × Nat) : Bool := match e.1.2 with
  | .int v => kq e.2 (.constant (kOwn.getD e.1.1.1 "") e.1.1.2 v)
  | .long v => kq e.2 (.constantLong (kOwn.getD e.1.1.1 "") e.1.1.2 v)
  | _ => false
theorem kcst_ok : ∀ e ∈ kcx, kc_cst e = true := by decide +kernel
theorem kcst_eq (E0 : Nat) : kcst E0 = kcx.map (·.1) ++ [((10, 39), .ref E0)] := rfl
theorem ko_cst_ok (E0 : Nat) : ko_cst kTw (kp E0) kN E0 := by
  have key : ∀ (y i : Nat) (v : Value), (kp E0).cst y i = some v → (∃ r, (((km_O.getD y 99, i), v), r) ∈ kcx) ∨ ((km_O.getD y 99, i) = (10, 39) ∧ v = .ref E0) := by
    intro y i v h
    have hm := ka_lk (l := kcst E0) h
    rw [kcst_eq] at hm
    rcases List.mem_append.mp hm with z | z
    · obtain ⟨⟨x, c⟩, hx, he⟩ := List.mem_map.mp z
      cases he
      exact Or.inl ⟨c, hx⟩
    · rw [List.mem_singleton] at z
      cases z
      exact Or.inr ⟨rfl, rfl⟩
  refine ⟨fun y i v h => ?_, fun y i v h => ?_, fun y i a h => ?_⟩
  · rcases key y i _ h with ⟨r, hr⟩ | ⟨-, z⟩
    · rw [kOwn_eq]
      exact kw r (kcst_ok _ hr)
    · cases z
  · rcases key y i _ h with ⟨r, hr⟩ | ⟨-, z⟩
    · rw [kOwn_eq]
      exact kw r (kcst_ok _ hr)
    · cases z
  · rcases key y i _ h with ⟨r, hr⟩ | ⟨z1, z⟩
    · have := kcst_ok _ hr
      simp [kc_cst] at this
    · cases z
      have e1 : km_O.getD y 99 = 10 := congrArg Prod.fst z1
      have e2 : i = 39 := congrArg Prod.snd z1
      refine ⟨rfl, ?_⟩
      rw [kOwn_eq, e1, e2]
      exact kw 109 (by decide +kernel)
def kc_cal (e : ((Nat × Nat) × (Nat × Nat)) × (Nat × Nat × Nat × Nat × Nat)) : Bool :=
  kq e.2.1 (.methodLink (kOwn.getD e.1.1.1 "") e.1.1.2 (kN e.1.2.1)) && kq e.2.2.1 (ka_cw (kN e.1.2.1) (kB e.1.2.1) (km_M.getD e.1.2.1 0) (km_R.getD e.1.2.1 none) (kH e.1.2.1)) && kq e.2.2.2.1 (.initialized (kN e.1.2.1).cls) &&
  decide ((kN e.1.2.1).cls ≠ "java/lang/invoke/MethodHandle") && decide ((kN e.1.2.1).cls ≠ "java/lang/invoke/VarHandle") && plainName (kN e.1.2.1).cls && decide (km_M.getD e.1.2.1 0 ≤ 45) &&
  (if (km_V.getD e.1.2.1 (0, 0)).1 = 0 then kq e.2.2.2.2.1 (.static (kN e.1.2.1)) && decide ((parseMethodDescriptor (kN e.1.2.1).desc).map (fun d => d.parameters.length) = some e.1.2.2)
    else kq e.2.2.2.2.1 (.instanceMethod (kN e.1.2.1)) && decide ((parseMethodDescriptor (kN e.1.2.1).desc).map (fun d => d.parameters.length + 1) = some e.1.2.2)) &&
  (if (km_V.getD e.1.2.1 (0, 0)).1 = 1 then kq e.2.2.2.2.2 (.selects (kN e.1.2.1).cls (kN e.1.2.1) (kN e.1.2.1)) && (match kcl[(km_V.getD e.1.2.1 (0, 0)).2]? with
    | some r => decide (r.1 = (kN e.1.2.1).cls)
    | none => false) else true) &&
  (if (km_V.getD e.1.2.1 (0, 0)).1 = 2 then decide ((kN e.1.2.1).name = "<init>") && decide (kH e.1.2.1 = []) && decide (km_R.getD e.1.2.1 none = none) else true)
theorem kcal_ok0 : ∀ e ∈ (kcalx.drop 0).take 30, kc_cal e = true := by decide +kernel
theorem kcal_ok1 : ∀ e ∈ (kcalx.drop 30).take 30, kc_cal e = true := by decide +kernel
theorem kcal_ok2 : ∀ e ∈ (kcalx.drop 60).take 30, kc_cal e = true := by decide +kernel
theorem kcal_ok3 : ∀ e ∈ (kcalx.drop 90).take 30, kc_cal e = true := by decide +kernel
theorem kcal_ok4 : ∀ e ∈ (kcalx.drop 120).take 30, kc_cal e = true := by decide +kernel
theorem kcal_ok5 : ∀ e ∈ (kcalx.drop 150).take 30, kc_cal e = true := by decide +kernel
theorem kcal_ok6 : ∀ e ∈ (kcalx.drop 180).take 30, kc_cal e = true := by decide +kernel
theorem kcal_ok : ∀ e ∈ kcalx, kc_cal e = true := by
  intro e he
  have hj : ([0, 30, 60, 90, 120, 150, 180].flatMap (fun j => (kcalx.drop j).take 30)) = kcalx := by decide +kernel
  rw [← hj] at he
  obtain ⟨j, h1, h2⟩ := List.mem_flatMap.mp he
  revert e h2
  exact (List.forall_mem_cons.mpr ⟨kcal_ok0, List.forall_mem_cons.mpr ⟨kcal_ok1, List.forall_mem_cons.mpr ⟨kcal_ok2, List.forall_mem_cons.mpr ⟨kcal_ok3, List.forall_mem_cons.mpr ⟨kcal_ok4, List.forall_mem_cons.mpr ⟨kcal_ok5, List.forall_mem_cons.mpr ⟨kcal_ok6, fun _ h => absurd h List.not_mem_nil⟩⟩⟩⟩⟩⟩⟩ : ∀ j ∈ [0, 30, 60, 90, 120, 150, 180], ∀ e ∈ (kcalx.drop j).take 30, kc_cal e = true) j h1
theorem ko_cal_ok (E0 : Nat) : ko_cal kTw kcl (kp E0) kN kB kH := by
  intro y i z na h
  obtain ⟨⟨r1, r2, r3, r4, r5⟩, hm⟩ := ka_lkx (l := kcalx) h
  have hc := kcal_ok _ hm
  unfold kc_cal at hc
  simp only [Bool.and_eq_true, decide_eq_true_eq] at hc
  obtain ⟨⟨⟨⟨⟨⟨⟨⟨⟨h1, h2⟩, h3⟩, h4⟩, h5⟩, h6⟩, h7⟩, h8⟩, h9⟩, h10⟩ := hc
  refine ⟨by rw [kOwn_eq]; exact kw r1 h1, kw r2 h2, kw r3 h3, ⟨h4, h5⟩, h6, h7, fun z0 => ?_, fun z0 => ?_, fun z0 => ?_, fun z0 => ?_⟩
  · have z1 : (km_V.getD z (0, 0)).1 = 0 := z0
    rw [if_pos z1] at h8
    simp only [Bool.and_eq_true, decide_eq_true_eq] at h8
    exact ⟨kw r4 h8.1, h8.2⟩
  · have z1 : ¬ (km_V.getD z (0, 0)).1 = 0 := z0
    rw [if_neg z1] at h8
    simp only [Bool.and_eq_true, decide_eq_true_eq] at h8
    exact ⟨kw r4 h8.1, h8.2⟩
  · have z1 : (km_V.getD z (0, 0)).1 = 1 := z0
    rw [if_pos z1] at h9
    simp only [Bool.and_eq_true] at h9
    refine ⟨kw r5 h9.1, ?_⟩
    have h92 := h9.2
    cases hcl : kcl[(km_V.getD z (0, 0)).2]? with
    | none => rw [hcl] at h92; simp at h92
    | some r =>
      rw [hcl] at h92
      obtain ⟨ty0, hy, hcls⟩ := kcls_ok hcl
      exact ⟨r, hcl, hcls.2.1, by simpa using h92⟩
  · have z1 : (km_V.getD z (0, 0)).1 = 2 := z0
    rw [if_pos z1] at h10
    simp only [Bool.and_eq_true, decide_eq_true_eq] at h10
    exact ⟨h10.1.1, h10.1.2, h10.2⟩
theorem ko_ins_ok (E0 : Nat) : ko_ins (kp E0) kB := by
  intro y pc i n h
  have h0 : (km_I.getD y []).lookup pc = some (i, n) := h
  have hm := ka_lk h0
  have hl1 : km_I.length = 192 := by decide +kernel
  have hl2 : km_B.length = 192 := by decide +kernel
  by_cases hy : y < 192
  · have e1 : km_I[y]? = some (km_I.getD y []) := by rw [List.getD_eq_getElem?_getD, List.getElem?_eq_getElem (by omega)]; rfl
    have e2 : km_B[y]? = some (kB y) := by unfold kB; rw [List.getD_eq_getElem?_getD, List.getElem?_eq_getElem (by omega)]; rfl
    have hz : (kB y, km_I.getD y []) ∈ km_B.zip km_I := List.mem_of_getElem? (i := y) (by rw [List.getElem?_zip_eq_some]; exact ⟨e2, e1⟩)
    have hd := kd_all _ hz _ hm
    unfold ka_dok at hd
    simp only [Bool.and_eq_true, decide_eq_true_eq, Bool.or_eq_true, beq_iff_eq] at hd
    exact hd
  · rw [List.getD_eq_getElem?_getD, List.getElem?_eq_none (by omega)] at hm
    cases hm
theorem kobj_ok : ∀ e ∈ kprimx, (e.1.2 == 0 || (e.1.2 == 4 && kq e.2 (.methodLink (kOwn.getD e.1.1.1 "") e.1.1.2 Lib.objectInit))) = true := by decide +kernel
theorem ko_obj_ok (E0 : Nat) : ko_obj kTw (kp E0) kN := by
  refine ⟨fun y i k h => ?_, fun y i h => ?_⟩
  · obtain ⟨r, hm⟩ := ka_lkx (l := kprimx) h
    have hc := kobj_ok _ hm
    simp only [Bool.or_eq_true, Bool.and_eq_true, beq_iff_eq] at hc
    exact hc.imp id (fun z => z.1)
  · obtain ⟨r, hm⟩ := ka_lkx (l := kprimx) h
    have hc := kobj_ok _ hm
    simp only [Bool.or_eq_true, Bool.and_eq_true, beq_iff_eq] at hc
    rcases hc with z | z
    · cases z
    · exact ⟨by rw [kOwn_eq]; exact kw r z.2, kw 89 (by decide +kernel), kw 90 (by decide +kernel)⟩
theorem kasg_ok : ∀ t, t < 10 → kq (([1408, 1409, 1412, 1414, 1416, 1410, 1415, 1411, 1417, 1413] : List Nat).getD t 0) (.castable (kOwn.getD t "") "java/lang/Object") = true := by decide +kernel
theorem kcl_own : ∀ t, t < 10 → ∀ r ∈ kcl[t]?, r.1 = kOwn.getD t "" := by decide +kernel
theorem ko_asg_ok : ko_asg kTw kcl := by
  refine ⟨by decide, fun t r h ht => ?_⟩
  rw [kcl_own t ht r h]
  exact kw _ (kasg_ok t ht)

