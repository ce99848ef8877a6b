/-! The tables rest on the words of the Statement: checked by evaluation. -/
def ka_sr : Cond → Bool
  | .stringRef _ _ _ => true
  | .castable _ _ => true
  | .arrayOver _ => true
  | .declares _ => true
  | _ => false
def kTw : List Cond := lw_tbl.filter (fun w => goodWord w || ka_sr w)
theorem kw (i : Nat) {w : Cond} (h : (lw_tbl[i]? == some w && (goodWord w || ka_sr w)) = true) : w ∈ kTw := by
  rw [Bool.and_eq_true] at h
  exact List.mem_filter.mpr ⟨List.mem_of_getElem? (by simpa using h.1), h.2⟩
/-- the word stands at this place, and stays -/
def kq (i : Nat) (w : Cond) : Bool := lw_tbl[i]? == some w && (goodWord w || ka_sr w)
theorem kOwn_eq : ∀ y, (kN y).cls = kOwn.getD (km_O.getD y 99) "" := by
  intro y
  by_cases h : y < 194
  · have h0 : ∀ y, y < 194 → (kN y).cls = kOwn.getD (km_O.getD y 99) "" := by decide +kernel
    exact h0 y h
  · have h1 : km_N.length = 194 := by decide +kernel
    have h2 : km_O.length = 194 := by decide +kernel
    have e1 : kN y = ⟨"", "", ""⟩ := by unfold kN; rw [List.getD_eq_getElem?_getD, List.getElem?_eq_none (by omega)]; rfl
    have e2 : km_O.getD y 99 = 99 := by rw [List.getD_eq_getElem?_getD, List.getElem?_eq_none (by omega)]; rfl
    rw [e1, e2]
    rfl
theorem ka_lk {α β : Type} [BEq α] [LawfulBEq α] {l : List (α × β)} {k : α} {v : β} (h : l.lookup k = some v) : (k, v) ∈ l := by
  induction l with
  | nil => simp at h
  | cons x r ih =>
    obtain ⟨a, b⟩ := x
    rw [List.lookup_cons] at h
    split at h
    · rename_i e
      have e1 : k = a := by simpa using e
      cases h
      rw [e1]
      exact List.mem_cons_self
    · exact List.mem_cons_of_mem _ (ih h)
theorem ka_lkx {α β γ : Type} [BEq α] [LawfulBEq α] {l : List ((α × β) × γ)} {k : α} {v : β} (h : (l.map (·.1)).lookup k = some v) : ∃ c, ((k, v), c) ∈ l := by
  obtain ⟨x, hx, he⟩ := List.mem_map.mp (ka_lk h)
  obtain ⟨y, c⟩ := x
  cases he
  exact ⟨c, hx⟩
/-- the classes: fields laid as the tables say -/
def kc_cls (t : Nat) : Bool := match kcl[t]?, kYs[t]? with
  | some (C, T, N), some ty => (u_ws C T N).all (fun w => kTw.contains w) && (List.range N).all (fun k => parseFieldDescriptor (T k).2.2.1 == some (ty k)) && (List.range N).all (fun a => (List.range N).all (fun b => a == b || (T a).2.1 != (T b).2.1))
  | _, _ => false
theorem kcls0 : kc_cls 0 = true := by decide +kernel
theorem kcls1 : kc_cls 1 = true := by decide +kernel
theorem kcls2 : kc_cls 2 = true := by decide +kernel
theorem kcls3 : kc_cls 3 = true := by decide +kernel
theorem kcls4 : kc_cls 4 = true := by decide +kernel
theorem kcls5 : kc_cls 5 = true := by decide +kernel
theorem kcls6 : kc_cls 6 = true := by decide +kernel
theorem kcls7 : kc_cls 7 = true := by decide +kernel
theorem kcls8 : kc_cls 8 = true := by decide +kernel
theorem kcls9 : kc_cls 9 = true := by decide +kernel
theorem kcls10 : kc_cls 10 = true := by decide +kernel
theorem kcls_all : ∀ t, t < 11 → kc_cls t = true := fun t ht => by
  match t, ht with
  | 0, _ => exact kcls0
  | 1, _ => exact kcls1
  | 2, _ => exact kcls2
  | 3, _ => exact kcls3
  | 4, _ => exact kcls4
  | 5, _ => exact kcls5
  | 6, _ => exact kcls6
  | 7, _ => exact kcls7
  | 8, _ => exact kcls8
  | 9, _ => exact kcls9
  | 10, _ => exact kcls10
  | n + 11, h => omega
theorem kcls_ok {t : Nat} {r : vw_C} (h : kcl[t]? = some r) : ∃ ty0, kYs[t]? = some ty0 ∧ ko_cls kTw kcl t r.1 r.2.1 r.2.2 ty0 := by
  have ht : t < 11 := (List.getElem?_eq_some_iff.mp h).1
  have hc := kcls_all t ht
  unfold kc_cls at hc
  rw [h] at hc
  obtain ⟨C, T, N⟩ := r
  cases hy : kYs[t]? with
  | none => rw [hy] at hc; simp at hc
  | some ty =>
    rw [hy] at hc
    simp only [Bool.and_eq_true, List.all_eq_true, List.mem_range] at hc
    obtain ⟨⟨h1, h2⟩, h3⟩ := hc
    refine ⟨ty, rfl, h, by omega, fun w hw => ?_, fun k hk => by simpa using h2 k hk, fun a ha b hb hne => ?_⟩
    · have := h1 w hw
      simpa using this
    · have := h3 a ha b hb
      simp at this
      exact this.resolve_left hne
def kc_fld (e : ((Nat × Nat) × (Nat × Nat × FieldType)) × (String × Nat)) : Bool := match kcl[e.1.2.1]?, kYs[e.1.2.1]? with
  | some (_, T, N), some ty => decide (e.1.2.2.1 < N) && decide (ty e.1.2.2.1 = e.1.2.2.2) && kq e.2.2 (.fieldLink (kOwn.getD e.1.1.1 "") e.1.1.2 e.2.1 (T e.1.2.2.1).2.1 (T e.1.2.2.1).2.2.1) && (e.2.1 == (T e.1.2.2.1).1 || kTw.contains (.sameField e.2.1 (T e.1.2.2.1).1 (T e.1.2.2.1).2.1 (T e.1.2.2.1).2.2.1)) && (if (T e.1.2.2.1).2.2.2 then kfin.contains e.1.1 && (!(kfown.contains e.1.1) || (T e.1.2.2.1).1 == kOwn.getD e.1.1.1 "") else true)
  | _, _ => false
theorem kf_ok : ∀ e ∈ kfx, kc_fld e = true := by decide +kernel
theorem kinit_ok : ∀ y ∈ kinit, (kN y).name = "<init>" := by decide +kernel
theorem ko_fld_ok (E : Nat × Nat) : ko_fld kTw kcl (kp E) kN := by
  intro y i t k ty h
  obtain ⟨⟨ref, ri⟩, hm⟩ := ka_lkx (l := kfx) h
  have hc := kf_ok _ hm
  unfold kc_fld at hc
  dsimp only at hc
  cases hcl : kcl[t]? with
  | none => rw [hcl] at hc; simp at hc
  | some r =>
    obtain ⟨ty0, hy, hcls⟩ := kcls_ok hcl
    obtain ⟨C, T, N⟩ := r
    rw [hcl, hy] at hc
    simp only [Bool.and_eq_true, decide_eq_true_eq] at hc
    obtain ⟨⟨⟨⟨h1, h2⟩, h3⟩, h4⟩, h5⟩ := hc
    refine ⟨C, T, N, ty0, ref, hcls, h1, h2, by rw [kOwn_eq]; exact kw ri h3, ?_, fun hp => ?_⟩
    · simp only [Bool.or_eq_true, beq_iff_eq] at h4
      exact h4.imp id (fun z => by simpa using z)
    · by_cases hf : (T k).2.2.2 = true
      · rw [if_pos hf] at h5
        simp only [Bool.and_eq_true, Bool.or_eq_true, Bool.not_eq_true'] at h5
        have hp' : (!(kfin.contains (km_O.getD y 99, i)) || (kfown.contains (km_O.getD y 99, i) && kinit.contains y)) = true := hp
        rw [h5.1] at hp'
        simp only [Bool.not_true, Bool.false_or, Bool.and_eq_true] at hp'
        refine Or.inr ⟨kinit_ok y (by simpa using hp'.2), ?_⟩
        rcases h5.2 with z | z
        · rw [z] at hp'
          exact absurd hp'.1 (by decide)
        · rw [kOwn_eq]
          simpa using z
      · exact Or.inl (by simpa using hf)
def kc_new (e : ((Nat × Nat) × (Nat × List Value)) × (Nat × Nat × Nat)) : Bool := match kcl[e.1.2.1]?, kYs[e.1.2.1]? with
  | some (C, _, N), some ty => decide (e.1.2.2 = (List.range N).map (fun k => defaultValue (ty k))) && kq e.2.1 (.classLink (kOwn.getD e.1.1.1 "") e.1.1.2 C) && kq e.2.2.1 (.instantiable C N) && kq e.2.2.2 (.initialized C)
  | _, _ => false
theorem knew_ok : ∀ e ∈ knewx, kc_new e = true := by decide +kernel
theorem ko_new_ok (E : Nat × Nat) : ko_new kTw kcl (kp E) kN := by
  intro y i t vs h
  obtain ⟨⟨r1, r2, r3⟩, hm⟩ := ka_lkx (l := knewx) h
  have hc := knew_ok _ hm
  unfold kc_new at hc
  dsimp only at hc
  cases hcl : kcl[t]? with
  | none => rw [hcl] at hc; simp at hc
  | some r =>
    obtain ⟨ty0, hy, hcls⟩ := kcls_ok hcl
    obtain ⟨C, T, N⟩ := r
    rw [hcl, hy] at hc
    simp only [Bool.and_eq_true, decide_eq_true_eq] at hc
    obtain ⟨⟨⟨h1, h2⟩, h3⟩, h4⟩ := hc
    exact ⟨C, T, N, ty0, hcls, h1, by rw [kOwn_eq]; exact kw r1 h2, kw r2 h3, kw r3 h4⟩
def kc_arr (e : ((Nat × Nat) × Nat) × (String × Nat × Nat)) : Bool := decide (2000 ≤ e.1.2) && decide (e.1.2 < 3000) && decide (ka_aty kcl e.1.2 = some (.object e.2.1)) && kq e.2.2.1 (.classLink (kOwn.getD e.1.1.1 "") e.1.1.2 e.2.1) && kq e.2.2.2 (.arrayOver (.object e.2.1))
theorem karr_ok : ∀ e ∈ karrx, kc_arr e = true := by decide +kernel
theorem ko_arr_ok (E : Nat × Nat) : ko_arr kTw kcl (kp E) kN := by
  refine ⟨fun y i t h => ?_, kw 140 (by decide +kernel), kw 1184 (by decide +kernel), kw 161 (by decide +kernel)⟩
  obtain ⟨⟨C, r1, r2⟩, hm⟩ := ka_lkx (l := karrx) h
  have hc := karr_ok _ hm
  unfold kc_arr at hc
  simp only [Bool.and_eq_true, decide_eq_true_eq] at hc
  obtain ⟨⟨⟨⟨h1, h2⟩, h3⟩, h4⟩, h5⟩ := hc
  exact ⟨C, h1, h2, h3, by rw [kOwn_eq]; exact kw r1 h4, kw r2 h5⟩
def kc_cast (e : ((Nat × Nat) × Nat) × Nat) : Bool := match kcl[e.1.2]? with
  | some (C, _, _) => kq e.2 (.classLink (kOwn.getD e.1.1.1 "") e.1.1.2 C)
  | none => false
theorem kcast_ok : ∀ e ∈ kcastx, kc_cast e = true := by decide +kernel
theorem ko_cast_ok (E : Nat × Nat) : ko_cast kTw kcl (kp E) kN := by
  intro y i t h
  obtain ⟨r1, hm⟩ := ka_lkx (l := kcastx) h
  have hc := kcast_ok _ hm
  unfold kc_cast at hc
  dsimp only at hc
  cases hcl : kcl[t]? with
  | none => rw [hcl] at hc; simp at hc
  | some r =>
    obtain ⟨ty0, hy, hcls⟩ := kcls_ok hcl
    obtain ⟨C, T, N⟩ := r
    rw [hcl] at hc
    exact ⟨_, rfl, hcls.2.1, by rw [kOwn_eq]; exact kw r1 hc⟩
def kc_cst (e : ((Nat × Nat) × Value) × Nat) : Bool := match e.1.2 with
  | .int v => kq e.2 (.constant (kOwn.getD e.1.1.1 "") e.1.1.2 v)
  | .long v => kq e.2 (.constantLong (kOwn.getD e.1.1.1 "") e.1.1.2 v)
  | _ => false
theorem kcst_ok : ∀ e ∈ kcx, kc_cst e = true := by decide +kernel
theorem kcst_eq (E : Nat × Nat) : kcst E = kcx.map (·.1) ++ [((10, 39), .ref E.1), ((16, 110), .null), ((16, 100110), .ref E.2)] := rfl
theorem kcst_lt : ∀ e ∈ kcx, e.1.1.2 < 100000 := by decide +kernel
theorem ko_cst_ok (E : Nat × Nat) : ko_cst kTw (kp E) kN E.1 E.2 := by
  have key : ∀ (y i : Nat) (v : Value), (kp E).cst y i = some v → (∃ r, (((km_O.getD y 99, i), v), r) ∈ kcx) ∨ ((km_O.getD y 99, i) = (10, 39) ∧ v = .ref E.1) ∨ ((km_O.getD y 99, i) = (16, 110) ∧ v = .null) ∨ ((km_O.getD y 99, i) = (16, 100110) ∧ v = .ref E.2) := by
    intro y i v h
    have hm := ka_lk (l := kcst E) h
    rw [kcst_eq] at hm
    rcases List.mem_append.mp hm with z | z
    · obtain ⟨⟨x, c⟩, hx, he⟩ := List.mem_map.mp z
      cases he
      exact Or.inl ⟨c, hx⟩
    · right
      rcases List.mem_cons.mp z with z | z
      · exact Or.inl ⟨congrArg Prod.fst z, congrArg Prod.snd z⟩
      · right
        rcases List.mem_cons.mp z with z | z
        · exact Or.inl ⟨congrArg Prod.fst z, congrArg Prod.snd z⟩
        · rw [List.mem_singleton] at z
          exact Or.inr ⟨congrArg Prod.fst z, congrArg Prod.snd z⟩
  refine ⟨fun y i v h => ?_, fun y i v h => ?_, fun y i a hlt h => ?_, fun y i a h => ?_⟩
  · rcases key y i _ h with ⟨r, hr⟩ | ⟨-, z⟩ | ⟨-, z⟩ | ⟨-, z⟩
    · rw [kOwn_eq]
      exact kw r (kcst_ok _ hr)
    · cases z
    · cases z
    · cases z
  · rcases key y i _ h with ⟨r, hr⟩ | ⟨-, z⟩ | ⟨-, z⟩ | ⟨-, z⟩
    · rw [kOwn_eq]
      exact kw r (kcst_ok _ hr)
    · cases z
    · cases z
    · cases z
  · rcases key y i _ h with ⟨r, hr⟩ | ⟨z1, z⟩ | ⟨z1, z⟩ | ⟨z1, z⟩
    · have := kcst_ok _ hr
      simp [kc_cst] at this
    · cases z
      have e1 : km_O.getD y 99 = 10 := congrArg Prod.fst z1
      have e2 : i = 39 := congrArg Prod.snd z1
      refine ⟨rfl, ?_⟩
      rw [kOwn_eq, e1, e2]
      exact kw 109 (by decide +kernel)
    · cases z
    · have e2 : i = 100110 := congrArg Prod.snd z1
      omega
  · rcases key y (100000 + i) _ h with ⟨r, hr⟩ | ⟨z1, z⟩ | ⟨z1, z⟩ | ⟨z1, z⟩
    · have : 100000 + i < 100000 := kcst_lt _ hr
      omega
    · have e2 : 100000 + i = 39 := congrArg Prod.snd z1
      omega
    · cases z
    · cases z
      have e1 : km_O.getD y 99 = 16 := congrArg Prod.fst z1
      have e2 : 100000 + i = 100110 := congrArg Prod.snd z1
      have e3 : i = 110 := by omega
      refine ⟨rfl, ?_⟩
      rw [kOwn_eq, e1, e3]
      exact kw 501 (by decide +kernel)
theorem kcw_1 : ka_cw (kN 1) (kB 1) (km_M.getD 1 0) (km_R.getD 1 none) (kH 1) ∈ kTw := kw 239 (by decide +kernel)
theorem kcw_2 : ka_cw (kN 2) (kB 2) (km_M.getD 2 0) (km_R.getD 2 none) (kH 2) ∈ kTw := kw 337 (by decide +kernel)
theorem kcw_3 : ka_cw (kN 3) (kB 3) (km_M.getD 3 0) (km_R.getD 3 none) (kH 3) ∈ kTw := kw 575 (by decide +kernel)
theorem kcw_4 : ka_cw (kN 4) (kB 4) (km_M.getD 4 0) (km_R.getD 4 none) (kH 4) ∈ kTw := kw 609 (by decide +kernel)
theorem kcw_5 : ka_cw (kN 5) (kB 5) (km_M.getD 5 0) (km_R.getD 5 none) (kH 5) ∈ kTw := kw 668 (by decide +kernel)
theorem kcw_6 : ka_cw (kN 6) (kB 6) (km_M.getD 6 0) (km_R.getD 6 none) (kH 6) ∈ kTw := kw 681 (by decide +kernel)
theorem kcw_7 : ka_cw (kN 7) (kB 7) (km_M.getD 7 0) (km_R.getD 7 none) (kH 7) ∈ kTw := kw 689 (by decide +kernel)
theorem kcw_8 : ka_cw (kN 8) (kB 8) (km_M.getD 8 0) (km_R.getD 8 none) (kH 8) ∈ kTw := kw 696 (by decide +kernel)
theorem kcw_9 : ka_cw (kN 9) (kB 9) (km_M.getD 9 0) (km_R.getD 9 none) (kH 9) ∈ kTw := kw 726 (by decide +kernel)
theorem kcw_10 : ka_cw (kN 10) (kB 10) (km_M.getD 10 0) (km_R.getD 10 none) (kH 10) ∈ kTw := kw 770 (by decide +kernel)
theorem kcw_11 : ka_cw (kN 11) (kB 11) (km_M.getD 11 0) (km_R.getD 11 none) (kH 11) ∈ kTw := kw 844 (by decide +kernel)
theorem kcw_12 : ka_cw (kN 12) (kB 12) (km_M.getD 12 0) (km_R.getD 12 none) (kH 12) ∈ kTw := kw 887 (by decide +kernel)
theorem kcw_13 : ka_cw (kN 13) (kB 13) (km_M.getD 13 0) (km_R.getD 13 none) (kH 13) ∈ kTw := kw 913 (by decide +kernel)
theorem kcw_14 : ka_cw (kN 14) (kB 14) (km_M.getD 14 0) (km_R.getD 14 none) (kH 14) ∈ kTw := kw 969 (by decide +kernel)
theorem kcw_15 : ka_cw (kN 15) (kB 15) (km_M.getD 15 0) (km_R.getD 15 none) (kH 15) ∈ kTw := kw 980 (by decide +kernel)
theorem kcw_16 : ka_cw (kN 16) (kB 16) (km_M.getD 16 0) (km_R.getD 16 none) (kH 16) ∈ kTw := kw 1002 (by decide +kernel)
theorem kcw_17 : ka_cw (kN 17) (kB 17) (km_M.getD 17 0) (km_R.getD 17 none) (kH 17) ∈ kTw := kw 1010 (by decide +kernel)
theorem kcw_18 : ka_cw (kN 18) (kB 18) (km_M.getD 18 0) (km_R.getD 18 none) (kH 18) ∈ kTw := kw 1027 (by decide +kernel)
theorem kcw_19 : ka_cw (kN 19) (kB 19) (km_M.getD 19 0) (km_R.getD 19 none) (kH 19) ∈ kTw := kw 1039 (by decide +kernel)
theorem kcw_20 : ka_cw (kN 20) (kB 20) (km_M.getD 20 0) (km_R.getD 20 none) (kH 20) ∈ kTw := kw 87 (by decide +kernel)
theorem kcw_21 : ka_cw (kN 21) (kB 21) (km_M.getD 21 0) (km_R.getD 21 none) (kH 21) ∈ kTw := kw 245 (by decide +kernel)
theorem kcw_22 : ka_cw (kN 22) (kB 22) (km_M.getD 22 0) (km_R.getD 22 none) (kH 22) ∈ kTw := kw 341 (by decide +kernel)
theorem kcw_23 : ka_cw (kN 23) (kB 23) (km_M.getD 23 0) (km_R.getD 23 none) (kH 23) ∈ kTw := kw 580 (by decide +kernel)
theorem kcw_24 : ka_cw (kN 24) (kB 24) (km_M.getD 24 0) (km_R.getD 24 none) (kH 24) ∈ kTw := kw 614 (by decide +kernel)
theorem kcw_25 : ka_cw (kN 25) (kB 25) (km_M.getD 25 0) (km_R.getD 25 none) (kH 25) ∈ kTw := kw 224 (by decide +kernel)
theorem kcw_26 : ka_cw (kN 26) (kB 26) (km_M.getD 26 0) (km_R.getD 26 none) (kH 26) ∈ kTw := kw 672 (by decide +kernel)
theorem kcw_27 : ka_cw (kN 27) (kB 27) (km_M.getD 27 0) (km_R.getD 27 none) (kH 27) ∈ kTw := kw 685 (by decide +kernel)
theorem kcw_28 : ka_cw (kN 28) (kB 28) (km_M.getD 28 0) (km_R.getD 28 none) (kH 28) ∈ kTw := kw 693 (by decide +kernel)
theorem kcw_29 : ka_cw (kN 29) (kB 29) (km_M.getD 29 0) (km_R.getD 29 none) (kH 29) ∈ kTw := kw 700 (by decide +kernel)
theorem kcw_30 : ka_cw (kN 30) (kB 30) (km_M.getD 30 0) (km_R.getD 30 none) (kH 30) ∈ kTw := kw 730 (by decide +kernel)
theorem kcw_31 : ka_cw (kN 31) (kB 31) (km_M.getD 31 0) (km_R.getD 31 none) (kH 31) ∈ kTw := kw 774 (by decide +kernel)
theorem kcw_32 : ka_cw (kN 32) (kB 32) (km_M.getD 32 0) (km_R.getD 32 none) (kH 32) ∈ kTw := kw 848 (by decide +kernel)
theorem kcw_33 : ka_cw (kN 33) (kB 33) (km_M.getD 33 0) (km_R.getD 33 none) (kH 33) ∈ kTw := kw 891 (by decide +kernel)
theorem kcw_34 : ka_cw (kN 34) (kB 34) (km_M.getD 34 0) (km_R.getD 34 none) (kH 34) ∈ kTw := kw 917 (by decide +kernel)
theorem kcw_35 : ka_cw (kN 35) (kB 35) (km_M.getD 35 0) (km_R.getD 35 none) (kH 35) ∈ kTw := kw 973 (by decide +kernel)
theorem kcw_36 : ka_cw (kN 36) (kB 36) (km_M.getD 36 0) (km_R.getD 36 none) (kH 36) ∈ kTw := kw 984 (by decide +kernel)
theorem kcw_37 : ka_cw (kN 37) (kB 37) (km_M.getD 37 0) (km_R.getD 37 none) (kH 37) ∈ kTw := kw 1006 (by decide +kernel)
theorem kcw_38 : ka_cw (kN 38) (kB 38) (km_M.getD 38 0) (km_R.getD 38 none) (kH 38) ∈ kTw := kw 1014 (by decide +kernel)
theorem kcw_39 : ka_cw (kN 39) (kB 39) (km_M.getD 39 0) (km_R.getD 39 none) (kH 39) ∈ kTw := kw 1031 (by decide +kernel)
theorem kcw_40 : ka_cw (kN 40) (kB 40) (km_M.getD 40 0) (km_R.getD 40 none) (kH 40) ∈ kTw := kw 1043 (by decide +kernel)
theorem kcw_41 : ka_cw (kN 41) (kB 41) (km_M.getD 41 0) (km_R.getD 41 none) (kH 41) ∈ kTw := kw 232 (by decide +kernel)
theorem kcw_42 : ka_cw (kN 42) (kB 42) (km_M.getD 42 0) (km_R.getD 42 none) (kH 42) ∈ kTw := kw 586 (by decide +kernel)
theorem kcw_43 : ka_cw (kN 43) (kB 43) (km_M.getD 43 0) (km_R.getD 43 none) (kH 43) ∈ kTw := kw 583 (by decide +kernel)
theorem kcw_44 : ka_cw (kN 44) (kB 44) (km_M.getD 44 0) (km_R.getD 44 none) (kH 44) ∈ kTw := kw 857 (by decide +kernel)
theorem kcw_45 : ka_cw (kN 45) (kB 45) (km_M.getD 45 0) (km_R.getD 45 none) (kH 45) ∈ kTw := kw 618 (by decide +kernel)
theorem kcw_46 : ka_cw (kN 46) (kB 46) (km_M.getD 46 0) (km_R.getD 46 none) (kH 46) ∈ kTw := kw 852 (by decide +kernel)
theorem kcw_47 : ka_cw (kN 47) (kB 47) (km_M.getD 47 0) (km_R.getD 47 none) (kH 47) ∈ kTw := kw 988 (by decide +kernel)
theorem kcw_48 : ka_cw (kN 48) (kB 48) (km_M.getD 48 0) (km_R.getD 48 none) (kH 48) ∈ kTw := kw 663 (by decide +kernel)
theorem kcw_49 : ka_cw (kN 49) (kB 49) (km_M.getD 49 0) (km_R.getD 49 none) (kH 49) ∈ kTw := kw 640 (by decide +kernel)
theorem kcw_50 : ka_cw (kN 50) (kB 50) (km_M.getD 50 0) (km_R.getD 50 none) (kH 50) ∈ kTw := kw 646 (by decide +kernel)
theorem kcw_51 : ka_cw (kN 51) (kB 51) (km_M.getD 51 0) (km_R.getD 51 none) (kH 51) ∈ kTw := kw 709 (by decide +kernel)
theorem kcw_52 : ka_cw (kN 52) (kB 52) (km_M.getD 52 0) (km_R.getD 52 none) (kH 52) ∈ kTw := kw 719 (by decide +kernel)
theorem kcw_53 : ka_cw (kN 53) (kB 53) (km_M.getD 53 0) (km_R.getD 53 none) (kH 53) ∈ kTw := kw 95 (by decide +kernel)
theorem kcw_54 : ka_cw (kN 54) (kB 54) (km_M.getD 54 0) (km_R.getD 54 none) (kH 54) ∈ kTw := kw 375 (by decide +kernel)
theorem kcw_55 : ka_cw (kN 55) (kB 55) (km_M.getD 55 0) (km_R.getD 55 none) (kH 55) ∈ kTw := kw 1047 (by decide +kernel)
theorem kcw_56 : ka_cw (kN 56) (kB 56) (km_M.getD 56 0) (km_R.getD 56 none) (kH 56) ∈ kTw := kw 379 (by decide +kernel)
theorem kcw_57 : ka_cw (kN 57) (kB 57) (km_M.getD 57 0) (km_R.getD 57 none) (kH 57) ∈ kTw := kw 532 (by decide +kernel)
theorem kcw_58 : ka_cw (kN 58) (kB 58) (km_M.getD 58 0) (km_R.getD 58 none) (kH 58) ∈ kTw := kw 540 (by decide +kernel)
theorem kcw_59 : ka_cw (kN 59) (kB 59) (km_M.getD 59 0) (km_R.getD 59 none) (kH 59) ∈ kTw := kw 548 (by decide +kernel)
theorem kcw_60 : ka_cw (kN 60) (kB 60) (km_M.getD 60 0) (km_R.getD 60 none) (kH 60) ∈ kTw := kw 704 (by decide +kernel)
theorem kcw_61 : ka_cw (kN 61) (kB 61) (km_M.getD 61 0) (km_R.getD 61 none) (kH 61) ∈ kTw := kw 521 (by decide +kernel)
theorem kcw_62 : ka_cw (kN 62) (kB 62) (km_M.getD 62 0) (km_R.getD 62 none) (kH 62) ∈ kTw := kw 654 (by decide +kernel)
theorem kcw_63 : ka_cw (kN 63) (kB 63) (km_M.getD 63 0) (km_R.getD 63 none) (kH 63) ∈ kTw := kw 658 (by decide +kernel)
theorem kcw_64 : ka_cw (kN 64) (kB 64) (km_M.getD 64 0) (km_R.getD 64 none) (kH 64) ∈ kTw := kw 528 (by decide +kernel)
theorem kcw_65 : ka_cw (kN 65) (kB 65) (km_M.getD 65 0) (km_R.getD 65 none) (kH 65) ∈ kTw := kw 180 (by decide +kernel)
theorem kcw_66 : ka_cw (kN 66) (kB 66) (km_M.getD 66 0) (km_R.getD 66 none) (kH 66) ∈ kTw := kw 767 (by decide +kernel)
theorem kcw_67 : ka_cw (kN 67) (kB 67) (km_M.getD 67 0) (km_R.getD 67 none) (kH 67) ∈ kTw := kw 734 (by decide +kernel)
theorem kcw_68 : ka_cw (kN 68) (kB 68) (km_M.getD 68 0) (km_R.getD 68 none) (kH 68) ∈ kTw := kw 780 (by decide +kernel)
theorem kcw_69 : ka_cw (kN 69) (kB 69) (km_M.getD 69 0) (km_R.getD 69 none) (kH 69) ∈ kTw := kw 895 (by decide +kernel)
theorem kcw_70 : ka_cw (kN 70) (kB 70) (km_M.getD 70 0) (km_R.getD 70 none) (kH 70) ∈ kTw := kw 864 (by decide +kernel)
theorem kcw_71 : ka_cw (kN 71) (kB 71) (km_M.getD 71 0) (km_R.getD 71 none) (kH 71) ∈ kTw := kw 906 (by decide +kernel)
theorem kcw_72 : ka_cw (kN 72) (kB 72) (km_M.getD 72 0) (km_R.getD 72 none) (kH 72) ∈ kTw := kw 922 (by decide +kernel)
theorem kcw_73 : ka_cw (kN 73) (kB 73) (km_M.getD 73 0) (km_R.getD 73 none) (kH 73) ∈ kTw := kw 977 (by decide +kernel)
theorem kcw_74 : ka_cw (kN 74) (kB 74) (km_M.getD 74 0) (km_R.getD 74 none) (kH 74) ∈ kTw := kw 995 (by decide +kernel)
theorem kcw_75 : ka_cw (kN 75) (kB 75) (km_M.getD 75 0) (km_R.getD 75 none) (kH 75) ∈ kTw := kw 868 (by decide +kernel)
theorem kcw_76 : ka_cw (kN 76) (kB 76) (km_M.getD 76 0) (km_R.getD 76 none) (kH 76) ∈ kTw := kw 876 (by decide +kernel)
theorem kcw_77 : ka_cw (kN 77) (kB 77) (km_M.getD 77 0) (km_R.getD 77 none) (kH 77) ∈ kTw := kw 738 (by decide +kernel)
theorem kcw_78 : ka_cw (kN 78) (kB 78) (km_M.getD 78 0) (km_R.getD 78 none) (kH 78) ∈ kTw := kw 745 (by decide +kernel)
theorem kcw_79 : ka_cw (kN 79) (kB 79) (km_M.getD 79 0) (km_R.getD 79 none) (kH 79) ∈ kTw := kw 758 (by decide +kernel)
theorem kcw_80 : ka_cw (kN 80) (kB 80) (km_M.getD 80 0) (km_R.getD 80 none) (kH 80) ∈ kTw := kw 384 (by decide +kernel)
theorem kcw_81 : ka_cw (kN 81) (kB 81) (km_M.getD 81 0) (km_R.getD 81 none) (kH 81) ∈ kTw := kw 678 (by decide +kernel)
theorem kcw_82 : ka_cw (kN 82) (kB 82) (km_M.getD 82 0) (km_R.getD 82 none) (kH 82) ∈ kTw := kw 715 (by decide +kernel)
theorem kcw_83 : ka_cw (kN 83) (kB 83) (km_M.getD 83 0) (km_R.getD 83 none) (kH 83) ∈ kTw := kw 792 (by decide +kernel)
theorem kcw_84 : ka_cw (kN 84) (kB 84) (km_M.getD 84 0) (km_R.getD 84 none) (kH 84) ∈ kTw := kw 900 (by decide +kernel)
theorem kcw_85 : ka_cw (kN 85) (kB 85) (km_M.getD 85 0) (km_R.getD 85 none) (kH 85) ∈ kTw := kw 753 (by decide +kernel)
theorem kcw_86 : ka_cw (kN 86) (kB 86) (km_M.getD 86 0) (km_R.getD 86 none) (kH 86) ∈ kTw := kw 749 (by decide +kernel)
theorem kcw_87 : ka_cw (kN 87) (kB 87) (km_M.getD 87 0) (km_R.getD 87 none) (kH 87) ∈ kTw := kw 1018 (by decide +kernel)
theorem kcw_88 : ka_cw (kN 88) (kB 88) (km_M.getD 88 0) (km_R.getD 88 none) (kH 88) ∈ kTw := kw 1022 (by decide +kernel)
theorem kcw_89 : ka_cw (kN 89) (kB 89) (km_M.getD 89 0) (km_R.getD 89 none) (kH 89) ∈ kTw := kw 145 (by decide +kernel)
theorem kcw_90 : ka_cw (kN 90) (kB 90) (km_M.getD 90 0) (km_R.getD 90 none) (kH 90) ∈ kTw := kw 334 (by decide +kernel)
theorem kcw_91 : ka_cw (kN 91) (kB 91) (km_M.getD 91 0) (km_R.getD 91 none) (kH 91) ∈ kTw := kw 345 (by decide +kernel)
theorem kcw_92 : ka_cw (kN 92) (kB 92) (km_M.getD 92 0) (km_R.getD 92 none) (kH 92) ∈ kTw := kw 349 (by decide +kernel)
theorem kcw_93 : ka_cw (kN 93) (kB 93) (km_M.getD 93 0) (km_R.getD 93 none) (kH 93) ∈ kTw := kw 513 (by decide +kernel)
theorem kcw_94 : ka_cw (kN 94) (kB 94) (km_M.getD 94 0) (km_R.getD 94 none) (kH 94) ∈ kTw := kw 517 (by decide +kernel)
theorem kcw_95 : ka_cw (kN 95) (kB 95) (km_M.getD 95 0) (km_R.getD 95 none) (kH 95) ∈ kTw := kw 365 (by decide +kernel)
theorem kcw_96 : ka_cw (kN 96) (kB 96) (km_M.getD 96 0) (km_R.getD 96 none) (kH 96) ∈ kTw := kw 368 (by decide +kernel)
theorem kcw_97 : ka_cw (kN 97) (kB 97) (km_M.getD 97 0) (km_R.getD 97 none) (kH 97) ∈ kTw := kw 357 (by decide +kernel)
theorem kcw_98 : ka_cw (kN 98) (kB 98) (km_M.getD 98 0) (km_R.getD 98 none) (kH 98) ∈ kTw := kw 353 (by decide +kernel)
theorem kcw_99 : ka_cw (kN 99) (kB 99) (km_M.getD 99 0) (km_R.getD 99 none) (kH 99) ∈ kTw := kw 361 (by decide +kernel)
theorem kcw_100 : ka_cw (kN 100) (kB 100) (km_M.getD 100 0) (km_R.getD 100 none) (kH 100) ∈ kTw := kw 390 (by decide +kernel)
theorem kcw_101 : ka_cw (kN 101) (kB 101) (km_M.getD 101 0) (km_R.getD 101 none) (kH 101) ∈ kTw := kw 536 (by decide +kernel)
theorem kcw_102 : ka_cw (kN 102) (kB 102) (km_M.getD 102 0) (km_R.getD 102 none) (kH 102) ∈ kTw := kw 544 (by decide +kernel)
theorem kcw_103 : ka_cw (kN 103) (kB 103) (km_M.getD 103 0) (km_R.getD 103 none) (kH 103) ∈ kTw := kw 884 (by decide +kernel)
theorem kcw_104 : ka_cw (kN 104) (kB 104) (km_M.getD 104 0) (km_R.getD 104 none) (kH 104) ∈ kTw := kw 785 (by decide +kernel)
theorem kcw_105 : ka_cw (kN 105) (kB 105) (km_M.getD 105 0) (km_R.getD 105 none) (kH 105) ∈ kTw := kw 166 (by decide +kernel)
theorem kcw_106 : ka_cw (kN 106) (kB 106) (km_M.getD 106 0) (km_R.getD 106 none) (kH 106) ∈ kTw := kw 228 (by decide +kernel)
theorem kcw_107 : ka_cw (kN 107) (kB 107) (km_M.getD 107 0) (km_R.getD 107 none) (kH 107) ∈ kTw := kw 650 (by decide +kernel)
theorem kcw_108 : ka_cw (kN 108) (kB 108) (km_M.getD 108 0) (km_R.getD 108 none) (kH 108) ∈ kTw := kw 926 (by decide +kernel)
theorem kcw_109 : ka_cw (kN 109) (kB 109) (km_M.getD 109 0) (km_R.getD 109 none) (kH 109) ∈ kTw := kw 1035 (by decide +kernel)
theorem kcw_110 : ka_cw (kN 110) (kB 110) (km_M.getD 110 0) (km_R.getD 110 none) (kH 110) ∈ kTw := kw 961 (by decide +kernel)
theorem kcw_111 : ka_cw (kN 111) (kB 111) (km_M.getD 111 0) (km_R.getD 111 none) (kH 111) ∈ kTw := kw 872 (by decide +kernel)
theorem kcw_112 : ka_cw (kN 112) (kB 112) (km_M.getD 112 0) (km_R.getD 112 none) (kH 112) ∈ kTw := kw 999 (by decide +kernel)
theorem kcw_113 : ka_cw (kN 113) (kB 113) (km_M.getD 113 0) (km_R.getD 113 none) (kH 113) ∈ kTw := kw 910 (by decide +kernel)
theorem kcw_114 : ka_cw (kN 114) (kB 114) (km_M.getD 114 0) (km_R.getD 114 none) (kH 114) ∈ kTw := kw 763 (by decide +kernel)
theorem kcw_115 : ka_cw (kN 115) (kB 115) (km_M.getD 115 0) (km_R.getD 115 none) (kH 115) ∈ kTw := kw 965 (by decide +kernel)
theorem kcw_116 : ka_cw (kN 116) (kB 116) (km_M.getD 116 0) (km_R.getD 116 none) (kH 116) ∈ kTw := kw 880 (by decide +kernel)
theorem kcw_117 : ka_cw (kN 117) (kB 117) (km_M.getD 117 0) (km_R.getD 117 none) (kH 117) ∈ kTw := kw 1052 (by decide +kernel)
theorem kcw_118 : ka_cw (kN 118) (kB 118) (km_M.getD 118 0) (km_R.getD 118 none) (kH 118) ∈ kTw := kw 1188 (by decide +kernel)
theorem kcw_119 : ka_cw (kN 119) (kB 119) (km_M.getD 119 0) (km_R.getD 119 none) (kH 119) ∈ kTw := kw 1195 (by decide +kernel)
theorem kcw_120 : ka_cw (kN 120) (kB 120) (km_M.getD 120 0) (km_R.getD 120 none) (kH 120) ∈ kTw := kw 1202 (by decide +kernel)
theorem kcw_121 : ka_cw (kN 121) (kB 121) (km_M.getD 121 0) (km_R.getD 121 none) (kH 121) ∈ kTw := kw 1214 (by decide +kernel)
theorem kcw_122 : ka_cw (kN 122) (kB 122) (km_M.getD 122 0) (km_R.getD 122 none) (kH 122) ∈ kTw := kw 1192 (by decide +kernel)
theorem kcw_123 : ka_cw (kN 123) (kB 123) (km_M.getD 123 0) (km_R.getD 123 none) (kH 123) ∈ kTw := kw 1206 (by decide +kernel)
theorem kcw_124 : ka_cw (kN 124) (kB 124) (km_M.getD 124 0) (km_R.getD 124 none) (kH 124) ∈ kTw := kw 1234 (by decide +kernel)
theorem kcw_125 : ka_cw (kN 125) (kB 125) (km_M.getD 125 0) (km_R.getD 125 none) (kH 125) ∈ kTw := kw 1230 (by decide +kernel)
theorem kcw_126 : ka_cw (kN 126) (kB 126) (km_M.getD 126 0) (km_R.getD 126 none) (kH 126) ∈ kTw := kw 1226 (by decide +kernel)
theorem kcw_127 : ka_cw (kN 127) (kB 127) (km_M.getD 127 0) (km_R.getD 127 none) (kH 127) ∈ kTw := kw 1238 (by decide +kernel)
theorem kcw_128 : ka_cw (kN 128) (kB 128) (km_M.getD 128 0) (km_R.getD 128 none) (kH 128) ∈ kTw := kw 1242 (by decide +kernel)
theorem kcw_129 : ka_cw (kN 129) (kB 129) (km_M.getD 129 0) (km_R.getD 129 none) (kH 129) ∈ kTw := kw 1218 (by decide +kernel)
theorem kcw_130 : ka_cw (kN 130) (kB 130) (km_M.getD 130 0) (km_R.getD 130 none) (kH 130) ∈ kTw := kw 1246 (by decide +kernel)
theorem kcw_131 : ka_cw (kN 131) (kB 131) (km_M.getD 131 0) (km_R.getD 131 none) (kH 131) ∈ kTw := kw 1222 (by decide +kernel)
theorem kcw_132 : ka_cw (kN 132) (kB 132) (km_M.getD 132 0) (km_R.getD 132 none) (kH 132) ∈ kTw := kw 1199 (by decide +kernel)
theorem kcw_133 : ka_cw (kN 133) (kB 133) (km_M.getD 133 0) (km_R.getD 133 none) (kH 133) ∈ kTw := kw 1210 (by decide +kernel)
theorem kcw_134 : ka_cw (kN 134) (kB 134) (km_M.getD 134 0) (km_R.getD 134 none) (kH 134) ∈ kTw := kw 1250 (by decide +kernel)
theorem kcw_135 : ka_cw (kN 135) (kB 135) (km_M.getD 135 0) (km_R.getD 135 none) (kH 135) ∈ kTw := kw 1254 (by decide +kernel)
theorem kcw_136 : ka_cw (kN 136) (kB 136) (km_M.getD 136 0) (km_R.getD 136 none) (kH 136) ∈ kTw := kw 1258 (by decide +kernel)
theorem kcw_137 : ka_cw (kN 137) (kB 137) (km_M.getD 137 0) (km_R.getD 137 none) (kH 137) ∈ kTw := kw 1262 (by decide +kernel)
theorem kcw_138 : ka_cw (kN 138) (kB 138) (km_M.getD 138 0) (km_R.getD 138 none) (kH 138) ∈ kTw := kw 1278 (by decide +kernel)
theorem kcw_139 : ka_cw (kN 139) (kB 139) (km_M.getD 139 0) (km_R.getD 139 none) (kH 139) ∈ kTw := kw 1270 (by decide +kernel)
theorem kcw_140 : ka_cw (kN 140) (kB 140) (km_M.getD 140 0) (km_R.getD 140 none) (kH 140) ∈ kTw := kw 1274 (by decide +kernel)
theorem kcw_141 : ka_cw (kN 141) (kB 141) (km_M.getD 141 0) (km_R.getD 141 none) (kH 141) ∈ kTw := kw 1266 (by decide +kernel)
theorem kcw_142 : ka_cw (kN 142) (kB 142) (km_M.getD 142 0) (km_R.getD 142 none) (kH 142) ∈ kTw := kw 1296 (by decide +kernel)
theorem kcw_143 : ka_cw (kN 143) (kB 143) (km_M.getD 143 0) (km_R.getD 143 none) (kH 143) ∈ kTw := kw 1300 (by decide +kernel)
theorem kcw_144 : ka_cw (kN 144) (kB 144) (km_M.getD 144 0) (km_R.getD 144 none) (kH 144) ∈ kTw := kw 1292 (by decide +kernel)
theorem kcw_145 : ka_cw (kN 145) (kB 145) (km_M.getD 145 0) (km_R.getD 145 none) (kH 145) ∈ kTw := kw 1304 (by decide +kernel)
theorem kcw_146 : ka_cw (kN 146) (kB 146) (km_M.getD 146 0) (km_R.getD 146 none) (kH 146) ∈ kTw := kw 1308 (by decide +kernel)
theorem kcw_147 : ka_cw (kN 147) (kB 147) (km_M.getD 147 0) (km_R.getD 147 none) (kH 147) ∈ kTw := kw 1288 (by decide +kernel)
theorem kcw_148 : ka_cw (kN 148) (kB 148) (km_M.getD 148 0) (km_R.getD 148 none) (kH 148) ∈ kTw := kw 1284 (by decide +kernel)
theorem kcw_149 : ka_cw (kN 149) (kB 149) (km_M.getD 149 0) (km_R.getD 149 none) (kH 149) ∈ kTw := kw 1332 (by decide +kernel)
theorem kcw_150 : ka_cw (kN 150) (kB 150) (km_M.getD 150 0) (km_R.getD 150 none) (kH 150) ∈ kTw := kw 1328 (by decide +kernel)
theorem kcw_151 : ka_cw (kN 151) (kB 151) (km_M.getD 151 0) (km_R.getD 151 none) (kH 151) ∈ kTw := kw 1324 (by decide +kernel)
theorem kcw_152 : ka_cw (kN 152) (kB 152) (km_M.getD 152 0) (km_R.getD 152 none) (kH 152) ∈ kTw := kw 1320 (by decide +kernel)
theorem kcw_153 : ka_cw (kN 153) (kB 153) (km_M.getD 153 0) (km_R.getD 153 none) (kH 153) ∈ kTw := kw 1316 (by decide +kernel)
theorem kcw_154 : ka_cw (kN 154) (kB 154) (km_M.getD 154 0) (km_R.getD 154 none) (kH 154) ∈ kTw := kw 1348 (by decide +kernel)
theorem kcw_155 : ka_cw (kN 155) (kB 155) (km_M.getD 155 0) (km_R.getD 155 none) (kH 155) ∈ kTw := kw 1312 (by decide +kernel)
theorem kcw_156 : ka_cw (kN 156) (kB 156) (km_M.getD 156 0) (km_R.getD 156 none) (kH 156) ∈ kTw := kw 1336 (by decide +kernel)
theorem kcw_157 : ka_cw (kN 157) (kB 157) (km_M.getD 157 0) (km_R.getD 157 none) (kH 157) ∈ kTw := kw 1344 (by decide +kernel)
theorem kcw_158 : ka_cw (kN 158) (kB 158) (km_M.getD 158 0) (km_R.getD 158 none) (kH 158) ∈ kTw := kw 1340 (by decide +kernel)
theorem kcw_159 : ka_cw (kN 159) (kB 159) (km_M.getD 159 0) (km_R.getD 159 none) (kH 159) ∈ kTw := kw 1356 (by decide +kernel)
theorem kcw_160 : ka_cw (kN 160) (kB 160) (km_M.getD 160 0) (km_R.getD 160 none) (kH 160) ∈ kTw := kw 1360 (by decide +kernel)
theorem kcw_161 : ka_cw (kN 161) (kB 161) (km_M.getD 161 0) (km_R.getD 161 none) (kH 161) ∈ kTw := kw 1364 (by decide +kernel)
theorem kcw_162 : ka_cw (kN 162) (kB 162) (km_M.getD 162 0) (km_R.getD 162 none) (kH 162) ∈ kTw := kw 1352 (by decide +kernel)
theorem kcw_163 : ka_cw (kN 163) (kB 163) (km_M.getD 163 0) (km_R.getD 163 none) (kH 163) ∈ kTw := kw 1368 (by decide +kernel)
theorem kcw_164 : ka_cw (kN 164) (kB 164) (km_M.getD 164 0) (km_R.getD 164 none) (kH 164) ∈ kTw := kw 1372 (by decide +kernel)
theorem kcw_165 : ka_cw (kN 165) (kB 165) (km_M.getD 165 0) (km_R.getD 165 none) (kH 165) ∈ kTw := kw 1380 (by decide +kernel)
theorem kcw_166 : ka_cw (kN 166) (kB 166) (km_M.getD 166 0) (km_R.getD 166 none) (kH 166) ∈ kTw := kw 1376 (by decide +kernel)
theorem kcw_167 : ka_cw (kN 167) (kB 167) (km_M.getD 167 0) (km_R.getD 167 none) (kH 167) ∈ kTw := kw 1384 (by decide +kernel)
theorem kcw_168 : ka_cw (kN 168) (kB 168) (km_M.getD 168 0) (km_R.getD 168 none) (kH 168) ∈ kTw := kw 1388 (by decide +kernel)
theorem kcw_169 : ka_cw (kN 169) (kB 169) (km_M.getD 169 0) (km_R.getD 169 none) (kH 169) ∈ kTw := kw 1392 (by decide +kernel)
theorem kcw_170 : ka_cw (kN 170) (kB 170) (km_M.getD 170 0) (km_R.getD 170 none) (kH 170) ∈ kTw := kw 1396 (by decide +kernel)
theorem kcw_171 : ka_cw (kN 171) (kB 171) (km_M.getD 171 0) (km_R.getD 171 none) (kH 171) ∈ kTw := kw 1400 (by decide +kernel)
theorem kcw_175 : ka_cw (kN 175) (kB 175) (km_M.getD 175 0) (km_R.getD 175 none) (kH 175) ∈ kTw := kw 107 (by decide +kernel)
theorem kcw_176 : ka_cw (kN 176) (kB 176) (km_M.getD 176 0) (km_R.getD 176 none) (kH 176) ∈ kTw := kw 104 (by decide +kernel)
theorem kcw_177 : ka_cw (kN 177) (kB 177) (km_M.getD 177 0) (km_R.getD 177 none) (kH 177) ∈ kTw := kw 101 (by decide +kernel)
theorem kcw_178 : ka_cw (kN 178) (kB 178) (km_M.getD 178 0) (km_R.getD 178 none) (kH 178) ∈ kTw := kw 465 (by decide +kernel)
theorem kcw_179 : ka_cw (kN 179) (kB 179) (km_M.getD 179 0) (km_R.getD 179 none) (kH 179) ∈ kTw := kw 461 (by decide +kernel)
theorem kcw_180 : ka_cw (kN 180) (kB 180) (km_M.getD 180 0) (km_R.getD 180 none) (kH 180) ∈ kTw := kw 236 (by decide +kernel)
theorem kcw_181 : ka_cw (kN 181) (kB 181) (km_M.getD 181 0) (km_R.getD 181 none) (kH 181) ∈ kTw := kw 562 (by decide +kernel)
theorem kcw_182 : ka_cw (kN 182) (kB 182) (km_M.getD 182 0) (km_R.getD 182 none) (kH 182) ∈ kTw := kw 552 (by decide +kernel)
theorem kcw_183 : ka_cw (kN 183) (kB 183) (km_M.getD 183 0) (km_R.getD 183 none) (kH 183) ∈ kTw := kw 457 (by decide +kernel)
theorem kcw_184 : ka_cw (kN 184) (kB 184) (km_M.getD 184 0) (km_R.getD 184 none) (kH 184) ∈ kTw := kw 453 (by decide +kernel)
theorem kcw_185 : ka_cw (kN 185) (kB 185) (km_M.getD 185 0) (km_R.getD 185 none) (kH 185) ∈ kTw := kw 566 (by decide +kernel)
theorem kcw_186 : ka_cw (kN 186) (kB 186) (km_M.getD 186 0) (km_R.getD 186 none) (kH 186) ∈ kTw := kw 570 (by decide +kernel)
theorem kcw_187 : ka_cw (kN 187) (kB 187) (km_M.getD 187 0) (km_R.getD 187 none) (kH 187) ∈ kTw := kw 524 (by decide +kernel)
theorem kcw_188 : ka_cw (kN 188) (kB 188) (km_M.getD 188 0) (km_R.getD 188 none) (kH 188) ∈ kTw := kw 555 (by decide +kernel)
theorem kcw_189 : ka_cw (kN 189) (kB 189) (km_M.getD 189 0) (km_R.getD 189 none) (kH 189) ∈ kTw := kw 468 (by decide +kernel)
theorem kcw_190 : ka_cw (kN 190) (kB 190) (km_M.getD 190 0) (km_R.getD 190 none) (kH 190) ∈ kTw := kw 475 (by decide +kernel)
theorem kcw_191 : ka_cw (kN 191) (kB 191) (km_M.getD 191 0) (km_R.getD 191 none) (kH 191) ∈ kTw := kw 558 (by decide +kernel)
theorem kcw_192 : ka_cw (kN 192) (kB 192) (km_M.getD 192 0) (km_R.getD 192 none) (kH 192) ∈ kTw := kw 478 (by decide +kernel)
theorem kcw_193 : ka_cw (kN 193) (kB 193) (km_M.getD 193 0) (km_R.getD 193 none) (kH 193) ∈ kTw := kw 500 (by decide +kernel)
def kcz : List Nat := [1, 2, 3, 4, 5, 6, 7, 8, 9, 10, 11, 12, 13, 14, 15, 16, 17, 18, 19, 20, 21, 22, 23, 24, 25, 26, 27, 28, 29, 30, 31, 32, 33, 34, 35, 36, 37, 38, 39, 40, 41, 42, 43, 44, 45, 46, 47, 48, 49, 50, 51, 52, 53, 54, 55, 56, 57, 58, 59, 60, 61, 62, 63, 64, 65, 66, 67, 68, 69, 70, 71, 72, 73, 74, 75, 76, 77, 78, 79, 80, 81, 82, 83, 84, 85, 86, 87, 88, 89, 90, 91, 92, 93, 94, 95, 96, 97, 98, 99, 100, 101, 102, 103, 104, 105, 106, 107, 108, 109, 110, 111, 112, 113, 114, 115, 116, 117, 118, 119, 120, 121, 122, 123, 124, 125, 126, 127, 128, 129, 130, 131, 132, 133, 134, 135, 136, 137, 138, 139, 140, 141, 142, 143, 144, 145, 146, 147, 148, 149, 150, 151, 152, 153, 154, 155, 156, 157, 158, 159, 160, 161, 162, 163, 164, 165, 166, 167, 168, 169, 170, 171, 175, 176, 177, 178, 179, 180, 181, 182, 183, 184, 185, 186, 187, 188, 189, 190, 191, 192, 193]
set_option maxRecDepth 20000 in
theorem kcw_all : ∀ z ∈ kcz, ka_cw (kN z) (kB z) (km_M.getD z 0) (km_R.getD z none) (kH z) ∈ kTw := by
  unfold kcz
  exact List.forall_mem_cons.mpr ⟨kcw_1, List.forall_mem_cons.mpr ⟨kcw_2, List.forall_mem_cons.mpr ⟨kcw_3, List.forall_mem_cons.mpr ⟨kcw_4, List.forall_mem_cons.mpr ⟨kcw_5, List.forall_mem_cons.mpr ⟨kcw_6, List.forall_mem_cons.mpr ⟨kcw_7, List.forall_mem_cons.mpr ⟨kcw_8, List.forall_mem_cons.mpr ⟨kcw_9, List.forall_mem_cons.mpr ⟨kcw_10, List.forall_mem_cons.mpr ⟨kcw_11, List.forall_mem_cons.mpr ⟨kcw_12, List.forall_mem_cons.mpr ⟨kcw_13, List.forall_mem_cons.mpr ⟨kcw_14, List.forall_mem_cons.mpr ⟨kcw_15, List.forall_mem_cons.mpr ⟨kcw_16, List.forall_mem_cons.mpr ⟨kcw_17, List.forall_mem_cons.mpr ⟨kcw_18, List.forall_mem_cons.mpr ⟨kcw_19, List.forall_mem_cons.mpr ⟨kcw_20, List.forall_mem_cons.mpr ⟨kcw_21, List.forall_mem_cons.mpr ⟨kcw_22, List.forall_mem_cons.mpr ⟨kcw_23, List.forall_mem_cons.mpr ⟨kcw_24, List.forall_mem_cons.mpr ⟨kcw_25, List.forall_mem_cons.mpr ⟨kcw_26, List.forall_mem_cons.mpr ⟨kcw_27, List.forall_mem_cons.mpr ⟨kcw_28, List.forall_mem_cons.mpr ⟨kcw_29, List.forall_mem_cons.mpr ⟨kcw_30, List.forall_mem_cons.mpr ⟨kcw_31, List.forall_mem_cons.mpr ⟨kcw_32, List.forall_mem_cons.mpr ⟨kcw_33, List.forall_mem_cons.mpr ⟨kcw_34, List.forall_mem_cons.mpr ⟨kcw_35, List.forall_mem_cons.mpr ⟨kcw_36, List.forall_mem_cons.mpr ⟨kcw_37, List.forall_mem_cons.mpr ⟨kcw_38, List.forall_mem_cons.mpr ⟨kcw_39, List.forall_mem_cons.mpr ⟨kcw_40, List.forall_mem_cons.mpr ⟨kcw_41, List.forall_mem_cons.mpr ⟨kcw_42, List.forall_mem_cons.mpr ⟨kcw_43, List.forall_mem_cons.mpr ⟨kcw_44, List.forall_mem_cons.mpr ⟨kcw_45, List.forall_mem_cons.mpr ⟨kcw_46, List.forall_mem_cons.mpr ⟨kcw_47, List.forall_mem_cons.mpr ⟨kcw_48, List.forall_mem_cons.mpr ⟨kcw_49, List.forall_mem_cons.mpr ⟨kcw_50, List.forall_mem_cons.mpr ⟨kcw_51, List.forall_mem_cons.mpr ⟨kcw_52, List.forall_mem_cons.mpr ⟨kcw_53, List.forall_mem_cons.mpr ⟨kcw_54, List.forall_mem_cons.mpr ⟨kcw_55, List.forall_mem_cons.mpr ⟨kcw_56, List.forall_mem_cons.mpr ⟨kcw_57, List.forall_mem_cons.mpr ⟨kcw_58, List.forall_mem_cons.mpr ⟨kcw_59, List.forall_mem_cons.mpr ⟨kcw_60, List.forall_mem_cons.mpr ⟨kcw_61, List.forall_mem_cons.mpr ⟨kcw_62, List.forall_mem_cons.mpr ⟨kcw_63, List.forall_mem_cons.mpr ⟨kcw_64, List.forall_mem_cons.mpr ⟨kcw_65, List.forall_mem_cons.mpr ⟨kcw_66, List.forall_mem_cons.mpr ⟨kcw_67, List.forall_mem_cons.mpr ⟨kcw_68, List.forall_mem_cons.mpr ⟨kcw_69, List.forall_mem_cons.mpr ⟨kcw_70, List.forall_mem_cons.mpr ⟨kcw_71, List.forall_mem_cons.mpr ⟨kcw_72, List.forall_mem_cons.mpr ⟨kcw_73, List.forall_mem_cons.mpr ⟨kcw_74, List.forall_mem_cons.mpr ⟨kcw_75, List.forall_mem_cons.mpr ⟨kcw_76, List.forall_mem_cons.mpr ⟨kcw_77, List.forall_mem_cons.mpr ⟨kcw_78, List.forall_mem_cons.mpr ⟨kcw_79, List.forall_mem_cons.mpr ⟨kcw_80, List.forall_mem_cons.mpr ⟨kcw_81, List.forall_mem_cons.mpr ⟨kcw_82, List.forall_mem_cons.mpr ⟨kcw_83, List.forall_mem_cons.mpr ⟨kcw_84, List.forall_mem_cons.mpr ⟨kcw_85, List.forall_mem_cons.mpr ⟨kcw_86, List.forall_mem_cons.mpr ⟨kcw_87, List.forall_mem_cons.mpr ⟨kcw_88, List.forall_mem_cons.mpr ⟨kcw_89, List.forall_mem_cons.mpr ⟨kcw_90, List.forall_mem_cons.mpr ⟨kcw_91, List.forall_mem_cons.mpr ⟨kcw_92, List.forall_mem_cons.mpr ⟨kcw_93, List.forall_mem_cons.mpr ⟨kcw_94, List.forall_mem_cons.mpr ⟨kcw_95, List.forall_mem_cons.mpr ⟨kcw_96, List.forall_mem_cons.mpr ⟨kcw_97, List.forall_mem_cons.mpr ⟨kcw_98, List.forall_mem_cons.mpr ⟨kcw_99, List.forall_mem_cons.mpr ⟨kcw_100, List.forall_mem_cons.mpr ⟨kcw_101, List.forall_mem_cons.mpr ⟨kcw_102, List.forall_mem_cons.mpr ⟨kcw_103, List.forall_mem_cons.mpr ⟨kcw_104, List.forall_mem_cons.mpr ⟨kcw_105, List.forall_mem_cons.mpr ⟨kcw_106, List.forall_mem_cons.mpr ⟨kcw_107, List.forall_mem_cons.mpr ⟨kcw_108, List.forall_mem_cons.mpr ⟨kcw_109, List.forall_mem_cons.mpr ⟨kcw_110, List.forall_mem_cons.mpr ⟨kcw_111, List.forall_mem_cons.mpr ⟨kcw_112, List.forall_mem_cons.mpr ⟨kcw_113, List.forall_mem_cons.mpr ⟨kcw_114, List.forall_mem_cons.mpr ⟨kcw_115, List.forall_mem_cons.mpr ⟨kcw_116, List.forall_mem_cons.mpr ⟨kcw_117, List.forall_mem_cons.mpr ⟨kcw_118, List.forall_mem_cons.mpr ⟨kcw_119, List.forall_mem_cons.mpr ⟨kcw_120, List.forall_mem_cons.mpr ⟨kcw_121, List.forall_mem_cons.mpr ⟨kcw_122, List.forall_mem_cons.mpr ⟨kcw_123, List.forall_mem_cons.mpr ⟨kcw_124, List.forall_mem_cons.mpr ⟨kcw_125, List.forall_mem_cons.mpr ⟨kcw_126, List.forall_mem_cons.mpr ⟨kcw_127, List.forall_mem_cons.mpr ⟨kcw_128, List.forall_mem_cons.mpr ⟨kcw_129, List.forall_mem_cons.mpr ⟨kcw_130, List.forall_mem_cons.mpr ⟨kcw_131, List.forall_mem_cons.mpr ⟨kcw_132, List.forall_mem_cons.mpr ⟨kcw_133, List.forall_mem_cons.mpr ⟨kcw_134, List.forall_mem_cons.mpr ⟨kcw_135, List.forall_mem_cons.mpr ⟨kcw_136, List.forall_mem_cons.mpr ⟨kcw_137, List.forall_mem_cons.mpr ⟨kcw_138, List.forall_mem_cons.mpr ⟨kcw_139, List.forall_mem_cons.mpr ⟨kcw_140, List.forall_mem_cons.mpr ⟨kcw_141, List.forall_mem_cons.mpr ⟨kcw_142, List.forall_mem_cons.mpr ⟨kcw_143, List.forall_mem_cons.mpr ⟨kcw_144, List.forall_mem_cons.mpr ⟨kcw_145, List.forall_mem_cons.mpr ⟨kcw_146, List.forall_mem_cons.mpr ⟨kcw_147, List.forall_mem_cons.mpr ⟨kcw_148, List.forall_mem_cons.mpr ⟨kcw_149, List.forall_mem_cons.mpr ⟨kcw_150, List.forall_mem_cons.mpr ⟨kcw_151, List.forall_mem_cons.mpr ⟨kcw_152, List.forall_mem_cons.mpr ⟨kcw_153, List.forall_mem_cons.mpr ⟨kcw_154, List.forall_mem_cons.mpr ⟨kcw_155, List.forall_mem_cons.mpr ⟨kcw_156, List.forall_mem_cons.mpr ⟨kcw_157, List.forall_mem_cons.mpr ⟨kcw_158, List.forall_mem_cons.mpr ⟨kcw_159, List.forall_mem_cons.mpr ⟨kcw_160, List.forall_mem_cons.mpr ⟨kcw_161, List.forall_mem_cons.mpr ⟨kcw_162, List.forall_mem_cons.mpr ⟨kcw_163, List.forall_mem_cons.mpr ⟨kcw_164, List.forall_mem_cons.mpr ⟨kcw_165, List.forall_mem_cons.mpr ⟨kcw_166, List.forall_mem_cons.mpr ⟨kcw_167, List.forall_mem_cons.mpr ⟨kcw_168, List.forall_mem_cons.mpr ⟨kcw_169, List.forall_mem_cons.mpr ⟨kcw_170, List.forall_mem_cons.mpr ⟨kcw_171, List.forall_mem_cons.mpr ⟨kcw_175, List.forall_mem_cons.mpr ⟨kcw_176, List.forall_mem_cons.mpr ⟨kcw_177, List.forall_mem_cons.mpr ⟨kcw_178, List.forall_mem_cons.mpr ⟨kcw_179, List.forall_mem_cons.mpr ⟨kcw_180, List.forall_mem_cons.mpr ⟨kcw_181, List.forall_mem_cons.mpr ⟨kcw_182, List.forall_mem_cons.mpr ⟨kcw_183, List.forall_mem_cons.mpr ⟨kcw_184, List.forall_mem_cons.mpr ⟨kcw_185, List.forall_mem_cons.mpr ⟨kcw_186, List.forall_mem_cons.mpr ⟨kcw_187, List.forall_mem_cons.mpr ⟨kcw_188, List.forall_mem_cons.mpr ⟨kcw_189, List.forall_mem_cons.mpr ⟨kcw_190, List.forall_mem_cons.mpr ⟨kcw_191, List.forall_mem_cons.mpr ⟨kcw_192, List.forall_mem_cons.mpr ⟨kcw_193, fun _ h => absurd h List.not_mem_nil⟩⟩⟩⟩⟩⟩⟩⟩⟩⟩⟩⟩⟩⟩⟩⟩⟩⟩⟩⟩⟩⟩⟩⟩⟩⟩⟩⟩⟩⟩⟩⟩⟩⟩⟩⟩⟩⟩⟩⟩⟩⟩⟩⟩⟩⟩⟩⟩⟩⟩⟩⟩⟩⟩⟩⟩⟩⟩⟩⟩⟩⟩⟩⟩⟩⟩⟩⟩⟩⟩⟩⟩⟩⟩⟩⟩⟩⟩⟩⟩⟩⟩⟩⟩⟩⟩⟩⟩⟩⟩⟩⟩⟩⟩⟩⟩⟩⟩⟩⟩⟩⟩⟩⟩⟩⟩⟩⟩⟩⟩⟩⟩⟩⟩⟩⟩⟩⟩⟩⟩⟩⟩⟩⟩⟩⟩⟩⟩⟩⟩⟩⟩⟩⟩⟩⟩⟩⟩⟩⟩⟩⟩⟩⟩⟩⟩⟩⟩⟩⟩⟩⟩⟩⟩⟩⟩⟩⟩⟩⟩⟩⟩⟩⟩⟩⟩⟩⟩⟩⟩⟩⟩⟩⟩⟩⟩⟩⟩⟩⟩⟩⟩⟩⟩⟩⟩⟩⟩⟩⟩
def kc_cal (e : ((Nat × Nat) × (Nat × Nat)) × (Nat × Nat × Nat × Nat × Nat)) : Bool :=
  kq e.2.1 (.methodLink (kOwn.getD e.1.1.1 "") e.1.1.2 (kN e.1.2.1)) && kcz.contains e.1.2.1 && kq e.2.2.2.1 (.initialized (kN e.1.2.1).cls) &&
  decide ((kN e.1.2.1).cls ≠ "java/lang/invoke/MethodHandle") && decide ((kN e.1.2.1).cls ≠ "java/lang/invoke/VarHandle") && plainName (kN e.1.2.1).cls && decide (km_M.getD e.1.2.1 0 ≤ 45) &&
  (if (km_V.getD e.1.2.1 (0, 0)).1 = 0 then kq e.2.2.2.2.1 (.static (kN e.1.2.1)) && decide ((parseMethodDescriptor (kN e.1.2.1).desc).map (fun d => d.parameters.length) = some e.1.2.2)
    else kq e.2.2.2.2.1 (.instanceMethod (kN e.1.2.1)) && decide ((parseMethodDescriptor (kN e.1.2.1).desc).map (fun d => d.parameters.length + 1) = some e.1.2.2)) &&
  (if (km_V.getD e.1.2.1 (0, 0)).1 = 1 then kq e.2.2.2.2.2 (.selects (kN e.1.2.1).cls (kN e.1.2.1) (kN e.1.2.1)) && (match kcl[(km_V.getD e.1.2.1 (0, 0)).2]? with
    | some r => decide (r.1 = (kN e.1.2.1).cls)
    | none => false) else true) &&
  (if (km_V.getD e.1.2.1 (0, 0)).1 = 2 then decide ((kN e.1.2.1).name = "<init>") && decide (kH e.1.2.1 = []) && decide (km_R.getD e.1.2.1 none = none) else true)
theorem kcal_ok0 : ∀ e ∈ (kcalx.drop 0).take 30, kc_cal e = true := by decide +kernel
theorem kcal_ok1 : ∀ e ∈ (kcalx.drop 30).take 30, kc_cal e = true := by decide +kernel
theorem kcal_ok2 : ∀ e ∈ (kcalx.drop 60).take 30, kc_cal e = true := by decide +kernel
theorem kcal_ok3 : ∀ e ∈ (kcalx.drop 90).take 30, kc_cal e = true := by decide +kernel
theorem kcal_ok4 : ∀ e ∈ (kcalx.drop 120).take 30, kc_cal e = true := by decide +kernel
theorem kcal_ok5 : ∀ e ∈ (kcalx.drop 150).take 30, kc_cal e = true := by decide +kernel
theorem kcal_ok6 : ∀ e ∈ (kcalx.drop 180).take 30, kc_cal e = true := by decide +kernel
theorem kcal_ok : ∀ e ∈ kcalx, kc_cal e = true := by
  intro e he
  have hj : ([0, 30, 60, 90, 120, 150, 180].flatMap (fun j => (kcalx.drop j).take 30)) = kcalx := by decide +kernel
  rw [← hj] at he
  obtain ⟨j, h1, h2⟩ := List.mem_flatMap.mp he
  clear he
  revert e h2
  exact (List.forall_mem_cons.mpr ⟨kcal_ok0, List.forall_mem_cons.mpr ⟨kcal_ok1, List.forall_mem_cons.mpr ⟨kcal_ok2, List.forall_mem_cons.mpr ⟨kcal_ok3, List.forall_mem_cons.mpr ⟨kcal_ok4, List.forall_mem_cons.mpr ⟨kcal_ok5, List.forall_mem_cons.mpr ⟨kcal_ok6, fun _ h => absurd h List.not_mem_nil⟩⟩⟩⟩⟩⟩⟩ : ∀ j ∈ [0, 30, 60, 90, 120, 150, 180], ∀ e ∈ (kcalx.drop j).take 30, kc_cal e = true) j h1
theorem ko_cal_ok (E : Nat × Nat) : ko_cal kTw kcl (kp E) kN kB kH := by
  intro y i z na h
  obtain ⟨⟨r1, r2, r3, r4, r5⟩, hm⟩ := ka_lkx (l := kcalx) h
  have hc := kcal_ok _ hm
  unfold kc_cal at hc
  simp only [Bool.and_eq_true, decide_eq_true_eq] at hc
  obtain ⟨⟨⟨⟨⟨⟨⟨⟨⟨h1, h2⟩, h3⟩, h4⟩, h5⟩, h6⟩, h7⟩, h8⟩, h9⟩, h10⟩ := hc
  refine ⟨by rw [kOwn_eq]; exact kw r1 h1, kcw_all z (by simpa using h2), kw r3 h3, ⟨h4, h5⟩, h6, h7, fun z0 => ?_, fun z0 => ?_, fun z0 => ?_, fun z0 => ?_⟩
  · have z1 : (km_V.getD z (0, 0)).1 = 0 := z0
    rw [if_pos z1] at h8
    simp only [Bool.and_eq_true, decide_eq_true_eq] at h8
    exact ⟨kw r4 h8.1, h8.2⟩
  · have z1 : ¬ (km_V.getD z (0, 0)).1 = 0 := z0
    rw [if_neg z1] at h8
    simp only [Bool.and_eq_true, decide_eq_true_eq] at h8
    exact ⟨kw r4 h8.1, h8.2⟩
  · have z1 : (km_V.getD z (0, 0)).1 = 1 := z0
    rw [if_pos z1] at h9
    simp only [Bool.and_eq_true] at h9
    refine ⟨kw r5 h9.1, ?_⟩
    have h92 := h9.2
    cases hcl : kcl[(km_V.getD z (0, 0)).2]? with
    | none => rw [hcl] at h92; simp at h92
    | some r =>
      rw [hcl] at h92
      obtain ⟨ty0, hy, hcls⟩ := kcls_ok hcl
      exact ⟨r, hcl, hcls.2.1, by simpa using h92⟩
  · have z1 : (km_V.getD z (0, 0)).1 = 2 := z0
    rw [if_pos z1] at h10
    simp only [Bool.and_eq_true, decide_eq_true_eq] at h10
    exact ⟨h10.1.1, h10.1.2, h10.2⟩
theorem ko_ins_ok (E : Nat × Nat) : ko_ins (kp E) kB := by
  intro y pc i n h
  have h0 : (km_I.getD y []).lookup pc = some (i, n) := h
  have hm := ka_lk h0
  have hl1 : km_I.length = 194 := by decide +kernel
  have hl2 : km_B.length = 194 := by decide +kernel
  by_cases hy : y < 194
  · have e1 : km_I[y]? = some (km_I.getD y []) := by rw [List.getD_eq_getElem?_getD, List.getElem?_eq_getElem (by omega)]; rfl
    have e2 : km_B[y]? = some (kB y) := by unfold kB; rw [List.getD_eq_getElem?_getD, List.getElem?_eq_getElem (by omega)]; rfl
    have hz : (kB y, km_I.getD y []) ∈ km_B.zip km_I := List.mem_of_getElem? (i := y) (by rw [List.getElem?_zip_eq_some]; exact ⟨e2, e1⟩)
    have hd := kd_all _ hz _ hm
    unfold ka_dok at hd
    simp only [Bool.and_eq_true, decide_eq_true_eq, Bool.or_eq_true, beq_iff_eq] at hd
    exact hd
  · rw [List.getD_eq_getElem?_getD, List.getElem?_eq_none (by omega)] at hm
    cases hm
theorem kobj_ok : ∀ e ∈ kprimx, ((e.1.2 == 1 && kq e.2 (.methodLink (kOwn.getD e.1.1.1 "") e.1.1.2 Lib.Math.max.name)) || (e.1.2 == 2 && kq e.2 (.methodLink (kOwn.getD e.1.1.1 "") e.1.1.2 Lib.Math.min.name)) || (e.1.2 == 3 && kq e.2 (.methodLink (kOwn.getD e.1.1.1 "") e.1.1.2 Lib.MathLoose.min_long.x)) || (e.1.2 == 4 && kq e.2 (.methodLink (kOwn.getD e.1.1.1 "") e.1.1.2 Lib.objectInit)) || (e.1.2 == 5 && kq e.2 (.methodLink (kOwn.getD e.1.1.1 "") e.1.1.2 ⟨"java/lang/Object", "getClass", "()Ljava/lang/Class;"⟩)) || (e.1.2 == 6 && kq e.2 (.methodLink (kOwn.getD e.1.1.1 "") e.1.1.2 arraycopyName))) = true := by decide +kernel
theorem kobj_at {k : Nat} (E : Nat × Nat) (y i : Nat) (h : (kp E).prim y i = some k) : ∃ r, (k = 1 ∧ kq r (.methodLink (kN y).cls i Lib.Math.max.name) = true) ∨ (k = 2 ∧ kq r (.methodLink (kN y).cls i Lib.Math.min.name) = true) ∨ (k = 3 ∧ kq r (.methodLink (kN y).cls i Lib.MathLoose.min_long.x) = true) ∨ (k = 4 ∧ kq r (.methodLink (kN y).cls i Lib.objectInit) = true) ∨ (k = 5 ∧ kq r (.methodLink (kN y).cls i ⟨"java/lang/Object", "getClass", "()Ljava/lang/Class;"⟩) = true) ∨ (k = 6 ∧ kq r (.methodLink (kN y).cls i arraycopyName) = true) := by
  obtain ⟨r, hm⟩ := ka_lkx (l := kprimx) h
  have hc := kobj_ok _ hm
  rw [kOwn_eq]
  simp only [Bool.or_eq_true, Bool.and_eq_true, beq_iff_eq, or_assoc] at hc
  exact ⟨r, hc⟩
theorem ko_obj_ok (E : Nat × Nat) : ko_obj kTw (kp E) kN := by
  refine ⟨fun y i k h => ?_, fun y i h => ?_, fun y i h => ?_, fun y i h => ?_, fun y i h => ?_, fun y i h => ?_, fun y i h => ?_⟩
  · obtain ⟨r, hc⟩ := kobj_at E y i h
    rcases hc with z | z | z | z | z | z
    · exact Or.inl z.1
    · exact Or.inr (Or.inl z.1)
    · exact Or.inr (Or.inr (Or.inl z.1))
    · exact Or.inr (Or.inr (Or.inr (Or.inl z.1)))
    · exact Or.inr (Or.inr (Or.inr (Or.inr (Or.inl z.1))))
    · exact Or.inr (Or.inr (Or.inr (Or.inr (Or.inr z.1))))
  · obtain ⟨r, hc⟩ := kobj_at E y i h
    rcases hc with z | z | z | z | z | z
    · cases z.1
    · cases z.1
    · cases z.1
    · exact ⟨kw r z.2, kw 89 (by decide +kernel), kw 90 (by decide +kernel)⟩
    · cases z.1
    · cases z.1
  · obtain ⟨r, hc⟩ := kobj_at E y i h
    rcases hc with z | z | z | z | z | z
    · exact ⟨kw r z.2, kw 470 (by decide +kernel), kw 71 (by decide +kernel), kw 471 (by decide +kernel)⟩
    · cases z.1
    · cases z.1
    · cases z.1
    · cases z.1
    · cases z.1
  · obtain ⟨r, hc⟩ := kobj_at E y i h
    rcases hc with z | z | z | z | z | z
    · cases z.1
    · exact ⟨kw r z.2, kw 370 (by decide +kernel), kw 71 (by decide +kernel), kw 371 (by decide +kernel)⟩
    · cases z.1
    · cases z.1
    · cases z.1
    · cases z.1
  · obtain ⟨r, hc⟩ := kobj_at E y i h
    rcases hc with z | z | z | z | z | z
    · cases z.1
    · cases z.1
    · exact ⟨kw r z.2, kw 721 (by decide +kernel), kw 71 (by decide +kernel), kw 722 (by decide +kernel)⟩
    · cases z.1
    · cases z.1
    · cases z.1
  · obtain ⟨r, hc⟩ := kobj_at E y i h
    rcases hc with z | z | z | z | z | z
    · cases z.1
    · cases z.1
    · cases z.1
    · cases z.1
    · exact ⟨kw r z.2, kw 1407 (by decide +kernel), kw 1406 (by decide +kernel), kw 480 (by decide +kernel), kw 497 (by decide +kernel)⟩
    · cases z.1
  · obtain ⟨r, hc⟩ := kobj_at E y i h
    rcases hc with z | z | z | z | z | z
    · cases z.1
    · cases z.1
    · cases z.1
    · cases z.1
    · cases z.1
    · exact ⟨kw r z.2, kw 507 (by decide +kernel), kw 506 (by decide +kernel), kw 76 (by decide +kernel)⟩
theorem kasg_ok : ∀ t, t < 10 → kq (([1408, 1409, 1412, 1414, 1416, 1410, 1415, 1411, 1417, 1413] : List Nat).getD t 0) (.castable (kOwn.getD t "") "java/lang/Object") = true := by decide +kernel
theorem kcl_own : ∀ t, t < 10 → ∀ r ∈ kcl[t]?, r.1 = kOwn.getD t "" := by decide +kernel
theorem ko_asg_ok : ko_asg kTw kcl := by
  refine ⟨by decide, fun t r h ht => ?_⟩
  rw [kcl_own t ht r h]
  exact kw _ (kasg_ok t ht)

