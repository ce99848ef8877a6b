/-! Calls, their answers, and what the library members answer. -/
def kret (E : Nat × Nat) (d y t : Nat) (ls : List (Option Value)) (st : List Value) (Q : ka_Q) : ka_Q := fun o s => match o with
  | .inl v => ka_W (kp E) (d, (y, t, ls, v.toList ++ st), s) Q
  | .inr k => Q (.inr k) s
def kreh (E : Nat × Nat) (d y pc t : Nat) (ls : List (Option Value)) (st : List Value) (Q : ka_Q) : ka_Q := fun o s => match o with
  | .inl v => ka_W (kp E) (d, (y, t, ls, v.toList ++ st), s) Q
  | .inr k => match (kp E).hnd y pc k with
    | none => Q (.inr k) s
    | some hh => hh < 65535 ∧ ∀ a, ka_W (kp E) (d, (y, hh, ls, [.ref a]), s) Q
section
variable {E : Nat × Nat} {d y pc n t : Nat} {ls : List (Option Value)} {st : List Value} {s : ka_S} {Q : ka_Q} {h : ka_H} {c l : Nat}
theorem kret_v {v : Value} : kret E d y t ls st Q (.inl (some v)) s ↔ ka_W (kp E) (d, (y, t, ls, v :: st), s) Q := Iff.rfl
theorem kret_n : kret E d y t ls st Q (.inl none) s ↔ ka_W (kp E) (d, (y, t, ls, st), s) Q := Iff.rfl
theorem kret_x {k : Nat} : kret E d y t ls st Q (.inr k) s ↔ Q (.inr k) s := Iff.rfl
theorem kreh_v {v : Value} : kreh E d y pc t ls st Q (.inl (some v)) s ↔ ka_W (kp E) (d, (y, t, ls, v :: st), s) Q := Iff.rfl
theorem kreh_n : kreh E d y pc t ls st Q (.inl none) s ↔ ka_W (kp E) (d, (y, t, ls, st), s) Q := Iff.rfl
theorem kreh_x {k hh : Nat} (hk : (kp E).hnd y pc k = some hh) (hl : hh < 65535) : kreh E d y pc t ls st Q (.inr k) s ↔ ∀ a, ka_W (kp E) (d, (y, hh, ls, [.ref a]), s) Q := by
  simp only [kreh, hk, hl, true_and]
theorem ka_ent_one (as : List Value) (hc : ∀ v ∈ as, v.category = 1) (m : Nat) : ka_ent as m = as.map some ++ List.replicate (m - as.length) none := by
  have e : as.flatMap (fun v => if v.category = 2 then [some v, none] else [some v]) = as.map some := by
    induction as with
    | nil => rfl
    | cons a r ih =>
      rw [List.flatMap_cons, ih (fun v hv => hc v (List.mem_cons_of_mem _ hv)), hc a List.mem_cons_self]
      rfl
  unfold ka_ent
  simp only [e, List.length_map]
theorem ka_sz_one {as : List Value} (hc : ∀ v ∈ as, v.category = 1) : ka_sz as = as.length := by
  induction as with
  | nil => rfl
  | cons a r ih =>
    have h1 : ka_sz (a :: r) = a.category + ka_sz r := by simp [ka_sz]
    rw [h1, ih (fun v hv => hc v (List.mem_cons_of_mem _ hv)), hc a List.mem_cons_self, List.length_cons, Nat.add_comm]
theorem kr_callG {kd j z na tg mx : Nat} {as : List Value} (hp : (kp E).prim y j = none) (hcl : (kp E).cal y j = some (z, na)) (hv : (kp E).rcv z = (kd, tg)) (hm : (kp E).max z = mx) (hl : as.length = na) (hmx : na ≤ mx) (hc : ∀ v ∈ as, v.category = 1) :
    ka_inv (kp E) kd d y pc n j ls s (as.reverse ++ st) Q (fun pc ls st s => ka_W (kp E) (d, (y, pc, ls, st), s) Q) (fun d z as s P' => ka_W (kp E) (d, (z, 0, ka_ent as ((kp E).max z), []), s) P') ↔
    1 ≤ d ∧ ka_sz st ≤ 8 ∧ (kd = 0 ∨ ∃ a r, as = .ref a :: r ∧ ktg s.1 a tg) ∧ ka_W (kp E) (d - 1, (z, 0, as.map some ++ List.replicate (mx - na) none, []), s) (kreh E d y pc (pc + n) ls st Q) := by
  have e1 : (as.reverse ++ st).take na = as.reverse := by rw [← hl, ← List.length_reverse]; exact List.take_left
  have e2 : (as.reverse ++ st).drop na = st := by rw [← hl, ← List.length_reverse]; exact List.drop_left
  have e3 : ka_sz as.reverse ≤ mx := by rw [ka_sz_rev, ka_sz_one hc, hl]; exact hmx
  have e4 : na ≤ (as.reverse ++ st).length := by simp; omega
  unfold ka_inv
  simp only [hp, hcl, ka_call, e1, e2, hm, hv, List.reverse_reverse, e3, e4, true_and, ka_ent_one as hc, hl]
  refine ⟨fun q => ?_, fun q => ?_⟩
  · obtain ⟨q1, q2, q3, P', q4, q5, q6⟩ := q
    refine ⟨q1, q2, ?_, ka_wide q4 (fun o s' ho => ?_)⟩
    · rcases q3 with z | ⟨a, r, vs, z1, z2⟩
      · exact Or.inl z
      · exact Or.inr ⟨a, r, z1, vs, z2⟩
    · cases o with
      | inl v => exact q5 v s' ho
      | inr k =>
        have := q6 k s' ho
        unfold kreh
        exact this
  · obtain ⟨q1, q2, q3, q4⟩ := q
    refine ⟨q1, q2, ?_, _, q4, fun v s' hz => hz, fun k s' hz => hz⟩
    rcases q3 with z | ⟨a, r, z1, vs, z2⟩
    · exact Or.inl z
    · exact Or.inr ⟨a, r, vs, z1, z2⟩
theorem kreh_kret (hh : km_H.getD y [] = []) : kreh E d y pc t ls st Q = kret E d y t ls st Q := by
  funext o s
  cases o with
  | inl v => rfl
  | inr k =>
    have : (kp E).hnd y pc k = none := by
      show ka_fh _ pc k false (km_H.getD y []) = none
      rw [hh]
      rfl
    unfold kreh kret
    simp only [this]
theorem kr_cs {j z na mx : Nat} {as : List Value} (hi : kin y pc (.invokestatic j) n = true) (hp : (kp E).prim y j = none) (hcl : (kp E).cal y j = some (z, na)) (hv : (kp E).rcv z = (0, 0)) (hm : (kp E).max z = mx) (hh : km_H.getD y [] = []) (hl : as.length = na) (hmx : na ≤ mx) (hc : ∀ v ∈ as, v.category = 1) :
    ka_W (kp E) (d, (y, pc, ls, as.reverse ++ st), s) Q ↔ 1 ≤ d ∧ ka_sz st ≤ 8 ∧ ka_W (kp E) (d - 1, (z, 0, as.map some ++ List.replicate (mx - na) none, []), s) (kret E d y (pc + n) ls st Q) := by
  rw [kr_go hi]
  simp only [ka_I, kr_callG hp hcl hv hm hl hmx hc, kreh_kret hh, true_or, true_and]
theorem kr_cv {j z na mx tg a : Nat} {as : List Value} (hi : kin y pc (.invokevirtual j) n = true) (hp : (kp E).prim y j = none) (hcl : (kp E).cal y j = some (z, na)) (hv : (kp E).rcv z = (1, tg)) (hm : (kp E).max z = mx) (hh : km_H.getD y [] = []) (hl : as.length + 1 = na) (hmx : na ≤ mx) (hc : ∀ v ∈ as, v.category = 1) :
    ka_W (kp E) (d, (y, pc, ls, as.reverse ++ .ref a :: st), (h, c, l)) Q ↔ 1 ≤ d ∧ ka_sz st ≤ 8 ∧ ktg h a tg ∧ ka_W (kp E) (d - 1, (z, 0, some (.ref a) :: (as.map some ++ List.replicate (mx - na) none), []), (h, c, l)) (kret E d y (pc + n) ls st Q) := by
  have e : as.reverse ++ .ref a :: st = (Value.ref a :: as).reverse ++ st := by simp
  rw [kr_go hi, e]
  simp only [ka_I, kr_callG hp hcl hv hm (as := .ref a :: as) (by simpa using hl) hmx (List.forall_mem_cons.mpr ⟨rfl, hc⟩), kreh_kret hh]
  simp
theorem kr_ci {j z na mx tg a : Nat} {as : List Value} (hi : kin y pc (.invokespecial j) n = true) (hp : (kp E).prim y j = none) (hcl : (kp E).cal y j = some (z, na)) (hv : (kp E).rcv z = (2, tg)) (hm : (kp E).max z = mx) (hh : km_H.getD y [] = []) (hl : as.length + 1 = na) (hmx : na ≤ mx) (hc : ∀ v ∈ as, v.category = 1) :
    ka_W (kp E) (d, (y, pc, ls, as.reverse ++ .ref a :: st), (h, c, l)) Q ↔ 1 ≤ d ∧ ka_sz st ≤ 8 ∧ ktg h a tg ∧ ka_W (kp E) (d - 1, (z, 0, some (.ref a) :: (as.map some ++ List.replicate (mx - na) none), []), (h, c, l)) (kret E d y (pc + n) ls st Q) := by
  have e : as.reverse ++ .ref a :: st = (Value.ref a :: as).reverse ++ st := by simp
  rw [kr_go hi, e]
  simp only [ka_I, kr_callG hp hcl hv hm (as := .ref a :: as) (by simpa using hl) hmx (List.forall_mem_cons.mpr ⟨rfl, hc⟩), kreh_kret hh]
  simp
/-- the same, where a handler may stand -/
theorem kr_cvh {j z na mx tg a : Nat} {as : List Value} (hi : kin y pc (.invokevirtual j) n = true) (hp : (kp E).prim y j = none) (hcl : (kp E).cal y j = some (z, na)) (hv : (kp E).rcv z = (1, tg)) (hm : (kp E).max z = mx) (hl : as.length + 1 = na) (hmx : na ≤ mx) (hc : ∀ v ∈ as, v.category = 1) :
    ka_W (kp E) (d, (y, pc, ls, as.reverse ++ .ref a :: st), (h, c, l)) Q ↔ 1 ≤ d ∧ ka_sz st ≤ 8 ∧ ktg h a tg ∧ ka_W (kp E) (d - 1, (z, 0, some (.ref a) :: (as.map some ++ List.replicate (mx - na) none), []), (h, c, l)) (kreh E d y pc (pc + n) ls st Q) := by
  have e : as.reverse ++ .ref a :: st = (Value.ref a :: as).reverse ++ st := by simp
  rw [kr_go hi, e]
  simp only [ka_I, kr_callG hp hcl hv hm (as := .ref a :: as) (by simpa using hl) hmx (List.forall_mem_cons.mpr ⟨rfl, hc⟩)]
  simp
theorem kr_objI {j a : Nat} (hi : kin y pc (.invokespecial j) n = true) (hp : (kp E).prim y j = some 4) : ka_W (kp E) (d, (y, pc, ls, .ref a :: st), s) Q ↔ ka_sz st ≤ 8 ∧ 1 ≤ d ∧ ka_W (kp E) (d, (y, pc + n, ls, st), s) Q := by
  rw [kr_go hi]
  simp only [ka_I, ka_inv, hp, ka_prim, ka_pk, true_and]
theorem kr_max {j : Nat} {a b : Int} (hi : kin y pc (.invokestatic j) n = true) (hp : (kp E).prim y j = some 1) (ha : kR a) (hb : kR b) : ka_W (kp E) (d, (y, pc, ls, iv b :: iv a :: st), s) Q ↔ ka_sz st ≤ 8 ∧ 1 ≤ d ∧ ka_W (kp E) (d, (y, pc + n, ls, iv (if a < b then b else a) :: st), s) Q := by
  have e : (if Int32.ofInt a < Int32.ofInt b then Int32.ofInt b else Int32.ofInt a) = Int32.ofInt (if a < b then b else a) := by
    by_cases hab : a < b
    · rw [if_pos hab, if_pos ((iv_lt ha hb).mpr hab)]
    · rw [if_neg hab, if_neg (fun z => hab ((iv_lt ha hb).mp z))]
  rw [kr_go hi]
  simp only [ka_I, ka_inv, hp, ka_prim, ka_pk, true_and, iv, e]
theorem kr_min {j : Nat} {a b : Int} (hi : kin y pc (.invokestatic j) n = true) (hp : (kp E).prim y j = some 2) (ha : kR a) (hb : kR b) : ka_W (kp E) (d, (y, pc, ls, iv b :: iv a :: st), s) Q ↔ ka_sz st ≤ 8 ∧ 1 ≤ d ∧ ka_W (kp E) (d, (y, pc + n, ls, iv (if b < a then b else a) :: st), s) Q := by
  have e : (if Int32.ofInt b < Int32.ofInt a then Int32.ofInt b else Int32.ofInt a) = Int32.ofInt (if b < a then b else a) := by
    by_cases hab : b < a
    · rw [if_pos hab, if_pos ((iv_lt hb ha).mpr hab)]
    · rw [if_neg hab, if_neg (fun z => hab ((iv_lt hb ha).mp z))]
  rw [kr_go hi]
  simp only [ka_I, ka_inv, hp, ka_prim, ka_pk, true_and, iv, e]
theorem kr_minL {j : Nat} {a b : Int} (hi : kin y pc (.invokestatic j) n = true) (hp : (kp E).prim y j = some 3) (ha : kL a) (hb : kL b) : ka_W (kp E) (d, (y, pc, ls, lv b :: lv a :: st), s) Q ↔ ka_sz st ≤ 8 ∧ 1 ≤ d ∧ ka_W (kp E) (d, (y, pc + n, ls, lv (if b < a then b else a) :: st), s) Q := by
  have e1 : (Int64.ofInt b < Int64.ofInt a) ↔ b < a := by
    rw [Int64.lt_iff_toInt_lt, Int64.toInt_ofInt_of_le (by unfold kL at ha hb; omega) (by unfold kL at ha hb; omega), Int64.toInt_ofInt_of_le (by unfold kL at ha hb; omega) (by unfold kL at ha hb; omega)]
  have e : (if Int64.ofInt b < Int64.ofInt a then Int64.ofInt b else Int64.ofInt a) = Int64.ofInt (if b < a then b else a) := by
    by_cases hab : b < a
    · rw [if_pos hab, if_pos (e1.mpr hab)]
    · rw [if_neg hab, if_neg (fun z => hab (e1.mp z))]
  rw [kr_go hi]
  simp only [ka_I, ka_inv, hp, ka_prim, ka_pk, true_and, lv, e]
end
theorem kcat_iv (x : Int) : (iv x).category = 1 := rfl
theorem kcat_ref (a : Nat) : (Value.ref a).category = 1 := rfl
theorem kcat_null : Value.null.category = 1 := rfl
theorem kisR_ref (a : Nat) : ka_isR (.ref a) = true := rfl
theorem kisR_null : ka_isR .null = true := rfl
theorem ksz_nil : ka_sz [] = 0 := rfl
theorem ksz_iv (x : Int) (r : List Value) : ka_sz (iv x :: r) = 1 + ka_sz r := by simp [ka_sz, kcat_iv]
theorem ksz_ref (a : Nat) (r : List Value) : ka_sz (.ref a :: r) = 1 + ka_sz r := by simp [ka_sz, kcat_ref]
theorem ksz_null (r : List Value) : ka_sz (.null :: r) = 1 + ka_sz r := by simp [ka_sz, kcat_null]
theorem ksz_lv (x : Int) (r : List Value) : ka_sz (lv x :: r) = 2 + ka_sz r := by simp [ka_sz]; rfl
theorem kfit_int (x : Int) : kfit .int (iv x) := ⟨rfl, rfl⟩
theorem kfit_long (x : Int) : kfit .long (lv x) := ⟨rfl, rfl⟩
theorem kfit_obj (C : String) (a : Nat) : kfit (.object C) (.ref a) := ⟨rfl, rfl⟩
theorem kfit_objN (C : String) : kfit (.object C) .null := ⟨rfl, rfl⟩
theorem kfit_arr (t : FieldType) (a : Nat) : kfit (.array t) (.ref a) := ⟨rfl, rfl⟩
theorem kfit_arrN (t : FieldType) : kfit (.array t) .null := ⟨rfl, rfl⟩
theorem knarI (x : Int) : narrow .int (iv x) = iv x := rfl
theorem knarZ0 : narrow .boolean (iv 0) = iv 0 := rfl
theorem knarZ1 : narrow .boolean (iv 1) = iv 1 := rfl
