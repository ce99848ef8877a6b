/-! Whole numbers for the machine's ints; memory by families: cell (f, i), slot j. -/
def iv (x : Int) : Value := .int (Int32.ofInt x)
def lv (x : Int) : Value := .long (Int64.ofInt x)
/-- an int's range -/
def kR (x : Int) : Prop := -2147483648 ≤ x ∧ x ≤ 2147483647
theorem iv_lt {a b : Int} (ha : kR a) (hb : kR b) : (Int32.ofInt a < Int32.ofInt b) ↔ a < b := by
  rw [Int32.lt_iff_toInt_lt, Int32.toInt_ofInt_of_le (by unfold kR at ha; omega) (by unfold kR at ha; omega), Int32.toInt_ofInt_of_le (by unfold kR at hb; omega) (by unfold kR at hb; omega)]
theorem iv_le {a b : Int} (ha : kR a) (hb : kR b) : (Int32.ofInt a ≤ Int32.ofInt b) ↔ a ≤ b := by
  rw [Int32.le_iff_toInt_le, Int32.toInt_ofInt_of_le (by unfold kR at ha; omega) (by unfold kR at ha; omega), Int32.toInt_ofInt_of_le (by unfold kR at hb; omega) (by unfold kR at hb; omega)]
theorem iv_eq {a b : Int} (ha : kR a) (hb : kR b) : (Int32.ofInt a = Int32.ofInt b) ↔ a = b := by
  refine ⟨fun h => ?_, fun h => by rw [h]⟩
  have := congrArg Int32.toInt h
  rwa [Int32.toInt_ofInt_of_le (by unfold kR at ha; omega) (by unfold kR at ha; omega), Int32.toInt_ofInt_of_le (by unfold kR at hb; omega) (by unfold kR at hb; omega)] at this
theorem iv_nat {a : Int} (h0 : 0 ≤ a) (h1 : a ≤ 2147483647) : (Int32.ofInt a).toNatClampNeg = a.toNat := by
  show (Int32.ofInt a).toInt.toNat = a.toNat
  rw [Int32.toInt_ofInt_of_le (by omega) (by omega)]
theorem iv_neg {a : Int} (ha : kR a) : (Int32.ofInt a < 0) ↔ a < 0 := by
  have := iv_lt ha (b := 0) (by unfold kR; omega)
  simpa using this
theorem iv_of (x : Int32) : Value.int x = iv x.toInt := by
  unfold iv
  rw [Int32.ofInt_toInt]
theorem iv_inj {a b : Int} (ha : kR a) (hb : kR b) : iv a = iv b ↔ a = b := by
  unfold iv
  simp only [Value.int.injEq]
  exact iv_eq ha hb
def kg (h : ka_H) (a k : Nat) : Value := ((h a).getD (0, [])).2.getD k .null
def kok (h : ka_H) (a t k : Nat) : Prop := ∃ vs, h a = some (t, vs) ∧ k < vs.length
def ktg (h : ka_H) (a t : Nat) : Prop := ∃ vs, h a = some (t, vs)
def kup (h : ka_H) (a k : Nat) (v : Value) : ka_H := match h a with
  | some (t, vs) => ka_up h a (t, vs.set k v)
  | none => h
def kln (h : ka_H) (a : Nat) : Nat := ((h a).getD (0, [])).2.length
theorem kok_get {h : ka_H} {a t k : Nat} (w : kok h a t k) : ∃ vs, h a = some (t, vs) ∧ vs[k]? = some (kg h a k) := by
  obtain ⟨vs, h1, h2⟩ := w
  refine ⟨vs, h1, ?_⟩
  unfold kg
  rw [h1, List.getElem?_eq_getElem h2]
  simp [List.getD, h2]
theorem kg_of {h : ka_H} {a t k : Nat} {vs : List Value} {v : Value} (h1 : h a = some (t, vs)) (h2 : vs[k]? = some v) : kg h a k = v ∧ k < vs.length := by
  have hk := (List.getElem?_eq_some_iff.mp h2).1
  refine ⟨?_, hk⟩
  unfold kg
  rw [h1]
  simp [List.getD, h2]
theorem kup_of {h : ka_H} {a t k : Nat} {vs : List Value} {v : Value} (h1 : h a = some (t, vs)) : kup h a k v = ka_up h a (t, vs.set k v) := by
  unfold kup
  rw [h1]
def kL (x : Int) : Prop := -9223372036854775808 ≤ x ∧ x ≤ 9223372036854775807
def kand (a b : Int) : Int := (Int32.ofInt a &&& Int32.ofInt b).toInt
def kor (a b : Int) : Int := (Int32.ofInt a ||| Int32.ofInt b).toInt
def kshl (a b : Int) : Int := (Int32.ofInt a <<< (Int32.ofInt b &&& 31)).toInt
def kshr (a b : Int) : Int := (Int32.ofInt a >>> (Int32.ofInt b &&& 31)).toInt
def kchr (a : Int) : Int := ((Int32.ofInt a).toUInt32 % 65536).toInt32.toInt
def kfit (ty : FieldType) (v : Value) : Prop := narrow ty v = v ∧ fits ty v = true
/-- the instruction at this place, by the closed tables -/
def kin (y pc : Nat) (i : Instr) (n : Nat) : Bool := decide (kthr.lookup (y, pc) = none) && decide ((km_I.getD y []).lookup pc = some (i, n))
section
variable {E : Nat × Nat} {d y pc n : Nat} {ls : List (Option Value)} {st : List Value} {s : ka_S} {Q : ka_Q} {h : ka_H} {c l : Nat}
theorem kr_go {i : Instr} (hi : kin y pc i n = true) : ka_W (kp E) (d, (y, pc, ls, st), s) Q ↔ ka_I (kp E) d y pc ls s Q n st (fun pc ls st s => ka_W (kp E) (d, (y, pc, ls, st), s) Q) (fun d z as s P' => ka_W (kp E) (d, (z, 0, ka_ent as ((kp E).max z), []), s) P') i := by
  unfold kin at hi
  simp only [Bool.and_eq_true, decide_eq_true_eq] at hi
  have h1 : (kp E).thr y pc = none := hi.1
  have h2 : (kp E).ins y pc = some (i, n) := hi.2
  rw [ka_iff]
  simp only [ka_step, h1, h2]
theorem kr_null (hi : kin y pc .aconst_null n = true) : ka_W (kp E) (d, (y, pc, ls, st), s) Q ↔ ka_W (kp E) (d, (y, pc + n, ls, .null :: st), s) Q := kr_go hi
theorem kr_iconst {v : Int} (hi : kin y pc (.iconst v) n = true) : ka_W (kp E) (d, (y, pc, ls, st), s) Q ↔ ka_W (kp E) (d, (y, pc + n, ls, iv v :: st), s) Q := kr_go hi
theorem kr_bipush {v : Int} (hi : kin y pc (.bipush v) n = true) (hv : (Int8.ofInt v).toInt32 = Int32.ofInt v) : ka_W (kp E) (d, (y, pc, ls, st), s) Q ↔ ka_W (kp E) (d, (y, pc + n, ls, iv v :: st), s) Q := by
  rw [kr_go hi]
  simp only [ka_I, hv]
  rfl
theorem kr_sipush {v : Int} (hi : kin y pc (.sipush v) n = true) (hv : (Int16.ofInt v).toInt32 = Int32.ofInt v) : ka_W (kp E) (d, (y, pc, ls, st), s) Q ↔ ka_W (kp E) (d, (y, pc + n, ls, iv v :: st), s) Q := by
  rw [kr_go hi]
  simp only [ka_I, hv]
  rfl
theorem kr_lconst {v : Fin 2} (hi : kin y pc (.lconst v) n = true) : ka_W (kp E) (d, (y, pc, ls, st), s) Q ↔ ka_W (kp E) (d, (y, pc + n, ls, lv v.val :: st), s) Q := by
  rw [kr_go hi]
  simp only [ka_I]
  rfl
theorem kr_ldc2 {j : Nat} {v : Int} (hi : kin y pc (.ldc2_w j) n = true) (hc : (kp E).cst y j = some (lv v)) : ka_W (kp E) (d, (y, pc, ls, st), s) Q ↔ ka_W (kp E) (d, (y, pc + n, ls, lv v :: st), s) Q := by
  rw [kr_go hi]
  simp only [ka_I, hc, lv]
theorem kr_iload {j : Nat} {x : Int} (hi : kin y pc (.iload j) n = true) (hl : ls[j]? = some (some (iv x))) : ka_W (kp E) (d, (y, pc, ls, st), s) Q ↔ ka_W (kp E) (d, (y, pc + n, ls, iv x :: st), s) Q := by
  rw [kr_go hi]
  simp only [ka_I, ka_ldI, hl, iv]
theorem kr_iload_n {j : Fin 4} {x : Int} (hi : kin y pc (.iload_n j) n = true) (hl : ls[j.val]? = some (some (iv x))) : ka_W (kp E) (d, (y, pc, ls, st), s) Q ↔ ka_W (kp E) (d, (y, pc + n, ls, iv x :: st), s) Q := by
  rw [kr_go hi]
  simp only [ka_I, ka_ldI, hl, iv]
theorem kr_lload {j : Nat} {x : Int} (hi : kin y pc (.lload j) n = true) (hl : ls[j]? = some (some (lv x))) : ka_W (kp E) (d, (y, pc, ls, st), s) Q ↔ ka_W (kp E) (d, (y, pc + n, ls, lv x :: st), s) Q := by
  rw [kr_go hi]
  simp only [ka_I, ka_ldL, hl, lv]
theorem kr_lload_n {j : Fin 4} {x : Int} (hi : kin y pc (.lload_n j) n = true) (hl : ls[j.val]? = some (some (lv x))) : ka_W (kp E) (d, (y, pc, ls, st), s) Q ↔ ka_W (kp E) (d, (y, pc + n, ls, lv x :: st), s) Q := by
  rw [kr_go hi]
  simp only [ka_I, ka_ldL, hl, lv]
theorem kr_aload {j : Nat} {v : Value} (hi : kin y pc (.aload j) n = true) (hl : ls[j]? = some (some v)) : ka_W (kp E) (d, (y, pc, ls, st), s) Q ↔ ka_isR v = true ∧ ka_W (kp E) (d, (y, pc + n, ls, v :: st), s) Q := by
  rw [kr_go hi]
  simp only [ka_I, ka_ldA, hl]
theorem kr_aload_n {j : Fin 4} {v : Value} (hi : kin y pc (.aload_n j) n = true) (hl : ls[j.val]? = some (some v)) : ka_W (kp E) (d, (y, pc, ls, st), s) Q ↔ ka_isR v = true ∧ ka_W (kp E) (d, (y, pc + n, ls, v :: st), s) Q := by
  rw [kr_go hi]
  simp only [ka_I, ka_ldA, hl]
theorem kr_istore {j : Nat} {x : Int} (hi : kin y pc (.istore j) n = true) (hl : j < ls.length) : ka_W (kp E) (d, (y, pc, ls, iv x :: st), s) Q ↔ ka_ok1 ls j = true ∧ ka_W (kp E) (d, (y, pc + n, ls.set j (some (iv x)), st), s) Q := by
  rw [kr_go hi]
  simp only [ka_I, ka_stI, iv, hl, true_and]
theorem kr_istore_n {j : Fin 4} {x : Int} (hi : kin y pc (.istore_n j) n = true) (hl : j.val < ls.length) : ka_W (kp E) (d, (y, pc, ls, iv x :: st), s) Q ↔ ka_ok1 ls j.val = true ∧ ka_W (kp E) (d, (y, pc + n, ls.set j.val (some (iv x)), st), s) Q := by
  rw [kr_go hi]
  simp only [ka_I, ka_stI, iv, hl, true_and]
theorem kr_lstore {j : Nat} {x : Int} (hi : kin y pc (.lstore j) n = true) (hl : j + 1 < ls.length) : ka_W (kp E) (d, (y, pc, ls, lv x :: st), s) Q ↔ ka_ok1 ls j = true ∧ ka_W (kp E) (d, (y, pc + n, (ls.set j (some (lv x))).set (j + 1) none, st), s) Q := by
  rw [kr_go hi]
  simp only [ka_I, ka_stL, lv, hl, true_and]
theorem kr_lstore_n {j : Fin 4} {x : Int} (hi : kin y pc (.lstore_n j) n = true) (hl : j.val + 1 < ls.length) : ka_W (kp E) (d, (y, pc, ls, lv x :: st), s) Q ↔ ka_ok1 ls j.val = true ∧ ka_W (kp E) (d, (y, pc + n, (ls.set j.val (some (lv x))).set (j.val + 1) none, st), s) Q := by
  rw [kr_go hi]
  simp only [ka_I, ka_stL, lv, hl, true_and]
theorem kr_astore {j : Nat} {v : Value} (hi : kin y pc (.astore j) n = true) (hl : j < ls.length) : ka_W (kp E) (d, (y, pc, ls, v :: st), s) Q ↔ ka_isR v = true ∧ ka_ok1 ls j = true ∧ ka_W (kp E) (d, (y, pc + n, ls.set j (some v), st), s) Q := by
  rw [kr_go hi]
  simp only [ka_I, ka_stA, hl, true_and]
theorem kr_astore_n {j : Fin 4} {v : Value} (hi : kin y pc (.astore_n j) n = true) (hl : j.val < ls.length) : ka_W (kp E) (d, (y, pc, ls, v :: st), s) Q ↔ ka_isR v = true ∧ ka_ok1 ls j.val = true ∧ ka_W (kp E) (d, (y, pc + n, ls.set j.val (some v), st), s) Q := by
  rw [kr_go hi]
  simp only [ka_I, ka_stA, hl, true_and]
theorem kr_iinc {j : Nat} {x k : Int} (hi : kin y pc (.iinc j k) n = true) (hl : ls[j]? = some (some (iv x))) : ka_W (kp E) (d, (y, pc, ls, st), s) Q ↔ ka_ok1 ls j = true ∧ ka_W (kp E) (d, (y, pc + n, ls.set j (some (iv (x + k))), st), s) Q := by
  have hlt : j < ls.length := (List.getElem?_eq_some_iff.mp hl).1
  rw [kr_go hi]
  simp only [ka_I, ka_ldI, ka_b1, hl, iv, hlt, true_and, Int32.ofInt_add]
theorem kr_iadd {a b : Int} (hi : kin y pc .iadd n = true) : ka_W (kp E) (d, (y, pc, ls, iv b :: iv a :: st), s) Q ↔ ka_W (kp E) (d, (y, pc + n, ls, iv (a + b) :: st), s) Q := by
  rw [kr_go hi]
  simp only [ka_I, ka_b2, iv, Int32.ofInt_add]
theorem kr_isub {a b : Int} (hi : kin y pc .isub n = true) : ka_W (kp E) (d, (y, pc, ls, iv b :: iv a :: st), s) Q ↔ ka_W (kp E) (d, (y, pc + n, ls, iv (a - b) :: st), s) Q := by
  rw [kr_go hi]
  simp only [ka_I, ka_b2, iv, Int32.ofInt_sub]
theorem kr_imul {a b : Int} (hi : kin y pc .imul n = true) : ka_W (kp E) (d, (y, pc, ls, iv b :: iv a :: st), s) Q ↔ ka_W (kp E) (d, (y, pc + n, ls, iv (a * b) :: st), s) Q := by
  rw [kr_go hi]
  simp only [ka_I, ka_b2, iv, Int32.ofInt_mul]
theorem kr_ineg {a : Int} (hi : kin y pc .ineg n = true) : ka_W (kp E) (d, (y, pc, ls, iv a :: st), s) Q ↔ ka_W (kp E) (d, (y, pc + n, ls, iv (-a) :: st), s) Q := by
  rw [kr_go hi]
  simp only [ka_I, ka_b1, iv, Int32.ofInt_neg]
theorem kr_iand {a b : Int} (hi : kin y pc .iand n = true) : ka_W (kp E) (d, (y, pc, ls, iv b :: iv a :: st), s) Q ↔ ka_W (kp E) (d, (y, pc + n, ls, iv (kand a b) :: st), s) Q := by
  rw [kr_go hi]
  simp only [ka_I, ka_b2, iv, kand, Int32.ofInt_toInt]
theorem kr_ior {a b : Int} (hi : kin y pc .ior n = true) : ka_W (kp E) (d, (y, pc, ls, iv b :: iv a :: st), s) Q ↔ ka_W (kp E) (d, (y, pc + n, ls, iv (kor a b) :: st), s) Q := by
  rw [kr_go hi]
  simp only [ka_I, ka_b2, iv, kor, Int32.ofInt_toInt]
theorem kr_ishl {a b : Int} (hi : kin y pc .ishl n = true) : ka_W (kp E) (d, (y, pc, ls, iv b :: iv a :: st), s) Q ↔ ka_W (kp E) (d, (y, pc + n, ls, iv (kshl a b) :: st), s) Q := by
  rw [kr_go hi]
  simp only [ka_I, ka_b2, iv, kshl, Int32.ofInt_toInt]
theorem kr_ishr {a b : Int} (hi : kin y pc .ishr n = true) : ka_W (kp E) (d, (y, pc, ls, iv b :: iv a :: st), s) Q ↔ ka_W (kp E) (d, (y, pc + n, ls, iv (kshr a b) :: st), s) Q := by
  rw [kr_go hi]
  simp only [ka_I, ka_b2, iv, kshr, Int32.ofInt_toInt]
theorem kr_i2c {a : Int} (hi : kin y pc .i2c n = true) : ka_W (kp E) (d, (y, pc, ls, iv a :: st), s) Q ↔ ka_W (kp E) (d, (y, pc + n, ls, iv (kchr a) :: st), s) Q := by
  rw [kr_go hi]
  simp only [ka_I, ka_b1, iv, kchr, Int32.ofInt_toInt]
theorem kr_ladd {a b : Int} (hi : kin y pc .ladd n = true) : ka_W (kp E) (d, (y, pc, ls, lv b :: lv a :: st), s) Q ↔ ka_W (kp E) (d, (y, pc + n, ls, lv (a + b) :: st), s) Q := by
  rw [kr_go hi]
  simp only [ka_I, ka_l2, lv, Int64.ofInt_add]
theorem kr_lmul {a b : Int} (hi : kin y pc .lmul n = true) : ka_W (kp E) (d, (y, pc, ls, lv b :: lv a :: st), s) Q ↔ ka_W (kp E) (d, (y, pc + n, ls, lv (a * b) :: st), s) Q := by
  rw [kr_go hi]
  simp only [ka_I, ka_l2, lv, Int64.ofInt_mul]
theorem kr_i2l {a : Int} (hi : kin y pc .i2l n = true) (ha : kR a) : ka_W (kp E) (d, (y, pc, ls, iv a :: st), s) Q ↔ ka_W (kp E) (d, (y, pc + n, ls, lv a :: st), s) Q := by
  have e : (Int32.ofInt a).toInt64 = Int64.ofInt a := by
    rw [← Int64.toInt_inj, Int32.toInt_toInt64, Int32.toInt_ofInt_of_le (by unfold kR at ha; omega) (by unfold kR at ha; omega), Int64.toInt_ofInt_of_le (by unfold kR at ha; omega) (by unfold kR at ha; omega)]
  rw [kr_go hi]
  simp only [ka_I, ka_b1, iv, lv, e]
theorem kr_l2i {a : Int} (hi : kin y pc .l2i n = true) : ka_W (kp E) (d, (y, pc, ls, lv a :: st), s) Q ↔ ka_W (kp E) (d, (y, pc + n, ls, iv a :: st), s) Q := by
  rw [kr_go hi]
  simp only [ka_I, ka_l1, iv, lv, Int64.toInt32_ofInt]
theorem kr_lcmp {a b : Int} (hi : kin y pc .lcmp n = true) (ha : kL a) (hb : kL b) : ka_W (kp E) (d, (y, pc, ls, lv b :: lv a :: st), s) Q ↔ ka_W (kp E) (d, (y, pc + n, ls, iv (if b < a then 1 else if a = b then 0 else -1) :: st), s) Q := by
  have e1 : (Int64.ofInt b < Int64.ofInt a) ↔ b < a := by
    rw [Int64.lt_iff_toInt_lt, Int64.toInt_ofInt_of_le (by unfold kL at ha hb; omega) (by unfold kL at ha hb; omega), Int64.toInt_ofInt_of_le (by unfold kL at ha hb; omega) (by unfold kL at ha hb; omega)]
  have e2 : (Int64.ofInt a = Int64.ofInt b) ↔ a = b := by
    rw [← Int64.toInt_inj, Int64.toInt_ofInt_of_le (by unfold kL at ha hb; omega) (by unfold kL at ha hb; omega), Int64.toInt_ofInt_of_le (by unfold kL at ha hb; omega) (by unfold kL at ha hb; omega)]
  have e3 : lg_cmp (Int64.ofInt a) (Int64.ofInt b) = Int32.ofInt (if b < a then 1 else if a = b then 0 else -1) := by
    unfold lg_cmp
    by_cases h1 : b < a
    · rw [if_pos (e1.mpr h1), if_pos h1]; rfl
    · rw [if_neg (fun z => h1 (e1.mp z)), if_neg h1]
      by_cases h2 : a = b
      · rw [if_pos (e2.mpr h2), if_pos h2]; rfl
      · rw [if_neg (fun z => h2 (e2.mp z)), if_neg h2]; rfl
  rw [kr_go hi]
  simp only [ka_I, ka_l2, iv, lv, e3]
theorem kr_dup {v : Value} (hi : kin y pc .dup n = true) : ka_W (kp E) (d, (y, pc, ls, v :: st), s) Q ↔ v.category = 1 ∧ ka_W (kp E) (d, (y, pc + n, ls, v :: v :: st), s) Q := by
  rw [kr_go hi]
  simp only [ka_I]
theorem kr_dup_x1 {v w : Value} (hi : kin y pc .dup_x1 n = true) : ka_W (kp E) (d, (y, pc, ls, v :: w :: st), s) Q ↔ v.category = 1 ∧ w.category = 1 ∧ ka_W (kp E) (d, (y, pc + n, ls, v :: w :: v :: st), s) Q := by
  rw [kr_go hi]
  simp only [ka_I]
theorem kr_dup2 {v w : Value} (hi : kin y pc .dup2 n = true) : ka_W (kp E) (d, (y, pc, ls, v :: w :: st), s) Q ↔ v.category = 1 ∧ w.category = 1 ∧ ka_W (kp E) (d, (y, pc + n, ls, v :: w :: v :: w :: st), s) Q := by
  rw [kr_go hi]
  simp only [ka_I]
theorem kr_pop {v : Value} (hi : kin y pc .pop n = true) : ka_W (kp E) (d, (y, pc, ls, v :: st), s) Q ↔ v.category = 1 ∧ ka_W (kp E) (d, (y, pc + n, ls, st), s) Q := by
  rw [kr_go hi]
  simp only [ka_I]
theorem ka_tgt_at {pc t : Nat} {o : Int} {f : Nat → Prop} (ht : (pc : Int) + o = (t : Int)) : ka_tgt pc o f ↔ f t := by
  unfold ka_tgt
  rw [ht]
theorem kr_goto {o : Int} {t : Nat} (hi : kin y pc (.goto o) n = true) (ht : (pc : Int) + o = (t : Int)) : ka_W (kp E) (d, (y, pc, ls, st), s) Q ↔ ka_W (kp E) (d, (y, t, ls, st), s) Q := by
  rw [kr_go hi]
  simp only [ka_I, ka_tgt_at ht]
theorem kr_if_eq {o : Int} {t : Nat} {a : Int} (hi : kin y pc (.ifCond .eq o) n = true) (ht : (pc : Int) + o = (t : Int)) (ha : kR a) : ka_W (kp E) (d, (y, pc, ls, iv a :: st), s) Q ↔ ((a = 0) → ka_W (kp E) (d, (y, t, ls, st), s) Q) ∧ (¬ (a = 0) → ka_W (kp E) (d, (y, pc + n, ls, st), s) Q) := by
  have e : ka_cmp .eq (Int32.ofInt a) 0 ↔ (a = 0) := by
    have e0 : (0 : Int32) = Int32.ofInt 0 := rfl
    have h0 : kR 0 := by unfold kR; omega
    unfold ka_cmp
    rw [e0]
    first | exact iv_eq ha h0 | exact not_congr (iv_eq ha h0) | exact iv_lt ha h0 | exact iv_le h0 ha | exact iv_lt h0 ha | exact iv_le ha h0
  rw [kr_go hi]
  simp only [ka_I, ka_b1, iv, ka_tgt_at ht, e]
theorem kr_if_ne {o : Int} {t : Nat} {a : Int} (hi : kin y pc (.ifCond .ne o) n = true) (ht : (pc : Int) + o = (t : Int)) (ha : kR a) : ka_W (kp E) (d, (y, pc, ls, iv a :: st), s) Q ↔ ((¬ a = 0) → ka_W (kp E) (d, (y, t, ls, st), s) Q) ∧ (¬ (¬ a = 0) → ka_W (kp E) (d, (y, pc + n, ls, st), s) Q) := by
  have e : ka_cmp .ne (Int32.ofInt a) 0 ↔ (¬ a = 0) := by
    have e0 : (0 : Int32) = Int32.ofInt 0 := rfl
    have h0 : kR 0 := by unfold kR; omega
    unfold ka_cmp
    rw [e0]
    first | exact iv_eq ha h0 | exact not_congr (iv_eq ha h0) | exact iv_lt ha h0 | exact iv_le h0 ha | exact iv_lt h0 ha | exact iv_le ha h0
  rw [kr_go hi]
  simp only [ka_I, ka_b1, iv, ka_tgt_at ht, e]
theorem kr_if_lt {o : Int} {t : Nat} {a : Int} (hi : kin y pc (.ifCond .lt o) n = true) (ht : (pc : Int) + o = (t : Int)) (ha : kR a) : ka_W (kp E) (d, (y, pc, ls, iv a :: st), s) Q ↔ ((a < 0) → ka_W (kp E) (d, (y, t, ls, st), s) Q) ∧ (¬ (a < 0) → ka_W (kp E) (d, (y, pc + n, ls, st), s) Q) := by
  have e : ka_cmp .lt (Int32.ofInt a) 0 ↔ (a < 0) := by
    have e0 : (0 : Int32) = Int32.ofInt 0 := rfl
    have h0 : kR 0 := by unfold kR; omega
    unfold ka_cmp
    rw [e0]
    first | exact iv_eq ha h0 | exact not_congr (iv_eq ha h0) | exact iv_lt ha h0 | exact iv_le h0 ha | exact iv_lt h0 ha | exact iv_le ha h0
  rw [kr_go hi]
  simp only [ka_I, ka_b1, iv, ka_tgt_at ht, e]
theorem kr_if_ge {o : Int} {t : Nat} {a : Int} (hi : kin y pc (.ifCond .ge o) n = true) (ht : (pc : Int) + o = (t : Int)) (ha : kR a) : ka_W (kp E) (d, (y, pc, ls, iv a :: st), s) Q ↔ ((0 ≤ a) → ka_W (kp E) (d, (y, t, ls, st), s) Q) ∧ (¬ (0 ≤ a) → ka_W (kp E) (d, (y, pc + n, ls, st), s) Q) := by
  have e : ka_cmp .ge (Int32.ofInt a) 0 ↔ (0 ≤ a) := by
    have e0 : (0 : Int32) = Int32.ofInt 0 := rfl
    have h0 : kR 0 := by unfold kR; omega
    unfold ka_cmp
    rw [e0]
    first | exact iv_eq ha h0 | exact not_congr (iv_eq ha h0) | exact iv_lt ha h0 | exact iv_le h0 ha | exact iv_lt h0 ha | exact iv_le ha h0
  rw [kr_go hi]
  simp only [ka_I, ka_b1, iv, ka_tgt_at ht, e]
theorem kr_if_gt {o : Int} {t : Nat} {a : Int} (hi : kin y pc (.ifCond .gt o) n = true) (ht : (pc : Int) + o = (t : Int)) (ha : kR a) : ka_W (kp E) (d, (y, pc, ls, iv a :: st), s) Q ↔ ((0 < a) → ka_W (kp E) (d, (y, t, ls, st), s) Q) ∧ (¬ (0 < a) → ka_W (kp E) (d, (y, pc + n, ls, st), s) Q) := by
  have e : ka_cmp .gt (Int32.ofInt a) 0 ↔ (0 < a) := by
    have e0 : (0 : Int32) = Int32.ofInt 0 := rfl
    have h0 : kR 0 := by unfold kR; omega
    unfold ka_cmp
    rw [e0]
    first | exact iv_eq ha h0 | exact not_congr (iv_eq ha h0) | exact iv_lt ha h0 | exact iv_le h0 ha | exact iv_lt h0 ha | exact iv_le ha h0
  rw [kr_go hi]
  simp only [ka_I, ka_b1, iv, ka_tgt_at ht, e]
theorem kr_if_le {o : Int} {t : Nat} {a : Int} (hi : kin y pc (.ifCond .le o) n = true) (ht : (pc : Int) + o = (t : Int)) (ha : kR a) : ka_W (kp E) (d, (y, pc, ls, iv a :: st), s) Q ↔ ((a ≤ 0) → ka_W (kp E) (d, (y, t, ls, st), s) Q) ∧ (¬ (a ≤ 0) → ka_W (kp E) (d, (y, pc + n, ls, st), s) Q) := by
  have e : ka_cmp .le (Int32.ofInt a) 0 ↔ (a ≤ 0) := by
    have e0 : (0 : Int32) = Int32.ofInt 0 := rfl
    have h0 : kR 0 := by unfold kR; omega
    unfold ka_cmp
    rw [e0]
    first | exact iv_eq ha h0 | exact not_congr (iv_eq ha h0) | exact iv_lt ha h0 | exact iv_le h0 ha | exact iv_lt h0 ha | exact iv_le ha h0
  rw [kr_go hi]
  simp only [ka_I, ka_b1, iv, ka_tgt_at ht, e]
theorem kr_ic_eq {o : Int} {t : Nat} {a b : Int} (hi : kin y pc (.if_icmp .eq o) n = true) (ht : (pc : Int) + o = (t : Int)) (ha : kR a) (hb : kR b) : ka_W (kp E) (d, (y, pc, ls, iv b :: iv a :: st), s) Q ↔ ((a = b) → ka_W (kp E) (d, (y, t, ls, st), s) Q) ∧ (¬ (a = b) → ka_W (kp E) (d, (y, pc + n, ls, st), s) Q) := by
  have e : ka_cmp .eq (Int32.ofInt a) (Int32.ofInt b) ↔ (a = b) := by
    unfold ka_cmp
    first | exact iv_eq ha hb | exact not_congr (iv_eq ha hb) | exact iv_lt ha hb | exact iv_le hb ha | exact iv_lt hb ha | exact iv_le ha hb
  rw [kr_go hi]
  simp only [ka_I, ka_b2, iv, ka_tgt_at ht, e]
theorem kr_ic_ne {o : Int} {t : Nat} {a b : Int} (hi : kin y pc (.if_icmp .ne o) n = true) (ht : (pc : Int) + o = (t : Int)) (ha : kR a) (hb : kR b) : ka_W (kp E) (d, (y, pc, ls, iv b :: iv a :: st), s) Q ↔ ((¬ a = b) → ka_W (kp E) (d, (y, t, ls, st), s) Q) ∧ (¬ (¬ a = b) → ka_W (kp E) (d, (y, pc + n, ls, st), s) Q) := by
  have e : ka_cmp .ne (Int32.ofInt a) (Int32.ofInt b) ↔ (¬ a = b) := by
    unfold ka_cmp
    first | exact iv_eq ha hb | exact not_congr (iv_eq ha hb) | exact iv_lt ha hb | exact iv_le hb ha | exact iv_lt hb ha | exact iv_le ha hb
  rw [kr_go hi]
  simp only [ka_I, ka_b2, iv, ka_tgt_at ht, e]
theorem kr_ic_lt {o : Int} {t : Nat} {a b : Int} (hi : kin y pc (.if_icmp .lt o) n = true) (ht : (pc : Int) + o = (t : Int)) (ha : kR a) (hb : kR b) : ka_W (kp E) (d, (y, pc, ls, iv b :: iv a :: st), s) Q ↔ ((a < b) → ka_W (kp E) (d, (y, t, ls, st), s) Q) ∧ (¬ (a < b) → ka_W (kp E) (d, (y, pc + n, ls, st), s) Q) := by
  have e : ka_cmp .lt (Int32.ofInt a) (Int32.ofInt b) ↔ (a < b) := by
    unfold ka_cmp
    first | exact iv_eq ha hb | exact not_congr (iv_eq ha hb) | exact iv_lt ha hb | exact iv_le hb ha | exact iv_lt hb ha | exact iv_le ha hb
  rw [kr_go hi]
  simp only [ka_I, ka_b2, iv, ka_tgt_at ht, e]
theorem kr_ic_ge {o : Int} {t : Nat} {a b : Int} (hi : kin y pc (.if_icmp .ge o) n = true) (ht : (pc : Int) + o = (t : Int)) (ha : kR a) (hb : kR b) : ka_W (kp E) (d, (y, pc, ls, iv b :: iv a :: st), s) Q ↔ ((b ≤ a) → ka_W (kp E) (d, (y, t, ls, st), s) Q) ∧ (¬ (b ≤ a) → ka_W (kp E) (d, (y, pc + n, ls, st), s) Q) := by
  have e : ka_cmp .ge (Int32.ofInt a) (Int32.ofInt b) ↔ (b ≤ a) := by
    unfold ka_cmp
    first | exact iv_eq ha hb | exact not_congr (iv_eq ha hb) | exact iv_lt ha hb | exact iv_le hb ha | exact iv_lt hb ha | exact iv_le ha hb
  rw [kr_go hi]
  simp only [ka_I, ka_b2, iv, ka_tgt_at ht, e]
theorem kr_ic_gt {o : Int} {t : Nat} {a b : Int} (hi : kin y pc (.if_icmp .gt o) n = true) (ht : (pc : Int) + o = (t : Int)) (ha : kR a) (hb : kR b) : ka_W (kp E) (d, (y, pc, ls, iv b :: iv a :: st), s) Q ↔ ((b < a) → ka_W (kp E) (d, (y, t, ls, st), s) Q) ∧ (¬ (b < a) → ka_W (kp E) (d, (y, pc + n, ls, st), s) Q) := by
  have e : ka_cmp .gt (Int32.ofInt a) (Int32.ofInt b) ↔ (b < a) := by
    unfold ka_cmp
    first | exact iv_eq ha hb | exact not_congr (iv_eq ha hb) | exact iv_lt ha hb | exact iv_le hb ha | exact iv_lt hb ha | exact iv_le ha hb
  rw [kr_go hi]
  simp only [ka_I, ka_b2, iv, ka_tgt_at ht, e]
theorem kr_ic_le {o : Int} {t : Nat} {a b : Int} (hi : kin y pc (.if_icmp .le o) n = true) (ht : (pc : Int) + o = (t : Int)) (ha : kR a) (hb : kR b) : ka_W (kp E) (d, (y, pc, ls, iv b :: iv a :: st), s) Q ↔ ((a ≤ b) → ka_W (kp E) (d, (y, t, ls, st), s) Q) ∧ (¬ (a ≤ b) → ka_W (kp E) (d, (y, pc + n, ls, st), s) Q) := by
  have e : ka_cmp .le (Int32.ofInt a) (Int32.ofInt b) ↔ (a ≤ b) := by
    unfold ka_cmp
    first | exact iv_eq ha hb | exact not_congr (iv_eq ha hb) | exact iv_lt ha hb | exact iv_le hb ha | exact iv_lt hb ha | exact iv_le ha hb
  rw [kr_go hi]
  simp only [ka_I, ka_b2, iv, ka_tgt_at ht, e]
theorem kr_acmp_eq {o : Int} {t : Nat} {v w : Value} (hi : kin y pc (.if_acmp .eq o) n = true) (ht : (pc : Int) + o = (t : Int)) : ka_W (kp E) (d, (y, pc, ls, w :: v :: st), s) Q ↔ ka_isR v = true ∧ ka_isR w = true ∧ (v = w → ka_W (kp E) (d, (y, t, ls, st), s) Q) ∧ (¬ v = w → ka_W (kp E) (d, (y, pc + n, ls, st), s) Q) := by
  rw [kr_go hi]
  simp only [ka_I, ka_tgt_at ht]
theorem kr_acmp_ne {o : Int} {t : Nat} {v w : Value} (hi : kin y pc (.if_acmp .ne o) n = true) (ht : (pc : Int) + o = (t : Int)) : ka_W (kp E) (d, (y, pc, ls, w :: v :: st), s) Q ↔ ka_isR v = true ∧ ka_isR w = true ∧ (¬ v = w → ka_W (kp E) (d, (y, t, ls, st), s) Q) ∧ (v = w → ka_W (kp E) (d, (y, pc + n, ls, st), s) Q) := by
  rw [kr_go hi]
  simp only [ka_I, ka_tgt_at ht]
theorem kr_ifnull {o : Int} {t : Nat} {v : Value} (hi : kin y pc (.ifnull o) n = true) (ht : (pc : Int) + o = (t : Int)) : ka_W (kp E) (d, (y, pc, ls, v :: st), s) Q ↔ ka_isR v = true ∧ (v = .null → ka_W (kp E) (d, (y, t, ls, st), s) Q) ∧ (¬ v = .null → ka_W (kp E) (d, (y, pc + n, ls, st), s) Q) := by
  rw [kr_go hi]
  simp only [ka_I, ka_tgt_at ht]
theorem kr_ifnonnull {o : Int} {t : Nat} {v : Value} (hi : kin y pc (.ifnonnull o) n = true) (ht : (pc : Int) + o = (t : Int)) : ka_W (kp E) (d, (y, pc, ls, v :: st), s) Q ↔ ka_isR v = true ∧ (¬ v = .null → ka_W (kp E) (d, (y, t, ls, st), s) Q) ∧ (v = .null → ka_W (kp E) (d, (y, pc + n, ls, st), s) Q) := by
  rw [kr_go hi]
  simp only [ka_I, ka_tgt_at ht]
theorem kr_getstatic {j a : Nat} (hi : kin y pc (.getstatic j) n = true) (hc : (kp E).cst y j = some (.ref a)) (hj : j < 100000) : ka_W (kp E) (d, (y, pc, ls, st), s) Q ↔ ka_W (kp E) (d, (y, pc + n, ls, .ref a :: st), s) Q := by
  rw [kr_go hi]
  simp only [ka_I, hc, hj, true_and]
theorem kr_getfield {j t k a : Nat} {ty : FieldType} (hi : kin y pc (.getfield j) n = true) (hf : (kp E).fld y j = some (t, k, ty)) : ka_W (kp E) (d, (y, pc, ls, .ref a :: st), (h, c, l)) Q ↔ kok h a t k ∧ ka_W (kp E) (d, (y, pc + n, ls, kg h a k :: st), (h, c, l)) Q := by
  rw [kr_go hi]
  simp only [ka_I, hf]
  refine ⟨fun q => ?_, fun q => ?_⟩
  · obtain ⟨vs, v, h1, h2, h3⟩ := q
    obtain ⟨e1, e2⟩ := kg_of h1 h2
    exact ⟨⟨vs, h1, e2⟩, by rw [e1]; exact h3⟩
  · obtain ⟨vs, h1, h2⟩ := kok_get q.1
    exact ⟨vs, _, h1, h2, q.2⟩
theorem kr_putfield {j t k a : Nat} {ty : FieldType} {v : Value} (hi : kin y pc (.putfield j) n = true) (hf : (kp E).fld y j = some (t, k, ty)) (hp : (kp E).put y j = true) : ka_W (kp E) (d, (y, pc, ls, v :: .ref a :: st), (h, c, l)) Q ↔ kok h a t k ∧ kfit ty v ∧ ka_W (kp E) (d, (y, pc + n, ls, st), (kup h a k v, c, l)) Q := by
  rw [kr_go hi]
  simp only [ka_I, hf, hp]
  refine ⟨fun q => ?_, fun q => ?_⟩
  · obtain ⟨vs, h1, h2, h3, h4, h5⟩ := q
    exact ⟨⟨vs, h1, h2⟩, ⟨h3, h4⟩, by rw [kup_of h1]; exact h5⟩
  · obtain ⟨⟨vs, h1, h2⟩, ⟨h3, h4⟩, h5⟩ := q
    exact ⟨vs, h1, h2, h3, h4, by rw [kup_of h1] at h5; exact h5⟩
theorem kr_new {j t : Nat} {vs : List Value} (hi : kin y pc (.new j) n = true) (hn : (kp E).new y j = some (t, vs)) : ka_W (kp E) (d, (y, pc, ls, st), (h, c, l)) Q ↔ 1 ≤ c ∧ vs.length ≤ l ∧ ∀ a, h a = none → ka_W (kp E) (d, (y, pc + n, ls, .ref a :: st), (ka_up h a (t, vs), c - 1, l - vs.length)) Q := by
  rw [kr_go hi]
  simp only [ka_I, hn, ka_mk]
theorem kr_nwI {x : Int} (hi : kin y pc (.newarray .int) n = true) (h0 : 0 ≤ x) (h1 : x ≤ 65536) : ka_W (kp E) (d, (y, pc, ls, iv x :: st), (h, c, l)) Q ↔ 1 ≤ c ∧ x.toNat ≤ l ∧ ∀ a, h a = none → ka_W (kp E) (d, (y, pc + n, ls, .ref a :: st), (ka_up h a (1000, List.replicate x.toNat (iv 0)), c - 1, l - x.toNat)) Q := by
  have e1 : ¬ Int32.ofInt x < 0 := by rw [iv_neg (by unfold kR; omega)]; omega
  have e2 : (Int32.ofInt x).toNatClampNeg = x.toNat := iv_nat h0 (by omega)
  have e3 : x.toNat ≤ 65536 := by omega
  rw [kr_go hi]
  simp only [ka_I, ka_nwa, ka_mk, iv, e1, e2, e3, not_false_eq_true, true_and, List.length_replicate]
  rfl
theorem kr_nwL {x : Int} (hi : kin y pc (.newarray .long) n = true) (h0 : 0 ≤ x) (h1 : x ≤ 65536) : ka_W (kp E) (d, (y, pc, ls, iv x :: st), (h, c, l)) Q ↔ 1 ≤ c ∧ x.toNat ≤ l ∧ ∀ a, h a = none → ka_W (kp E) (d, (y, pc + n, ls, .ref a :: st), (ka_up h a (1001, List.replicate x.toNat (lv 0)), c - 1, l - x.toNat)) Q := by
  have e1 : ¬ Int32.ofInt x < 0 := by rw [iv_neg (by unfold kR; omega)]; omega
  have e2 : (Int32.ofInt x).toNatClampNeg = x.toNat := iv_nat h0 (by omega)
  have e3 : x.toNat ≤ 65536 := by omega
  rw [kr_go hi]
  simp only [ka_I, ka_nwa, ka_mk, iv, e1, e2, e3, not_false_eq_true, true_and, List.length_replicate]
  rfl
theorem kr_nwC {x : Int} (hi : kin y pc (.newarray .char) n = true) (h0 : 0 ≤ x) (h1 : x ≤ 65536) : ka_W (kp E) (d, (y, pc, ls, iv x :: st), (h, c, l)) Q ↔ 1 ≤ c ∧ x.toNat ≤ l ∧ ∀ a, h a = none → ka_W (kp E) (d, (y, pc + n, ls, .ref a :: st), (ka_up h a (1002, List.replicate x.toNat (iv 0)), c - 1, l - x.toNat)) Q := by
  have e1 : ¬ Int32.ofInt x < 0 := by rw [iv_neg (by unfold kR; omega)]; omega
  have e2 : (Int32.ofInt x).toNatClampNeg = x.toNat := iv_nat h0 (by omega)
  have e3 : x.toNat ≤ 65536 := by omega
  rw [kr_go hi]
  simp only [ka_I, ka_nwa, ka_mk, iv, e1, e2, e3, not_false_eq_true, true_and, List.length_replicate]
  rfl
theorem kr_anew {j t : Nat} {x : Int} (hi : kin y pc (.anewarray j) n = true) (ha : (kp E).arr y j = some t) (h0 : 0 ≤ x) (h1 : x ≤ 65536) : ka_W (kp E) (d, (y, pc, ls, iv x :: st), (h, c, l)) Q ↔ 1 ≤ c ∧ x.toNat ≤ l ∧ ∀ a, h a = none → ka_W (kp E) (d, (y, pc + n, ls, .ref a :: st), (ka_up h a (t, List.replicate x.toNat .null), c - 1, l - x.toNat)) Q := by
  have e1 : ¬ Int32.ofInt x < 0 := by rw [iv_neg (by unfold kR; omega)]; omega
  have e2 : (Int32.ofInt x).toNatClampNeg = x.toNat := iv_nat h0 (by omega)
  have e3 : x.toNat ≤ 65536 := by omega
  rw [kr_go hi]
  simp only [ka_I, ha, ka_nwa, ka_mk, iv, e1, e2, e3, not_false_eq_true, true_and, List.length_replicate]
theorem kr_alen {a : Nat} (hi : kin y pc .arraylength n = true) : ka_W (kp E) (d, (y, pc, ls, .ref a :: st), (h, c, l)) Q ↔ (∃ t, ktg h a t ∧ (1000 ≤ t ∧ t < 3000 ∨ t = 4000 ∨ t = 4001)) ∧ ka_W (kp E) (d, (y, pc + n, ls, iv (kln h a) :: st), (h, c, l)) Q := by
  have key : ∀ {t : Nat} {vs : List Value}, h a = some (t, vs) → Value.int (nI vs.length) = iv (kln h a) := by
    intro t vs h1
    unfold kln iv nI
    rw [h1]
    rfl
  rw [kr_go hi]
  simp only [ka_I]
  refine ⟨fun q => ?_, fun q => ?_⟩
  · obtain ⟨t, vs, h1, h2, h3⟩ := q
    exact ⟨⟨t, ⟨vs, h1⟩, h2⟩, by rw [← key h1]; exact h3⟩
  · obtain ⟨⟨t, ⟨vs, h1⟩, h2⟩, h3⟩ := q
    exact ⟨t, vs, h1, h2, by rw [key h1]; exact h3⟩
theorem kr_iald {a : Nat} {j : Int} (hi : kin y pc .iaload n = true) (h0 : 0 ≤ j) (hm : j ≤ 2147483647) : ka_W (kp E) (d, (y, pc, ls, iv j :: .ref a :: st), (h, c, l)) Q ↔ (kok h a 1000 j.toNat ∨ kok h a 4000 j.toNat) ∧ ka_W (kp E) (d, (y, pc + n, ls, kg h a j.toNat :: st), (h, c, l)) Q := by
  have e1 : ¬ Int32.ofInt j < 0 := by rw [iv_neg (by unfold kR; omega)]; omega
  have e2 : (Int32.ofInt j).toNatClampNeg = j.toNat := iv_nat h0 hm
  rw [kr_go hi]
  simp only [ka_I, iv, e1, e2, not_false_eq_true, true_and]
  refine ⟨fun q => ?_, fun q => ?_⟩
  · obtain ⟨t, vs, v, ht, h1, h2, h3⟩ := q
    obtain ⟨z1, z2⟩ := kg_of h1 h2
    refine ⟨?_, by rw [z1]; exact h3⟩
    rcases ht with rfl | rfl
    · exact Or.inl ⟨vs, h1, z2⟩
    · exact Or.inr ⟨vs, h1, z2⟩
  · rcases q.1 with w | w
    · obtain ⟨vs, h1, h2⟩ := kok_get w
      exact ⟨_, vs, _, Or.inl rfl, h1, h2, q.2⟩
    · obtain ⟨vs, h1, h2⟩ := kok_get w
      exact ⟨_, vs, _, Or.inr rfl, h1, h2, q.2⟩
theorem ka_ald_iff {t a : Nat} {j : Int} {f : Value → List Value → Prop} (h0 : 0 ≤ j) (hm : j ≤ 2147483647) : ka_ald t (h, c, l) (.int (Int32.ofInt j) :: .ref a :: st) f ↔ kok h a t j.toNat ∧ f (kg h a j.toNat) st := by
  have e1 : ¬ Int32.ofInt j < 0 := by rw [iv_neg (by unfold kR; omega)]; omega
  have e2 : (Int32.ofInt j).toNatClampNeg = j.toNat := iv_nat h0 hm
  simp only [ka_ald, e1, e2, not_false_eq_true, true_and]
  refine ⟨fun q => ?_, fun q => ?_⟩
  · obtain ⟨vs, v, h1, h2, h3⟩ := q
    obtain ⟨z1, z2⟩ := kg_of h1 h2
    exact ⟨⟨vs, h1, z2⟩, by rw [z1]; exact h3⟩
  · obtain ⟨vs, h1, h2⟩ := kok_get q.1
    exact ⟨vs, _, h1, h2, q.2⟩
theorem kr_lald {a : Nat} {j : Int} (hi : kin y pc .laload n = true) (h0 : 0 ≤ j) (hm : j ≤ 2147483647) : ka_W (kp E) (d, (y, pc, ls, iv j :: .ref a :: st), (h, c, l)) Q ↔ kok h a 1001 j.toNat ∧ ka_W (kp E) (d, (y, pc + n, ls, kg h a j.toNat :: st), (h, c, l)) Q := by
  rw [kr_go hi]
  simp only [ka_I, iv, ka_ald_iff h0 hm]
theorem kr_cald {a : Nat} {j : Int} (hi : kin y pc .caload n = true) (h0 : 0 ≤ j) (hm : j ≤ 2147483647) : ka_W (kp E) (d, (y, pc, ls, iv j :: .ref a :: st), (h, c, l)) Q ↔ kok h a 1002 j.toNat ∧ ka_W (kp E) (d, (y, pc + n, ls, kg h a j.toNat :: st), (h, c, l)) Q := by
  rw [kr_go hi]
  simp only [ka_I, iv, ka_ald_iff h0 hm]
theorem kr_aald {a : Nat} {j : Int} (hi : kin y pc .aaload n = true) (h0 : 0 ≤ j) (hm : j ≤ 2147483647) : ka_W (kp E) (d, (y, pc, ls, iv j :: .ref a :: st), (h, c, l)) Q ↔ (∃ t, 2000 ≤ t ∧ t < 3000 ∧ kok h a t j.toNat) ∧ ka_W (kp E) (d, (y, pc + n, ls, kg h a j.toNat :: st), (h, c, l)) Q := by
  have e1 : ¬ Int32.ofInt j < 0 := by rw [iv_neg (by unfold kR; omega)]; omega
  have e2 : (Int32.ofInt j).toNatClampNeg = j.toNat := iv_nat h0 hm
  rw [kr_go hi]
  simp only [ka_I, iv, e1, e2, not_false_eq_true, true_and]
  refine ⟨fun q => ?_, fun q => ?_⟩
  · obtain ⟨t, vs, v, t1, t2, h1, h2, h3⟩ := q
    obtain ⟨z1, z2⟩ := kg_of h1 h2
    exact ⟨⟨t, t1, t2, vs, h1, z2⟩, by rw [z1]; exact h3⟩
  · obtain ⟨⟨t, t1, t2, w⟩, h3⟩ := q
    obtain ⟨vs, h1, h2⟩ := kok_get w
    exact ⟨t, vs, _, t1, t2, h1, h2, h3⟩
theorem ka_ast_iff {t a : Nat} {j : Int} {v : Value} {f : ka_S → Prop} (h0 : 0 ≤ j) (hm : j ≤ 2147483647) : ka_ast t (h, c, l) a (Int32.ofInt j) v f ↔ kok h a t j.toNat ∧ f (kup h a j.toNat v, c, l) := by
  have e1 : ¬ Int32.ofInt j < 0 := by rw [iv_neg (by unfold kR; omega)]; omega
  have e2 : (Int32.ofInt j).toNatClampNeg = j.toNat := iv_nat h0 hm
  simp only [ka_ast, e1, e2, not_false_eq_true, true_and]
  refine ⟨fun q => ?_, fun q => ?_⟩
  · obtain ⟨vs, h1, h2, h3⟩ := q
    exact ⟨⟨vs, h1, h2⟩, by rw [kup_of h1]; exact h3⟩
  · obtain ⟨⟨vs, h1, h2⟩, h3⟩ := q
    exact ⟨vs, h1, h2, by rw [kup_of h1] at h3; exact h3⟩
theorem kr_iast {a : Nat} {j x : Int} (hi : kin y pc .iastore n = true) (h0 : 0 ≤ j) (hm : j ≤ 2147483647) : ka_W (kp E) (d, (y, pc, ls, iv x :: iv j :: .ref a :: st), (h, c, l)) Q ↔ kok h a 1000 j.toNat ∧ ka_W (kp E) (d, (y, pc + n, ls, st), (kup h a j.toNat (iv x), c, l)) Q := by
  rw [kr_go hi]
  simp only [ka_I, iv, ka_ast_iff h0 hm]
theorem kr_last {a : Nat} {j x : Int} (hi : kin y pc .lastore n = true) (h0 : 0 ≤ j) (hm : j ≤ 2147483647) : ka_W (kp E) (d, (y, pc, ls, lv x :: iv j :: .ref a :: st), (h, c, l)) Q ↔ kok h a 1001 j.toNat ∧ ka_W (kp E) (d, (y, pc + n, ls, st), (kup h a j.toNat (lv x), c, l)) Q := by
  rw [kr_go hi]
  simp only [ka_I, iv, lv, ka_ast_iff h0 hm]
theorem kr_cast {a : Nat} {j x : Int} (hi : kin y pc .castore n = true) (h0 : 0 ≤ j) (hm : j ≤ 2147483647) : ka_W (kp E) (d, (y, pc, ls, iv x :: iv j :: .ref a :: st), (h, c, l)) Q ↔ narrow .char (iv x) = iv x ∧ kok h a 1002 j.toNat ∧ ka_W (kp E) (d, (y, pc + n, ls, st), (kup h a j.toNat (iv x), c, l)) Q := by
  rw [kr_go hi]
  simp only [ka_I, iv, ka_ast_iff h0 hm]
theorem kr_aastN {a : Nat} {j : Int} (hi : kin y pc .aastore n = true) (h0 : 0 ≤ j) (hm : j ≤ 2147483647) : ka_W (kp E) (d, (y, pc, ls, .null :: iv j :: .ref a :: st), (h, c, l)) Q ↔ ∃ t, 2000 ≤ t ∧ t < 3000 ∧ kok h a t j.toNat ∧ ka_W (kp E) (d, (y, pc + n, ls, st), (kup h a j.toNat .null, c, l)) Q := by
  rw [kr_go hi]
  simp only [ka_I, iv, ka_ast_iff h0 hm]
theorem kr_aastR {a b : Nat} {j : Int} (hi : kin y pc .aastore n = true) (h0 : 0 ≤ j) (hm : j ≤ 2147483647) : ka_W (kp E) (d, (y, pc, ls, .ref b :: iv j :: .ref a :: st), (h, c, l)) Q ↔ ∃ t u, t < 1000 ∧ ktg h b t ∧ (u = 2000 + t ∨ (u = 2999 ∧ t < 10)) ∧ kok h a u j.toNat ∧ ka_W (kp E) (d, (y, pc + n, ls, st), (kup h a j.toNat (.ref b), c, l)) Q := by
  rw [kr_go hi]
  simp only [ka_I, iv, ka_ast_iff h0 hm]
  refine ⟨fun q => ?_, fun q => ?_⟩
  · obtain ⟨t, u, vs, h1, h2, h3, h4⟩ := q
    exact ⟨t, u, h1, ⟨vs, h2⟩, h3, h4⟩
  · obtain ⟨t, u, h1, ⟨vs, h2⟩, h3, h4⟩ := q
    exact ⟨t, u, vs, h1, h2, h3, h4⟩
theorem kr_castN {j : Nat} (hi : kin y pc (.checkcast j) n = true) : ka_W (kp E) (d, (y, pc, ls, .null :: st), s) Q ↔ ka_W (kp E) (d, (y, pc + n, ls, .null :: st), s) Q := by
  rw [kr_go hi]
  simp only [ka_I]
theorem kr_castR {j t a : Nat} (hi : kin y pc (.checkcast j) n = true) (hc : (kp E).cast y j = some t) : ka_W (kp E) (d, (y, pc, ls, .ref a :: st), (h, c, l)) Q ↔ ktg h a t ∧ ka_W (kp E) (d, (y, pc + n, ls, .ref a :: st), (h, c, l)) Q := by
  rw [kr_go hi]
  simp only [ka_I, hc, ktg]
  exact ⟨fun ⟨vs, h1, h2⟩ => ⟨⟨vs, h1⟩, h2⟩, fun ⟨⟨vs, h1⟩, h2⟩ => ⟨vs, h1, h2⟩⟩
theorem kr_ireturn {x : Int} {ty : FieldType} (hi : kin y pc .ireturn n = true) (hr : (kp E).ret y = some ty) : ka_W (kp E) (d, (y, pc, ls, [iv x]), s) Q ↔ narrow ty (iv x) = iv x ∧ Q (.inl (some (iv x))) s := by
  rw [kr_go hi]
  simp only [ka_I, hr, iv]
theorem kr_lreturn {x : Int} (hi : kin y pc .lreturn n = true) (hr : (kp E).ret y = some .long) : ka_W (kp E) (d, (y, pc, ls, [lv x]), s) Q ↔ Q (.inl (some (lv x))) s := by
  rw [kr_go hi]
  simp only [ka_I, hr, lv, true_and]
theorem kr_areturnO {v : Value} {C : String} (hi : kin y pc .areturn n = true) (hr : (kp E).ret y = some (.object C)) : ka_W (kp E) (d, (y, pc, ls, [v]), s) Q ↔ ka_isR v = true ∧ Q (.inl (some v)) s := by
  rw [kr_go hi]
  simp only [ka_I, hr, true_and]
theorem kr_areturnA {v : Value} {ty : FieldType} (hi : kin y pc .areturn n = true) (hr : (kp E).ret y = some (.array ty)) : ka_W (kp E) (d, (y, pc, ls, [v]), s) Q ↔ ka_isR v = true ∧ Q (.inl (some v)) s := by
  rw [kr_go hi]
  simp only [ka_I, hr, true_and]
theorem kr_return (hi : kin y pc .return_ n = true) (hr : (kp E).ret y = none) : ka_W (kp E) (d, (y, pc, ls, []), s) Q ↔ Q (.inl none) s := by
  rw [kr_go hi]
  simp only [ka_I, hr, true_and]
theorem kr_thr {k nc ns : Nat} (ht : (kp E).thr y pc = some (k, nc, ns)) : ka_W (kp E) (d, (y, pc, ls, []), (h, c, l)) Q ↔ 8 ≤ d ∧ nc ≤ c ∧ ns ≤ l ∧ Q (.inr k) (h, c - nc, l - ns) := by
  rw [ka_iff]
  simp only [ka_step, ht, true_and]
end
