/-! THE ABSTRACT MACHINE: a world of cells (kind, contents), frames with plain lists; a predicate transformer 'ka_W' as a least fixed point. -/
abbrev ka_E : Type := Nat × List Value
abbrev ka_H : Type := Nat → Option ka_E
abbrev ka_S : Type := ka_H × Nat × Nat
abbrev ka_O : Type := Option Value ⊕ Nat
abbrev ka_Q : Type := ka_O → ka_S → Prop
abbrev ka_F : Type := Nat × Nat × List (Option Value) × List Value
abbrev ka_C : Type := Nat × ka_F × ka_S
abbrev ka_X : Type := ka_C → ka_Q → Prop
/-- the program's tables: instructions; fields; may it be stored here; new; arrays of references; casts; calls; locals; receivers; answers; library members; constants; handlers; throws -/
abbrev ka_P : Type := (Nat → Nat → Option (Instr × Nat)) × (Nat → Nat → Option (Nat × Nat × FieldType)) × (Nat → Nat → Bool) × (Nat → Nat → Option (Nat × List Value)) × (Nat → Nat → Option Nat) × (Nat → Nat → Option Nat) × (Nat → Nat → Option (Nat × Nat)) × (Nat → Nat) × (Nat → Nat × Nat) × (Nat → Option FieldType) × (Nat → Nat → Option Nat) × (Nat → Nat → Option Value) × (Nat → Nat → Nat → Option Nat) × (Nat → Nat → Option (Nat × Nat × Nat))
abbrev ka_P.ins (P : ka_P) := P.1
abbrev ka_P.fld (P : ka_P) := P.2.1
abbrev ka_P.put (P : ka_P) := P.2.2.1
abbrev ka_P.new (P : ka_P) := P.2.2.2.1
abbrev ka_P.arr (P : ka_P) := P.2.2.2.2.1
abbrev ka_P.cast (P : ka_P) := P.2.2.2.2.2.1
abbrev ka_P.cal (P : ka_P) := P.2.2.2.2.2.2.1
abbrev ka_P.max (P : ka_P) := P.2.2.2.2.2.2.2.1
abbrev ka_P.rcv (P : ka_P) := P.2.2.2.2.2.2.2.2.1
abbrev ka_P.ret (P : ka_P) := P.2.2.2.2.2.2.2.2.2.1
abbrev ka_P.prim (P : ka_P) := P.2.2.2.2.2.2.2.2.2.2.1
abbrev ka_P.cst (P : ka_P) := P.2.2.2.2.2.2.2.2.2.2.2.1
abbrev ka_P.hnd (P : ka_P) := P.2.2.2.2.2.2.2.2.2.2.2.2.1
abbrev ka_P.thr (P : ka_P) := P.2.2.2.2.2.2.2.2.2.2.2.2.2
def ka_up (h : ka_H) (a : Nat) (e : ka_E) : ka_H := fun q => if q = a then some e else h q
def ka_ent (args : List Value) (n : Nat) : List (Option Value) :=
  let l := args.flatMap (fun v => if v.category = 2 then [some v, none] else [some v])
  l ++ List.replicate (n - l.length) none
def ka_isR : Value → Bool
  | .null => true
  | .ref _ => true
  | _ => false
/-- the variable before this one is no long -/
def ka_ok1 (ls : List (Option Value)) : Nat → Bool
  | 0 => true
  | j + 1 => match ls[j]? with
    | some (some v) => v.category == 1
    | _ => true
def ka_sz (st : List Value) : Nat := (st.map fun v => v.category).sum
def ka_tgt (pc : Nat) (off : Int) (K : Nat → Prop) : Prop := match (pc : Int) + off with
  | .ofNat t => K t
  | .negSucc _ => False
def ka_cmp : ClassFile.Cond → Int32 → Int32 → Prop
  | .eq, x, y => x = y
  | .ne, x, y => ¬ x = y
  | .lt, x, y => x < y
  | .ge, x, y => y ≤ x
  | .gt, x, y => y < x
  | .le, x, y => x ≤ y
/-- members of the library, by number: 5 getClass of an array of objects, 6 System.arraycopy of objects, 1 Math.max, 2 Math.min, 3 Math.min of longs, 4 Object() -/
def ka_prim (k d : Nat) (g : Option Value) (s : ka_S) (st : List Value) (K : List Value → ka_S → Prop) : Prop := match k with
  | 5 => match g, st with
    | some (.ref mi), .ref a :: r => ka_sz r ≤ 8 ∧ 1 ≤ d ∧ (∃ vs, s.1 a = some (2999, vs)) ∧ K (.ref mi :: r) s
    | _, _ => False
  | 6 => match st with
    | .int n :: .int dp :: .ref b :: .int sp :: .ref a :: r => ka_sz r ≤ 8 ∧ 1 ≤ d ∧ sp = 0 ∧ dp = 0 ∧ ¬ n < 0 ∧ ∃ vs us, s.1 a = some (2999, vs) ∧ s.1 b = some (2999, us) ∧ 0 < us.length ∧ n.toNatClampNeg ≤ vs.length ∧ n.toNatClampNeg ≤ us.length ∧
        (∀ v ∈ vs.take n.toNatClampNeg, v = .null ∨ ∃ x t ws, v = .ref x ∧ t < 10 ∧ s.1 x = some (t, ws)) ∧ K r (ka_up s.1 b (2999, vs.take n.toNatClampNeg ++ us.drop n.toNatClampNeg), s.2.1, s.2.2)
    | _ => False
  | 1 => match st with
    | .int y :: .int x :: r => ka_sz r ≤ 8 ∧ 1 ≤ d ∧ K (.int (if x < y then y else x) :: r) s
    | _ => False
  | 2 => match st with
    | .int y :: .int x :: r => ka_sz r ≤ 8 ∧ 1 ≤ d ∧ K (.int (if y < x then y else x) :: r) s
    | _ => False
  | 3 => match st with
    | .long y :: .long x :: r => ka_sz r ≤ 8 ∧ 1 ≤ d ∧ K (.long (if y < x then y else x) :: r) s
    | _ => False
  | 4 => match st with
    | .ref _ :: r => ka_sz r ≤ 8 ∧ 1 ≤ d ∧ K r s
    | _ => False
  | _ => False
/-- a call: the callee's end is some P'; it comes back, or throws into a handler, or out; kd: 0 static, 1 virtual, 2 special -/
def ka_call (P : ka_P) (kd d y pc n z na : Nat) (ls : List (Option Value)) (s : ka_S) (st : List Value) (Q : ka_Q) (K : Nat → List (Option Value) → List Value → ka_S → Prop) (C : Nat → Nat → List Value → ka_S → ka_Q → Prop) : Prop :=
  na ≤ st.length ∧ 1 ≤ d ∧ ka_sz (st.drop na) ≤ 8 ∧ ka_sz (st.take na) ≤ P.max z ∧ (P.rcv z).1 = kd ∧
  (kd = 0 ∨ ∃ a r vs, (st.take na).reverse = .ref a :: r ∧ s.1 a = some ((P.rcv z).2, vs)) ∧
  ∃ P' : ka_Q, C (d - 1) z (st.take na).reverse s P' ∧
    (∀ v s', P' (.inl v) s' → K (pc + n) ls (v.toList ++ st.drop na) s') ∧
    (∀ k s', P' (.inr k) s' → match P.hnd y pc k with
      | none => Q (.inr k) s'
      | some h => h < 65535 ∧ ∀ a, K h ls [.ref a] s')
def ka_pk : Nat → Nat
  | 1 => 0
  | 2 => 0
  | 3 => 0
  | 4 => 2
  | 5 => 1
  | 6 => 0
  | _ => 9
def ka_inv (P : ka_P) (kd d y pc n i : Nat) (ls : List (Option Value)) (s : ka_S) (st : List Value) (Q : ka_Q) (K : Nat → List (Option Value) → List Value → ka_S → Prop) (C : Nat → Nat → List Value → ka_S → ka_Q → Prop) : Prop :=
  match P.prim y i with
  | some k => ka_pk k = kd ∧ ka_prim k d (P.cst y 100110) s st (fun st s => K (pc + n) ls st s)
  | none => match P.cal y i with
    | some (z, na) => ka_call P kd d y pc n z na ls s st Q K C
    | none => False
def ka_ldI (ls : List (Option Value)) (i : Nat) (f : Value → Prop) : Prop := match ls[i]? with
  | some (some (.int x)) => f (.int x)
  | _ => False
def ka_ldL (ls : List (Option Value)) (i : Nat) (f : Value → Prop) : Prop := match ls[i]? with
  | some (some (.long x)) => f (.long x)
  | _ => False
def ka_ldA (ls : List (Option Value)) (i : Nat) (f : Value → Prop) : Prop := match ls[i]? with
  | some (some v) => ka_isR v = true ∧ f v
  | _ => False
def ka_stI (ls : List (Option Value)) (i : Nat) (st : List Value) (f : List (Option Value) → List Value → Prop) : Prop := match st with
  | .int x :: r => i < ls.length ∧ ka_ok1 ls i = true ∧ f (ls.set i (some (.int x))) r
  | _ => False
def ka_stA (ls : List (Option Value)) (i : Nat) (st : List Value) (f : List (Option Value) → List Value → Prop) : Prop := match st with
  | v :: r => ka_isR v = true ∧ i < ls.length ∧ ka_ok1 ls i = true ∧ f (ls.set i (some v)) r
  | _ => False
def ka_stL (ls : List (Option Value)) (i : Nat) (st : List Value) (f : List (Option Value) → List Value → Prop) : Prop := match st with
  | .long x :: r => i + 1 < ls.length ∧ ka_ok1 ls i = true ∧ f ((ls.set i (some (.long x))).set (i + 1) none) r
  | _ => False
def ka_b2 (st : List Value) (f : Int32 → Int32 → List Value → Prop) : Prop := match st with
  | .int y :: .int x :: r => f x y r
  | _ => False
def ka_l2 (st : List Value) (f : Int64 → Int64 → List Value → Prop) : Prop := match st with
  | .long y :: .long x :: r => f x y r
  | _ => False
def ka_b1 (st : List Value) (f : Int32 → List Value → Prop) : Prop := match st with
  | .int x :: r => f x r
  | _ => False
def ka_l1 (st : List Value) (f : Int64 → List Value → Prop) : Prop := match st with
  | .long x :: r => f x r
  | _ => False
/-- an element of an array of this kind -/
def ka_ald (t : Nat) (s : ka_S) (st : List Value) (f : Value → List Value → Prop) : Prop := match st with
  | .int j :: .ref a :: r => ∃ vs v, s.1 a = some (t, vs) ∧ ¬ j < 0 ∧ vs[j.toNatClampNeg]? = some v ∧ f v r
  | _ => False
def ka_ast (t : Nat) (s : ka_S) (a : Nat) (j : Int32) (v : Value) (f : ka_S → Prop) : Prop :=
  ∃ vs, s.1 a = some (t, vs) ∧ ¬ j < 0 ∧ j.toNatClampNeg < vs.length ∧ f (ka_up s.1 a (t, vs.set j.toNatClampNeg v), s.2.1, s.2.2)
def ka_mk (s : ka_S) (e : ka_E) (f : Nat → ka_S → Prop) : Prop := 1 ≤ s.2.1 ∧ e.2.length ≤ s.2.2 ∧ ∀ a, s.1 a = none → f a (ka_up s.1 a e, s.2.1 - 1, s.2.2 - e.2.length)
def ka_nwa (t : Nat) (v0 : Value) (s : ka_S) (st : List Value) (f : List Value → ka_S → Prop) : Prop := match st with
  | .int x :: r => ¬ x < 0 ∧ x.toNatClampNeg ≤ 65536 ∧ ka_mk s (t, List.replicate x.toNatClampNeg v0) (fun a s => f (.ref a :: r) s)
  | _ => False
def ka_I (P : ka_P) (d y pc : Nat) (ls : List (Option Value)) (s : ka_S) (Q : ka_Q) (n : Nat) (st : List Value) (K : Nat → List (Option Value) → List Value → ka_S → Prop) (C : Nat → Nat → List Value → ka_S → ka_Q → Prop) (i : Instr) : Prop := match i with
  | .aconst_null => K (pc + n) ls (.null :: st) s
  | .iconst v => K (pc + n) ls (.int (Int32.ofInt v) :: st) s
  | .bipush v => K (pc + n) ls (.int (Int8.ofInt v).toInt32 :: st) s
  | .sipush v => K (pc + n) ls (.int (Int16.ofInt v).toInt32 :: st) s
  | .lconst v => K (pc + n) ls (.long (Int64.ofNat v) :: st) s
  | .ldc i => match P.cst y i with
    | some (.int v) => n = 2 ∧ K (pc + n) ls (.int v :: st) s
    | some .null => match P.cst y (100000 + i) with
      | some (.ref a) => n = 2 ∧ K (pc + n) ls (.ref a :: st) s
      | _ => False
    | _ => False
  | .ldc2_w i => match P.cst y i with
    | some (.long v) => K (pc + n) ls (.long v :: st) s
    | _ => False
  | .iload i => ka_ldI ls i (fun v => K (pc + n) ls (v :: st) s)
  | .iload_n i => ka_ldI ls i (fun v => K (pc + n) ls (v :: st) s)
  | .lload i => ka_ldL ls i (fun v => K (pc + n) ls (v :: st) s)
  | .lload_n i => ka_ldL ls i (fun v => K (pc + n) ls (v :: st) s)
  | .aload i => ka_ldA ls i (fun v => K (pc + n) ls (v :: st) s)
  | .aload_n i => ka_ldA ls i (fun v => K (pc + n) ls (v :: st) s)
  | .istore i => ka_stI ls i st (fun ls st => K (pc + n) ls st s)
  | .istore_n i => ka_stI ls i st (fun ls st => K (pc + n) ls st s)
  | .lstore i => ka_stL ls i st (fun ls st => K (pc + n) ls st s)
  | .lstore_n i => ka_stL ls i st (fun ls st => K (pc + n) ls st s)
  | .astore i => ka_stA ls i st (fun ls st => K (pc + n) ls st s)
  | .astore_n i => ka_stA ls i st (fun ls st => K (pc + n) ls st s)
  | .iinc i c => ka_ldI ls i (fun v => ka_b1 [v] (fun x _ => i < ls.length ∧ ka_ok1 ls i = true ∧ K (pc + n) (ls.set i (some (.int (x + Int32.ofInt c)))) st s))
  | .iadd => ka_b2 st (fun x y r => K (pc + n) ls (.int (x + y) :: r) s)
  | .isub => ka_b2 st (fun x y r => K (pc + n) ls (.int (x - y) :: r) s)
  | .imul => ka_b2 st (fun x y r => K (pc + n) ls (.int (x * y) :: r) s)
  | .iand => ka_b2 st (fun x y r => K (pc + n) ls (.int (x &&& y) :: r) s)
  | .ior => ka_b2 st (fun x y r => K (pc + n) ls (.int (x ||| y) :: r) s)
  | .ixor => ka_b2 st (fun x y r => K (pc + n) ls (.int (x ^^^ y) :: r) s)
  | .idiv => ka_b2 st (fun x y r => ¬ y = 0 ∧ K (pc + n) ls (.int (x / y) :: r) s)
  | .irem => ka_b2 st (fun x y r => ¬ y = 0 ∧ K (pc + n) ls (.int (x - x / y * y) :: r) s)
  | .ineg => ka_b1 st (fun x r => K (pc + n) ls (.int (-x) :: r) s)
  | .ishl => ka_b2 st (fun x y r => K (pc + n) ls (.int (x <<< (y &&& 31)) :: r) s)
  | .ishr => ka_b2 st (fun x y r => K (pc + n) ls (.int (x >>> (y &&& 31)) :: r) s)
  | .ladd => ka_l2 st (fun x y r => K (pc + n) ls (.long (x + y) :: r) s)
  | .lsub => ka_l2 st (fun x y r => K (pc + n) ls (.long (x - y) :: r) s)
  | .lmul => ka_l2 st (fun x y r => K (pc + n) ls (.long (x * y) :: r) s)
  | .lcmp => ka_l2 st (fun x y r => K (pc + n) ls (.int (lg_cmp x y) :: r) s)
  | .i2l => ka_b1 st (fun x r => K (pc + n) ls (.long x.toInt64 :: r) s)
  | .l2i => ka_l1 st (fun x r => K (pc + n) ls (.int x.toInt32 :: r) s)
  | .i2c => ka_b1 st (fun x r => K (pc + n) ls (.int (x.toUInt32 % 65536).toInt32 :: r) s)
  | .dup => match st with
    | v :: r => v.category = 1 ∧ K (pc + n) ls (v :: v :: r) s
    | _ => False
  | .dup_x1 => match st with
    | v :: w :: r => v.category = 1 ∧ w.category = 1 ∧ K (pc + n) ls (v :: w :: v :: r) s
    | _ => False
  | .dup_x2 => match st with
    | v :: w :: x :: r => v.category = 1 ∧ w.category = 1 ∧ x.category = 1 ∧ K (pc + n) ls (v :: w :: x :: v :: r) s
    | _ => False
  | .dup2 => match st with
    | v :: w :: r => v.category = 1 ∧ w.category = 1 ∧ K (pc + n) ls (v :: w :: v :: w :: r) s
    | _ => False
  | .pop => match st with
    | v :: r => v.category = 1 ∧ K (pc + n) ls r s
    | _ => False
  | .goto o => ka_tgt pc o (fun t => K t ls st s)
  | .ifCond c o => ka_b1 st (fun x r => ka_tgt pc o (fun t => (ka_cmp c x 0 → K t ls r s) ∧ (¬ ka_cmp c x 0 → K (pc + n) ls r s)))
  | .if_icmp c o => ka_b2 st (fun x y r => ka_tgt pc o (fun t => (ka_cmp c x y → K t ls r s) ∧ (¬ ka_cmp c x y → K (pc + n) ls r s)))
  | .if_acmp c o => match st with
    | w :: v :: r => ka_isR v = true ∧ ka_isR w = true ∧ ka_tgt pc o (fun t => match c with
      | .eq => (v = w → K t ls r s) ∧ (¬ v = w → K (pc + n) ls r s)
      | .ne => (¬ v = w → K t ls r s) ∧ (v = w → K (pc + n) ls r s))
    | _ => False
  | .ifnull o => match st with
    | v :: r => ka_isR v = true ∧ (v = .null → ka_tgt pc o (fun t => K t ls r s)) ∧ (¬ v = .null → K (pc + n) ls r s)
    | _ => False
  | .ifnonnull o => match st with
    | v :: r => ka_isR v = true ∧ (¬ v = .null → ka_tgt pc o (fun t => K t ls r s)) ∧ (v = .null → K (pc + n) ls r s)
    | _ => False
  | .tableswitch df lo hi os => ka_b1 st (fun x r => (x.toInt < lo ∨ hi < x.toInt → ka_tgt pc df (fun t => K t ls r s)) ∧
      (¬ x.toInt < lo → ¬ hi < x.toInt → ∃ o, os[(x.toInt - lo).toNat]? = some o ∧ ka_tgt pc o (fun t => K t ls r s)))
  | .lookupswitch df ps => ka_b1 st (fun x r => (ps.toList.zip (ps.toList.drop 1)).all (fun (a, next) => a.1 < next.1) = true ∧ ka_tgt pc (Op.lookupswitch.offset ps.toList df x.toInt) (fun t => K t ls r s))
  | .getstatic i => match P.cst y i with
    | some (.ref a) => i < 100000 ∧ K (pc + n) ls (.ref a :: st) s
    | _ => False
  | .getfield i => match st with
    | .ref a :: r => match P.fld y i with
      | some (t, k, _) => ∃ vs v, s.1 a = some (t, vs) ∧ vs[k]? = some v ∧ K (pc + n) ls (v :: r) s
      | none => False
    | _ => False
  | .putfield i => match st with
    | v :: .ref a :: r => match P.fld y i, P.put y i with
      | some (t, k, ty), true => ∃ vs, s.1 a = some (t, vs) ∧ k < vs.length ∧ narrow ty v = v ∧ fits ty v = true ∧ K (pc + n) ls r (ka_up s.1 a (t, vs.set k v), s.2.1, s.2.2)
      | _, _ => False
    | _ => False
  | .new i => match P.new y i with
    | some e => ka_mk s e (fun a s => K (pc + n) ls (.ref a :: st) s)
    | none => False
  | .newarray t => match t with
    | .int => ka_nwa 1000 (.int 0) s st (fun st s => K (pc + n) ls st s)
    | .long => ka_nwa 1001 (.long 0) s st (fun st s => K (pc + n) ls st s)
    | .char => ka_nwa 1002 (.int 0) s st (fun st s => K (pc + n) ls st s)
    | _ => False
  | .anewarray i => match P.arr y i with
    | some t => ka_nwa t .null s st (fun st s => K (pc + n) ls st s)
    | none => False
  | .arraylength => match st with
    | .ref a :: r => ∃ t vs, s.1 a = some (t, vs) ∧ (1000 ≤ t ∧ t < 3000 ∨ t = 4000 ∨ t = 4001) ∧ K (pc + n) ls (.int (nI vs.length) :: r) s
    | _ => False
  | .iaload => match st with
    | .int j :: .ref a :: r => ∃ t vs v, (t = 1000 ∨ t = 4000) ∧ s.1 a = some (t, vs) ∧ ¬ j < 0 ∧ vs[j.toNatClampNeg]? = some v ∧ K (pc + n) ls (v :: r) s
    | _ => False
  | .laload => ka_ald 1001 s st (fun v r => K (pc + n) ls (v :: r) s)
  | .caload => ka_ald 1002 s st (fun v r => K (pc + n) ls (v :: r) s)
  | .aaload => match st with
    | .int j :: .ref a :: r => ∃ t vs v, 2000 ≤ t ∧ t < 3000 ∧ s.1 a = some (t, vs) ∧ ¬ j < 0 ∧ vs[j.toNatClampNeg]? = some v ∧ K (pc + n) ls (v :: r) s
    | _ => False
  | .iastore => match st with
    | .int v :: .int j :: .ref a :: r => ka_ast 1000 s a j (.int v) (fun s => K (pc + n) ls r s)
    | _ => False
  | .lastore => match st with
    | .long v :: .int j :: .ref a :: r => ka_ast 1001 s a j (.long v) (fun s => K (pc + n) ls r s)
    | _ => False
  | .castore => match st with
    | .int v :: .int j :: .ref a :: r => narrow .char (.int v) = .int v ∧ ka_ast 1002 s a j (.int v) (fun s => K (pc + n) ls r s)
    | _ => False
  | .aastore => match st with
    | .null :: .int j :: .ref a :: r => ∃ t, 2000 ≤ t ∧ t < 3000 ∧ ka_ast t s a j .null (fun s => K (pc + n) ls r s)
    | .ref v :: .int j :: .ref a :: r => ∃ t u vs, t < 1000 ∧ s.1 v = some (t, vs) ∧ (u = 2000 + t ∨ (u = 2999 ∧ t < 10)) ∧ ka_ast u s a j (.ref v) (fun s => K (pc + n) ls r s)
    | _ => False
  | .checkcast i => match st with
    | .null :: r => K (pc + n) ls (.null :: r) s
    | .ref a :: r => match P.cast y i with
      | some t => ∃ vs, s.1 a = some (t, vs) ∧ K (pc + n) ls (.ref a :: r) s
      | none => False
    | _ => False
  | .invokevirtual i => ka_inv P 1 d y pc n i ls s st Q K C
  | .invokespecial i => ka_inv P 2 d y pc n i ls s st Q K C
  | .invokestatic i => ka_inv P 0 d y pc n i ls s st Q K C
  | .ireturn => match st with
    | [.int v] => match P.ret y with
      | some ty => narrow ty (.int v) = .int v ∧ Q (.inl (some (.int v))) s
      | none => False
    | _ => False
  | .lreturn => match st with
    | [.long v] => P.ret y = some .long ∧ Q (.inl (some (.long v))) s
    | _ => False
  | .areturn => match st with
    | [v] => ka_isR v = true ∧ (match P.ret y with
      | some (.object _) => True
      | some (.array _) => True
      | _ => False) ∧ Q (.inl (some v)) s
    | _ => False
  | .return_ => match st with
    | [] => P.ret y = none ∧ Q (.inl none) s
    | _ => False
  | _ => False
def ka_step (P : ka_P) (X : ka_X) (c : ka_C) (Q : ka_Q) : Prop := match c with
  | (d, (y, pc, ls, st), s) => match P.thr y pc with
    | some (k, nc, ns) => 8 ≤ d ∧ st = [] ∧ nc ≤ s.2.1 ∧ ns ≤ s.2.2 ∧ Q (.inr k) (s.1, s.2.1 - nc, s.2.2 - ns)
    | none => match P.ins y pc with
      | none => False
      | some (i, n) => ka_I P d y pc ls s Q n st (fun pc ls st s => X (d, (y, pc, ls, st), s) Q) (fun d z as s P' => X (d, (z, 0, ka_ent as (P.max z), []), s) P') i
def ka_W (P : ka_P) : ka_X := fun c Q => ∀ X : ka_X, (∀ c Q, ka_step P X c Q → X c Q) → X c Q
