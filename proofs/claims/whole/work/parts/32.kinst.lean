/-! The rules with all that they ask of the tables in one check. -/
def kk1 : Option Value → Bool
  | none => true
  | some v => v.category == 1
theorem ka_ok1_at {ls : List (Option Value)} {j : Nat} {o : Option Value} (h : ls[j]? = some o) : ka_ok1 ls (j + 1) = kk1 o := by
  cases o <;> simp [ka_ok1, h, kk1]
theorem kk1_n : kk1 none = true := rfl
theorem kk1_i (x : Int) : kk1 (some (iv x)) = true := rfl
theorem kk1_r (a : Nat) : kk1 (some (.ref a)) = true := rfl
theorem kk1_0 : kk1 (some .null) = true := rfl
def kif (y pc : Nat) (i : Instr) (n j t k : Nat) (ty : FieldType) : Bool := kin y pc i n && decide (kf.lookup (km_O.getD y 99, j) = some (t, k, ty))
def kpf (y j : Nat) : Bool := !(kfin.contains (km_O.getD y 99, j)) || (kfown.contains (km_O.getD y 99, j) && kinit.contains y)
def kic (y pc : Nat) (i : Instr) (n j z na kd tg mx : Nat) : Bool := kin y pc i n && decide (kprim.lookup (km_O.getD y 99, j) = none) && decide (kcal.lookup (km_O.getD y 99, j) = some (z, na)) && decide (km_V.getD z (0, 0) = (kd, tg)) && decide (km_M.getD z 0 = mx) && decide (na ≤ mx)
def kpc (y pc : Nat) (i : Instr) (n j k : Nat) : Bool := kin y pc i n && decide (kprim.lookup (km_O.getD y 99, j) = some k)
section
variable {E : Nat × Nat} {d y pc n t : Nat} {ls ls' : List (Option Value)} {st st' : List Value} {s : ka_S} {Q : ka_Q} {h : ka_H} {c l : Nat}
theorem kq_istore {j : Nat} {x : Int} {o : Option Value} (hi : kin y pc (.istore (j + 1)) n = true) (ho : ls[j]? = some o) (hl : j + 1 < ls.length) (e : ls.set (j + 1) (some (iv x)) = ls') (et : pc + n = t) : ka_W (kp E) (d, (y, pc, ls, iv x :: st), s) Q ↔ kk1 o = true ∧ ka_W (kp E) (d, (y, t, ls', st), s) Q := by
  rw [kr_istore hi hl, ka_ok1_at ho, e, et]
theorem kq_istore_n {j : Fin 4} {x : Int} {o : Option Value} {i : Nat} (hi : kin y pc (.istore_n j) n = true) (hj : j.val = i + 1) (ho : ls[i]? = some o) (hl : i + 1 < ls.length) (e : ls.set (i + 1) (some (iv x)) = ls') (et : pc + n = t) : ka_W (kp E) (d, (y, pc, ls, iv x :: st), s) Q ↔ kk1 o = true ∧ ka_W (kp E) (d, (y, t, ls', st), s) Q := by
  rw [kr_istore_n hi (by rw [hj]; exact hl), hj, ka_ok1_at ho, e, et]
theorem kq_istore_0 {j : Fin 4} {x : Int} (hi : kin y pc (.istore_n j) n = true) (hj : j.val = 0) (hl : 0 < ls.length) (e : ls.set 0 (some (iv x)) = ls') (et : pc + n = t) : ka_W (kp E) (d, (y, pc, ls, iv x :: st), s) Q ↔ ka_W (kp E) (d, (y, t, ls', st), s) Q := by
  rw [kr_istore_n hi (by rw [hj]; exact hl), hj, e, et]
  simp [ka_ok1]
theorem kq_lstore {j : Nat} {x : Int} {o : Option Value} (hi : kin y pc (.lstore (j + 1)) n = true) (ho : ls[j]? = some o) (hl : j + 1 + 1 < ls.length) (e : (ls.set (j + 1) (some (lv x))).set (j + 1 + 1) none = ls') (et : pc + n = t) : ka_W (kp E) (d, (y, pc, ls, lv x :: st), s) Q ↔ kk1 o = true ∧ ka_W (kp E) (d, (y, t, ls', st), s) Q := by
  rw [kr_lstore hi hl, ka_ok1_at ho, e, et]
theorem kq_lstore_n {j : Fin 4} {x : Int} {o : Option Value} {i : Nat} (hi : kin y pc (.lstore_n j) n = true) (hj : j.val = i + 1) (ho : ls[i]? = some o) (hl : i + 1 + 1 < ls.length) (e : (ls.set (i + 1) (some (lv x))).set (i + 1 + 1) none = ls') (et : pc + n = t) : ka_W (kp E) (d, (y, pc, ls, lv x :: st), s) Q ↔ kk1 o = true ∧ ka_W (kp E) (d, (y, t, ls', st), s) Q := by
  rw [kr_lstore_n hi (by rw [hj]; exact hl), hj, ka_ok1_at ho, e, et]
theorem kq_astore {j : Nat} {v : Value} {o : Option Value} (hi : kin y pc (.astore (j + 1)) n = true) (hv : ka_isR v = true) (ho : ls[j]? = some o) (hl : j + 1 < ls.length) (e : ls.set (j + 1) (some v) = ls') (et : pc + n = t) : ka_W (kp E) (d, (y, pc, ls, v :: st), s) Q ↔ kk1 o = true ∧ ka_W (kp E) (d, (y, t, ls', st), s) Q := by
  rw [kr_astore hi hl, ka_ok1_at ho, e, et]
  simp only [hv, true_and]
theorem kq_astore_n {j : Fin 4} {v : Value} {o : Option Value} {i : Nat} (hi : kin y pc (.astore_n j) n = true) (hv : ka_isR v = true) (hj : j.val = i + 1) (ho : ls[i]? = some o) (hl : i + 1 < ls.length) (e : ls.set (i + 1) (some v) = ls') (et : pc + n = t) : ka_W (kp E) (d, (y, pc, ls, v :: st), s) Q ↔ kk1 o = true ∧ ka_W (kp E) (d, (y, t, ls', st), s) Q := by
  rw [kr_astore_n hi (by rw [hj]; exact hl), hj, ka_ok1_at ho, e, et]
  simp only [hv, true_and]
theorem kq_iinc {j : Nat} {x k : Int} {o : Option Value} (hi : kin y pc (.iinc (j + 1) k) n = true) (hl : ls[j + 1]? = some (some (iv x))) (ho : ls[j]? = some o) (e : ls.set (j + 1) (some (iv (x + k))) = ls') (et : pc + n = t) : ka_W (kp E) (d, (y, pc, ls, st), s) Q ↔ kk1 o = true ∧ ka_W (kp E) (d, (y, t, ls', st), s) Q := by
  rw [kr_iinc hi hl, ka_ok1_at ho, e, et]
theorem kq_iload {j : Nat} {x : Int} (hi : kin y pc (.iload j) n = true) (hl : ls[j]? = some (some (iv x))) (et : pc + n = t) : ka_W (kp E) (d, (y, pc, ls, st), s) Q ↔ ka_W (kp E) (d, (y, t, ls, iv x :: st), s) Q := by
  rw [kr_iload hi hl, et]
theorem kq_iload_n {j : Fin 4} {x : Int} (hi : kin y pc (.iload_n j) n = true) (hl : ls[j.val]? = some (some (iv x))) (et : pc + n = t) : ka_W (kp E) (d, (y, pc, ls, st), s) Q ↔ ka_W (kp E) (d, (y, t, ls, iv x :: st), s) Q := by
  rw [kr_iload_n hi hl, et]
theorem kq_lload {j : Nat} {x : Int} (hi : kin y pc (.lload j) n = true) (hl : ls[j]? = some (some (lv x))) (et : pc + n = t) : ka_W (kp E) (d, (y, pc, ls, st), s) Q ↔ ka_W (kp E) (d, (y, t, ls, lv x :: st), s) Q := by
  rw [kr_lload hi hl, et]
theorem kq_lload_n {j : Fin 4} {x : Int} (hi : kin y pc (.lload_n j) n = true) (hl : ls[j.val]? = some (some (lv x))) (et : pc + n = t) : ka_W (kp E) (d, (y, pc, ls, st), s) Q ↔ ka_W (kp E) (d, (y, t, ls, lv x :: st), s) Q := by
  rw [kr_lload_n hi hl, et]
theorem kq_aload {j : Nat} {v : Value} (hi : kin y pc (.aload j) n = true) (hv : ka_isR v = true) (hl : ls[j]? = some (some v)) (et : pc + n = t) : ka_W (kp E) (d, (y, pc, ls, st), s) Q ↔ ka_W (kp E) (d, (y, t, ls, v :: st), s) Q := by
  rw [kr_aload hi hl, et]
  simp only [hv, true_and]
theorem kq_aload_n {j : Fin 4} {v : Value} (hi : kin y pc (.aload_n j) n = true) (hv : ka_isR v = true) (hl : ls[j.val]? = some (some v)) (et : pc + n = t) : ka_W (kp E) (d, (y, pc, ls, st), s) Q ↔ ka_W (kp E) (d, (y, t, ls, v :: st), s) Q := by
  rw [kr_aload_n hi hl, et]
  simp only [hv, true_and]
theorem kq_getfield {j tg k a : Nat} {ty : FieldType} (hi : kif y pc (.getfield j) n j tg k ty = true) : ka_W (kp E) (d, (y, pc, ls, .ref a :: st), (h, c, l)) Q ↔ kok h a tg k ∧ ka_W (kp E) (d, (y, pc + n, ls, kg h a k :: st), (h, c, l)) Q := by
  unfold kif at hi
  simp only [Bool.and_eq_true, decide_eq_true_eq] at hi
  exact kr_getfield hi.1 hi.2
theorem kq_putfield {j tg k a : Nat} {ty : FieldType} {v : Value} (hi : (kif y pc (.putfield j) n j tg k ty && kpf y j) = true) : ka_W (kp E) (d, (y, pc, ls, v :: .ref a :: st), (h, c, l)) Q ↔ kok h a tg k ∧ kfit ty v ∧ ka_W (kp E) (d, (y, pc + n, ls, st), (kup h a k v, c, l)) Q := by
  unfold kif at hi
  simp only [Bool.and_eq_true, decide_eq_true_eq] at hi
  exact kr_putfield hi.1.1 hi.1.2 hi.2
theorem kq_new {j tg : Nat} {vs : List Value} (hi : (kin y pc (.new j) n && decide (knew.lookup (km_O.getD y 99, j) = some (tg, vs))) = true) : ka_W (kp E) (d, (y, pc, ls, st), (h, c, l)) Q ↔ 1 ≤ c ∧ vs.length ≤ l ∧ ∀ a, h a = none → ka_W (kp E) (d, (y, pc + n, ls, .ref a :: st), (ka_up h a (tg, vs), c - 1, l - vs.length)) Q := by
  simp only [Bool.and_eq_true, decide_eq_true_eq] at hi
  exact kr_new hi.1 hi.2
theorem kq_anew {j tg : Nat} {x : Int} (hi : (kin y pc (.anewarray j) n && decide (karr.lookup (km_O.getD y 99, j) = some tg)) = true) (h0 : 0 ≤ x) (h1 : x ≤ 65536) : ka_W (kp E) (d, (y, pc, ls, iv x :: st), (h, c, l)) Q ↔ 1 ≤ c ∧ x.toNat ≤ l ∧ ∀ a, h a = none → ka_W (kp E) (d, (y, pc + n, ls, .ref a :: st), (ka_up h a (tg, List.replicate x.toNat .null), c - 1, l - x.toNat)) Q := by
  simp only [Bool.and_eq_true, decide_eq_true_eq] at hi
  exact kr_anew hi.1 hi.2 h0 h1
theorem kq_castR {j tg a : Nat} (hi : (kin y pc (.checkcast j) n && decide (kcast.lookup (km_O.getD y 99, j) = some tg)) = true) : ka_W (kp E) (d, (y, pc, ls, .ref a :: st), (h, c, l)) Q ↔ ktg h a tg ∧ ka_W (kp E) (d, (y, pc + n, ls, .ref a :: st), (h, c, l)) Q := by
  simp only [Bool.and_eq_true, decide_eq_true_eq] at hi
  exact kr_castR hi.1 hi.2
theorem kq_ireturn {x : Int} {ty : FieldType} (hi : (kin y pc .ireturn n && decide (km_R.getD y none = some ty)) = true) : ka_W (kp E) (d, (y, pc, ls, [iv x]), s) Q ↔ narrow ty (iv x) = iv x ∧ Q (.inl (some (iv x))) s := by
  simp only [Bool.and_eq_true, decide_eq_true_eq] at hi
  exact kr_ireturn hi.1 hi.2
theorem kq_lreturn {x : Int} (hi : (kin y pc .lreturn n && decide (km_R.getD y none = some .long)) = true) : ka_W (kp E) (d, (y, pc, ls, [lv x]), s) Q ↔ Q (.inl (some (lv x))) s := by
  simp only [Bool.and_eq_true, decide_eq_true_eq] at hi
  exact kr_lreturn hi.1 hi.2
theorem kq_areturnO {v : Value} {C : String} (hi : (kin y pc .areturn n && decide (km_R.getD y none = some (.object C))) = true) : ka_W (kp E) (d, (y, pc, ls, [v]), s) Q ↔ ka_isR v = true ∧ Q (.inl (some v)) s := by
  simp only [Bool.and_eq_true, decide_eq_true_eq] at hi
  exact kr_areturnO hi.1 hi.2
theorem kq_areturnA {v : Value} {ty : FieldType} (hi : (kin y pc .areturn n && decide (km_R.getD y none = some (.array ty))) = true) : ka_W (kp E) (d, (y, pc, ls, [v]), s) Q ↔ ka_isR v = true ∧ Q (.inl (some v)) s := by
  simp only [Bool.and_eq_true, decide_eq_true_eq] at hi
  exact kr_areturnA hi.1 hi.2
theorem kq_return (hi : (kin y pc .return_ n && decide (km_R.getD y none = none)) = true) : ka_W (kp E) (d, (y, pc, ls, []), s) Q ↔ Q (.inl none) s := by
  simp only [Bool.and_eq_true, decide_eq_true_eq] at hi
  exact kr_return hi.1 hi.2
theorem kq_thr {k : Nat} (hi : decide (kthr.lookup (y, pc) = some (k, 1, 6)) = true) : ka_W (kp E) (d, (y, pc, ls, []), (h, c, l)) Q ↔ 8 ≤ d ∧ 1 ≤ c ∧ 6 ≤ l ∧ Q (.inr k) (h, c - 1, l - 6) := by
  simp only [decide_eq_true_eq] at hi
  exact kr_thr hi
theorem kq_cs {j z na mx : Nat} {as : List Value} (hi : (kic y pc (.invokestatic j) n j z na 0 0 mx && decide (km_H.getD y [] = [])) = true) (hl : as.length = na) (e1 : as.reverse ++ st = st') (e2 : as.map some ++ List.replicate (mx - na) none = ls') (hc : ∀ v ∈ as, v.category = 1) :
    ka_W (kp E) (d, (y, pc, ls, st'), s) Q ↔ 1 ≤ d ∧ ka_sz st ≤ 8 ∧ ka_W (kp E) (d - 1, (z, 0, ls', []), s) (kret E d y (pc + n) ls st Q) := by
  unfold kic at hi
  simp only [Bool.and_eq_true, decide_eq_true_eq] at hi
  obtain ⟨⟨⟨⟨⟨⟨h1, h2⟩, h3⟩, h4⟩, h5⟩, h6⟩, h7⟩ := hi
  rw [← e1, ← e2]
  exact kr_cs h1 h2 h3 h4 h5 h7 hl h6 hc
theorem kq_cv {j z na mx tg a : Nat} {as : List Value} (hi : (kic y pc (.invokevirtual j) n j z na 1 tg mx && decide (km_H.getD y [] = [])) = true) (hl : as.length + 1 = na) (e1 : as.reverse ++ .ref a :: st = st') (e2 : some (.ref a) :: (as.map some ++ List.replicate (mx - na) none) = ls') (hc : ∀ v ∈ as, v.category = 1) :
    ka_W (kp E) (d, (y, pc, ls, st'), (h, c, l)) Q ↔ 1 ≤ d ∧ ka_sz st ≤ 8 ∧ ktg h a tg ∧ ka_W (kp E) (d - 1, (z, 0, ls', []), (h, c, l)) (kret E d y (pc + n) ls st Q) := by
  unfold kic at hi
  simp only [Bool.and_eq_true, decide_eq_true_eq] at hi
  obtain ⟨⟨⟨⟨⟨⟨h1, h2⟩, h3⟩, h4⟩, h5⟩, h6⟩, h7⟩ := hi
  rw [← e1, ← e2]
  exact kr_cv h1 h2 h3 h4 h5 h7 hl h6 hc
theorem kq_ci {j z na mx tg a : Nat} {as : List Value} (hi : (kic y pc (.invokespecial j) n j z na 2 tg mx && decide (km_H.getD y [] = [])) = true) (hl : as.length + 1 = na) (e1 : as.reverse ++ .ref a :: st = st') (e2 : some (.ref a) :: (as.map some ++ List.replicate (mx - na) none) = ls') (hc : ∀ v ∈ as, v.category = 1) :
    ka_W (kp E) (d, (y, pc, ls, st'), (h, c, l)) Q ↔ 1 ≤ d ∧ ka_sz st ≤ 8 ∧ ktg h a tg ∧ ka_W (kp E) (d - 1, (z, 0, ls', []), (h, c, l)) (kret E d y (pc + n) ls st Q) := by
  unfold kic at hi
  simp only [Bool.and_eq_true, decide_eq_true_eq] at hi
  obtain ⟨⟨⟨⟨⟨⟨h1, h2⟩, h3⟩, h4⟩, h5⟩, h6⟩, h7⟩ := hi
  rw [← e1, ← e2]
  exact kr_ci h1 h2 h3 h4 h5 h7 hl h6 hc
theorem kq_cvh {j z na mx tg a : Nat} {as : List Value} (hi : kic y pc (.invokevirtual j) n j z na 1 tg mx = true) (hl : as.length + 1 = na) (e1 : as.reverse ++ .ref a :: st = st') (e2 : some (.ref a) :: (as.map some ++ List.replicate (mx - na) none) = ls') (hc : ∀ v ∈ as, v.category = 1) :
    ka_W (kp E) (d, (y, pc, ls, st'), (h, c, l)) Q ↔ 1 ≤ d ∧ ka_sz st ≤ 8 ∧ ktg h a tg ∧ ka_W (kp E) (d - 1, (z, 0, ls', []), (h, c, l)) (kreh E d y pc (pc + n) ls st Q) := by
  unfold kic at hi
  simp only [Bool.and_eq_true, decide_eq_true_eq] at hi
  obtain ⟨⟨⟨⟨⟨h1, h2⟩, h3⟩, h4⟩, h5⟩, h6⟩ := hi
  rw [← e1, ← e2]
  exact kr_cvh h1 h2 h3 h4 h5 hl h6 hc
theorem kq_objI {j a : Nat} (hi : kpc y pc (.invokespecial j) n j 4 = true) : ka_W (kp E) (d, (y, pc, ls, .ref a :: st), s) Q ↔ ka_sz st ≤ 8 ∧ 1 ≤ d ∧ ka_W (kp E) (d, (y, pc + n, ls, st), s) Q := by
  unfold kpc at hi
  simp only [Bool.and_eq_true, decide_eq_true_eq] at hi
  exact kr_objI hi.1 hi.2
theorem kq_max {j : Nat} {a b : Int} (hi : kpc y pc (.invokestatic j) n j 1 = true) (ha : kR a) (hb : kR b) : ka_W (kp E) (d, (y, pc, ls, iv b :: iv a :: st), s) Q ↔ ka_sz st ≤ 8 ∧ 1 ≤ d ∧ ka_W (kp E) (d, (y, pc + n, ls, iv (if a < b then b else a) :: st), s) Q := by
  unfold kpc at hi
  simp only [Bool.and_eq_true, decide_eq_true_eq] at hi
  exact kr_max hi.1 hi.2 ha hb
theorem kq_min {j : Nat} {a b : Int} (hi : kpc y pc (.invokestatic j) n j 2 = true) (ha : kR a) (hb : kR b) : ka_W (kp E) (d, (y, pc, ls, iv b :: iv a :: st), s) Q ↔ ka_sz st ≤ 8 ∧ 1 ≤ d ∧ ka_W (kp E) (d, (y, pc + n, ls, iv (if b < a then b else a) :: st), s) Q := by
  unfold kpc at hi
  simp only [Bool.and_eq_true, decide_eq_true_eq] at hi
  exact kr_min hi.1 hi.2 ha hb
theorem kq_minL {j : Nat} {a b : Int} (hi : kpc y pc (.invokestatic j) n j 3 = true) (ha : kL a) (hb : kL b) : ka_W (kp E) (d, (y, pc, ls, lv b :: lv a :: st), s) Q ↔ ka_sz st ≤ 8 ∧ 1 ≤ d ∧ ka_W (kp E) (d, (y, pc + n, ls, lv (if b < a then b else a) :: st), s) Q := by
  unfold kpc at hi
  simp only [Bool.and_eq_true, decide_eq_true_eq] at hi
  exact kr_minL hi.1 hi.2 ha hb
/-- a switch at a number that has a case, and at one that has none -/
theorem kr_tsw {df lo hi' : Int} {os : Array Int} {a : Int} {o : Int} (hi : kin y pc (.tableswitch df lo hi' os) n = true) (ha : kR a) (h0 : lo ≤ a) (h1 : a ≤ hi') (ho : os[(a - lo).toNat]? = some o) (ht : (pc : Int) + o = (t : Int)) : ka_W (kp E) (d, (y, pc, ls, iv a :: st), s) Q ↔ ka_W (kp E) (d, (y, t, ls, st), s) Q := by
  have e : (Int32.ofInt a).toInt = a := Int32.toInt_ofInt_of_le (by unfold kR at ha; omega) (by unfold kR at ha; omega)
  have e1 : ¬ (a < lo ∨ hi' < a) := by omega
  have e2 : ¬ a < lo := by omega
  have e3 : ¬ hi' < a := by omega
  rw [kr_go hi]
  simp only [ka_I, ka_b1, iv, e, e1, e2, e3, ho, or_self, false_implies, true_and, not_false_eq_true, true_implies, Option.some.injEq, exists_eq_left', ka_tgt_at ht]
theorem kr_tswD {df lo hi' : Int} {os : Array Int} {a : Int} (hi : kin y pc (.tableswitch df lo hi' os) n = true) (ha : kR a) (h0 : a < lo ∨ hi' < a) (ht : (pc : Int) + df = (t : Int)) : ka_W (kp E) (d, (y, pc, ls, iv a :: st), s) Q ↔ ka_W (kp E) (d, (y, t, ls, st), s) Q := by
  have e : (Int32.ofInt a).toInt = a := Int32.toInt_ofInt_of_le (by unfold kR at ha; omega) (by unfold kR at ha; omega)
  rw [kr_go hi]
  simp only [ka_I, ka_b1, iv, e, h0, true_implies, ka_tgt_at ht]
  refine ⟨fun q => q.1, fun q => ⟨q, fun h1 h2 => ?_⟩⟩
  rcases h0 with z | z
  · exact absurd z h1
  · exact absurd z h2
end
