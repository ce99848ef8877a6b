/-! A constant that names a kind, getClass and arraycopy. -/
section
variable {E : Nat × Nat} {d y pc n : Nat} {ls : List (Option Value)} {st : List Value} {s : ka_S} {Q : ka_Q} {h : ka_H} {c l : Nat}
theorem kr_ldcC {j a : Nat} (hi : kin y pc (.ldc j) 2 = true) (h1 : (kp E).cst y j = some .null) (h2 : (kp E).cst y (100000 + j) = some (.ref a)) : ka_W (kp E) (d, (y, pc, ls, st), s) Q ↔ ka_W (kp E) (d, (y, pc + 2, ls, .ref a :: st), s) Q := by
  rw [kr_go hi]
  simp only [ka_I, h1, h2, true_and]
theorem kr_ldcI {j : Nat} {v : Int32} {w : Int} (hi : kin y pc (.ldc j) 2 = true) (h1 : (kp E).cst y j = some (.int v)) (hv : v = Int32.ofInt w) : ka_W (kp E) (d, (y, pc, ls, st), s) Q ↔ ka_W (kp E) (d, (y, pc + 2, ls, iv w :: st), s) Q := by
  subst hv
  rw [kr_go hi]
  simp only [ka_I, h1, true_and, iv]
theorem kr_getC {j a mi : Nat} (hi : kpc y pc (.invokevirtual j) n j 5 = true) (h2 : (kp E).cst y 100110 = some (.ref mi)) : ka_W (kp E) (d, (y, pc, ls, .ref a :: st), (h, c, l)) Q ↔ ka_sz st ≤ 8 ∧ 1 ≤ d ∧ ktg h a 2999 ∧ ka_W (kp E) (d, (y, pc + n, ls, .ref mi :: st), (h, c, l)) Q := by
  unfold kpc at hi
  simp only [Bool.and_eq_true, decide_eq_true_eq] at hi
  have hp : (kp E).prim y j = some 5 := hi.2
  rw [kr_go hi.1]
  simp only [ka_I, ka_inv, hp, ka_prim, ka_pk, h2, ktg, true_and]
theorem kr_acp {j a b : Nat} {w : Int} (hi : kpc y pc (.invokestatic j) n j 6 = true) (h0 : 0 ≤ w) (h1 : w ≤ 2147483647) : ka_W (kp E) (d, (y, pc, ls, iv w :: iv 0 :: .ref b :: iv 0 :: .ref a :: st), (h, c, l)) Q ↔ ka_sz st ≤ 8 ∧ 1 ≤ d ∧ ∃ vs us, h a = some (2999, vs) ∧ h b = some (2999, us) ∧ 0 < us.length ∧ w.toNat ≤ vs.length ∧ w.toNat ≤ us.length ∧
    (∀ v ∈ vs.take w.toNat, v = .null ∨ ∃ x t ws, v = .ref x ∧ t < 10 ∧ h x = some (t, ws)) ∧ ka_W (kp E) (d, (y, pc + n, ls, st), (ka_up h b (2999, vs.take w.toNat ++ us.drop w.toNat), c, l)) Q := by
  unfold kpc at hi
  simp only [Bool.and_eq_true, decide_eq_true_eq] at hi
  have hp : (kp E).prim y j = some 6 := hi.2
  have e1 : ¬ Int32.ofInt w < 0 := by rw [iv_neg (by unfold kR; omega)]; omega
  have e2 : (Int32.ofInt w).toNatClampNeg = w.toNat := iv_nat h0 h1
  have e3 : Int32.ofInt 0 = 0 := rfl
  rw [kr_go hi.1]
  simp only [ka_I, ka_inv, hp, ka_prim, ka_pk, iv, e1, e2, e3, not_false_eq_true, true_and]
end
