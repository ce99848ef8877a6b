/-! Each slot's read and write. Printed by wip/whole/gen10.py. -/
section
variable {J : ka_H} {A : ka_A} {V : ka_V} {C R : ka_M} {i x y : Int}
theorem ht_0 (hA : kJ A V) (hv : V 0 i) : ktg (kHp J A V C R) (A 0 i) 0 := kHp_tg hA hv
theorem ho_0_0 (hA : kJ A V) (hv : V 0 i) : kok (kHp J A V C R) (A 0 i) 0 0 := kHp_ok hA hv (show 0 < 7 by decide)
theorem hg_0_0 (hA : kJ A V) (hv : V 0 i) : kg (kHp J A V C R) (A 0 i) 0 = .ref (A 1 0) := kHp_get (f := 0) (j := 0) hA hv (show 0 < 7 by decide)
theorem ho_0_1 (hA : kJ A V) (hv : V 0 i) : kok (kHp J A V C R) (A 0 i) 0 1 := kHp_ok hA hv (show 1 < 7 by decide)
theorem hg_0_1 (hA : kJ A V) (hv : V 0 i) : kg (kHp J A V C R) (A 0 i) 1 = .ref (A 5 0) := kHp_get (f := 0) (j := 1) hA hv (show 1 < 7 by decide)
theorem ho_0_2 (hA : kJ A V) (hv : V 0 i) : kok (kHp J A V C R) (A 0 i) 0 2 := kHp_ok hA hv (show 2 < 7 by decide)
theorem hg_0_2 (hA : kJ A V) (hv : V 0 i) : kg (kHp J A V C R) (A 0 i) 2 = .ref (A 7 0) := kHp_get (f := 0) (j := 2) hA hv (show 2 < 7 by decide)
theorem ho_0_3 (hA : kJ A V) (hv : V 0 i) : kok (kHp J A V C R) (A 0 i) 0 3 := kHp_ok hA hv (show 3 < 7 by decide)
theorem hg_0_3 (hA : kJ A V) (hv : V 0 i) : kg (kHp J A V C R) (A 0 i) 3 = .ref (A 2 0) := kHp_get (f := 0) (j := 3) hA hv (show 3 < 7 by decide)
theorem ho_0_4 (hA : kJ A V) (hv : V 0 i) : kok (kHp J A V C R) (A 0 i) 0 4 := kHp_ok hA hv (show 4 < 7 by decide)
theorem hg_0_4 (hA : kJ A V) (hv : V 0 i) : kg (kHp J A V C R) (A 0 i) 4 = .ref (A 30 0) := kHp_get (f := 0) (j := 4) hA hv (show 4 < 7 by decide)
theorem ho_0_5 (hA : kJ A V) (hv : V 0 i) : kok (kHp J A V C R) (A 0 i) 0 5 := kHp_ok hA hv (show 5 < 7 by decide)
theorem hg_0_5 (hA : kJ A V) (hv : V 0 i) (h0 : 0 ≤ (C 0 i 5)) : kg (kHp J A V C R) (A 0 i) 5 = .ref (A 6 (C 0 i 5)) := by
  refine (kHp_get (f := 0) (j := 5) hA hv (show 5 < 7 by decide)).trans ?_
  show kre A (if (C 0 i 5) < 0 then none else some (6, (C 0 i 5))) = _
  rw [if_neg (by omega)]
  rfl
theorem hgn_0_5 (hA : kJ A V) (hv : V 0 i) (h0 : (C 0 i 5) < 0) : kg (kHp J A V C R) (A 0 i) 5 = .null := by
  refine (kHp_get (f := 0) (j := 5) hA hv (show 5 < 7 by decide)).trans ?_
  show kre A (if (C 0 i 5) < 0 then none else some (6, (C 0 i 5))) = _
  rw [if_pos h0]
  rfl
theorem hp_0_5 (hA : kJ A V) (hv : V 0 i) (h0 : 0 ≤ x) : kup (kHp J A V C R) (A 0 i) 5 (.ref (A 6 x)) = kHp J A V (kmu C 0 i 5 x) R := by
  have e : ke A 0 i 5 x = .ref (A 6 x) := by
    show kre A (if x < 0 then none else some (6, x)) = _
    rw [if_neg (by omega)]
    rfl
  rw [← e]
  exact kHp_putc (f := 0) (j := 5) (x := x) hA hv rfl (show 5 < 7 by decide)
theorem hpn_0_5 (hA : kJ A V) (hv : V 0 i) : kup (kHp J A V C R) (A 0 i) 5 .null = kHp J A V (kmu C 0 i 5 (-1)) R := kHp_putc (f := 0) (j := 5) (x := -1) hA hv rfl (show 5 < 7 by decide)
theorem ho_0_6 (hA : kJ A V) (hv : V 0 i) : kok (kHp J A V C R) (A 0 i) 0 6 := kHp_ok hA hv (show 6 < 7 by decide)
theorem hg_0_6 (hA : kJ A V) (hv : V 0 i) : kg (kHp J A V C R) (A 0 i) 6 = iv (C 0 i 6) := kHp_get (f := 0) (j := 6) hA hv (show 6 < 7 by decide)
theorem hp_0_6 (hA : kJ A V) (hv : V 0 i) : kup (kHp J A V C R) (A 0 i) 6 (iv x) = kHp J A V (kmu C 0 i 6 x) R := kHp_putc (f := 0) (j := 6) (x := x) hA hv rfl (show 6 < 7 by decide)
theorem ht_1 (hA : kJ A V) (hv : V 1 i) : ktg (kHp J A V C R) (A 1 i) 1 := kHp_tg hA hv
theorem ho_1_0 (hA : kJ A V) (hv : V 1 i) : kok (kHp J A V C R) (A 1 i) 1 0 := kHp_ok hA hv (show 0 < 4 by decide)
theorem hg_1_0 (hA : kJ A V) (hv : V 1 i) : kg (kHp J A V C R) (A 1 i) 0 = .ref (A 10 0) := kHp_get (f := 1) (j := 0) hA hv (show 0 < 4 by decide)
theorem ho_1_1 (hA : kJ A V) (hv : V 1 i) : kok (kHp J A V C R) (A 1 i) 1 1 := kHp_ok hA hv (show 1 < 4 by decide)
theorem hg_1_1 (hA : kJ A V) (hv : V 1 i) : kg (kHp J A V C R) (A 1 i) 1 = .ref (A 32 0) := kHp_get (f := 1) (j := 1) hA hv (show 1 < 4 by decide)
theorem ho_1_2 (hA : kJ A V) (hv : V 1 i) : kok (kHp J A V C R) (A 1 i) 1 2 := kHp_ok hA hv (show 2 < 4 by decide)
theorem hg_1_2 (hA : kJ A V) (hv : V 1 i) : kg (kHp J A V C R) (A 1 i) 2 = .ref (A 25 0) := kHp_get (f := 1) (j := 2) hA hv (show 2 < 4 by decide)
theorem ho_1_3 (hA : kJ A V) (hv : V 1 i) : kok (kHp J A V C R) (A 1 i) 1 3 := kHp_ok hA hv (show 3 < 4 by decide)
theorem hg_1_3 (hA : kJ A V) (hv : V 1 i) : kg (kHp J A V C R) (A 1 i) 3 = .ref (A 26 0) := kHp_get (f := 1) (j := 3) hA hv (show 3 < 4 by decide)
theorem ht_2 (hA : kJ A V) (hv : V 2 i) : ktg (kHp J A V C R) (A 2 i) 2 := kHp_tg hA hv
theorem ho_2_0 (hA : kJ A V) (hv : V 2 i) : kok (kHp J A V C R) (A 2 i) 2 0 := kHp_ok hA hv (show 0 < 4 by decide)
theorem hg_2_0 (hA : kJ A V) (hv : V 2 i) : kg (kHp J A V C R) (A 2 i) 0 = .ref (A 10 1) := kHp_get (f := 2) (j := 0) hA hv (show 0 < 4 by decide)
theorem ho_2_1 (hA : kJ A V) (hv : V 2 i) : kok (kHp J A V C R) (A 2 i) 2 1 := kHp_ok hA hv (show 1 < 4 by decide)
theorem hg_2_1 (hA : kJ A V) (hv : V 2 i) : kg (kHp J A V C R) (A 2 i) 1 = .ref (A 10 2) := kHp_get (f := 2) (j := 1) hA hv (show 1 < 4 by decide)
theorem ho_2_2 (hA : kJ A V) (hv : V 2 i) : kok (kHp J A V C R) (A 2 i) 2 2 := kHp_ok hA hv (show 2 < 4 by decide)
theorem hg_2_2 (hA : kJ A V) (hv : V 2 i) : kg (kHp J A V C R) (A 2 i) 2 = .ref (A 28 0) := kHp_get (f := 2) (j := 2) hA hv (show 2 < 4 by decide)
theorem ho_2_3 (hA : kJ A V) (hv : V 2 i) : kok (kHp J A V C R) (A 2 i) 2 3 := kHp_ok hA hv (show 3 < 4 by decide)
theorem hg_2_3 (hA : kJ A V) (hv : V 2 i) : kg (kHp J A V C R) (A 2 i) 3 = .ref (A 29 0) := kHp_get (f := 2) (j := 3) hA hv (show 3 < 4 by decide)
theorem ht_3 (hA : kJ A V) (hv : V 3 i) : ktg (kHp J A V C R) (A 3 i) 3 := kHp_tg hA hv
theorem ho_3_0 (hA : kJ A V) (hv : V 3 i) : kok (kHp J A V C R) (A 3 i) 3 0 := kHp_ok hA hv (show 0 < 5 by decide)
theorem hg_3_0 (hA : kJ A V) (hv : V 3 i) : kg (kHp J A V C R) (A 3 i) 0 = iv (C 3 i 0) := kHp_get (f := 3) (j := 0) hA hv (show 0 < 5 by decide)
theorem hp_3_0 (hA : kJ A V) (hv : V 3 i) : kup (kHp J A V C R) (A 3 i) 0 (iv x) = kHp J A V (kmu C 3 i 0 x) R := kHp_putc (f := 3) (j := 0) (x := x) hA hv rfl (show 0 < 5 by decide)
theorem ho_3_1 (hA : kJ A V) (hv : V 3 i) : kok (kHp J A V C R) (A 3 i) 3 1 := kHp_ok hA hv (show 1 < 5 by decide)
theorem hg_3_1 (hA : kJ A V) (hv : V 3 i) : kg (kHp J A V C R) (A 3 i) 1 = iv (C 3 i 1) := kHp_get (f := 3) (j := 1) hA hv (show 1 < 5 by decide)
theorem hp_3_1 (hA : kJ A V) (hv : V 3 i) : kup (kHp J A V C R) (A 3 i) 1 (iv x) = kHp J A V (kmu C 3 i 1 x) R := kHp_putc (f := 3) (j := 1) (x := x) hA hv rfl (show 1 < 5 by decide)
theorem ho_3_2 (hA : kJ A V) (hv : V 3 i) : kok (kHp J A V C R) (A 3 i) 3 2 := kHp_ok hA hv (show 2 < 5 by decide)
theorem hg_3_2 (hA : kJ A V) (hv : V 3 i) (h0 : 0 ≤ (C 3 i 2)) : kg (kHp J A V C R) (A 3 i) 2 = .ref (A 6 (C 3 i 2)) := by
  refine (kHp_get (f := 3) (j := 2) hA hv (show 2 < 5 by decide)).trans ?_
  show kre A (if (C 3 i 2) < 0 then none else some (6, (C 3 i 2))) = _
  rw [if_neg (by omega)]
  rfl
theorem hgn_3_2 (hA : kJ A V) (hv : V 3 i) (h0 : (C 3 i 2) < 0) : kg (kHp J A V C R) (A 3 i) 2 = .null := by
  refine (kHp_get (f := 3) (j := 2) hA hv (show 2 < 5 by decide)).trans ?_
  show kre A (if (C 3 i 2) < 0 then none else some (6, (C 3 i 2))) = _
  rw [if_pos h0]
  rfl
theorem hp_3_2 (hA : kJ A V) (hv : V 3 i) (h0 : 0 ≤ x) : kup (kHp J A V C R) (A 3 i) 2 (.ref (A 6 x)) = kHp J A V (kmu C 3 i 2 x) R := by
  have e : ke A 3 i 2 x = .ref (A 6 x) := by
    show kre A (if x < 0 then none else some (6, x)) = _
    rw [if_neg (by omega)]
    rfl
  rw [← e]
  exact kHp_putc (f := 3) (j := 2) (x := x) hA hv rfl (show 2 < 5 by decide)
theorem hpn_3_2 (hA : kJ A V) (hv : V 3 i) : kup (kHp J A V C R) (A 3 i) 2 .null = kHp J A V (kmu C 3 i 2 (-1)) R := kHp_putc (f := 3) (j := 2) (x := -1) hA hv rfl (show 2 < 5 by decide)
theorem ho_3_3 (hA : kJ A V) (hv : V 3 i) : kok (kHp J A V C R) (A 3 i) 3 3 := kHp_ok hA hv (show 3 < 5 by decide)
theorem hg_3_3 (hA : kJ A V) (hv : V 3 i) : kg (kHp J A V C R) (A 3 i) 3 = iv (C 3 i 3) := kHp_get (f := 3) (j := 3) hA hv (show 3 < 5 by decide)
theorem hp_3_3 (hA : kJ A V) (hv : V 3 i) : kup (kHp J A V C R) (A 3 i) 3 (iv x) = kHp J A V (kmu C 3 i 3 x) R := kHp_putc (f := 3) (j := 3) (x := x) hA hv rfl (show 3 < 5 by decide)
theorem ho_3_4 (hA : kJ A V) (hv : V 3 i) : kok (kHp J A V C R) (A 3 i) 3 4 := kHp_ok hA hv (show 4 < 5 by decide)
theorem hg_3_4 (hA : kJ A V) (hv : V 3 i) : kg (kHp J A V C R) (A 3 i) 4 = lv (C 3 i 4) := kHp_get (f := 3) (j := 4) hA hv (show 4 < 5 by decide)
theorem hp_3_4 (hA : kJ A V) (hv : V 3 i) : kup (kHp J A V C R) (A 3 i) 4 (lv x) = kHp J A V (kmu C 3 i 4 x) R := kHp_putc (f := 3) (j := 4) (x := x) hA hv rfl (show 4 < 5 by decide)
theorem ht_4 (hA : kJ A V) (hv : V 4 i) : ktg (kHp J A V C R) (A 4 i) 4 := kHp_tg hA hv
theorem ho_4_0 (hA : kJ A V) (hv : V 4 i) : kok (kHp J A V C R) (A 4 i) 4 0 := kHp_ok hA hv (show 0 < 10 by decide)
theorem hg_4_0 (hA : kJ A V) (hv : V 4 i) : kg (kHp J A V C R) (A 4 i) 0 = iv (C 4 i 0) := kHp_get (f := 4) (j := 0) hA hv (show 0 < 10 by decide)
theorem hp_4_0 (hA : kJ A V) (hv : V 4 i) : kup (kHp J A V C R) (A 4 i) 0 (iv x) = kHp J A V (kmu C 4 i 0 x) R := kHp_putc (f := 4) (j := 0) (x := x) hA hv rfl (show 0 < 10 by decide)
theorem ho_4_1 (hA : kJ A V) (hv : V 4 i) : kok (kHp J A V C R) (A 4 i) 4 1 := kHp_ok hA hv (show 1 < 10 by decide)
theorem hg_4_1 (hA : kJ A V) (hv : V 4 i) : kg (kHp J A V C R) (A 4 i) 1 = iv (C 4 i 1) := kHp_get (f := 4) (j := 1) hA hv (show 1 < 10 by decide)
theorem hp_4_1 (hA : kJ A V) (hv : V 4 i) : kup (kHp J A V C R) (A 4 i) 1 (iv x) = kHp J A V (kmu C 4 i 1 x) R := kHp_putc (f := 4) (j := 1) (x := x) hA hv rfl (show 1 < 10 by decide)
theorem ho_4_2 (hA : kJ A V) (hv : V 4 i) : kok (kHp J A V C R) (A 4 i) 4 2 := kHp_ok hA hv (show 2 < 10 by decide)
theorem hg_4_2 (hA : kJ A V) (hv : V 4 i) : kg (kHp J A V C R) (A 4 i) 2 = iv (C 4 i 2) := kHp_get (f := 4) (j := 2) hA hv (show 2 < 10 by decide)
theorem hp_4_2 (hA : kJ A V) (hv : V 4 i) : kup (kHp J A V C R) (A 4 i) 2 (iv x) = kHp J A V (kmu C 4 i 2 x) R := kHp_putc (f := 4) (j := 2) (x := x) hA hv rfl (show 2 < 10 by decide)
theorem ho_4_3 (hA : kJ A V) (hv : V 4 i) : kok (kHp J A V C R) (A 4 i) 4 3 := kHp_ok hA hv (show 3 < 10 by decide)
theorem hg_4_3 (hA : kJ A V) (hv : V 4 i) : kg (kHp J A V C R) (A 4 i) 3 = iv (C 4 i 3) := kHp_get (f := 4) (j := 3) hA hv (show 3 < 10 by decide)
theorem hp_4_3 (hA : kJ A V) (hv : V 4 i) : kup (kHp J A V C R) (A 4 i) 3 (iv x) = kHp J A V (kmu C 4 i 3 x) R := kHp_putc (f := 4) (j := 3) (x := x) hA hv rfl (show 3 < 10 by decide)
theorem ho_4_4 (hA : kJ A V) (hv : V 4 i) : kok (kHp J A V C R) (A 4 i) 4 4 := kHp_ok hA hv (show 4 < 10 by decide)
theorem hg_4_4 (hA : kJ A V) (hv : V 4 i) : kg (kHp J A V C R) (A 4 i) 4 = .ref (A 6 (100 + i)) := kHp_get (f := 4) (j := 4) hA hv (show 4 < 10 by decide)
theorem ho_4_5 (hA : kJ A V) (hv : V 4 i) : kok (kHp J A V C R) (A 4 i) 4 5 := kHp_ok hA hv (show 5 < 10 by decide)
theorem hg_4_5 (hA : kJ A V) (hv : V 4 i) : kg (kHp J A V C R) (A 4 i) 5 = .ref (A 23 i) := kHp_get (f := 4) (j := 5) hA hv (show 5 < 10 by decide)
theorem ho_4_6 (hA : kJ A V) (hv : V 4 i) : kok (kHp J A V C R) (A 4 i) 4 6 := kHp_ok hA hv (show 6 < 10 by decide)
theorem hg_4_6 (hA : kJ A V) (hv : V 4 i) : kg (kHp J A V C R) (A 4 i) 6 = .ref (A 24 i) := kHp_get (f := 4) (j := 6) hA hv (show 6 < 10 by decide)
theorem ho_4_7 (hA : kJ A V) (hv : V 4 i) : kok (kHp J A V C R) (A 4 i) 4 7 := kHp_ok hA hv (show 7 < 10 by decide)
theorem hg_4_7 (hA : kJ A V) (hv : V 4 i) : kg (kHp J A V C R) (A 4 i) 7 = iv (C 4 i 7) := kHp_get (f := 4) (j := 7) hA hv (show 7 < 10 by decide)
theorem hp_4_7 (hA : kJ A V) (hv : V 4 i) : kup (kHp J A V C R) (A 4 i) 7 (iv x) = kHp J A V (kmu C 4 i 7 x) R := kHp_putc (f := 4) (j := 7) (x := x) hA hv rfl (show 7 < 10 by decide)
theorem ho_4_8 (hA : kJ A V) (hv : V 4 i) : kok (kHp J A V C R) (A 4 i) 4 8 := kHp_ok hA hv (show 8 < 10 by decide)
theorem hg_4_8 (hA : kJ A V) (hv : V 4 i) : kg (kHp J A V C R) (A 4 i) 8 = iv (C 4 i 8) := kHp_get (f := 4) (j := 8) hA hv (show 8 < 10 by decide)
theorem hp_4_8 (hA : kJ A V) (hv : V 4 i) : kup (kHp J A V C R) (A 4 i) 8 (iv x) = kHp J A V (kmu C 4 i 8 x) R := kHp_putc (f := 4) (j := 8) (x := x) hA hv rfl (show 8 < 10 by decide)
theorem ho_4_9 (hA : kJ A V) (hv : V 4 i) : kok (kHp J A V C R) (A 4 i) 4 9 := kHp_ok hA hv (show 9 < 10 by decide)
theorem hg_4_9 (hA : kJ A V) (hv : V 4 i) : kg (kHp J A V C R) (A 4 i) 9 = iv (C 4 i 9) := kHp_get (f := 4) (j := 9) hA hv (show 9 < 10 by decide)
theorem hp_4_9 (hA : kJ A V) (hv : V 4 i) : kup (kHp J A V C R) (A 4 i) 9 (iv x) = kHp J A V (kmu C 4 i 9 x) R := kHp_putc (f := 4) (j := 9) (x := x) hA hv rfl (show 9 < 10 by decide)
theorem ht_5 (hA : kJ A V) (hv : V 5 i) : ktg (kHp J A V C R) (A 5 i) 5 := kHp_tg hA hv
theorem ho_5_0 (hA : kJ A V) (hv : V 5 i) : kok (kHp J A V C R) (A 5 i) 5 0 := kHp_ok hA hv (show 0 < 4 by decide)
theorem hg_5_0 (hA : kJ A V) (hv : V 5 i) : kg (kHp J A V C R) (A 5 i) 0 = .ref (A 31 0) := kHp_get (f := 5) (j := 0) hA hv (show 0 < 4 by decide)
theorem ho_5_1 (hA : kJ A V) (hv : V 5 i) : kok (kHp J A V C R) (A 5 i) 5 1 := kHp_ok hA hv (show 1 < 4 by decide)
theorem hg_5_1 (hA : kJ A V) (hv : V 5 i) : kg (kHp J A V C R) (A 5 i) 1 = iv (C 5 i 1) := kHp_get (f := 5) (j := 1) hA hv (show 1 < 4 by decide)
theorem hp_5_1 (hA : kJ A V) (hv : V 5 i) : kup (kHp J A V C R) (A 5 i) 1 (iv x) = kHp J A V (kmu C 5 i 1 x) R := kHp_putc (f := 5) (j := 1) (x := x) hA hv rfl (show 1 < 4 by decide)
theorem ho_5_2 (hA : kJ A V) (hv : V 5 i) : kok (kHp J A V C R) (A 5 i) 5 2 := kHp_ok hA hv (show 2 < 4 by decide)
theorem hg_5_2 (hA : kJ A V) (hv : V 5 i) : kg (kHp J A V C R) (A 5 i) 2 = iv (C 5 i 2) := kHp_get (f := 5) (j := 2) hA hv (show 2 < 4 by decide)
theorem hp_5_2 (hA : kJ A V) (hv : V 5 i) : kup (kHp J A V C R) (A 5 i) 2 (iv x) = kHp J A V (kmu C 5 i 2 x) R := kHp_putc (f := 5) (j := 2) (x := x) hA hv rfl (show 2 < 4 by decide)
theorem ho_5_3 (hA : kJ A V) (hv : V 5 i) : kok (kHp J A V C R) (A 5 i) 5 3 := kHp_ok hA hv (show 3 < 4 by decide)
theorem hg_5_3 (hA : kJ A V) (hv : V 5 i) : kg (kHp J A V C R) (A 5 i) 3 = iv (C 5 i 3) := kHp_get (f := 5) (j := 3) hA hv (show 3 < 4 by decide)
theorem hp_5_3 (hA : kJ A V) (hv : V 5 i) : kup (kHp J A V C R) (A 5 i) 3 (iv x) = kHp J A V (kmu C 5 i 3 x) R := kHp_putc (f := 5) (j := 3) (x := x) hA hv rfl (show 3 < 4 by decide)
theorem ht_6 (hA : kJ A V) (hv : V 6 i) : ktg (kHp J A V C R) (A 6 i) 6 := kHp_tg hA hv
theorem ho_6_0 (hA : kJ A V) (hv : V 6 i) : kok (kHp J A V C R) (A 6 i) 6 0 := kHp_ok hA hv (show 0 < 6 by decide)
theorem hg_6_0 (hA : kJ A V) (hv : V 6 i) : kg (kHp J A V C R) (A 6 i) 0 = iv (C 6 i 0) := kHp_get (f := 6) (j := 0) hA hv (show 0 < 6 by decide)
theorem hp_6_0 (hA : kJ A V) (hv : V 6 i) : kup (kHp J A V C R) (A 6 i) 0 (iv x) = kHp J A V (kmu C 6 i 0 x) R := kHp_putc (f := 6) (j := 0) (x := x) hA hv rfl (show 0 < 6 by decide)
theorem ho_6_1 (hA : kJ A V) (hv : V 6 i) : kok (kHp J A V C R) (A 6 i) 6 1 := kHp_ok hA hv (show 1 < 6 by decide)
theorem hg_6_1 (hA : kJ A V) (hv : V 6 i) (h0 : 0 ≤ (C 6 i 1)) : kg (kHp J A V C R) (A 6 i) 1 = .ref (A 6 (C 6 i 1)) := by
  refine (kHp_get (f := 6) (j := 1) hA hv (show 1 < 6 by decide)).trans ?_
  show kre A (if (C 6 i 1) < 0 then none else some (6, (C 6 i 1))) = _
  rw [if_neg (by omega)]
  rfl
theorem hgn_6_1 (hA : kJ A V) (hv : V 6 i) (h0 : (C 6 i 1) < 0) : kg (kHp J A V C R) (A 6 i) 1 = .null := by
  refine (kHp_get (f := 6) (j := 1) hA hv (show 1 < 6 by decide)).trans ?_
  show kre A (if (C 6 i 1) < 0 then none else some (6, (C 6 i 1))) = _
  rw [if_pos h0]
  rfl
theorem hp_6_1 (hA : kJ A V) (hv : V 6 i) (h0 : 0 ≤ x) : kup (kHp J A V C R) (A 6 i) 1 (.ref (A 6 x)) = kHp J A V (kmu C 6 i 1 x) R := by
  have e : ke A 6 i 1 x = .ref (A 6 x) := by
    show kre A (if x < 0 then none else some (6, x)) = _
    rw [if_neg (by omega)]
    rfl
  rw [← e]
  exact kHp_putc (f := 6) (j := 1) (x := x) hA hv rfl (show 1 < 6 by decide)
theorem hpn_6_1 (hA : kJ A V) (hv : V 6 i) : kup (kHp J A V C R) (A 6 i) 1 .null = kHp J A V (kmu C 6 i 1 (-1)) R := kHp_putc (f := 6) (j := 1) (x := -1) hA hv rfl (show 1 < 6 by decide)
theorem ho_6_2 (hA : kJ A V) (hv : V 6 i) : kok (kHp J A V C R) (A 6 i) 6 2 := kHp_ok hA hv (show 2 < 6 by decide)
theorem hg_6_2 (hA : kJ A V) (hv : V 6 i) : kg (kHp J A V C R) (A 6 i) 2 = .ref (A 20 i) := kHp_get (f := 6) (j := 2) hA hv (show 2 < 6 by decide)
theorem ho_6_3 (hA : kJ A V) (hv : V 6 i) : kok (kHp J A V C R) (A 6 i) 6 3 := kHp_ok hA hv (show 3 < 6 by decide)
theorem hg_6_3 (hA : kJ A V) (hv : V 6 i) : kg (kHp J A V C R) (A 6 i) 3 = .ref (A 21 i) := kHp_get (f := 6) (j := 3) hA hv (show 3 < 6 by decide)
theorem ho_6_4 (hA : kJ A V) (hv : V 6 i) : kok (kHp J A V C R) (A 6 i) 6 4 := kHp_ok hA hv (show 4 < 6 by decide)
theorem hg_6_4 (hA : kJ A V) (hv : V 6 i) : kg (kHp J A V C R) (A 6 i) 4 = .ref (A 22 i) := kHp_get (f := 6) (j := 4) hA hv (show 4 < 6 by decide)
theorem ho_6_5 (hA : kJ A V) (hv : V 6 i) : kok (kHp J A V C R) (A 6 i) 6 5 := kHp_ok hA hv (show 5 < 6 by decide)
theorem hg_6_5 (hA : kJ A V) (hv : V 6 i) : kg (kHp J A V C R) (A 6 i) 5 = iv (C 6 i 5) := kHp_get (f := 6) (j := 5) hA hv (show 5 < 6 by decide)
theorem hp_6_5 (hA : kJ A V) (hv : V 6 i) : kup (kHp J A V C R) (A 6 i) 5 (iv x) = kHp J A V (kmu C 6 i 5 x) R := kHp_putc (f := 6) (j := 5) (x := x) hA hv rfl (show 5 < 6 by decide)
theorem ht_7 (hA : kJ A V) (hv : V 7 i) : ktg (kHp J A V C R) (A 7 i) 7 := kHp_tg hA hv
theorem ho_7_0 (hA : kJ A V) (hv : V 7 i) : kok (kHp J A V C R) (A 7 i) 7 0 := kHp_ok hA hv (show 0 < 2 by decide)
theorem hg_7_0 (hA : kJ A V) (hv : V 7 i) : kg (kHp J A V C R) (A 7 i) 0 = .ref (A 27 0) := kHp_get (f := 7) (j := 0) hA hv (show 0 < 2 by decide)
theorem ho_7_1 (hA : kJ A V) (hv : V 7 i) : kok (kHp J A V C R) (A 7 i) 7 1 := kHp_ok hA hv (show 1 < 2 by decide)
theorem hg_7_1 (hA : kJ A V) (hv : V 7 i) : kg (kHp J A V C R) (A 7 i) 1 = iv (C 7 i 1) := kHp_get (f := 7) (j := 1) hA hv (show 1 < 2 by decide)
theorem hp_7_1 (hA : kJ A V) (hv : V 7 i) : kup (kHp J A V C R) (A 7 i) 1 (iv x) = kHp J A V (kmu C 7 i 1 x) R := kHp_putc (f := 7) (j := 1) (x := x) hA hv rfl (show 1 < 2 by decide)
theorem ht_8 (hA : kJ A V) (hv : V 8 i) : ktg (kHp J A V C R) (A 8 i) 8 := kHp_tg hA hv
theorem ho_8_0 (hA : kJ A V) (hv : V 8 i) : kok (kHp J A V C R) (A 8 i) 8 0 := kHp_ok hA hv (show 0 < 7 by decide)
theorem hg_8_0 (hA : kJ A V) (hv : V 8 i) : kg (kHp J A V C R) (A 8 i) 0 = iv (C 8 i 0) := kHp_get (f := 8) (j := 0) hA hv (show 0 < 7 by decide)
theorem hp_8_0 (hA : kJ A V) (hv : V 8 i) : kup (kHp J A V C R) (A 8 i) 0 (iv x) = kHp J A V (kmu C 8 i 0 x) R := kHp_putc (f := 8) (j := 0) (x := x) hA hv rfl (show 0 < 7 by decide)
theorem ho_8_1 (hA : kJ A V) (hv : V 8 i) : kok (kHp J A V C R) (A 8 i) 8 1 := kHp_ok hA hv (show 1 < 7 by decide)
theorem hg_8_1 (hA : kJ A V) (hv : V 8 i) : kg (kHp J A V C R) (A 8 i) 1 = iv (C 8 i 1) := kHp_get (f := 8) (j := 1) hA hv (show 1 < 7 by decide)
theorem hp_8_1 (hA : kJ A V) (hv : V 8 i) : kup (kHp J A V C R) (A 8 i) 1 (iv x) = kHp J A V (kmu C 8 i 1 x) R := kHp_putc (f := 8) (j := 1) (x := x) hA hv rfl (show 1 < 7 by decide)
theorem ho_8_2 (hA : kJ A V) (hv : V 8 i) : kok (kHp J A V C R) (A 8 i) 8 2 := kHp_ok hA hv (show 2 < 7 by decide)
theorem hg_8_2 (hA : kJ A V) (hv : V 8 i) (h0 : 0 ≤ (C 8 i 2)) : kg (kHp J A V C R) (A 8 i) 2 = .ref (A 4 (C 8 i 2)) := by
  refine (kHp_get (f := 8) (j := 2) hA hv (show 2 < 7 by decide)).trans ?_
  show kre A (if (C 8 i 2) < 0 then none else some (4, (C 8 i 2))) = _
  rw [if_neg (by omega)]
  rfl
theorem hgn_8_2 (hA : kJ A V) (hv : V 8 i) (h0 : (C 8 i 2) < 0) : kg (kHp J A V C R) (A 8 i) 2 = .null := by
  refine (kHp_get (f := 8) (j := 2) hA hv (show 2 < 7 by decide)).trans ?_
  show kre A (if (C 8 i 2) < 0 then none else some (4, (C 8 i 2))) = _
  rw [if_pos h0]
  rfl
theorem hp_8_2 (hA : kJ A V) (hv : V 8 i) (h0 : 0 ≤ x) : kup (kHp J A V C R) (A 8 i) 2 (.ref (A 4 x)) = kHp J A V (kmu C 8 i 2 x) R := by
  have e : ke A 8 i 2 x = .ref (A 4 x) := by
    show kre A (if x < 0 then none else some (4, x)) = _
    rw [if_neg (by omega)]
    rfl
  rw [← e]
  exact kHp_putc (f := 8) (j := 2) (x := x) hA hv rfl (show 2 < 7 by decide)
theorem hpn_8_2 (hA : kJ A V) (hv : V 8 i) : kup (kHp J A V C R) (A 8 i) 2 .null = kHp J A V (kmu C 8 i 2 (-1)) R := kHp_putc (f := 8) (j := 2) (x := -1) hA hv rfl (show 2 < 7 by decide)
theorem ho_8_3 (hA : kJ A V) (hv : V 8 i) : kok (kHp J A V C R) (A 8 i) 8 3 := kHp_ok hA hv (show 3 < 7 by decide)
theorem hg_8_3 (hA : kJ A V) (hv : V 8 i) : kg (kHp J A V C R) (A 8 i) 3 = iv (C 8 i 3) := kHp_get (f := 8) (j := 3) hA hv (show 3 < 7 by decide)
theorem hp_8_3 (hA : kJ A V) (hv : V 8 i) : kup (kHp J A V C R) (A 8 i) 3 (iv x) = kHp J A V (kmu C 8 i 3 x) R := kHp_putc (f := 8) (j := 3) (x := x) hA hv rfl (show 3 < 7 by decide)
theorem ho_8_4 (hA : kJ A V) (hv : V 8 i) : kok (kHp J A V C R) (A 8 i) 8 4 := kHp_ok hA hv (show 4 < 7 by decide)
theorem hg_8_4 (hA : kJ A V) (hv : V 8 i) (h0 : 0 ≤ (C 8 i 4)) : kg (kHp J A V C R) (A 8 i) 4 = .ref (A 4 (C 8 i 4)) := by
  refine (kHp_get (f := 8) (j := 4) hA hv (show 4 < 7 by decide)).trans ?_
  show kre A (if (C 8 i 4) < 0 then none else some (4, (C 8 i 4))) = _
  rw [if_neg (by omega)]
  rfl
theorem hgn_8_4 (hA : kJ A V) (hv : V 8 i) (h0 : (C 8 i 4) < 0) : kg (kHp J A V C R) (A 8 i) 4 = .null := by
  refine (kHp_get (f := 8) (j := 4) hA hv (show 4 < 7 by decide)).trans ?_
  show kre A (if (C 8 i 4) < 0 then none else some (4, (C 8 i 4))) = _
  rw [if_pos h0]
  rfl
theorem hp_8_4 (hA : kJ A V) (hv : V 8 i) (h0 : 0 ≤ x) : kup (kHp J A V C R) (A 8 i) 4 (.ref (A 4 x)) = kHp J A V (kmu C 8 i 4 x) R := by
  have e : ke A 8 i 4 x = .ref (A 4 x) := by
    show kre A (if x < 0 then none else some (4, x)) = _
    rw [if_neg (by omega)]
    rfl
  rw [← e]
  exact kHp_putc (f := 8) (j := 4) (x := x) hA hv rfl (show 4 < 7 by decide)
theorem hpn_8_4 (hA : kJ A V) (hv : V 8 i) : kup (kHp J A V C R) (A 8 i) 4 .null = kHp J A V (kmu C 8 i 4 (-1)) R := kHp_putc (f := 8) (j := 4) (x := -1) hA hv rfl (show 4 < 7 by decide)
theorem ho_8_5 (hA : kJ A V) (hv : V 8 i) : kok (kHp J A V C R) (A 8 i) 8 5 := kHp_ok hA hv (show 5 < 7 by decide)
theorem hg_8_5 (hA : kJ A V) (hv : V 8 i) : kg (kHp J A V C R) (A 8 i) 5 = iv (C 8 i 5) := kHp_get (f := 8) (j := 5) hA hv (show 5 < 7 by decide)
theorem hp_8_5 (hA : kJ A V) (hv : V 8 i) : kup (kHp J A V C R) (A 8 i) 5 (iv x) = kHp J A V (kmu C 8 i 5 x) R := kHp_putc (f := 8) (j := 5) (x := x) hA hv rfl (show 5 < 7 by decide)
theorem ho_8_6 (hA : kJ A V) (hv : V 8 i) : kok (kHp J A V C R) (A 8 i) 8 6 := kHp_ok hA hv (show 6 < 7 by decide)
theorem hg_8_6 (hA : kJ A V) (hv : V 8 i) (h0 : 0 ≤ (C 8 i 6)) : kg (kHp J A V C R) (A 8 i) 6 = .ref (A 8 (C 8 i 6)) := by
  refine (kHp_get (f := 8) (j := 6) hA hv (show 6 < 7 by decide)).trans ?_
  show kre A (if (C 8 i 6) < 0 then none else some (8, (C 8 i 6))) = _
  rw [if_neg (by omega)]
  rfl
theorem hgn_8_6 (hA : kJ A V) (hv : V 8 i) (h0 : (C 8 i 6) < 0) : kg (kHp J A V C R) (A 8 i) 6 = .null := by
  refine (kHp_get (f := 8) (j := 6) hA hv (show 6 < 7 by decide)).trans ?_
  show kre A (if (C 8 i 6) < 0 then none else some (8, (C 8 i 6))) = _
  rw [if_pos h0]
  rfl
theorem hp_8_6 (hA : kJ A V) (hv : V 8 i) (h0 : 0 ≤ x) : kup (kHp J A V C R) (A 8 i) 6 (.ref (A 8 x)) = kHp J A V (kmu C 8 i 6 x) R := by
  have e : ke A 8 i 6 x = .ref (A 8 x) := by
    show kre A (if x < 0 then none else some (8, x)) = _
    rw [if_neg (by omega)]
    rfl
  rw [← e]
  exact kHp_putc (f := 8) (j := 6) (x := x) hA hv rfl (show 6 < 7 by decide)
theorem hpn_8_6 (hA : kJ A V) (hv : V 8 i) : kup (kHp J A V C R) (A 8 i) 6 .null = kHp J A V (kmu C 8 i 6 (-1)) R := kHp_putc (f := 8) (j := 6) (x := -1) hA hv rfl (show 6 < 7 by decide)
theorem ht_9 (hA : kJ A V) (hv : V 9 i) : ktg (kHp J A V C R) (A 9 i) 9 := kHp_tg hA hv
theorem ho_9_0 (hA : kJ A V) (hv : V 9 i) : kok (kHp J A V C R) (A 9 i) 9 0 := kHp_ok hA hv (show 0 < 43 by decide)
theorem hg_9_0 (hA : kJ A V) (hv : V 9 i) : kg (kHp J A V C R) (A 9 i) 0 = iv (R 9 i 0) := kHp_get (f := 9) (j := 0) hA hv (show 0 < 43 by decide)
theorem hp_9_0 (hA : kJ A V) (hv : V 9 i) : kup (kHp J A V C R) (A 9 i) 0 (iv x) = kHp J A V C (kmu R 9 i 0 x) := kHp_putr (f := 9) (j := 0) (x := x) hA hv rfl (show 0 < 43 by decide)
theorem ho_9_1 (hA : kJ A V) (hv : V 9 i) : kok (kHp J A V C R) (A 9 i) 9 1 := kHp_ok hA hv (show 1 < 43 by decide)
theorem hg_9_1 (hA : kJ A V) (hv : V 9 i) : kg (kHp J A V C R) (A 9 i) 1 = iv (R 9 i 1) := kHp_get (f := 9) (j := 1) hA hv (show 1 < 43 by decide)
theorem hp_9_1 (hA : kJ A V) (hv : V 9 i) : kup (kHp J A V C R) (A 9 i) 1 (iv x) = kHp J A V C (kmu R 9 i 1 x) := kHp_putr (f := 9) (j := 1) (x := x) hA hv rfl (show 1 < 43 by decide)
theorem ho_9_2 (hA : kJ A V) (hv : V 9 i) : kok (kHp J A V C R) (A 9 i) 9 2 := kHp_ok hA hv (show 2 < 43 by decide)
theorem hg_9_2 (hA : kJ A V) (hv : V 9 i) : kg (kHp J A V C R) (A 9 i) 2 = .ref (A 52 0) := kHp_get (f := 9) (j := 2) hA hv (show 2 < 43 by decide)
theorem ho_9_3 (hA : kJ A V) (hv : V 9 i) : kok (kHp J A V C R) (A 9 i) 9 3 := kHp_ok hA hv (show 3 < 43 by decide)
theorem hg_9_3 (hA : kJ A V) (hv : V 9 i) : kg (kHp J A V C R) (A 9 i) 3 = iv (R 9 i 3) := kHp_get (f := 9) (j := 3) hA hv (show 3 < 43 by decide)
theorem hp_9_3 (hA : kJ A V) (hv : V 9 i) : kup (kHp J A V C R) (A 9 i) 3 (iv x) = kHp J A V C (kmu R 9 i 3 x) := kHp_putr (f := 9) (j := 3) (x := x) hA hv rfl (show 3 < 43 by decide)
theorem ho_9_4 (hA : kJ A V) (hv : V 9 i) : kok (kHp J A V C R) (A 9 i) 9 4 := kHp_ok hA hv (show 4 < 43 by decide)
theorem hg_9_4 (hA : kJ A V) (hv : V 9 i) : kg (kHp J A V C R) (A 9 i) 4 = .ref (A 54 0) := kHp_get (f := 9) (j := 4) hA hv (show 4 < 43 by decide)
theorem ho_9_5 (hA : kJ A V) (hv : V 9 i) : kok (kHp J A V C R) (A 9 i) 9 5 := kHp_ok hA hv (show 5 < 43 by decide)
theorem hg_9_5 (hA : kJ A V) (hv : V 9 i) : kg (kHp J A V C R) (A 9 i) 5 = .ref (A 55 0) := kHp_get (f := 9) (j := 5) hA hv (show 5 < 43 by decide)
theorem ho_9_6 (hA : kJ A V) (hv : V 9 i) : kok (kHp J A V C R) (A 9 i) 9 6 := kHp_ok hA hv (show 6 < 43 by decide)
theorem hg_9_6 (hA : kJ A V) (hv : V 9 i) : kg (kHp J A V C R) (A 9 i) 6 = .ref (A 56 0) := kHp_get (f := 9) (j := 6) hA hv (show 6 < 43 by decide)
theorem ho_9_7 (hA : kJ A V) (hv : V 9 i) : kok (kHp J A V C R) (A 9 i) 9 7 := kHp_ok hA hv (show 7 < 43 by decide)
theorem hg_9_7 (hA : kJ A V) (hv : V 9 i) : kg (kHp J A V C R) (A 9 i) 7 = iv (R 9 i 7) := kHp_get (f := 9) (j := 7) hA hv (show 7 < 43 by decide)
theorem hp_9_7 (hA : kJ A V) (hv : V 9 i) : kup (kHp J A V C R) (A 9 i) 7 (iv x) = kHp J A V C (kmu R 9 i 7 x) := kHp_putr (f := 9) (j := 7) (x := x) hA hv rfl (show 7 < 43 by decide)
theorem ho_9_8 (hA : kJ A V) (hv : V 9 i) : kok (kHp J A V C R) (A 9 i) 9 8 := kHp_ok hA hv (show 8 < 43 by decide)
theorem hg_9_8 (hA : kJ A V) (hv : V 9 i) : kg (kHp J A V C R) (A 9 i) 8 = .ref (A 58 0) := kHp_get (f := 9) (j := 8) hA hv (show 8 < 43 by decide)
theorem ho_9_9 (hA : kJ A V) (hv : V 9 i) : kok (kHp J A V C R) (A 9 i) 9 9 := kHp_ok hA hv (show 9 < 43 by decide)
theorem hg_9_9 (hA : kJ A V) (hv : V 9 i) : kg (kHp J A V C R) (A 9 i) 9 = .ref (A 59 0) := kHp_get (f := 9) (j := 9) hA hv (show 9 < 43 by decide)
theorem ho_9_10 (hA : kJ A V) (hv : V 9 i) : kok (kHp J A V C R) (A 9 i) 9 10 := kHp_ok hA hv (show 10 < 43 by decide)
theorem hg_9_10 (hA : kJ A V) (hv : V 9 i) : kg (kHp J A V C R) (A 9 i) 10 = .ref (A 60 0) := kHp_get (f := 9) (j := 10) hA hv (show 10 < 43 by decide)
theorem ho_9_11 (hA : kJ A V) (hv : V 9 i) : kok (kHp J A V C R) (A 9 i) 9 11 := kHp_ok hA hv (show 11 < 43 by decide)
theorem hg_9_11 (hA : kJ A V) (hv : V 9 i) : kg (kHp J A V C R) (A 9 i) 11 = .ref (A 61 0) := kHp_get (f := 9) (j := 11) hA hv (show 11 < 43 by decide)
theorem ho_9_12 (hA : kJ A V) (hv : V 9 i) : kok (kHp J A V C R) (A 9 i) 9 12 := kHp_ok hA hv (show 12 < 43 by decide)
theorem hg_9_12 (hA : kJ A V) (hv : V 9 i) : kg (kHp J A V C R) (A 9 i) 12 = .ref (A 62 0) := kHp_get (f := 9) (j := 12) hA hv (show 12 < 43 by decide)
theorem ho_9_13 (hA : kJ A V) (hv : V 9 i) : kok (kHp J A V C R) (A 9 i) 9 13 := kHp_ok hA hv (show 13 < 43 by decide)
theorem hg_9_13 (hA : kJ A V) (hv : V 9 i) : kg (kHp J A V C R) (A 9 i) 13 = .ref (A 63 0) := kHp_get (f := 9) (j := 13) hA hv (show 13 < 43 by decide)
theorem ho_9_14 (hA : kJ A V) (hv : V 9 i) : kok (kHp J A V C R) (A 9 i) 9 14 := kHp_ok hA hv (show 14 < 43 by decide)
theorem hg_9_14 (hA : kJ A V) (hv : V 9 i) : kg (kHp J A V C R) (A 9 i) 14 = .ref (A 64 0) := kHp_get (f := 9) (j := 14) hA hv (show 14 < 43 by decide)
theorem ho_9_15 (hA : kJ A V) (hv : V 9 i) : kok (kHp J A V C R) (A 9 i) 9 15 := kHp_ok hA hv (show 15 < 43 by decide)
theorem hg_9_15 (hA : kJ A V) (hv : V 9 i) : kg (kHp J A V C R) (A 9 i) 15 = iv (R 9 i 15) := kHp_get (f := 9) (j := 15) hA hv (show 15 < 43 by decide)
theorem hp_9_15 (hA : kJ A V) (hv : V 9 i) : kup (kHp J A V C R) (A 9 i) 15 (iv x) = kHp J A V C (kmu R 9 i 15 x) := kHp_putr (f := 9) (j := 15) (x := x) hA hv rfl (show 15 < 43 by decide)
theorem ho_9_16 (hA : kJ A V) (hv : V 9 i) : kok (kHp J A V C R) (A 9 i) 9 16 := kHp_ok hA hv (show 16 < 43 by decide)
theorem hg_9_16 (hA : kJ A V) (hv : V 9 i) : kg (kHp J A V C R) (A 9 i) 16 = .ref (A 66 0) := kHp_get (f := 9) (j := 16) hA hv (show 16 < 43 by decide)
theorem ho_9_17 (hA : kJ A V) (hv : V 9 i) : kok (kHp J A V C R) (A 9 i) 9 17 := kHp_ok hA hv (show 17 < 43 by decide)
theorem hg_9_17 (hA : kJ A V) (hv : V 9 i) : kg (kHp J A V C R) (A 9 i) 17 = .ref (A 67 0) := kHp_get (f := 9) (j := 17) hA hv (show 17 < 43 by decide)
theorem ho_9_18 (hA : kJ A V) (hv : V 9 i) : kok (kHp J A V C R) (A 9 i) 9 18 := kHp_ok hA hv (show 18 < 43 by decide)
theorem hg_9_18 (hA : kJ A V) (hv : V 9 i) : kg (kHp J A V C R) (A 9 i) 18 = .ref (A 68 0) := kHp_get (f := 9) (j := 18) hA hv (show 18 < 43 by decide)
theorem ho_9_19 (hA : kJ A V) (hv : V 9 i) : kok (kHp J A V C R) (A 9 i) 9 19 := kHp_ok hA hv (show 19 < 43 by decide)
theorem hg_9_19 (hA : kJ A V) (hv : V 9 i) : kg (kHp J A V C R) (A 9 i) 19 = .ref (A 69 0) := kHp_get (f := 9) (j := 19) hA hv (show 19 < 43 by decide)
theorem ho_9_20 (hA : kJ A V) (hv : V 9 i) : kok (kHp J A V C R) (A 9 i) 9 20 := kHp_ok hA hv (show 20 < 43 by decide)
theorem hg_9_20 (hA : kJ A V) (hv : V 9 i) : kg (kHp J A V C R) (A 9 i) 20 = .ref (A 70 0) := kHp_get (f := 9) (j := 20) hA hv (show 20 < 43 by decide)
theorem ho_9_21 (hA : kJ A V) (hv : V 9 i) : kok (kHp J A V C R) (A 9 i) 9 21 := kHp_ok hA hv (show 21 < 43 by decide)
theorem hg_9_21 (hA : kJ A V) (hv : V 9 i) : kg (kHp J A V C R) (A 9 i) 21 = .ref (A 71 0) := kHp_get (f := 9) (j := 21) hA hv (show 21 < 43 by decide)
theorem ho_9_22 (hA : kJ A V) (hv : V 9 i) : kok (kHp J A V C R) (A 9 i) 9 22 := kHp_ok hA hv (show 22 < 43 by decide)
theorem hg_9_22 (hA : kJ A V) (hv : V 9 i) : kg (kHp J A V C R) (A 9 i) 22 = .ref (A 72 0) := kHp_get (f := 9) (j := 22) hA hv (show 22 < 43 by decide)
theorem ho_9_23 (hA : kJ A V) (hv : V 9 i) : kok (kHp J A V C R) (A 9 i) 9 23 := kHp_ok hA hv (show 23 < 43 by decide)
theorem hg_9_23 (hA : kJ A V) (hv : V 9 i) : kg (kHp J A V C R) (A 9 i) 23 = .ref (A 73 0) := kHp_get (f := 9) (j := 23) hA hv (show 23 < 43 by decide)
theorem ho_9_24 (hA : kJ A V) (hv : V 9 i) : kok (kHp J A V C R) (A 9 i) 9 24 := kHp_ok hA hv (show 24 < 43 by decide)
theorem hg_9_24 (hA : kJ A V) (hv : V 9 i) : kg (kHp J A V C R) (A 9 i) 24 = .ref (A 74 0) := kHp_get (f := 9) (j := 24) hA hv (show 24 < 43 by decide)
theorem ho_9_25 (hA : kJ A V) (hv : V 9 i) : kok (kHp J A V C R) (A 9 i) 9 25 := kHp_ok hA hv (show 25 < 43 by decide)
theorem hg_9_25 (hA : kJ A V) (hv : V 9 i) : kg (kHp J A V C R) (A 9 i) 25 = .ref (A 75 0) := kHp_get (f := 9) (j := 25) hA hv (show 25 < 43 by decide)
theorem ho_9_26 (hA : kJ A V) (hv : V 9 i) : kok (kHp J A V C R) (A 9 i) 9 26 := kHp_ok hA hv (show 26 < 43 by decide)
theorem hg_9_26 (hA : kJ A V) (hv : V 9 i) : kg (kHp J A V C R) (A 9 i) 26 = iv (R 9 i 26) := kHp_get (f := 9) (j := 26) hA hv (show 26 < 43 by decide)
theorem hp_9_26 (hA : kJ A V) (hv : V 9 i) : kup (kHp J A V C R) (A 9 i) 26 (iv x) = kHp J A V C (kmu R 9 i 26 x) := kHp_putr (f := 9) (j := 26) (x := x) hA hv rfl (show 26 < 43 by decide)
theorem ho_9_27 (hA : kJ A V) (hv : V 9 i) : kok (kHp J A V C R) (A 9 i) 9 27 := kHp_ok hA hv (show 27 < 43 by decide)
theorem hg_9_27 (hA : kJ A V) (hv : V 9 i) : kg (kHp J A V C R) (A 9 i) 27 = .ref (A 77 0) := kHp_get (f := 9) (j := 27) hA hv (show 27 < 43 by decide)
theorem ho_9_28 (hA : kJ A V) (hv : V 9 i) : kok (kHp J A V C R) (A 9 i) 9 28 := kHp_ok hA hv (show 28 < 43 by decide)
theorem hg_9_28 (hA : kJ A V) (hv : V 9 i) : kg (kHp J A V C R) (A 9 i) 28 = .ref (A 78 0) := kHp_get (f := 9) (j := 28) hA hv (show 28 < 43 by decide)
theorem ho_9_29 (hA : kJ A V) (hv : V 9 i) : kok (kHp J A V C R) (A 9 i) 9 29 := kHp_ok hA hv (show 29 < 43 by decide)
theorem hg_9_29 (hA : kJ A V) (hv : V 9 i) : kg (kHp J A V C R) (A 9 i) 29 = .ref (A 79 0) := kHp_get (f := 9) (j := 29) hA hv (show 29 < 43 by decide)
theorem ho_9_30 (hA : kJ A V) (hv : V 9 i) : kok (kHp J A V C R) (A 9 i) 9 30 := kHp_ok hA hv (show 30 < 43 by decide)
theorem hg_9_30 (hA : kJ A V) (hv : V 9 i) : kg (kHp J A V C R) (A 9 i) 30 = .ref (A 80 0) := kHp_get (f := 9) (j := 30) hA hv (show 30 < 43 by decide)
theorem ho_9_31 (hA : kJ A V) (hv : V 9 i) : kok (kHp J A V C R) (A 9 i) 9 31 := kHp_ok hA hv (show 31 < 43 by decide)
theorem hg_9_31 (hA : kJ A V) (hv : V 9 i) : kg (kHp J A V C R) (A 9 i) 31 = .ref (A 81 0) := kHp_get (f := 9) (j := 31) hA hv (show 31 < 43 by decide)
theorem ho_9_32 (hA : kJ A V) (hv : V 9 i) : kok (kHp J A V C R) (A 9 i) 9 32 := kHp_ok hA hv (show 32 < 43 by decide)
theorem hg_9_32 (hA : kJ A V) (hv : V 9 i) : kg (kHp J A V C R) (A 9 i) 32 = iv (R 9 i 32) := kHp_get (f := 9) (j := 32) hA hv (show 32 < 43 by decide)
theorem hp_9_32 (hA : kJ A V) (hv : V 9 i) : kup (kHp J A V C R) (A 9 i) 32 (iv x) = kHp J A V C (kmu R 9 i 32 x) := kHp_putr (f := 9) (j := 32) (x := x) hA hv rfl (show 32 < 43 by decide)
theorem ho_9_33 (hA : kJ A V) (hv : V 9 i) : kok (kHp J A V C R) (A 9 i) 9 33 := kHp_ok hA hv (show 33 < 43 by decide)
theorem hg_9_33 (hA : kJ A V) (hv : V 9 i) : kg (kHp J A V C R) (A 9 i) 33 = .ref (A 83 0) := kHp_get (f := 9) (j := 33) hA hv (show 33 < 43 by decide)
theorem ho_9_34 (hA : kJ A V) (hv : V 9 i) : kok (kHp J A V C R) (A 9 i) 9 34 := kHp_ok hA hv (show 34 < 43 by decide)
theorem hg_9_34 (hA : kJ A V) (hv : V 9 i) : kg (kHp J A V C R) (A 9 i) 34 = .ref (A 84 0) := kHp_get (f := 9) (j := 34) hA hv (show 34 < 43 by decide)
theorem ho_9_35 (hA : kJ A V) (hv : V 9 i) : kok (kHp J A V C R) (A 9 i) 9 35 := kHp_ok hA hv (show 35 < 43 by decide)
theorem hg_9_35 (hA : kJ A V) (hv : V 9 i) : kg (kHp J A V C R) (A 9 i) 35 = .ref (A 85 0) := kHp_get (f := 9) (j := 35) hA hv (show 35 < 43 by decide)
theorem ho_9_36 (hA : kJ A V) (hv : V 9 i) : kok (kHp J A V C R) (A 9 i) 9 36 := kHp_ok hA hv (show 36 < 43 by decide)
theorem hg_9_36 (hA : kJ A V) (hv : V 9 i) : kg (kHp J A V C R) (A 9 i) 36 = iv (R 9 i 36) := kHp_get (f := 9) (j := 36) hA hv (show 36 < 43 by decide)
theorem hp_9_36 (hA : kJ A V) (hv : V 9 i) : kup (kHp J A V C R) (A 9 i) 36 (iv x) = kHp J A V C (kmu R 9 i 36 x) := kHp_putr (f := 9) (j := 36) (x := x) hA hv rfl (show 36 < 43 by decide)
theorem ho_9_37 (hA : kJ A V) (hv : V 9 i) : kok (kHp J A V C R) (A 9 i) 9 37 := kHp_ok hA hv (show 37 < 43 by decide)
theorem hg_9_37 (hA : kJ A V) (hv : V 9 i) : kg (kHp J A V C R) (A 9 i) 37 = .ref (A 87 0) := kHp_get (f := 9) (j := 37) hA hv (show 37 < 43 by decide)
theorem ho_9_38 (hA : kJ A V) (hv : V 9 i) : kok (kHp J A V C R) (A 9 i) 9 38 := kHp_ok hA hv (show 38 < 43 by decide)
theorem hg_9_38 (hA : kJ A V) (hv : V 9 i) : kg (kHp J A V C R) (A 9 i) 38 = .ref (A 88 0) := kHp_get (f := 9) (j := 38) hA hv (show 38 < 43 by decide)
theorem ho_9_39 (hA : kJ A V) (hv : V 9 i) : kok (kHp J A V C R) (A 9 i) 9 39 := kHp_ok hA hv (show 39 < 43 by decide)
theorem hg_9_39 (hA : kJ A V) (hv : V 9 i) : kg (kHp J A V C R) (A 9 i) 39 = iv (R 9 i 39) := kHp_get (f := 9) (j := 39) hA hv (show 39 < 43 by decide)
theorem hp_9_39 (hA : kJ A V) (hv : V 9 i) : kup (kHp J A V C R) (A 9 i) 39 (iv x) = kHp J A V C (kmu R 9 i 39 x) := kHp_putr (f := 9) (j := 39) (x := x) hA hv rfl (show 39 < 43 by decide)
theorem ho_9_40 (hA : kJ A V) (hv : V 9 i) : kok (kHp J A V C R) (A 9 i) 9 40 := kHp_ok hA hv (show 40 < 43 by decide)
theorem hg_9_40 (hA : kJ A V) (hv : V 9 i) : kg (kHp J A V C R) (A 9 i) 40 = iv (R 9 i 40) := kHp_get (f := 9) (j := 40) hA hv (show 40 < 43 by decide)
theorem hp_9_40 (hA : kJ A V) (hv : V 9 i) : kup (kHp J A V C R) (A 9 i) 40 (iv x) = kHp J A V C (kmu R 9 i 40 x) := kHp_putr (f := 9) (j := 40) (x := x) hA hv rfl (show 40 < 43 by decide)
theorem ho_9_41 (hA : kJ A V) (hv : V 9 i) : kok (kHp J A V C R) (A 9 i) 9 41 := kHp_ok hA hv (show 41 < 43 by decide)
theorem hg_9_41 (hA : kJ A V) (hv : V 9 i) : kg (kHp J A V C R) (A 9 i) 41 = iv (R 9 i 41) := kHp_get (f := 9) (j := 41) hA hv (show 41 < 43 by decide)
theorem hp_9_41 (hA : kJ A V) (hv : V 9 i) : kup (kHp J A V C R) (A 9 i) 41 (iv x) = kHp J A V C (kmu R 9 i 41 x) := kHp_putr (f := 9) (j := 41) (x := x) hA hv rfl (show 41 < 43 by decide)
theorem ho_9_42 (hA : kJ A V) (hv : V 9 i) : kok (kHp J A V C R) (A 9 i) 9 42 := kHp_ok hA hv (show 42 < 43 by decide)
theorem hg_9_42 (hA : kJ A V) (hv : V 9 i) : kg (kHp J A V C R) (A 9 i) 42 = iv (R 9 i 42) := kHp_get (f := 9) (j := 42) hA hv (show 42 < 43 by decide)
theorem hp_9_42 (hA : kJ A V) (hv : V 9 i) : kup (kHp J A V C R) (A 9 i) 42 (iv x) = kHp J A V C (kmu R 9 i 42 x) := kHp_putr (f := 9) (j := 42) (x := x) hA hv rfl (show 42 < 43 by decide)
theorem ht_10 (hA : kJ A V) (hv : V 10 i) : ktg (kHp J A V C R) (A 10 i) 10 := kHp_tg hA hv
theorem ho_10_0 (hA : kJ A V) (hv : V 10 i) : kok (kHp J A V C R) (A 10 i) 10 0 := kHp_ok hA hv (show 0 < 3 by decide)
theorem hg_10_0 (hA : kJ A V) (hv : V 10 i) (h0 : (C 10 i 0) % 1000 ≠ 0) : kg (kHp J A V C R) (A 10 i) 0 = .ref (A 33 (C 10 i 0)) := by
  refine (kHp_get (f := 10) (j := 0) hA hv (show 0 < 3 by decide)).trans ?_
  show kre A (if (C 10 i 0) % 1000 = 0 then some (34, 0) else some (33, (C 10 i 0))) = _
  rw [if_neg h0]
  rfl
theorem hgn_10_0 (hA : kJ A V) (hv : V 10 i) (h0 : (C 10 i 0) % 1000 = 0) : kg (kHp J A V C R) (A 10 i) 0 = .ref (A 34 0) := by
  refine (kHp_get (f := 10) (j := 0) hA hv (show 0 < 3 by decide)).trans ?_
  show kre A (if (C 10 i 0) % 1000 = 0 then some (34, 0) else some (33, (C 10 i 0))) = _
  rw [if_pos h0]
  rfl
theorem hp_10_0 (hA : kJ A V) (hv : V 10 i) (h0 : x % 1000 ≠ 0) : kup (kHp J A V C R) (A 10 i) 0 (.ref (A 33 x)) = kHp J A V (kmu C 10 i 0 x) R := by
  have e : ke A 10 i 0 x = .ref (A 33 x) := by
    show kre A (if x % 1000 = 0 then some (34, 0) else some (33, x)) = _
    rw [if_neg h0]
    rfl
  rw [← e]
  exact kHp_putc (f := 10) (j := 0) (x := x) hA hv rfl (show 0 < 3 by decide)
theorem ho_10_1 (hA : kJ A V) (hv : V 10 i) : kok (kHp J A V C R) (A 10 i) 10 1 := kHp_ok hA hv (show 1 < 3 by decide)
theorem hg_10_1 (hA : kJ A V) (hv : V 10 i) : kg (kHp J A V C R) (A 10 i) 1 = iv (C 10 i 1) := kHp_get (f := 10) (j := 1) hA hv (show 1 < 3 by decide)
theorem hp_10_1 (hA : kJ A V) (hv : V 10 i) : kup (kHp J A V C R) (A 10 i) 1 (iv x) = kHp J A V (kmu C 10 i 1 x) R := kHp_putc (f := 10) (j := 1) (x := x) hA hv rfl (show 1 < 3 by decide)
theorem ho_10_2 (hA : kJ A V) (hv : V 10 i) : kok (kHp J A V C R) (A 10 i) 10 2 := kHp_ok hA hv (show 2 < 3 by decide)
theorem hg_10_2 (hA : kJ A V) (hv : V 10 i) : kg (kHp J A V C R) (A 10 i) 2 = iv (C 10 i 2) := kHp_get (f := 10) (j := 2) hA hv (show 2 < 3 by decide)
theorem hp_10_2 (hA : kJ A V) (hv : V 10 i) : kup (kHp J A V C R) (A 10 i) 2 (iv x) = kHp J A V (kmu C 10 i 2 x) R := kHp_putc (f := 10) (j := 2) (x := x) hA hv rfl (show 2 < 3 by decide)
theorem hoa_20 (hA : kJ A V) (hv : V 20 i) (h0 : 0 ≤ y) (h1 : y < 5) : kok (kHp J A V C R) (A 20 i) 1000 y.toNat := kHp_ok hA hv (show y.toNat < 5 by omega)
theorem hga_20 (hA : kJ A V) (hv : V 20 i) (h0 : 0 ≤ y) (h1 : y < 5) : kg (kHp J A V C R) (A 20 i) y.toNat = iv (C 20 i y) := kHp_geta (f := 20) hA hv h0 (show y.toNat < 5 by omega)
theorem hpa_20 (hA : kJ A V) (hv : V 20 i) (h0 : 0 ≤ y) (h1 : y < 5) : kup (kHp J A V C R) (A 20 i) y.toNat (iv x) = kHp J A V (kmu C 20 i y x) R := kHp_putac (f := 20) hA hv rfl h0 (show y.toNat < 5 by omega)
theorem hl_20 (hA : kJ A V) (hv : V 20 i) : kln (kHp J A V C R) (A 20 i) = 5 := kHp_ln hA hv
theorem hoa_21 (hA : kJ A V) (hv : V 21 i) (h0 : 0 ≤ y) (h1 : y < 5) : kok (kHp J A V C R) (A 21 i) 1000 y.toNat := kHp_ok hA hv (show y.toNat < 5 by omega)
theorem hga_21 (hA : kJ A V) (hv : V 21 i) (h0 : 0 ≤ y) (h1 : y < 5) : kg (kHp J A V C R) (A 21 i) y.toNat = iv (C 21 i y) := kHp_geta (f := 21) hA hv h0 (show y.toNat < 5 by omega)
theorem hpa_21 (hA : kJ A V) (hv : V 21 i) (h0 : 0 ≤ y) (h1 : y < 5) : kup (kHp J A V C R) (A 21 i) y.toNat (iv x) = kHp J A V (kmu C 21 i y x) R := kHp_putac (f := 21) hA hv rfl h0 (show y.toNat < 5 by omega)
theorem hl_21 (hA : kJ A V) (hv : V 21 i) : kln (kHp J A V C R) (A 21 i) = 5 := kHp_ln hA hv
theorem hoa_22 (hA : kJ A V) (hv : V 22 i) (h0 : 0 ≤ y) (h1 : y < 5) : kok (kHp J A V C R) (A 22 i) 1000 y.toNat := kHp_ok hA hv (show y.toNat < 5 by omega)
theorem hga_22 (hA : kJ A V) (hv : V 22 i) (h0 : 0 ≤ y) (h1 : y < 5) : kg (kHp J A V C R) (A 22 i) y.toNat = iv (C 22 i y) := kHp_geta (f := 22) hA hv h0 (show y.toNat < 5 by omega)
theorem hpa_22 (hA : kJ A V) (hv : V 22 i) (h0 : 0 ≤ y) (h1 : y < 5) : kup (kHp J A V C R) (A 22 i) y.toNat (iv x) = kHp J A V (kmu C 22 i y x) R := kHp_putac (f := 22) hA hv rfl h0 (show y.toNat < 5 by omega)
theorem hl_22 (hA : kJ A V) (hv : V 22 i) : kln (kHp J A V C R) (A 22 i) = 5 := kHp_ln hA hv
theorem hoa_23 (hA : kJ A V) (hv : V 23 i) (h0 : 0 ≤ y) (h1 : y < 5) : kok (kHp J A V C R) (A 23 i) 1000 y.toNat := kHp_ok hA hv (show y.toNat < 5 by omega)
theorem hga_23 (hA : kJ A V) (hv : V 23 i) (h0 : 0 ≤ y) (h1 : y < 5) : kg (kHp J A V C R) (A 23 i) y.toNat = iv (C 23 i y) := kHp_geta (f := 23) hA hv h0 (show y.toNat < 5 by omega)
theorem hpa_23 (hA : kJ A V) (hv : V 23 i) (h0 : 0 ≤ y) (h1 : y < 5) : kup (kHp J A V C R) (A 23 i) y.toNat (iv x) = kHp J A V (kmu C 23 i y x) R := kHp_putac (f := 23) hA hv rfl h0 (show y.toNat < 5 by omega)
theorem hl_23 (hA : kJ A V) (hv : V 23 i) : kln (kHp J A V C R) (A 23 i) = 5 := kHp_ln hA hv
theorem hoa_24 (hA : kJ A V) (hv : V 24 i) (h0 : 0 ≤ y) (h1 : y < 5) : kok (kHp J A V C R) (A 24 i) 1000 y.toNat := kHp_ok hA hv (show y.toNat < 5 by omega)
theorem hga_24 (hA : kJ A V) (hv : V 24 i) (h0 : 0 ≤ y) (h1 : y < 5) : kg (kHp J A V C R) (A 24 i) y.toNat = iv (C 24 i y) := kHp_geta (f := 24) hA hv h0 (show y.toNat < 5 by omega)
theorem hpa_24 (hA : kJ A V) (hv : V 24 i) (h0 : 0 ≤ y) (h1 : y < 5) : kup (kHp J A V C R) (A 24 i) y.toNat (iv x) = kHp J A V (kmu C 24 i y x) R := kHp_putac (f := 24) hA hv rfl h0 (show y.toNat < 5 by omega)
theorem hl_24 (hA : kJ A V) (hv : V 24 i) : kln (kHp J A V C R) (A 24 i) = 5 := kHp_ln hA hv
theorem hoa_25 (hA : kJ A V) (hv : V 25 i) (h0 : 0 ≤ y) (h1 : y < 20) : kok (kHp J A V C R) (A 25 i) 1000 y.toNat := kHp_ok hA hv (show y.toNat < 20 by omega)
theorem hga_25 (hA : kJ A V) (hv : V 25 i) (h0 : 0 ≤ y) (h1 : y < 20) : kg (kHp J A V C R) (A 25 i) y.toNat = iv (C 25 i y) := kHp_geta (f := 25) hA hv h0 (show y.toNat < 20 by omega)
theorem hpa_25 (hA : kJ A V) (hv : V 25 i) (h0 : 0 ≤ y) (h1 : y < 20) : kup (kHp J A V C R) (A 25 i) y.toNat (iv x) = kHp J A V (kmu C 25 i y x) R := kHp_putac (f := 25) hA hv rfl h0 (show y.toNat < 20 by omega)
theorem hl_25 (hA : kJ A V) (hv : V 25 i) : kln (kHp J A V C R) (A 25 i) = 20 := kHp_ln hA hv
theorem hoa_26 (hA : kJ A V) (hv : V 26 i) (h0 : 0 ≤ y) (h1 : y < 20) : kok (kHp J A V C R) (A 26 i) 1000 y.toNat := kHp_ok hA hv (show y.toNat < 20 by omega)
theorem hga_26 (hA : kJ A V) (hv : V 26 i) (h0 : 0 ≤ y) (h1 : y < 20) : kg (kHp J A V C R) (A 26 i) y.toNat = iv (C 26 i y) := kHp_geta (f := 26) hA hv h0 (show y.toNat < 20 by omega)
theorem hpa_26 (hA : kJ A V) (hv : V 26 i) (h0 : 0 ≤ y) (h1 : y < 20) : kup (kHp J A V C R) (A 26 i) y.toNat (iv x) = kHp J A V (kmu C 26 i y x) R := kHp_putac (f := 26) hA hv rfl h0 (show y.toNat < 20 by omega)
theorem hl_26 (hA : kJ A V) (hv : V 26 i) : kln (kHp J A V C R) (A 26 i) = 20 := kHp_ln hA hv
theorem hoa_27 (hA : kJ A V) (hv : V 27 i) (h0 : 0 ≤ y) (h1 : y < 20) : kok (kHp J A V C R) (A 27 i) 1000 y.toNat := kHp_ok hA hv (show y.toNat < 20 by omega)
theorem hga_27 (hA : kJ A V) (hv : V 27 i) (h0 : 0 ≤ y) (h1 : y < 20) : kg (kHp J A V C R) (A 27 i) y.toNat = iv (C 27 i y) := kHp_geta (f := 27) hA hv h0 (show y.toNat < 20 by omega)
theorem hpa_27 (hA : kJ A V) (hv : V 27 i) (h0 : 0 ≤ y) (h1 : y < 20) : kup (kHp J A V C R) (A 27 i) y.toNat (iv x) = kHp J A V (kmu C 27 i y x) R := kHp_putac (f := 27) hA hv rfl h0 (show y.toNat < 20 by omega)
theorem hl_27 (hA : kJ A V) (hv : V 27 i) : kln (kHp J A V C R) (A 27 i) = 20 := kHp_ln hA hv
theorem hoa_28 (hA : kJ A V) (hv : V 28 i) (h0 : 0 ≤ y) (h1 : y < 20) : kok (kHp J A V C R) (A 28 i) 1000 y.toNat := kHp_ok hA hv (show y.toNat < 20 by omega)
theorem hga_28 (hA : kJ A V) (hv : V 28 i) (h0 : 0 ≤ y) (h1 : y < 20) : kg (kHp J A V C R) (A 28 i) y.toNat = iv (C 28 i y) := kHp_geta (f := 28) hA hv h0 (show y.toNat < 20 by omega)
theorem hpa_28 (hA : kJ A V) (hv : V 28 i) (h0 : 0 ≤ y) (h1 : y < 20) : kup (kHp J A V C R) (A 28 i) y.toNat (iv x) = kHp J A V (kmu C 28 i y x) R := kHp_putac (f := 28) hA hv rfl h0 (show y.toNat < 20 by omega)
theorem hl_28 (hA : kJ A V) (hv : V 28 i) : kln (kHp J A V C R) (A 28 i) = 20 := kHp_ln hA hv
theorem hoa_29 (hA : kJ A V) (hv : V 29 i) (h0 : 0 ≤ y) (h1 : y < 20) : kok (kHp J A V C R) (A 29 i) 1000 y.toNat := kHp_ok hA hv (show y.toNat < 20 by omega)
theorem hga_29 (hA : kJ A V) (hv : V 29 i) (h0 : 0 ≤ y) (h1 : y < 20) : kg (kHp J A V C R) (A 29 i) y.toNat = iv (C 29 i y) := kHp_geta (f := 29) hA hv h0 (show y.toNat < 20 by omega)
theorem hpa_29 (hA : kJ A V) (hv : V 29 i) (h0 : 0 ≤ y) (h1 : y < 20) : kup (kHp J A V C R) (A 29 i) y.toNat (iv x) = kHp J A V (kmu C 29 i y x) R := kHp_putac (f := 29) hA hv rfl h0 (show y.toNat < 20 by omega)
theorem hl_29 (hA : kJ A V) (hv : V 29 i) : kln (kHp J A V C R) (A 29 i) = 20 := kHp_ln hA hv
theorem hoa_30 (hA : kJ A V) (hv : V 30 i) (h0 : 0 ≤ y) (h1 : y < 20) : kok (kHp J A V C R) (A 30 i) 1000 y.toNat := kHp_ok hA hv (show y.toNat < 20 by omega)
theorem hga_30 (hA : kJ A V) (hv : V 30 i) (h0 : 0 ≤ y) (h1 : y < 20) : kg (kHp J A V C R) (A 30 i) y.toNat = iv (C 30 i y) := kHp_geta (f := 30) hA hv h0 (show y.toNat < 20 by omega)
theorem hpa_30 (hA : kJ A V) (hv : V 30 i) (h0 : 0 ≤ y) (h1 : y < 20) : kup (kHp J A V C R) (A 30 i) y.toNat (iv x) = kHp J A V (kmu C 30 i y x) R := kHp_putac (f := 30) hA hv rfl h0 (show y.toNat < 20 by omega)
theorem hl_30 (hA : kJ A V) (hv : V 30 i) : kln (kHp J A V C R) (A 30 i) = 20 := kHp_ln hA hv
theorem hoa_31 (hA : kJ A V) (hv : V 31 i) (h0 : 0 ≤ y) (h1 : y < 1000) : kok (kHp J A V C R) (A 31 i) 1002 y.toNat := kHp_ok hA hv (show y.toNat < 1000 by omega)
theorem hga_31 (hA : kJ A V) (hv : V 31 i) (h0 : 0 ≤ y) (h1 : y < 1000) : kg (kHp J A V C R) (A 31 i) y.toNat = iv (C 31 i y) := kHp_geta (f := 31) hA hv h0 (show y.toNat < 1000 by omega)
theorem hpa_31 (hA : kJ A V) (hv : V 31 i) (h0 : 0 ≤ y) (h1 : y < 1000) : kup (kHp J A V C R) (A 31 i) y.toNat (iv x) = kHp J A V (kmu C 31 i y x) R := kHp_putac (f := 31) hA hv rfl h0 (show y.toNat < 1000 by omega)
theorem hl_31 (hA : kJ A V) (hv : V 31 i) : kln (kHp J A V C R) (A 31 i) = 1000 := kHp_ln hA hv
theorem hoa_36 (hA : kJ A V) (hv : V 36 i) (h0 : 0 ≤ y) (h1 : y < 1) : kok (kHp J A V C R) (A 36 i) 1001 y.toNat := kHp_ok hA hv (show y.toNat < 1 by omega)
theorem hga_36 (hA : kJ A V) (hv : V 36 i) (h0 : 0 ≤ y) (h1 : y < 1) : kg (kHp J A V C R) (A 36 i) y.toNat = lv (C 36 i y) := kHp_geta (f := 36) hA hv h0 (show y.toNat < 1 by omega)
theorem hpa_36 (hA : kJ A V) (hv : V 36 i) (h0 : 0 ≤ y) (h1 : y < 1) : kup (kHp J A V C R) (A 36 i) y.toNat (lv x) = kHp J A V (kmu C 36 i y x) R := kHp_putac (f := 36) hA hv rfl h0 (show y.toNat < 1 by omega)
theorem hl_36 (hA : kJ A V) (hv : V 36 i) : kln (kHp J A V C R) (A 36 i) = 1 := kHp_ln hA hv
theorem hoa_52 (hA : kJ A V) (hv : V 52 i) (h0 : 0 ≤ y) (h1 : y < 1000) : kok (kHp J A V C R) (A 52 i) 1000 y.toNat := kHp_ok hA hv (show y.toNat < 1000 by omega)
theorem hga_52 (hA : kJ A V) (hv : V 52 i) (h0 : 0 ≤ y) (h1 : y < 1000) : kg (kHp J A V C R) (A 52 i) y.toNat = iv (R 52 i y) := kHp_geta (f := 52) hA hv h0 (show y.toNat < 1000 by omega)
theorem hpa_52 (hA : kJ A V) (hv : V 52 i) (h0 : 0 ≤ y) (h1 : y < 1000) : kup (kHp J A V C R) (A 52 i) y.toNat (iv x) = kHp J A V C (kmu R 52 i y x) := kHp_putar (f := 52) hA hv rfl h0 (show y.toNat < 1000 by omega)
theorem hl_52 (hA : kJ A V) (hv : V 52 i) : kln (kHp J A V C R) (A 52 i) = 1000 := kHp_ln hA hv
theorem hoa_54 (hA : kJ A V) (hv : V 54 i) (h0 : 0 ≤ y) (h1 : y < 20) : kok (kHp J A V C R) (A 54 i) 1000 y.toNat := kHp_ok hA hv (show y.toNat < 20 by omega)
theorem hga_54 (hA : kJ A V) (hv : V 54 i) (h0 : 0 ≤ y) (h1 : y < 20) : kg (kHp J A V C R) (A 54 i) y.toNat = iv (R 54 i y) := kHp_geta (f := 54) hA hv h0 (show y.toNat < 20 by omega)
theorem hpa_54 (hA : kJ A V) (hv : V 54 i) (h0 : 0 ≤ y) (h1 : y < 20) : kup (kHp J A V C R) (A 54 i) y.toNat (iv x) = kHp J A V C (kmu R 54 i y x) := kHp_putar (f := 54) hA hv rfl h0 (show y.toNat < 20 by omega)
theorem hl_54 (hA : kJ A V) (hv : V 54 i) : kln (kHp J A V C R) (A 54 i) = 20 := kHp_ln hA hv
theorem hoa_55 (hA : kJ A V) (hv : V 55 i) (h0 : 0 ≤ y) (h1 : y < 20) : kok (kHp J A V C R) (A 55 i) 1000 y.toNat := kHp_ok hA hv (show y.toNat < 20 by omega)
theorem hga_55 (hA : kJ A V) (hv : V 55 i) (h0 : 0 ≤ y) (h1 : y < 20) : kg (kHp J A V C R) (A 55 i) y.toNat = iv (R 55 i y) := kHp_geta (f := 55) hA hv h0 (show y.toNat < 20 by omega)
theorem hpa_55 (hA : kJ A V) (hv : V 55 i) (h0 : 0 ≤ y) (h1 : y < 20) : kup (kHp J A V C R) (A 55 i) y.toNat (iv x) = kHp J A V C (kmu R 55 i y x) := kHp_putar (f := 55) hA hv rfl h0 (show y.toNat < 20 by omega)
theorem hl_55 (hA : kJ A V) (hv : V 55 i) : kln (kHp J A V C R) (A 55 i) = 20 := kHp_ln hA hv
theorem hoa_56 (hA : kJ A V) (hv : V 56 i) (h0 : 0 ≤ y) (h1 : y < 20) : kok (kHp J A V C R) (A 56 i) 1000 y.toNat := kHp_ok hA hv (show y.toNat < 20 by omega)
theorem hga_56 (hA : kJ A V) (hv : V 56 i) (h0 : 0 ≤ y) (h1 : y < 20) : kg (kHp J A V C R) (A 56 i) y.toNat = iv (R 56 i y) := kHp_geta (f := 56) hA hv h0 (show y.toNat < 20 by omega)
theorem hpa_56 (hA : kJ A V) (hv : V 56 i) (h0 : 0 ≤ y) (h1 : y < 20) : kup (kHp J A V C R) (A 56 i) y.toNat (iv x) = kHp J A V C (kmu R 56 i y x) := kHp_putar (f := 56) hA hv rfl h0 (show y.toNat < 20 by omega)
theorem hl_56 (hA : kJ A V) (hv : V 56 i) : kln (kHp J A V C R) (A 56 i) = 20 := kHp_ln hA hv
theorem hoa_58 (hA : kJ A V) (hv : V 58 i) (h0 : 0 ≤ y) (h1 : y < 21) : kok (kHp J A V C R) (A 58 i) 1000 y.toNat := kHp_ok hA hv (show y.toNat < 21 by omega)
theorem hga_58 (hA : kJ A V) (hv : V 58 i) (h0 : 0 ≤ y) (h1 : y < 21) : kg (kHp J A V C R) (A 58 i) y.toNat = iv (R 58 i y) := kHp_geta (f := 58) hA hv h0 (show y.toNat < 21 by omega)
theorem hpa_58 (hA : kJ A V) (hv : V 58 i) (h0 : 0 ≤ y) (h1 : y < 21) : kup (kHp J A V C R) (A 58 i) y.toNat (iv x) = kHp J A V C (kmu R 58 i y x) := kHp_putar (f := 58) hA hv rfl h0 (show y.toNat < 21 by omega)
theorem hl_58 (hA : kJ A V) (hv : V 58 i) : kln (kHp J A V C R) (A 58 i) = 21 := kHp_ln hA hv
theorem hoa_59 (hA : kJ A V) (hv : V 59 i) (h0 : 0 ≤ y) (h1 : y < 21) : kok (kHp J A V C R) (A 59 i) 1000 y.toNat := kHp_ok hA hv (show y.toNat < 21 by omega)
theorem hga_59 (hA : kJ A V) (hv : V 59 i) (h0 : 0 ≤ y) (h1 : y < 21) : kg (kHp J A V C R) (A 59 i) y.toNat = iv (R 59 i y) := kHp_geta (f := 59) hA hv h0 (show y.toNat < 21 by omega)
theorem hpa_59 (hA : kJ A V) (hv : V 59 i) (h0 : 0 ≤ y) (h1 : y < 21) : kup (kHp J A V C R) (A 59 i) y.toNat (iv x) = kHp J A V C (kmu R 59 i y x) := kHp_putar (f := 59) hA hv rfl h0 (show y.toNat < 21 by omega)
theorem hl_59 (hA : kJ A V) (hv : V 59 i) : kln (kHp J A V C R) (A 59 i) = 21 := kHp_ln hA hv
theorem hoa_60 (hA : kJ A V) (hv : V 60 i) (h0 : 0 ≤ y) (h1 : y < 84) : kok (kHp J A V C R) (A 60 i) 1000 y.toNat := kHp_ok hA hv (show y.toNat < 84 by omega)
theorem hga_60 (hA : kJ A V) (hv : V 60 i) (h0 : 0 ≤ y) (h1 : y < 84) : kg (kHp J A V C R) (A 60 i) y.toNat = iv (R 60 i y) := kHp_geta (f := 60) hA hv h0 (show y.toNat < 84 by omega)
theorem hpa_60 (hA : kJ A V) (hv : V 60 i) (h0 : 0 ≤ y) (h1 : y < 84) : kup (kHp J A V C R) (A 60 i) y.toNat (iv x) = kHp J A V C (kmu R 60 i y x) := kHp_putar (f := 60) hA hv rfl h0 (show y.toNat < 84 by omega)
theorem hl_60 (hA : kJ A V) (hv : V 60 i) : kln (kHp J A V C R) (A 60 i) = 84 := kHp_ln hA hv
theorem hoa_61 (hA : kJ A V) (hv : V 61 i) (h0 : 0 ≤ y) (h1 : y < 84) : kok (kHp J A V C R) (A 61 i) 1000 y.toNat := kHp_ok hA hv (show y.toNat < 84 by omega)
theorem hga_61 (hA : kJ A V) (hv : V 61 i) (h0 : 0 ≤ y) (h1 : y < 84) : kg (kHp J A V C R) (A 61 i) y.toNat = iv (R 61 i y) := kHp_geta (f := 61) hA hv h0 (show y.toNat < 84 by omega)
theorem hpa_61 (hA : kJ A V) (hv : V 61 i) (h0 : 0 ≤ y) (h1 : y < 84) : kup (kHp J A V C R) (A 61 i) y.toNat (iv x) = kHp J A V C (kmu R 61 i y x) := kHp_putar (f := 61) hA hv rfl h0 (show y.toNat < 84 by omega)
theorem hl_61 (hA : kJ A V) (hv : V 61 i) : kln (kHp J A V C R) (A 61 i) = 84 := kHp_ln hA hv
theorem hoa_62 (hA : kJ A V) (hv : V 62 i) (h0 : 0 ≤ y) (h1 : y < 420) : kok (kHp J A V C R) (A 62 i) 1000 y.toNat := kHp_ok hA hv (show y.toNat < 420 by omega)
theorem hga_62 (hA : kJ A V) (hv : V 62 i) (h0 : 0 ≤ y) (h1 : y < 420) : kg (kHp J A V C R) (A 62 i) y.toNat = iv (R 62 i y) := kHp_geta (f := 62) hA hv h0 (show y.toNat < 420 by omega)
theorem hpa_62 (hA : kJ A V) (hv : V 62 i) (h0 : 0 ≤ y) (h1 : y < 420) : kup (kHp J A V C R) (A 62 i) y.toNat (iv x) = kHp J A V C (kmu R 62 i y x) := kHp_putar (f := 62) hA hv rfl h0 (show y.toNat < 420 by omega)
theorem hl_62 (hA : kJ A V) (hv : V 62 i) : kln (kHp J A V C R) (A 62 i) = 420 := kHp_ln hA hv
theorem hoa_63 (hA : kJ A V) (hv : V 63 i) (h0 : 0 ≤ y) (h1 : y < 420) : kok (kHp J A V C R) (A 63 i) 1000 y.toNat := kHp_ok hA hv (show y.toNat < 420 by omega)
theorem hga_63 (hA : kJ A V) (hv : V 63 i) (h0 : 0 ≤ y) (h1 : y < 420) : kg (kHp J A V C R) (A 63 i) y.toNat = iv (R 63 i y) := kHp_geta (f := 63) hA hv h0 (show y.toNat < 420 by omega)
theorem hpa_63 (hA : kJ A V) (hv : V 63 i) (h0 : 0 ≤ y) (h1 : y < 420) : kup (kHp J A V C R) (A 63 i) y.toNat (iv x) = kHp J A V C (kmu R 63 i y x) := kHp_putar (f := 63) hA hv rfl h0 (show y.toNat < 420 by omega)
theorem hl_63 (hA : kJ A V) (hv : V 63 i) : kln (kHp J A V C R) (A 63 i) = 420 := kHp_ln hA hv
theorem hoa_64 (hA : kJ A V) (hv : V 64 i) (h0 : 0 ≤ y) (h1 : y < 420) : kok (kHp J A V C R) (A 64 i) 1000 y.toNat := kHp_ok hA hv (show y.toNat < 420 by omega)
theorem hga_64 (hA : kJ A V) (hv : V 64 i) (h0 : 0 ≤ y) (h1 : y < 420) : kg (kHp J A V C R) (A 64 i) y.toNat = iv (R 64 i y) := kHp_geta (f := 64) hA hv h0 (show y.toNat < 420 by omega)
theorem hpa_64 (hA : kJ A V) (hv : V 64 i) (h0 : 0 ≤ y) (h1 : y < 420) : kup (kHp J A V C R) (A 64 i) y.toNat (iv x) = kHp J A V C (kmu R 64 i y x) := kHp_putar (f := 64) hA hv rfl h0 (show y.toNat < 420 by omega)
theorem hl_64 (hA : kJ A V) (hv : V 64 i) : kln (kHp J A V C R) (A 64 i) = 420 := kHp_ln hA hv
theorem hoa_66 (hA : kJ A V) (hv : V 66 i) (h0 : 0 ≤ y) (h1 : y < 41) : kok (kHp J A V C R) (A 66 i) 1000 y.toNat := kHp_ok hA hv (show y.toNat < 41 by omega)
theorem hga_66 (hA : kJ A V) (hv : V 66 i) (h0 : 0 ≤ y) (h1 : y < 41) : kg (kHp J A V C R) (A 66 i) y.toNat = iv (R 66 i y) := kHp_geta (f := 66) hA hv h0 (show y.toNat < 41 by omega)
theorem hpa_66 (hA : kJ A V) (hv : V 66 i) (h0 : 0 ≤ y) (h1 : y < 41) : kup (kHp J A V C R) (A 66 i) y.toNat (iv x) = kHp J A V C (kmu R 66 i y x) := kHp_putar (f := 66) hA hv rfl h0 (show y.toNat < 41 by omega)
theorem hl_66 (hA : kJ A V) (hv : V 66 i) : kln (kHp J A V C R) (A 66 i) = 41 := kHp_ln hA hv
theorem hoa_67 (hA : kJ A V) (hv : V 67 i) (h0 : 0 ≤ y) (h1 : y < 41) : kok (kHp J A V C R) (A 67 i) 1000 y.toNat := kHp_ok hA hv (show y.toNat < 41 by omega)
theorem hga_67 (hA : kJ A V) (hv : V 67 i) (h0 : 0 ≤ y) (h1 : y < 41) : kg (kHp J A V C R) (A 67 i) y.toNat = iv (R 67 i y) := kHp_geta (f := 67) hA hv h0 (show y.toNat < 41 by omega)
theorem hpa_67 (hA : kJ A V) (hv : V 67 i) (h0 : 0 ≤ y) (h1 : y < 41) : kup (kHp J A V C R) (A 67 i) y.toNat (iv x) = kHp J A V C (kmu R 67 i y x) := kHp_putar (f := 67) hA hv rfl h0 (show y.toNat < 41 by omega)
theorem hl_67 (hA : kJ A V) (hv : V 67 i) : kln (kHp J A V C R) (A 67 i) = 41 := kHp_ln hA hv
theorem hoa_68 (hA : kJ A V) (hv : V 68 i) (h0 : 0 ≤ y) (h1 : y < 41) : kok (kHp J A V C R) (A 68 i) 1000 y.toNat := kHp_ok hA hv (show y.toNat < 41 by omega)
theorem hga_68 (hA : kJ A V) (hv : V 68 i) (h0 : 0 ≤ y) (h1 : y < 41) : kg (kHp J A V C R) (A 68 i) y.toNat = iv (R 68 i y) := kHp_geta (f := 68) hA hv h0 (show y.toNat < 41 by omega)
theorem hpa_68 (hA : kJ A V) (hv : V 68 i) (h0 : 0 ≤ y) (h1 : y < 41) : kup (kHp J A V C R) (A 68 i) y.toNat (iv x) = kHp J A V C (kmu R 68 i y x) := kHp_putar (f := 68) hA hv rfl h0 (show y.toNat < 41 by omega)
theorem hl_68 (hA : kJ A V) (hv : V 68 i) : kln (kHp J A V C R) (A 68 i) = 41 := kHp_ln hA hv
theorem hoa_69 (hA : kJ A V) (hv : V 69 i) (h0 : 0 ≤ y) (h1 : y < 41) : kok (kHp J A V C R) (A 69 i) 1000 y.toNat := kHp_ok hA hv (show y.toNat < 41 by omega)
theorem hga_69 (hA : kJ A V) (hv : V 69 i) (h0 : 0 ≤ y) (h1 : y < 41) : kg (kHp J A V C R) (A 69 i) y.toNat = iv (R 69 i y) := kHp_geta (f := 69) hA hv h0 (show y.toNat < 41 by omega)
theorem hpa_69 (hA : kJ A V) (hv : V 69 i) (h0 : 0 ≤ y) (h1 : y < 41) : kup (kHp J A V C R) (A 69 i) y.toNat (iv x) = kHp J A V C (kmu R 69 i y x) := kHp_putar (f := 69) hA hv rfl h0 (show y.toNat < 41 by omega)
theorem hl_69 (hA : kJ A V) (hv : V 69 i) : kln (kHp J A V C R) (A 69 i) = 41 := kHp_ln hA hv
theorem hoa_70 (hA : kJ A V) (hv : V 70 i) (h0 : 0 ≤ y) (h1 : y < 41) : kok (kHp J A V C R) (A 70 i) 1000 y.toNat := kHp_ok hA hv (show y.toNat < 41 by omega)
theorem hga_70 (hA : kJ A V) (hv : V 70 i) (h0 : 0 ≤ y) (h1 : y < 41) : kg (kHp J A V C R) (A 70 i) y.toNat = iv (R 70 i y) := kHp_geta (f := 70) hA hv h0 (show y.toNat < 41 by omega)
theorem hpa_70 (hA : kJ A V) (hv : V 70 i) (h0 : 0 ≤ y) (h1 : y < 41) : kup (kHp J A V C R) (A 70 i) y.toNat (iv x) = kHp J A V C (kmu R 70 i y x) := kHp_putar (f := 70) hA hv rfl h0 (show y.toNat < 41 by omega)
theorem hl_70 (hA : kJ A V) (hv : V 70 i) : kln (kHp J A V C R) (A 70 i) = 41 := kHp_ln hA hv
theorem hoa_71 (hA : kJ A V) (hv : V 71 i) (h0 : 0 ≤ y) (h1 : y < 41) : kok (kHp J A V C R) (A 71 i) 1000 y.toNat := kHp_ok hA hv (show y.toNat < 41 by omega)
theorem hga_71 (hA : kJ A V) (hv : V 71 i) (h0 : 0 ≤ y) (h1 : y < 41) : kg (kHp J A V C R) (A 71 i) y.toNat = iv (R 71 i y) := kHp_geta (f := 71) hA hv h0 (show y.toNat < 41 by omega)
theorem hpa_71 (hA : kJ A V) (hv : V 71 i) (h0 : 0 ≤ y) (h1 : y < 41) : kup (kHp J A V C R) (A 71 i) y.toNat (iv x) = kHp J A V C (kmu R 71 i y x) := kHp_putar (f := 71) hA hv rfl h0 (show y.toNat < 41 by omega)
theorem hl_71 (hA : kJ A V) (hv : V 71 i) : kln (kHp J A V C R) (A 71 i) = 41 := kHp_ln hA hv
theorem hoa_72 (hA : kJ A V) (hv : V 72 i) (h0 : 0 ≤ y) (h1 : y < 205) : kok (kHp J A V C R) (A 72 i) 1000 y.toNat := kHp_ok hA hv (show y.toNat < 205 by omega)
theorem hga_72 (hA : kJ A V) (hv : V 72 i) (h0 : 0 ≤ y) (h1 : y < 205) : kg (kHp J A V C R) (A 72 i) y.toNat = iv (R 72 i y) := kHp_geta (f := 72) hA hv h0 (show y.toNat < 205 by omega)
theorem hpa_72 (hA : kJ A V) (hv : V 72 i) (h0 : 0 ≤ y) (h1 : y < 205) : kup (kHp J A V C R) (A 72 i) y.toNat (iv x) = kHp J A V C (kmu R 72 i y x) := kHp_putar (f := 72) hA hv rfl h0 (show y.toNat < 205 by omega)
theorem hl_72 (hA : kJ A V) (hv : V 72 i) : kln (kHp J A V C R) (A 72 i) = 205 := kHp_ln hA hv
theorem hoa_73 (hA : kJ A V) (hv : V 73 i) (h0 : 0 ≤ y) (h1 : y < 205) : kok (kHp J A V C R) (A 73 i) 1000 y.toNat := kHp_ok hA hv (show y.toNat < 205 by omega)
theorem hga_73 (hA : kJ A V) (hv : V 73 i) (h0 : 0 ≤ y) (h1 : y < 205) : kg (kHp J A V C R) (A 73 i) y.toNat = iv (R 73 i y) := kHp_geta (f := 73) hA hv h0 (show y.toNat < 205 by omega)
theorem hpa_73 (hA : kJ A V) (hv : V 73 i) (h0 : 0 ≤ y) (h1 : y < 205) : kup (kHp J A V C R) (A 73 i) y.toNat (iv x) = kHp J A V C (kmu R 73 i y x) := kHp_putar (f := 73) hA hv rfl h0 (show y.toNat < 205 by omega)
theorem hl_73 (hA : kJ A V) (hv : V 73 i) : kln (kHp J A V C R) (A 73 i) = 205 := kHp_ln hA hv
theorem hoa_74 (hA : kJ A V) (hv : V 74 i) (h0 : 0 ≤ y) (h1 : y < 205) : kok (kHp J A V C R) (A 74 i) 1000 y.toNat := kHp_ok hA hv (show y.toNat < 205 by omega)
theorem hga_74 (hA : kJ A V) (hv : V 74 i) (h0 : 0 ≤ y) (h1 : y < 205) : kg (kHp J A V C R) (A 74 i) y.toNat = iv (R 74 i y) := kHp_geta (f := 74) hA hv h0 (show y.toNat < 205 by omega)
theorem hpa_74 (hA : kJ A V) (hv : V 74 i) (h0 : 0 ≤ y) (h1 : y < 205) : kup (kHp J A V C R) (A 74 i) y.toNat (iv x) = kHp J A V C (kmu R 74 i y x) := kHp_putar (f := 74) hA hv rfl h0 (show y.toNat < 205 by omega)
theorem hl_74 (hA : kJ A V) (hv : V 74 i) : kln (kHp J A V C R) (A 74 i) = 205 := kHp_ln hA hv
theorem hoa_75 (hA : kJ A V) (hv : V 75 i) (h0 : 0 ≤ y) (h1 : y < 205) : kok (kHp J A V C R) (A 75 i) 1000 y.toNat := kHp_ok hA hv (show y.toNat < 205 by omega)
theorem hga_75 (hA : kJ A V) (hv : V 75 i) (h0 : 0 ≤ y) (h1 : y < 205) : kg (kHp J A V C R) (A 75 i) y.toNat = iv (R 75 i y) := kHp_geta (f := 75) hA hv h0 (show y.toNat < 205 by omega)
theorem hpa_75 (hA : kJ A V) (hv : V 75 i) (h0 : 0 ≤ y) (h1 : y < 205) : kup (kHp J A V C R) (A 75 i) y.toNat (iv x) = kHp J A V C (kmu R 75 i y x) := kHp_putar (f := 75) hA hv rfl h0 (show y.toNat < 205 by omega)
theorem hl_75 (hA : kJ A V) (hv : V 75 i) : kln (kHp J A V C R) (A 75 i) = 205 := kHp_ln hA hv
theorem hoa_77 (hA : kJ A V) (hv : V 77 i) (h0 : 0 ≤ y) (h1 : y < 61) : kok (kHp J A V C R) (A 77 i) 1000 y.toNat := kHp_ok hA hv (show y.toNat < 61 by omega)
theorem hga_77 (hA : kJ A V) (hv : V 77 i) (h0 : 0 ≤ y) (h1 : y < 61) : kg (kHp J A V C R) (A 77 i) y.toNat = iv (R 77 i y) := kHp_geta (f := 77) hA hv h0 (show y.toNat < 61 by omega)
theorem hpa_77 (hA : kJ A V) (hv : V 77 i) (h0 : 0 ≤ y) (h1 : y < 61) : kup (kHp J A V C R) (A 77 i) y.toNat (iv x) = kHp J A V C (kmu R 77 i y x) := kHp_putar (f := 77) hA hv rfl h0 (show y.toNat < 61 by omega)
theorem hl_77 (hA : kJ A V) (hv : V 77 i) : kln (kHp J A V C R) (A 77 i) = 61 := kHp_ln hA hv
theorem hoa_78 (hA : kJ A V) (hv : V 78 i) (h0 : 0 ≤ y) (h1 : y < 61) : kok (kHp J A V C R) (A 78 i) 1000 y.toNat := kHp_ok hA hv (show y.toNat < 61 by omega)
theorem hga_78 (hA : kJ A V) (hv : V 78 i) (h0 : 0 ≤ y) (h1 : y < 61) : kg (kHp J A V C R) (A 78 i) y.toNat = iv (R 78 i y) := kHp_geta (f := 78) hA hv h0 (show y.toNat < 61 by omega)
theorem hpa_78 (hA : kJ A V) (hv : V 78 i) (h0 : 0 ≤ y) (h1 : y < 61) : kup (kHp J A V C R) (A 78 i) y.toNat (iv x) = kHp J A V C (kmu R 78 i y x) := kHp_putar (f := 78) hA hv rfl h0 (show y.toNat < 61 by omega)
theorem hl_78 (hA : kJ A V) (hv : V 78 i) : kln (kHp J A V C R) (A 78 i) = 61 := kHp_ln hA hv
theorem hoa_79 (hA : kJ A V) (hv : V 79 i) (h0 : 0 ≤ y) (h1 : y < 61) : kok (kHp J A V C R) (A 79 i) 1000 y.toNat := kHp_ok hA hv (show y.toNat < 61 by omega)
theorem hga_79 (hA : kJ A V) (hv : V 79 i) (h0 : 0 ≤ y) (h1 : y < 61) : kg (kHp J A V C R) (A 79 i) y.toNat = iv (R 79 i y) := kHp_geta (f := 79) hA hv h0 (show y.toNat < 61 by omega)
theorem hpa_79 (hA : kJ A V) (hv : V 79 i) (h0 : 0 ≤ y) (h1 : y < 61) : kup (kHp J A V C R) (A 79 i) y.toNat (iv x) = kHp J A V C (kmu R 79 i y x) := kHp_putar (f := 79) hA hv rfl h0 (show y.toNat < 61 by omega)
theorem hl_79 (hA : kJ A V) (hv : V 79 i) : kln (kHp J A V C R) (A 79 i) = 61 := kHp_ln hA hv
theorem hoa_80 (hA : kJ A V) (hv : V 80 i) (h0 : 0 ≤ y) (h1 : y < 61) : kok (kHp J A V C R) (A 80 i) 1000 y.toNat := kHp_ok hA hv (show y.toNat < 61 by omega)
theorem hga_80 (hA : kJ A V) (hv : V 80 i) (h0 : 0 ≤ y) (h1 : y < 61) : kg (kHp J A V C R) (A 80 i) y.toNat = iv (R 80 i y) := kHp_geta (f := 80) hA hv h0 (show y.toNat < 61 by omega)
theorem hpa_80 (hA : kJ A V) (hv : V 80 i) (h0 : 0 ≤ y) (h1 : y < 61) : kup (kHp J A V C R) (A 80 i) y.toNat (iv x) = kHp J A V C (kmu R 80 i y x) := kHp_putar (f := 80) hA hv rfl h0 (show y.toNat < 61 by omega)
theorem hl_80 (hA : kJ A V) (hv : V 80 i) : kln (kHp J A V C R) (A 80 i) = 61 := kHp_ln hA hv
theorem hoa_81 (hA : kJ A V) (hv : V 81 i) (h0 : 0 ≤ y) (h1 : y < 61) : kok (kHp J A V C R) (A 81 i) 1000 y.toNat := kHp_ok hA hv (show y.toNat < 61 by omega)
theorem hga_81 (hA : kJ A V) (hv : V 81 i) (h0 : 0 ≤ y) (h1 : y < 61) : kg (kHp J A V C R) (A 81 i) y.toNat = iv (R 81 i y) := kHp_geta (f := 81) hA hv h0 (show y.toNat < 61 by omega)
theorem hpa_81 (hA : kJ A V) (hv : V 81 i) (h0 : 0 ≤ y) (h1 : y < 61) : kup (kHp J A V C R) (A 81 i) y.toNat (iv x) = kHp J A V C (kmu R 81 i y x) := kHp_putar (f := 81) hA hv rfl h0 (show y.toNat < 61 by omega)
theorem hl_81 (hA : kJ A V) (hv : V 81 i) : kln (kHp J A V C R) (A 81 i) = 61 := kHp_ln hA hv
theorem hoa_83 (hA : kJ A V) (hv : V 83 i) (h0 : 0 ≤ y) (h1 : y < 5) : kok (kHp J A V C R) (A 83 i) 1000 y.toNat := kHp_ok hA hv (show y.toNat < 5 by omega)
theorem hga_83 (hA : kJ A V) (hv : V 83 i) (h0 : 0 ≤ y) (h1 : y < 5) : kg (kHp J A V C R) (A 83 i) y.toNat = iv (R 83 i y) := kHp_geta (f := 83) hA hv h0 (show y.toNat < 5 by omega)
theorem hpa_83 (hA : kJ A V) (hv : V 83 i) (h0 : 0 ≤ y) (h1 : y < 5) : kup (kHp J A V C R) (A 83 i) y.toNat (iv x) = kHp J A V C (kmu R 83 i y x) := kHp_putar (f := 83) hA hv rfl h0 (show y.toNat < 5 by omega)
theorem hl_83 (hA : kJ A V) (hv : V 83 i) : kln (kHp J A V C R) (A 83 i) = 5 := kHp_ln hA hv
theorem hoa_84 (hA : kJ A V) (hv : V 84 i) (h0 : 0 ≤ y) (h1 : y < 5) : kok (kHp J A V C R) (A 84 i) 1000 y.toNat := kHp_ok hA hv (show y.toNat < 5 by omega)
theorem hga_84 (hA : kJ A V) (hv : V 84 i) (h0 : 0 ≤ y) (h1 : y < 5) : kg (kHp J A V C R) (A 84 i) y.toNat = iv (R 84 i y) := kHp_geta (f := 84) hA hv h0 (show y.toNat < 5 by omega)
theorem hpa_84 (hA : kJ A V) (hv : V 84 i) (h0 : 0 ≤ y) (h1 : y < 5) : kup (kHp J A V C R) (A 84 i) y.toNat (iv x) = kHp J A V C (kmu R 84 i y x) := kHp_putar (f := 84) hA hv rfl h0 (show y.toNat < 5 by omega)
theorem hl_84 (hA : kJ A V) (hv : V 84 i) : kln (kHp J A V C R) (A 84 i) = 5 := kHp_ln hA hv
theorem hoa_85 (hA : kJ A V) (hv : V 85 i) (h0 : 0 ≤ y) (h1 : y < 21) : kok (kHp J A V C R) (A 85 i) 1000 y.toNat := kHp_ok hA hv (show y.toNat < 21 by omega)
theorem hga_85 (hA : kJ A V) (hv : V 85 i) (h0 : 0 ≤ y) (h1 : y < 21) : kg (kHp J A V C R) (A 85 i) y.toNat = iv (R 85 i y) := kHp_geta (f := 85) hA hv h0 (show y.toNat < 21 by omega)
theorem hpa_85 (hA : kJ A V) (hv : V 85 i) (h0 : 0 ≤ y) (h1 : y < 21) : kup (kHp J A V C R) (A 85 i) y.toNat (iv x) = kHp J A V C (kmu R 85 i y x) := kHp_putar (f := 85) hA hv rfl h0 (show y.toNat < 21 by omega)
theorem hl_85 (hA : kJ A V) (hv : V 85 i) : kln (kHp J A V C R) (A 85 i) = 21 := kHp_ln hA hv
theorem hoa_87 (hA : kJ A V) (hv : V 87 i) (h0 : 0 ≤ y) (h1 : y < 20) : kok (kHp J A V C R) (A 87 i) 1000 y.toNat := kHp_ok hA hv (show y.toNat < 20 by omega)
theorem hga_87 (hA : kJ A V) (hv : V 87 i) (h0 : 0 ≤ y) (h1 : y < 20) : kg (kHp J A V C R) (A 87 i) y.toNat = iv (R 87 i y) := kHp_geta (f := 87) hA hv h0 (show y.toNat < 20 by omega)
theorem hpa_87 (hA : kJ A V) (hv : V 87 i) (h0 : 0 ≤ y) (h1 : y < 20) : kup (kHp J A V C R) (A 87 i) y.toNat (iv x) = kHp J A V C (kmu R 87 i y x) := kHp_putar (f := 87) hA hv rfl h0 (show y.toNat < 20 by omega)
theorem hl_87 (hA : kJ A V) (hv : V 87 i) : kln (kHp J A V C R) (A 87 i) = 20 := kHp_ln hA hv
theorem hoa_88 (hA : kJ A V) (hv : V 88 i) (h0 : 0 ≤ y) (h1 : y < 21) : kok (kHp J A V C R) (A 88 i) 1001 y.toNat := kHp_ok hA hv (show y.toNat < 21 by omega)
theorem hga_88 (hA : kJ A V) (hv : V 88 i) (h0 : 0 ≤ y) (h1 : y < 21) : kg (kHp J A V C R) (A 88 i) y.toNat = lv (R 88 i y) := kHp_geta (f := 88) hA hv h0 (show y.toNat < 21 by omega)
theorem hpa_88 (hA : kJ A V) (hv : V 88 i) (h0 : 0 ≤ y) (h1 : y < 21) : kup (kHp J A V C R) (A 88 i) y.toNat (lv x) = kHp J A V C (kmu R 88 i y x) := kHp_putar (f := 88) hA hv rfl h0 (show y.toNat < 21 by omega)
theorem hl_88 (hA : kJ A V) (hv : V 88 i) : kln (kHp J A V C R) (A 88 i) = 21 := kHp_ln hA hv
theorem hoa_32 (hA : kJ A V) (hv : V 32 i) (h0 : 0 ≤ y) (h1 : y < 20) : kok (kHp J A V C R) (A 32 i) 2003 y.toNat := kHp_ok hA hv (show y.toNat < 20 by omega)
theorem hga_32 (hA : kJ A V) (hv : V 32 i) (h0 : 0 ≤ y) (h1 : y < 20) (h2 : 0 ≤ C 32 i y) : kg (kHp J A V C R) (A 32 i) y.toNat = .ref (A 3 (C 32 i y)) := by
  refine (kHp_geta (f := 32) hA hv h0 (show y.toNat < 20 by omega)).trans ?_
  show kre A (if C 32 i y < 0 then none else some (3, C 32 i y)) = _
  rw [if_neg (by omega)]
  rfl
theorem hgan_32 (hA : kJ A V) (hv : V 32 i) (h0 : 0 ≤ y) (h1 : y < 20) (h2 : C 32 i y < 0) : kg (kHp J A V C R) (A 32 i) y.toNat = .null := by
  refine (kHp_geta (f := 32) hA hv h0 (show y.toNat < 20 by omega)).trans ?_
  show kre A (if C 32 i y < 0 then none else some (3, C 32 i y)) = _
  rw [if_pos h2]
  rfl
theorem hpa_32 (hA : kJ A V) (hv : V 32 i) (h0 : 0 ≤ y) (h1 : y < 20) (h2 : 0 ≤ x) : kup (kHp J A V C R) (A 32 i) y.toNat (.ref (A 3 x)) = kHp J A V (kmu C 32 i y x) R := by
  have e : ke A 32 i y.toNat x = .ref (A 3 x) := by
    show kre A (if x < 0 then none else some (3, x)) = _
    rw [if_neg (by omega)]
    rfl
  rw [← e]
  exact kHp_putac (f := 32) hA hv rfl h0 (show y.toNat < 20 by omega)
theorem hpan_32 (hA : kJ A V) (hv : V 32 i) (h0 : 0 ≤ y) (h1 : y < 20) : kup (kHp J A V C R) (A 32 i) y.toNat .null = kHp J A V (kmu C 32 i y (-1)) R := kHp_putac (f := 32) (x := -1) hA hv rfl h0 (show y.toNat < 20 by omega)
theorem hl_32 (hA : kJ A V) (hv : V 32 i) : kln (kHp J A V C R) (A 32 i) = 20 := kHp_ln hA hv
theorem hl_35 (hA : kJ A V) (hv : V 35 i) : kln (kHp J A V C R) (A 35 i) = i.toNat := kHp_ln hA hv
theorem hoa_35 (hA : kJ A V) (hv : V 35 i) (h0 : 0 ≤ y) (h1 : y < i) : kok (kHp J A V C R) (A 35 i) 4000 y.toNat := kHp_ok hA hv (show y.toNat < i.toNat by omega)
theorem hga_35 (hA : kJ A V) (hv : V 35 i) (h0 : 0 ≤ y) (h1 : y < i) : kg (kHp J A V C R) (A 35 i) y.toNat = iv (C 35 i y) := kHp_geta (f := 35) hA hv h0 (show y.toNat < i.toNat by omega)
theorem hga_33_0 (hA : kJ A V) (hv : V 33 i) (hi0 : 0 ≤ i) (hi1 : i < 1000) (h0 : 0 ≤ y) (h1 : y < i % 1000) (h2 : 0 ≤ C 33 i y) : kg (kHp J A V C R) (A 33 i) y.toNat = .ref (A 3 (C 33 i y)) := by
  refine (kHp_geta (f := 33) hA hv h0 (show y.toNat < (i % 1000).toNat by omega)).trans ?_
  show kre A (if C 33 i y < 0 then none else some (if i < 1000 then 3 else if i < 2000 then 4 else 8, C 33 i y)) = _
  rw [if_neg (by omega), if_pos (by omega)]
  rfl
theorem hpa_33_0 (hA : kJ A V) (hv : V 33 i) (hi0 : 0 ≤ i) (hi1 : i < 1000) (h0 : 0 ≤ y) (h1 : y < i % 1000) (h2 : 0 ≤ x) : kup (kHp J A V C R) (A 33 i) y.toNat (.ref (A 3 x)) = kHp J A V (kmu C 33 i y x) R := by
  have e : ke A 33 i y.toNat x = .ref (A 3 x) := by
    show kre A (if x < 0 then none else some (if i < 1000 then 3 else if i < 2000 then 4 else 8, x)) = _
    rw [if_neg (by omega), if_pos (by omega)]
    rfl
  rw [← e]
  exact kHp_putac (f := 33) hA hv rfl h0 (show y.toNat < (i % 1000).toNat by omega)
theorem hga_33_1 (hA : kJ A V) (hv : V 33 i) (hi0 : 1000 ≤ i) (hi1 : i < 2000) (h0 : 0 ≤ y) (h1 : y < i % 1000) (h2 : 0 ≤ C 33 i y) : kg (kHp J A V C R) (A 33 i) y.toNat = .ref (A 4 (C 33 i y)) := by
  refine (kHp_geta (f := 33) hA hv h0 (show y.toNat < (i % 1000).toNat by omega)).trans ?_
  show kre A (if C 33 i y < 0 then none else some (if i < 1000 then 3 else if i < 2000 then 4 else 8, C 33 i y)) = _
  rw [if_neg (by omega), if_neg (by omega), if_pos (by omega)]
  rfl
theorem hpa_33_1 (hA : kJ A V) (hv : V 33 i) (hi0 : 1000 ≤ i) (hi1 : i < 2000) (h0 : 0 ≤ y) (h1 : y < i % 1000) (h2 : 0 ≤ x) : kup (kHp J A V C R) (A 33 i) y.toNat (.ref (A 4 x)) = kHp J A V (kmu C 33 i y x) R := by
  have e : ke A 33 i y.toNat x = .ref (A 4 x) := by
    show kre A (if x < 0 then none else some (if i < 1000 then 3 else if i < 2000 then 4 else 8, x)) = _
    rw [if_neg (by omega), if_neg (by omega), if_pos (by omega)]
    rfl
  rw [← e]
  exact kHp_putac (f := 33) hA hv rfl h0 (show y.toNat < (i % 1000).toNat by omega)
theorem hga_33_2 (hA : kJ A V) (hv : V 33 i) (hi0 : 2000 ≤ i) (hi1 : i < 3000) (h0 : 0 ≤ y) (h1 : y < i % 1000) (h2 : 0 ≤ C 33 i y) : kg (kHp J A V C R) (A 33 i) y.toNat = .ref (A 8 (C 33 i y)) := by
  refine (kHp_geta (f := 33) hA hv h0 (show y.toNat < (i % 1000).toNat by omega)).trans ?_
  show kre A (if C 33 i y < 0 then none else some (if i < 1000 then 3 else if i < 2000 then 4 else 8, C 33 i y)) = _
  rw [if_neg (by omega), if_neg (by omega), if_neg (by omega)]
  rfl
theorem hpa_33_2 (hA : kJ A V) (hv : V 33 i) (hi0 : 2000 ≤ i) (hi1 : i < 3000) (h0 : 0 ≤ y) (h1 : y < i % 1000) (h2 : 0 ≤ x) : kup (kHp J A V C R) (A 33 i) y.toNat (.ref (A 8 x)) = kHp J A V (kmu C 33 i y x) R := by
  have e : ke A 33 i y.toNat x = .ref (A 8 x) := by
    show kre A (if x < 0 then none else some (if i < 1000 then 3 else if i < 2000 then 4 else 8, x)) = _
    rw [if_neg (by omega), if_neg (by omega), if_neg (by omega)]
    rfl
  rw [← e]
  exact kHp_putac (f := 33) hA hv rfl h0 (show y.toNat < (i % 1000).toNat by omega)
theorem hoa_33 (hA : kJ A V) (hv : V 33 i) (h0 : 0 ≤ y) (h1 : y < i % 1000) : kok (kHp J A V C R) (A 33 i) 2999 y.toNat := kHp_ok hA hv (show y.toNat < (i % 1000).toNat by omega)
theorem hpan_33 (hA : kJ A V) (hv : V 33 i) (h0 : 0 ≤ y) (h1 : y < i % 1000) : kup (kHp J A V C R) (A 33 i) y.toNat .null = kHp J A V (kmu C 33 i y (-1)) R := kHp_putac (f := 33) (x := -1) hA hv rfl h0 (show y.toNat < (i % 1000).toNat by omega)
theorem hl_33 (hA : kJ A V) (hv : V 33 i) : kln (kHp J A V C R) (A 33 i) = (i % 1000).toNat := kHp_ln hA hv
end
def ksta (f : Nat) : Bool := ([0, 1, 2, 5, 7, 9, 25, 26, 27, 28, 29, 30, 31, 32, 34, 36, 52, 54, 55, 56, 58, 59, 60, 61, 62, 63, 64, 66, 67, 68, 69, 70, 71, 72, 73, 74, 75, 77, 78, 79, 80, 81, 83, 84, 85, 87, 88] : List Nat).contains f
/-- what stands from the start -/
def kLV (V : ka_V) : Prop := (∀ f, ksta f = true → V f 0) ∧ V 10 0 ∧ V 10 1 ∧ V 10 2
theorem kLV.l0 {V : ka_V} (v : kLV V) : V 0 0 := v.1 0 rfl
theorem kLV.l1 {V : ka_V} (v : kLV V) : V 1 0 := v.1 1 rfl
theorem kLV.l2 {V : ka_V} (v : kLV V) : V 2 0 := v.1 2 rfl
theorem kLV.l5 {V : ka_V} (v : kLV V) : V 5 0 := v.1 5 rfl
theorem kLV.l7 {V : ka_V} (v : kLV V) : V 7 0 := v.1 7 rfl
theorem kLV.l9 {V : ka_V} (v : kLV V) : V 9 0 := v.1 9 rfl
theorem kLV.l25 {V : ka_V} (v : kLV V) : V 25 0 := v.1 25 rfl
theorem kLV.l26 {V : ka_V} (v : kLV V) : V 26 0 := v.1 26 rfl
theorem kLV.l27 {V : ka_V} (v : kLV V) : V 27 0 := v.1 27 rfl
theorem kLV.l28 {V : ka_V} (v : kLV V) : V 28 0 := v.1 28 rfl
theorem kLV.l29 {V : ka_V} (v : kLV V) : V 29 0 := v.1 29 rfl
theorem kLV.l30 {V : ka_V} (v : kLV V) : V 30 0 := v.1 30 rfl
theorem kLV.l31 {V : ka_V} (v : kLV V) : V 31 0 := v.1 31 rfl
theorem kLV.l32 {V : ka_V} (v : kLV V) : V 32 0 := v.1 32 rfl
theorem kLV.l34 {V : ka_V} (v : kLV V) : V 34 0 := v.1 34 rfl
theorem kLV.l36 {V : ka_V} (v : kLV V) : V 36 0 := v.1 36 rfl
theorem kLV.l52 {V : ka_V} (v : kLV V) : V 52 0 := v.1 52 rfl
theorem kLV.l54 {V : ka_V} (v : kLV V) : V 54 0 := v.1 54 rfl
theorem kLV.l55 {V : ka_V} (v : kLV V) : V 55 0 := v.1 55 rfl
theorem kLV.l56 {V : ka_V} (v : kLV V) : V 56 0 := v.1 56 rfl
theorem kLV.l58 {V : ka_V} (v : kLV V) : V 58 0 := v.1 58 rfl
theorem kLV.l59 {V : ka_V} (v : kLV V) : V 59 0 := v.1 59 rfl
theorem kLV.l60 {V : ka_V} (v : kLV V) : V 60 0 := v.1 60 rfl
theorem kLV.l61 {V : ka_V} (v : kLV V) : V 61 0 := v.1 61 rfl
theorem kLV.l62 {V : ka_V} (v : kLV V) : V 62 0 := v.1 62 rfl
theorem kLV.l63 {V : ka_V} (v : kLV V) : V 63 0 := v.1 63 rfl
theorem kLV.l64 {V : ka_V} (v : kLV V) : V 64 0 := v.1 64 rfl
theorem kLV.l66 {V : ka_V} (v : kLV V) : V 66 0 := v.1 66 rfl
theorem kLV.l67 {V : ka_V} (v : kLV V) : V 67 0 := v.1 67 rfl
theorem kLV.l68 {V : ka_V} (v : kLV V) : V 68 0 := v.1 68 rfl
theorem kLV.l69 {V : ka_V} (v : kLV V) : V 69 0 := v.1 69 rfl
theorem kLV.l70 {V : ka_V} (v : kLV V) : V 70 0 := v.1 70 rfl
theorem kLV.l71 {V : ka_V} (v : kLV V) : V 71 0 := v.1 71 rfl
theorem kLV.l72 {V : ka_V} (v : kLV V) : V 72 0 := v.1 72 rfl
theorem kLV.l73 {V : ka_V} (v : kLV V) : V 73 0 := v.1 73 rfl
theorem kLV.l74 {V : ka_V} (v : kLV V) : V 74 0 := v.1 74 rfl
theorem kLV.l75 {V : ka_V} (v : kLV V) : V 75 0 := v.1 75 rfl
theorem kLV.l77 {V : ka_V} (v : kLV V) : V 77 0 := v.1 77 rfl
theorem kLV.l78 {V : ka_V} (v : kLV V) : V 78 0 := v.1 78 rfl
theorem kLV.l79 {V : ka_V} (v : kLV V) : V 79 0 := v.1 79 rfl
theorem kLV.l80 {V : ka_V} (v : kLV V) : V 80 0 := v.1 80 rfl
theorem kLV.l81 {V : ka_V} (v : kLV V) : V 81 0 := v.1 81 rfl
theorem kLV.l83 {V : ka_V} (v : kLV V) : V 83 0 := v.1 83 rfl
theorem kLV.l84 {V : ka_V} (v : kLV V) : V 84 0 := v.1 84 rfl
theorem kLV.l85 {V : ka_V} (v : kLV V) : V 85 0 := v.1 85 rfl
theorem kLV.l87 {V : ka_V} (v : kLV V) : V 87 0 := v.1 87 rfl
theorem kLV.l88 {V : ka_V} (v : kLV V) : V 88 0 := v.1 88 rfl
