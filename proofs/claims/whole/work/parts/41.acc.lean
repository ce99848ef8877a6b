/-! Each slot's read and write. Printed by wip/whole/gen8.py. -/
section
variable {h : ka_H} {A : ka_A} {V : ka_V} {M : ka_M} {i x y : Int}
theorem KW.t_0 (w : KW h A V M) (hv : V 0 i) : ktg h (A 0 i) 0 := w.tg hv
theorem KW.o_0_0 (w : KW h A V M) (hv : V 0 i) : kok h (A 0 i) 0 0 := w.ok hv (show 0 < 7 by decide)
theorem KW.g_0_0 (w : KW h A V M) (hv : V 0 i) : kg h (A 0 i) 0 = .ref (A 1 0) := w.get hv (show 0 < 7 by decide)
theorem KW.o_0_1 (w : KW h A V M) (hv : V 0 i) : kok h (A 0 i) 0 1 := w.ok hv (show 1 < 7 by decide)
theorem KW.g_0_1 (w : KW h A V M) (hv : V 0 i) : kg h (A 0 i) 1 = .ref (A 5 0) := w.get hv (show 1 < 7 by decide)
theorem KW.o_0_2 (w : KW h A V M) (hv : V 0 i) : kok h (A 0 i) 0 2 := w.ok hv (show 2 < 7 by decide)
theorem KW.g_0_2 (w : KW h A V M) (hv : V 0 i) : kg h (A 0 i) 2 = .ref (A 7 0) := w.get hv (show 2 < 7 by decide)
theorem KW.o_0_3 (w : KW h A V M) (hv : V 0 i) : kok h (A 0 i) 0 3 := w.ok hv (show 3 < 7 by decide)
theorem KW.g_0_3 (w : KW h A V M) (hv : V 0 i) : kg h (A 0 i) 3 = .ref (A 2 0) := w.get hv (show 3 < 7 by decide)
theorem KW.o_0_4 (w : KW h A V M) (hv : V 0 i) : kok h (A 0 i) 0 4 := w.ok hv (show 4 < 7 by decide)
theorem KW.g_0_4 (w : KW h A V M) (hv : V 0 i) : kg h (A 0 i) 4 = .ref (A 30 0) := w.get hv (show 4 < 7 by decide)
theorem KW.o_0_5 (w : KW h A V M) (hv : V 0 i) : kok h (A 0 i) 0 5 := w.ok hv (show 5 < 7 by decide)
theorem KW.g_0_5 (w : KW h A V M) (hv : V 0 i) : kg h (A 0 i) 5 = kre A (if (M 0 i 5) < 0 then none else some (6, (M 0 i 5))) := w.get hv (show 5 < 7 by decide)
theorem KW.p_0_5 (w : KW h A V M) (hv : V 0 i) (h0 : 0 ≤ x) (hx : V 6 x) : KW (kup h (A 0 i) 5 (.ref (A 6 x))) A V (kmu M 0 i 5 x) := by
  have e : ktgt 0 i 5 x = some (6, x) := if_neg (by omega)
  have z := w.put (f := 0) (j := 5) (x := x) hv (show 5 < 7 by decide) (fun q hq => by rw [e] at hq; cases hq; exact hx)
  have e2 : ke A 0 i 5 x = .ref (A 6 x) := by
    show kre A (ktgt 0 i 5 x) = _
    rw [e]
    rfl
  rw [e2] at z
  exact z
theorem KW.z_0_5 (w : KW h A V M) (hv : V 0 i) : KW (kup h (A 0 i) 5 .null) A V (kmu M 0 i 5 (-1)) := by
  have e : ktgt 0 i 5 (-1) = none := rfl
  have z := w.put (f := 0) (j := 5) (x := -1) hv (show 5 < 7 by decide) (fun q hq => by rw [e] at hq; cases hq)
  have e2 : ke A 0 i 5 (-1) = .null := by
    show kre A (ktgt 0 i 5 (-1)) = _
    rw [e]
    rfl
  rw [e2] at z
  exact z
theorem KW.o_0_6 (w : KW h A V M) (hv : V 0 i) : kok h (A 0 i) 0 6 := w.ok hv (show 6 < 7 by decide)
theorem KW.g_0_6 (w : KW h A V M) (hv : V 0 i) : kg h (A 0 i) 6 = iv (M 0 i 6) := w.get hv (show 6 < 7 by decide)
theorem KW.p_0_6 (w : KW h A V M) (hv : V 0 i) : KW (kup h (A 0 i) 6 (iv x)) A V (kmu M 0 i 6 x) := w.put hv (show 6 < 7 by decide) (fun q hq => by cases hq)
theorem KW.t_1 (w : KW h A V M) (hv : V 1 i) : ktg h (A 1 i) 1 := w.tg hv
theorem KW.o_1_0 (w : KW h A V M) (hv : V 1 i) : kok h (A 1 i) 1 0 := w.ok hv (show 0 < 4 by decide)
theorem KW.g_1_0 (w : KW h A V M) (hv : V 1 i) : kg h (A 1 i) 0 = .ref (A 10 0) := w.get hv (show 0 < 4 by decide)
theorem KW.o_1_1 (w : KW h A V M) (hv : V 1 i) : kok h (A 1 i) 1 1 := w.ok hv (show 1 < 4 by decide)
theorem KW.g_1_1 (w : KW h A V M) (hv : V 1 i) : kg h (A 1 i) 1 = .ref (A 32 0) := w.get hv (show 1 < 4 by decide)
theorem KW.o_1_2 (w : KW h A V M) (hv : V 1 i) : kok h (A 1 i) 1 2 := w.ok hv (show 2 < 4 by decide)
theorem KW.g_1_2 (w : KW h A V M) (hv : V 1 i) : kg h (A 1 i) 2 = .ref (A 25 0) := w.get hv (show 2 < 4 by decide)
theorem KW.o_1_3 (w : KW h A V M) (hv : V 1 i) : kok h (A 1 i) 1 3 := w.ok hv (show 3 < 4 by decide)
theorem KW.g_1_3 (w : KW h A V M) (hv : V 1 i) : kg h (A 1 i) 3 = .ref (A 26 0) := w.get hv (show 3 < 4 by decide)
theorem KW.t_2 (w : KW h A V M) (hv : V 2 i) : ktg h (A 2 i) 2 := w.tg hv
theorem KW.o_2_0 (w : KW h A V M) (hv : V 2 i) : kok h (A 2 i) 2 0 := w.ok hv (show 0 < 4 by decide)
theorem KW.g_2_0 (w : KW h A V M) (hv : V 2 i) : kg h (A 2 i) 0 = .ref (A 10 1) := w.get hv (show 0 < 4 by decide)
theorem KW.o_2_1 (w : KW h A V M) (hv : V 2 i) : kok h (A 2 i) 2 1 := w.ok hv (show 1 < 4 by decide)
theorem KW.g_2_1 (w : KW h A V M) (hv : V 2 i) : kg h (A 2 i) 1 = .ref (A 10 2) := w.get hv (show 1 < 4 by decide)
theorem KW.o_2_2 (w : KW h A V M) (hv : V 2 i) : kok h (A 2 i) 2 2 := w.ok hv (show 2 < 4 by decide)
theorem KW.g_2_2 (w : KW h A V M) (hv : V 2 i) : kg h (A 2 i) 2 = .ref (A 28 0) := w.get hv (show 2 < 4 by decide)
theorem KW.o_2_3 (w : KW h A V M) (hv : V 2 i) : kok h (A 2 i) 2 3 := w.ok hv (show 3 < 4 by decide)
theorem KW.g_2_3 (w : KW h A V M) (hv : V 2 i) : kg h (A 2 i) 3 = .ref (A 29 0) := w.get hv (show 3 < 4 by decide)
theorem KW.t_3 (w : KW h A V M) (hv : V 3 i) : ktg h (A 3 i) 3 := w.tg hv
theorem KW.o_3_0 (w : KW h A V M) (hv : V 3 i) : kok h (A 3 i) 3 0 := w.ok hv (show 0 < 5 by decide)
theorem KW.g_3_0 (w : KW h A V M) (hv : V 3 i) : kg h (A 3 i) 0 = iv (M 3 i 0) := w.get hv (show 0 < 5 by decide)
theorem KW.p_3_0 (w : KW h A V M) (hv : V 3 i) : KW (kup h (A 3 i) 0 (iv x)) A V (kmu M 3 i 0 x) := w.put hv (show 0 < 5 by decide) (fun q hq => by cases hq)
theorem KW.o_3_1 (w : KW h A V M) (hv : V 3 i) : kok h (A 3 i) 3 1 := w.ok hv (show 1 < 5 by decide)
theorem KW.g_3_1 (w : KW h A V M) (hv : V 3 i) : kg h (A 3 i) 1 = iv (M 3 i 1) := w.get hv (show 1 < 5 by decide)
theorem KW.p_3_1 (w : KW h A V M) (hv : V 3 i) : KW (kup h (A 3 i) 1 (iv x)) A V (kmu M 3 i 1 x) := w.put hv (show 1 < 5 by decide) (fun q hq => by cases hq)
theorem KW.o_3_2 (w : KW h A V M) (hv : V 3 i) : kok h (A 3 i) 3 2 := w.ok hv (show 2 < 5 by decide)
theorem KW.g_3_2 (w : KW h A V M) (hv : V 3 i) : kg h (A 3 i) 2 = kre A (if (M 3 i 2) < 0 then none else some (6, (M 3 i 2))) := w.get hv (show 2 < 5 by decide)
theorem KW.p_3_2 (w : KW h A V M) (hv : V 3 i) (h0 : 0 ≤ x) (hx : V 6 x) : KW (kup h (A 3 i) 2 (.ref (A 6 x))) A V (kmu M 3 i 2 x) := by
  have e : ktgt 3 i 2 x = some (6, x) := if_neg (by omega)
  have z := w.put (f := 3) (j := 2) (x := x) hv (show 2 < 5 by decide) (fun q hq => by rw [e] at hq; cases hq; exact hx)
  have e2 : ke A 3 i 2 x = .ref (A 6 x) := by
    show kre A (ktgt 3 i 2 x) = _
    rw [e]
    rfl
  rw [e2] at z
  exact z
theorem KW.z_3_2 (w : KW h A V M) (hv : V 3 i) : KW (kup h (A 3 i) 2 .null) A V (kmu M 3 i 2 (-1)) := by
  have e : ktgt 3 i 2 (-1) = none := rfl
  have z := w.put (f := 3) (j := 2) (x := -1) hv (show 2 < 5 by decide) (fun q hq => by rw [e] at hq; cases hq)
  have e2 : ke A 3 i 2 (-1) = .null := by
    show kre A (ktgt 3 i 2 (-1)) = _
    rw [e]
    rfl
  rw [e2] at z
  exact z
theorem KW.o_3_3 (w : KW h A V M) (hv : V 3 i) : kok h (A 3 i) 3 3 := w.ok hv (show 3 < 5 by decide)
theorem KW.g_3_3 (w : KW h A V M) (hv : V 3 i) : kg h (A 3 i) 3 = iv (M 3 i 3) := w.get hv (show 3 < 5 by decide)
theorem KW.p_3_3 (w : KW h A V M) (hv : V 3 i) : KW (kup h (A 3 i) 3 (iv x)) A V (kmu M 3 i 3 x) := w.put hv (show 3 < 5 by decide) (fun q hq => by cases hq)
theorem KW.o_3_4 (w : KW h A V M) (hv : V 3 i) : kok h (A 3 i) 3 4 := w.ok hv (show 4 < 5 by decide)
theorem KW.g_3_4 (w : KW h A V M) (hv : V 3 i) : kg h (A 3 i) 4 = lv (M 3 i 4) := w.get hv (show 4 < 5 by decide)
theorem KW.p_3_4 (w : KW h A V M) (hv : V 3 i) : KW (kup h (A 3 i) 4 (lv x)) A V (kmu M 3 i 4 x) := w.put hv (show 4 < 5 by decide) (fun q hq => by cases hq)
theorem KW.t_4 (w : KW h A V M) (hv : V 4 i) : ktg h (A 4 i) 4 := w.tg hv
theorem KW.o_4_0 (w : KW h A V M) (hv : V 4 i) : kok h (A 4 i) 4 0 := w.ok hv (show 0 < 10 by decide)
theorem KW.g_4_0 (w : KW h A V M) (hv : V 4 i) : kg h (A 4 i) 0 = iv (M 4 i 0) := w.get hv (show 0 < 10 by decide)
theorem KW.p_4_0 (w : KW h A V M) (hv : V 4 i) : KW (kup h (A 4 i) 0 (iv x)) A V (kmu M 4 i 0 x) := w.put hv (show 0 < 10 by decide) (fun q hq => by cases hq)
theorem KW.o_4_1 (w : KW h A V M) (hv : V 4 i) : kok h (A 4 i) 4 1 := w.ok hv (show 1 < 10 by decide)
theorem KW.g_4_1 (w : KW h A V M) (hv : V 4 i) : kg h (A 4 i) 1 = iv (M 4 i 1) := w.get hv (show 1 < 10 by decide)
theorem KW.p_4_1 (w : KW h A V M) (hv : V 4 i) : KW (kup h (A 4 i) 1 (iv x)) A V (kmu M 4 i 1 x) := w.put hv (show 1 < 10 by decide) (fun q hq => by cases hq)
theorem KW.o_4_2 (w : KW h A V M) (hv : V 4 i) : kok h (A 4 i) 4 2 := w.ok hv (show 2 < 10 by decide)
theorem KW.g_4_2 (w : KW h A V M) (hv : V 4 i) : kg h (A 4 i) 2 = iv (M 4 i 2) := w.get hv (show 2 < 10 by decide)
theorem KW.p_4_2 (w : KW h A V M) (hv : V 4 i) : KW (kup h (A 4 i) 2 (iv x)) A V (kmu M 4 i 2 x) := w.put hv (show 2 < 10 by decide) (fun q hq => by cases hq)
theorem KW.o_4_3 (w : KW h A V M) (hv : V 4 i) : kok h (A 4 i) 4 3 := w.ok hv (show 3 < 10 by decide)
theorem KW.g_4_3 (w : KW h A V M) (hv : V 4 i) : kg h (A 4 i) 3 = iv (M 4 i 3) := w.get hv (show 3 < 10 by decide)
theorem KW.p_4_3 (w : KW h A V M) (hv : V 4 i) : KW (kup h (A 4 i) 3 (iv x)) A V (kmu M 4 i 3 x) := w.put hv (show 3 < 10 by decide) (fun q hq => by cases hq)
theorem KW.o_4_4 (w : KW h A V M) (hv : V 4 i) : kok h (A 4 i) 4 4 := w.ok hv (show 4 < 10 by decide)
theorem KW.g_4_4 (w : KW h A V M) (hv : V 4 i) : kg h (A 4 i) 4 = .ref (A 6 (100 + i)) := w.get hv (show 4 < 10 by decide)
theorem KW.o_4_5 (w : KW h A V M) (hv : V 4 i) : kok h (A 4 i) 4 5 := w.ok hv (show 5 < 10 by decide)
theorem KW.g_4_5 (w : KW h A V M) (hv : V 4 i) : kg h (A 4 i) 5 = .ref (A 23 i) := w.get hv (show 5 < 10 by decide)
theorem KW.o_4_6 (w : KW h A V M) (hv : V 4 i) : kok h (A 4 i) 4 6 := w.ok hv (show 6 < 10 by decide)
theorem KW.g_4_6 (w : KW h A V M) (hv : V 4 i) : kg h (A 4 i) 6 = .ref (A 24 i) := w.get hv (show 6 < 10 by decide)
theorem KW.o_4_7 (w : KW h A V M) (hv : V 4 i) : kok h (A 4 i) 4 7 := w.ok hv (show 7 < 10 by decide)
theorem KW.g_4_7 (w : KW h A V M) (hv : V 4 i) : kg h (A 4 i) 7 = iv (M 4 i 7) := w.get hv (show 7 < 10 by decide)
theorem KW.p_4_7 (w : KW h A V M) (hv : V 4 i) : KW (kup h (A 4 i) 7 (iv x)) A V (kmu M 4 i 7 x) := w.put hv (show 7 < 10 by decide) (fun q hq => by cases hq)
theorem KW.o_4_8 (w : KW h A V M) (hv : V 4 i) : kok h (A 4 i) 4 8 := w.ok hv (show 8 < 10 by decide)
theorem KW.g_4_8 (w : KW h A V M) (hv : V 4 i) : kg h (A 4 i) 8 = iv (M 4 i 8) := w.get hv (show 8 < 10 by decide)
theorem KW.p_4_8 (w : KW h A V M) (hv : V 4 i) : KW (kup h (A 4 i) 8 (iv x)) A V (kmu M 4 i 8 x) := w.put hv (show 8 < 10 by decide) (fun q hq => by cases hq)
theorem KW.o_4_9 (w : KW h A V M) (hv : V 4 i) : kok h (A 4 i) 4 9 := w.ok hv (show 9 < 10 by decide)
theorem KW.g_4_9 (w : KW h A V M) (hv : V 4 i) : kg h (A 4 i) 9 = iv (M 4 i 9) := w.get hv (show 9 < 10 by decide)
theorem KW.p_4_9 (w : KW h A V M) (hv : V 4 i) : KW (kup h (A 4 i) 9 (iv x)) A V (kmu M 4 i 9 x) := w.put hv (show 9 < 10 by decide) (fun q hq => by cases hq)
theorem KW.t_5 (w : KW h A V M) (hv : V 5 i) : ktg h (A 5 i) 5 := w.tg hv
theorem KW.o_5_0 (w : KW h A V M) (hv : V 5 i) : kok h (A 5 i) 5 0 := w.ok hv (show 0 < 4 by decide)
theorem KW.g_5_0 (w : KW h A V M) (hv : V 5 i) : kg h (A 5 i) 0 = .ref (A 31 0) := w.get hv (show 0 < 4 by decide)
theorem KW.o_5_1 (w : KW h A V M) (hv : V 5 i) : kok h (A 5 i) 5 1 := w.ok hv (show 1 < 4 by decide)
theorem KW.g_5_1 (w : KW h A V M) (hv : V 5 i) : kg h (A 5 i) 1 = iv (M 5 i 1) := w.get hv (show 1 < 4 by decide)
theorem KW.p_5_1 (w : KW h A V M) (hv : V 5 i) : KW (kup h (A 5 i) 1 (iv x)) A V (kmu M 5 i 1 x) := w.put hv (show 1 < 4 by decide) (fun q hq => by cases hq)
theorem KW.o_5_2 (w : KW h A V M) (hv : V 5 i) : kok h (A 5 i) 5 2 := w.ok hv (show 2 < 4 by decide)
theorem KW.g_5_2 (w : KW h A V M) (hv : V 5 i) : kg h (A 5 i) 2 = iv (M 5 i 2) := w.get hv (show 2 < 4 by decide)
theorem KW.p_5_2 (w : KW h A V M) (hv : V 5 i) : KW (kup h (A 5 i) 2 (iv x)) A V (kmu M 5 i 2 x) := w.put hv (show 2 < 4 by decide) (fun q hq => by cases hq)
theorem KW.o_5_3 (w : KW h A V M) (hv : V 5 i) : kok h (A 5 i) 5 3 := w.ok hv (show 3 < 4 by decide)
theorem KW.g_5_3 (w : KW h A V M) (hv : V 5 i) : kg h (A 5 i) 3 = iv (M 5 i 3) := w.get hv (show 3 < 4 by decide)
theorem KW.p_5_3 (w : KW h A V M) (hv : V 5 i) : KW (kup h (A 5 i) 3 (iv x)) A V (kmu M 5 i 3 x) := w.put hv (show 3 < 4 by decide) (fun q hq => by cases hq)
theorem KW.t_6 (w : KW h A V M) (hv : V 6 i) : ktg h (A 6 i) 6 := w.tg hv
theorem KW.o_6_0 (w : KW h A V M) (hv : V 6 i) : kok h (A 6 i) 6 0 := w.ok hv (show 0 < 6 by decide)
theorem KW.g_6_0 (w : KW h A V M) (hv : V 6 i) : kg h (A 6 i) 0 = iv (M 6 i 0) := w.get hv (show 0 < 6 by decide)
theorem KW.p_6_0 (w : KW h A V M) (hv : V 6 i) : KW (kup h (A 6 i) 0 (iv x)) A V (kmu M 6 i 0 x) := w.put hv (show 0 < 6 by decide) (fun q hq => by cases hq)
theorem KW.o_6_1 (w : KW h A V M) (hv : V 6 i) : kok h (A 6 i) 6 1 := w.ok hv (show 1 < 6 by decide)
theorem KW.g_6_1 (w : KW h A V M) (hv : V 6 i) : kg h (A 6 i) 1 = kre A (if (M 6 i 1) < 0 then none else some (6, (M 6 i 1))) := w.get hv (show 1 < 6 by decide)
theorem KW.p_6_1 (w : KW h A V M) (hv : V 6 i) (h0 : 0 ≤ x) (hx : V 6 x) : KW (kup h (A 6 i) 1 (.ref (A 6 x))) A V (kmu M 6 i 1 x) := by
  have e : ktgt 6 i 1 x = some (6, x) := if_neg (by omega)
  have z := w.put (f := 6) (j := 1) (x := x) hv (show 1 < 6 by decide) (fun q hq => by rw [e] at hq; cases hq; exact hx)
  have e2 : ke A 6 i 1 x = .ref (A 6 x) := by
    show kre A (ktgt 6 i 1 x) = _
    rw [e]
    rfl
  rw [e2] at z
  exact z
theorem KW.z_6_1 (w : KW h A V M) (hv : V 6 i) : KW (kup h (A 6 i) 1 .null) A V (kmu M 6 i 1 (-1)) := by
  have e : ktgt 6 i 1 (-1) = none := rfl
  have z := w.put (f := 6) (j := 1) (x := -1) hv (show 1 < 6 by decide) (fun q hq => by rw [e] at hq; cases hq)
  have e2 : ke A 6 i 1 (-1) = .null := by
    show kre A (ktgt 6 i 1 (-1)) = _
    rw [e]
    rfl
  rw [e2] at z
  exact z
theorem KW.o_6_2 (w : KW h A V M) (hv : V 6 i) : kok h (A 6 i) 6 2 := w.ok hv (show 2 < 6 by decide)
theorem KW.g_6_2 (w : KW h A V M) (hv : V 6 i) : kg h (A 6 i) 2 = .ref (A 20 i) := w.get hv (show 2 < 6 by decide)
theorem KW.o_6_3 (w : KW h A V M) (hv : V 6 i) : kok h (A 6 i) 6 3 := w.ok hv (show 3 < 6 by decide)
theorem KW.g_6_3 (w : KW h A V M) (hv : V 6 i) : kg h (A 6 i) 3 = .ref (A 21 i) := w.get hv (show 3 < 6 by decide)
theorem KW.o_6_4 (w : KW h A V M) (hv : V 6 i) : kok h (A 6 i) 6 4 := w.ok hv (show 4 < 6 by decide)
theorem KW.g_6_4 (w : KW h A V M) (hv : V 6 i) : kg h (A 6 i) 4 = .ref (A 22 i) := w.get hv (show 4 < 6 by decide)
theorem KW.o_6_5 (w : KW h A V M) (hv : V 6 i) : kok h (A 6 i) 6 5 := w.ok hv (show 5 < 6 by decide)
theorem KW.g_6_5 (w : KW h A V M) (hv : V 6 i) : kg h (A 6 i) 5 = iv (M 6 i 5) := w.get hv (show 5 < 6 by decide)
theorem KW.p_6_5 (w : KW h A V M) (hv : V 6 i) : KW (kup h (A 6 i) 5 (iv x)) A V (kmu M 6 i 5 x) := w.put hv (show 5 < 6 by decide) (fun q hq => by cases hq)
theorem KW.t_7 (w : KW h A V M) (hv : V 7 i) : ktg h (A 7 i) 7 := w.tg hv
theorem KW.o_7_0 (w : KW h A V M) (hv : V 7 i) : kok h (A 7 i) 7 0 := w.ok hv (show 0 < 2 by decide)
theorem KW.g_7_0 (w : KW h A V M) (hv : V 7 i) : kg h (A 7 i) 0 = .ref (A 27 0) := w.get hv (show 0 < 2 by decide)
theorem KW.o_7_1 (w : KW h A V M) (hv : V 7 i) : kok h (A 7 i) 7 1 := w.ok hv (show 1 < 2 by decide)
theorem KW.g_7_1 (w : KW h A V M) (hv : V 7 i) : kg h (A 7 i) 1 = iv (M 7 i 1) := w.get hv (show 1 < 2 by decide)
theorem KW.p_7_1 (w : KW h A V M) (hv : V 7 i) : KW (kup h (A 7 i) 1 (iv x)) A V (kmu M 7 i 1 x) := w.put hv (show 1 < 2 by decide) (fun q hq => by cases hq)
theorem KW.t_8 (w : KW h A V M) (hv : V 8 i) : ktg h (A 8 i) 8 := w.tg hv
theorem KW.o_8_0 (w : KW h A V M) (hv : V 8 i) : kok h (A 8 i) 8 0 := w.ok hv (show 0 < 7 by decide)
theorem KW.g_8_0 (w : KW h A V M) (hv : V 8 i) : kg h (A 8 i) 0 = iv (M 8 i 0) := w.get hv (show 0 < 7 by decide)
theorem KW.p_8_0 (w : KW h A V M) (hv : V 8 i) : KW (kup h (A 8 i) 0 (iv x)) A V (kmu M 8 i 0 x) := w.put hv (show 0 < 7 by decide) (fun q hq => by cases hq)
theorem KW.o_8_1 (w : KW h A V M) (hv : V 8 i) : kok h (A 8 i) 8 1 := w.ok hv (show 1 < 7 by decide)
theorem KW.g_8_1 (w : KW h A V M) (hv : V 8 i) : kg h (A 8 i) 1 = iv (M 8 i 1) := w.get hv (show 1 < 7 by decide)
theorem KW.p_8_1 (w : KW h A V M) (hv : V 8 i) : KW (kup h (A 8 i) 1 (iv x)) A V (kmu M 8 i 1 x) := w.put hv (show 1 < 7 by decide) (fun q hq => by cases hq)
theorem KW.o_8_2 (w : KW h A V M) (hv : V 8 i) : kok h (A 8 i) 8 2 := w.ok hv (show 2 < 7 by decide)
theorem KW.g_8_2 (w : KW h A V M) (hv : V 8 i) : kg h (A 8 i) 2 = kre A (if (M 8 i 2) < 0 then none else some (4, (M 8 i 2))) := w.get hv (show 2 < 7 by decide)
theorem KW.p_8_2 (w : KW h A V M) (hv : V 8 i) (h0 : 0 ≤ x) (hx : V 4 x) : KW (kup h (A 8 i) 2 (.ref (A 4 x))) A V (kmu M 8 i 2 x) := by
  have e : ktgt 8 i 2 x = some (4, x) := if_neg (by omega)
  have z := w.put (f := 8) (j := 2) (x := x) hv (show 2 < 7 by decide) (fun q hq => by rw [e] at hq; cases hq; exact hx)
  have e2 : ke A 8 i 2 x = .ref (A 4 x) := by
    show kre A (ktgt 8 i 2 x) = _
    rw [e]
    rfl
  rw [e2] at z
  exact z
theorem KW.z_8_2 (w : KW h A V M) (hv : V 8 i) : KW (kup h (A 8 i) 2 .null) A V (kmu M 8 i 2 (-1)) := by
  have e : ktgt 8 i 2 (-1) = none := rfl
  have z := w.put (f := 8) (j := 2) (x := -1) hv (show 2 < 7 by decide) (fun q hq => by rw [e] at hq; cases hq)
  have e2 : ke A 8 i 2 (-1) = .null := by
    show kre A (ktgt 8 i 2 (-1)) = _
    rw [e]
    rfl
  rw [e2] at z
  exact z
theorem KW.o_8_3 (w : KW h A V M) (hv : V 8 i) : kok h (A 8 i) 8 3 := w.ok hv (show 3 < 7 by decide)
theorem KW.g_8_3 (w : KW h A V M) (hv : V 8 i) : kg h (A 8 i) 3 = iv (M 8 i 3) := w.get hv (show 3 < 7 by decide)
theorem KW.p_8_3 (w : KW h A V M) (hv : V 8 i) : KW (kup h (A 8 i) 3 (iv x)) A V (kmu M 8 i 3 x) := w.put hv (show 3 < 7 by decide) (fun q hq => by cases hq)
theorem KW.o_8_4 (w : KW h A V M) (hv : V 8 i) : kok h (A 8 i) 8 4 := w.ok hv (show 4 < 7 by decide)
theorem KW.g_8_4 (w : KW h A V M) (hv : V 8 i) : kg h (A 8 i) 4 = kre A (if (M 8 i 4) < 0 then none else some (4, (M 8 i 4))) := w.get hv (show 4 < 7 by decide)
theorem KW.p_8_4 (w : KW h A V M) (hv : V 8 i) (h0 : 0 ≤ x) (hx : V 4 x) : KW (kup h (A 8 i) 4 (.ref (A 4 x))) A V (kmu M 8 i 4 x) := by
  have e : ktgt 8 i 4 x = some (4, x) := if_neg (by omega)
  have z := w.put (f := 8) (j := 4) (x := x) hv (show 4 < 7 by decide) (fun q hq => by rw [e] at hq; cases hq; exact hx)
  have e2 : ke A 8 i 4 x = .ref (A 4 x) := by
    show kre A (ktgt 8 i 4 x) = _
    rw [e]
    rfl
  rw [e2] at z
  exact z
theorem KW.z_8_4 (w : KW h A V M) (hv : V 8 i) : KW (kup h (A 8 i) 4 .null) A V (kmu M 8 i 4 (-1)) := by
  have e : ktgt 8 i 4 (-1) = none := rfl
  have z := w.put (f := 8) (j := 4) (x := -1) hv (show 4 < 7 by decide) (fun q hq => by rw [e] at hq; cases hq)
  have e2 : ke A 8 i 4 (-1) = .null := by
    show kre A (ktgt 8 i 4 (-1)) = _
    rw [e]
    rfl
  rw [e2] at z
  exact z
theorem KW.o_8_5 (w : KW h A V M) (hv : V 8 i) : kok h (A 8 i) 8 5 := w.ok hv (show 5 < 7 by decide)
theorem KW.g_8_5 (w : KW h A V M) (hv : V 8 i) : kg h (A 8 i) 5 = iv (M 8 i 5) := w.get hv (show 5 < 7 by decide)
theorem KW.p_8_5 (w : KW h A V M) (hv : V 8 i) : KW (kup h (A 8 i) 5 (iv x)) A V (kmu M 8 i 5 x) := w.put hv (show 5 < 7 by decide) (fun q hq => by cases hq)
theorem KW.o_8_6 (w : KW h A V M) (hv : V 8 i) : kok h (A 8 i) 8 6 := w.ok hv (show 6 < 7 by decide)
theorem KW.g_8_6 (w : KW h A V M) (hv : V 8 i) : kg h (A 8 i) 6 = kre A (if (M 8 i 6) < 0 then none else some (8, (M 8 i 6))) := w.get hv (show 6 < 7 by decide)
theorem KW.p_8_6 (w : KW h A V M) (hv : V 8 i) (h0 : 0 ≤ x) (hx : V 8 x) : KW (kup h (A 8 i) 6 (.ref (A 8 x))) A V (kmu M 8 i 6 x) := by
  have e : ktgt 8 i 6 x = some (8, x) := if_neg (by omega)
  have z := w.put (f := 8) (j := 6) (x := x) hv (show 6 < 7 by decide) (fun q hq => by rw [e] at hq; cases hq; exact hx)
  have e2 : ke A 8 i 6 x = .ref (A 8 x) := by
    show kre A (ktgt 8 i 6 x) = _
    rw [e]
    rfl
  rw [e2] at z
  exact z
theorem KW.z_8_6 (w : KW h A V M) (hv : V 8 i) : KW (kup h (A 8 i) 6 .null) A V (kmu M 8 i 6 (-1)) := by
  have e : ktgt 8 i 6 (-1) = none := rfl
  have z := w.put (f := 8) (j := 6) (x := -1) hv (show 6 < 7 by decide) (fun q hq => by rw [e] at hq; cases hq)
  have e2 : ke A 8 i 6 (-1) = .null := by
    show kre A (ktgt 8 i 6 (-1)) = _
    rw [e]
    rfl
  rw [e2] at z
  exact z
theorem KW.t_9 (w : KW h A V M) (hv : V 9 i) : ktg h (A 9 i) 9 := w.tg hv
theorem KW.o_9_0 (w : KW h A V M) (hv : V 9 i) : kok h (A 9 i) 9 0 := w.ok hv (show 0 < 43 by decide)
theorem KW.g_9_0 (w : KW h A V M) (hv : V 9 i) : kg h (A 9 i) 0 = iv (M 9 i 0) := w.get hv (show 0 < 43 by decide)
theorem KW.p_9_0 (w : KW h A V M) (hv : V 9 i) : KW (kup h (A 9 i) 0 (iv x)) A V (kmu M 9 i 0 x) := w.put hv (show 0 < 43 by decide) (fun q hq => by cases hq)
theorem KW.o_9_1 (w : KW h A V M) (hv : V 9 i) : kok h (A 9 i) 9 1 := w.ok hv (show 1 < 43 by decide)
theorem KW.g_9_1 (w : KW h A V M) (hv : V 9 i) : kg h (A 9 i) 1 = iv (M 9 i 1) := w.get hv (show 1 < 43 by decide)
theorem KW.p_9_1 (w : KW h A V M) (hv : V 9 i) : KW (kup h (A 9 i) 1 (iv x)) A V (kmu M 9 i 1 x) := w.put hv (show 1 < 43 by decide) (fun q hq => by cases hq)
theorem KW.o_9_2 (w : KW h A V M) (hv : V 9 i) : kok h (A 9 i) 9 2 := w.ok hv (show 2 < 43 by decide)
theorem KW.g_9_2 (w : KW h A V M) (hv : V 9 i) : kg h (A 9 i) 2 = .ref (A 52 0) := w.get hv (show 2 < 43 by decide)
theorem KW.o_9_3 (w : KW h A V M) (hv : V 9 i) : kok h (A 9 i) 9 3 := w.ok hv (show 3 < 43 by decide)
theorem KW.g_9_3 (w : KW h A V M) (hv : V 9 i) : kg h (A 9 i) 3 = iv (M 9 i 3) := w.get hv (show 3 < 43 by decide)
theorem KW.p_9_3 (w : KW h A V M) (hv : V 9 i) : KW (kup h (A 9 i) 3 (iv x)) A V (kmu M 9 i 3 x) := w.put hv (show 3 < 43 by decide) (fun q hq => by cases hq)
theorem KW.o_9_4 (w : KW h A V M) (hv : V 9 i) : kok h (A 9 i) 9 4 := w.ok hv (show 4 < 43 by decide)
theorem KW.g_9_4 (w : KW h A V M) (hv : V 9 i) : kg h (A 9 i) 4 = .ref (A 54 0) := w.get hv (show 4 < 43 by decide)
theorem KW.o_9_5 (w : KW h A V M) (hv : V 9 i) : kok h (A 9 i) 9 5 := w.ok hv (show 5 < 43 by decide)
theorem KW.g_9_5 (w : KW h A V M) (hv : V 9 i) : kg h (A 9 i) 5 = .ref (A 55 0) := w.get hv (show 5 < 43 by decide)
theorem KW.o_9_6 (w : KW h A V M) (hv : V 9 i) : kok h (A 9 i) 9 6 := w.ok hv (show 6 < 43 by decide)
theorem KW.g_9_6 (w : KW h A V M) (hv : V 9 i) : kg h (A 9 i) 6 = .ref (A 56 0) := w.get hv (show 6 < 43 by decide)
theorem KW.o_9_7 (w : KW h A V M) (hv : V 9 i) : kok h (A 9 i) 9 7 := w.ok hv (show 7 < 43 by decide)
theorem KW.g_9_7 (w : KW h A V M) (hv : V 9 i) : kg h (A 9 i) 7 = iv (M 9 i 7) := w.get hv (show 7 < 43 by decide)
theorem KW.p_9_7 (w : KW h A V M) (hv : V 9 i) : KW (kup h (A 9 i) 7 (iv x)) A V (kmu M 9 i 7 x) := w.put hv (show 7 < 43 by decide) (fun q hq => by cases hq)
theorem KW.o_9_8 (w : KW h A V M) (hv : V 9 i) : kok h (A 9 i) 9 8 := w.ok hv (show 8 < 43 by decide)
theorem KW.g_9_8 (w : KW h A V M) (hv : V 9 i) : kg h (A 9 i) 8 = .ref (A 58 0) := w.get hv (show 8 < 43 by decide)
theorem KW.o_9_9 (w : KW h A V M) (hv : V 9 i) : kok h (A 9 i) 9 9 := w.ok hv (show 9 < 43 by decide)
theorem KW.g_9_9 (w : KW h A V M) (hv : V 9 i) : kg h (A 9 i) 9 = .ref (A 59 0) := w.get hv (show 9 < 43 by decide)
theorem KW.o_9_10 (w : KW h A V M) (hv : V 9 i) : kok h (A 9 i) 9 10 := w.ok hv (show 10 < 43 by decide)
theorem KW.g_9_10 (w : KW h A V M) (hv : V 9 i) : kg h (A 9 i) 10 = .ref (A 60 0) := w.get hv (show 10 < 43 by decide)
theorem KW.o_9_11 (w : KW h A V M) (hv : V 9 i) : kok h (A 9 i) 9 11 := w.ok hv (show 11 < 43 by decide)
theorem KW.g_9_11 (w : KW h A V M) (hv : V 9 i) : kg h (A 9 i) 11 = .ref (A 61 0) := w.get hv (show 11 < 43 by decide)
theorem KW.o_9_12 (w : KW h A V M) (hv : V 9 i) : kok h (A 9 i) 9 12 := w.ok hv (show 12 < 43 by decide)
theorem KW.g_9_12 (w : KW h A V M) (hv : V 9 i) : kg h (A 9 i) 12 = .ref (A 62 0) := w.get hv (show 12 < 43 by decide)
theorem KW.o_9_13 (w : KW h A V M) (hv : V 9 i) : kok h (A 9 i) 9 13 := w.ok hv (show 13 < 43 by decide)
theorem KW.g_9_13 (w : KW h A V M) (hv : V 9 i) : kg h (A 9 i) 13 = .ref (A 63 0) := w.get hv (show 13 < 43 by decide)
theorem KW.o_9_14 (w : KW h A V M) (hv : V 9 i) : kok h (A 9 i) 9 14 := w.ok hv (show 14 < 43 by decide)
theorem KW.g_9_14 (w : KW h A V M) (hv : V 9 i) : kg h (A 9 i) 14 = .ref (A 64 0) := w.get hv (show 14 < 43 by decide)
theorem KW.o_9_15 (w : KW h A V M) (hv : V 9 i) : kok h (A 9 i) 9 15 := w.ok hv (show 15 < 43 by decide)
theorem KW.g_9_15 (w : KW h A V M) (hv : V 9 i) : kg h (A 9 i) 15 = iv (M 9 i 15) := w.get hv (show 15 < 43 by decide)
theorem KW.p_9_15 (w : KW h A V M) (hv : V 9 i) : KW (kup h (A 9 i) 15 (iv x)) A V (kmu M 9 i 15 x) := w.put hv (show 15 < 43 by decide) (fun q hq => by cases hq)
theorem KW.o_9_16 (w : KW h A V M) (hv : V 9 i) : kok h (A 9 i) 9 16 := w.ok hv (show 16 < 43 by decide)
theorem KW.g_9_16 (w : KW h A V M) (hv : V 9 i) : kg h (A 9 i) 16 = .ref (A 66 0) := w.get hv (show 16 < 43 by decide)
theorem KW.o_9_17 (w : KW h A V M) (hv : V 9 i) : kok h (A 9 i) 9 17 := w.ok hv (show 17 < 43 by decide)
theorem KW.g_9_17 (w : KW h A V M) (hv : V 9 i) : kg h (A 9 i) 17 = .ref (A 67 0) := w.get hv (show 17 < 43 by decide)
theorem KW.o_9_18 (w : KW h A V M) (hv : V 9 i) : kok h (A 9 i) 9 18 := w.ok hv (show 18 < 43 by decide)
theorem KW.g_9_18 (w : KW h A V M) (hv : V 9 i) : kg h (A 9 i) 18 = .ref (A 68 0) := w.get hv (show 18 < 43 by decide)
theorem KW.o_9_19 (w : KW h A V M) (hv : V 9 i) : kok h (A 9 i) 9 19 := w.ok hv (show 19 < 43 by decide)
theorem KW.g_9_19 (w : KW h A V M) (hv : V 9 i) : kg h (A 9 i) 19 = .ref (A 69 0) := w.get hv (show 19 < 43 by decide)
theorem KW.o_9_20 (w : KW h A V M) (hv : V 9 i) : kok h (A 9 i) 9 20 := w.ok hv (show 20 < 43 by decide)
theorem KW.g_9_20 (w : KW h A V M) (hv : V 9 i) : kg h (A 9 i) 20 = .ref (A 70 0) := w.get hv (show 20 < 43 by decide)
theorem KW.o_9_21 (w : KW h A V M) (hv : V 9 i) : kok h (A 9 i) 9 21 := w.ok hv (show 21 < 43 by decide)
theorem KW.g_9_21 (w : KW h A V M) (hv : V 9 i) : kg h (A 9 i) 21 = .ref (A 71 0) := w.get hv (show 21 < 43 by decide)
theorem KW.o_9_22 (w : KW h A V M) (hv : V 9 i) : kok h (A 9 i) 9 22 := w.ok hv (show 22 < 43 by decide)
theorem KW.g_9_22 (w : KW h A V M) (hv : V 9 i) : kg h (A 9 i) 22 = .ref (A 72 0) := w.get hv (show 22 < 43 by decide)
theorem KW.o_9_23 (w : KW h A V M) (hv : V 9 i) : kok h (A 9 i) 9 23 := w.ok hv (show 23 < 43 by decide)
theorem KW.g_9_23 (w : KW h A V M) (hv : V 9 i) : kg h (A 9 i) 23 = .ref (A 73 0) := w.get hv (show 23 < 43 by decide)
theorem KW.o_9_24 (w : KW h A V M) (hv : V 9 i) : kok h (A 9 i) 9 24 := w.ok hv (show 24 < 43 by decide)
theorem KW.g_9_24 (w : KW h A V M) (hv : V 9 i) : kg h (A 9 i) 24 = .ref (A 74 0) := w.get hv (show 24 < 43 by decide)
theorem KW.o_9_25 (w : KW h A V M) (hv : V 9 i) : kok h (A 9 i) 9 25 := w.ok hv (show 25 < 43 by decide)
theorem KW.g_9_25 (w : KW h A V M) (hv : V 9 i) : kg h (A 9 i) 25 = .ref (A 75 0) := w.get hv (show 25 < 43 by decide)
theorem KW.o_9_26 (w : KW h A V M) (hv : V 9 i) : kok h (A 9 i) 9 26 := w.ok hv (show 26 < 43 by decide)
theorem KW.g_9_26 (w : KW h A V M) (hv : V 9 i) : kg h (A 9 i) 26 = iv (M 9 i 26) := w.get hv (show 26 < 43 by decide)
theorem KW.p_9_26 (w : KW h A V M) (hv : V 9 i) : KW (kup h (A 9 i) 26 (iv x)) A V (kmu M 9 i 26 x) := w.put hv (show 26 < 43 by decide) (fun q hq => by cases hq)
theorem KW.o_9_27 (w : KW h A V M) (hv : V 9 i) : kok h (A 9 i) 9 27 := w.ok hv (show 27 < 43 by decide)
theorem KW.g_9_27 (w : KW h A V M) (hv : V 9 i) : kg h (A 9 i) 27 = .ref (A 77 0) := w.get hv (show 27 < 43 by decide)
theorem KW.o_9_28 (w : KW h A V M) (hv : V 9 i) : kok h (A 9 i) 9 28 := w.ok hv (show 28 < 43 by decide)
theorem KW.g_9_28 (w : KW h A V M) (hv : V 9 i) : kg h (A 9 i) 28 = .ref (A 78 0) := w.get hv (show 28 < 43 by decide)
theorem KW.o_9_29 (w : KW h A V M) (hv : V 9 i) : kok h (A 9 i) 9 29 := w.ok hv (show 29 < 43 by decide)
theorem KW.g_9_29 (w : KW h A V M) (hv : V 9 i) : kg h (A 9 i) 29 = .ref (A 79 0) := w.get hv (show 29 < 43 by decide)
theorem KW.o_9_30 (w : KW h A V M) (hv : V 9 i) : kok h (A 9 i) 9 30 := w.ok hv (show 30 < 43 by decide)
theorem KW.g_9_30 (w : KW h A V M) (hv : V 9 i) : kg h (A 9 i) 30 = .ref (A 80 0) := w.get hv (show 30 < 43 by decide)
theorem KW.o_9_31 (w : KW h A V M) (hv : V 9 i) : kok h (A 9 i) 9 31 := w.ok hv (show 31 < 43 by decide)
theorem KW.g_9_31 (w : KW h A V M) (hv : V 9 i) : kg h (A 9 i) 31 = .ref (A 81 0) := w.get hv (show 31 < 43 by decide)
theorem KW.o_9_32 (w : KW h A V M) (hv : V 9 i) : kok h (A 9 i) 9 32 := w.ok hv (show 32 < 43 by decide)
theorem KW.g_9_32 (w : KW h A V M) (hv : V 9 i) : kg h (A 9 i) 32 = iv (M 9 i 32) := w.get hv (show 32 < 43 by decide)
theorem KW.p_9_32 (w : KW h A V M) (hv : V 9 i) : KW (kup h (A 9 i) 32 (iv x)) A V (kmu M 9 i 32 x) := w.put hv (show 32 < 43 by decide) (fun q hq => by cases hq)
theorem KW.o_9_33 (w : KW h A V M) (hv : V 9 i) : kok h (A 9 i) 9 33 := w.ok hv (show 33 < 43 by decide)
theorem KW.g_9_33 (w : KW h A V M) (hv : V 9 i) : kg h (A 9 i) 33 = .ref (A 83 0) := w.get hv (show 33 < 43 by decide)
theorem KW.o_9_34 (w : KW h A V M) (hv : V 9 i) : kok h (A 9 i) 9 34 := w.ok hv (show 34 < 43 by decide)
theorem KW.g_9_34 (w : KW h A V M) (hv : V 9 i) : kg h (A 9 i) 34 = .ref (A 84 0) := w.get hv (show 34 < 43 by decide)
theorem KW.o_9_35 (w : KW h A V M) (hv : V 9 i) : kok h (A 9 i) 9 35 := w.ok hv (show 35 < 43 by decide)
theorem KW.g_9_35 (w : KW h A V M) (hv : V 9 i) : kg h (A 9 i) 35 = .ref (A 85 0) := w.get hv (show 35 < 43 by decide)
theorem KW.o_9_36 (w : KW h A V M) (hv : V 9 i) : kok h (A 9 i) 9 36 := w.ok hv (show 36 < 43 by decide)
theorem KW.g_9_36 (w : KW h A V M) (hv : V 9 i) : kg h (A 9 i) 36 = iv (M 9 i 36) := w.get hv (show 36 < 43 by decide)
theorem KW.p_9_36 (w : KW h A V M) (hv : V 9 i) : KW (kup h (A 9 i) 36 (iv x)) A V (kmu M 9 i 36 x) := w.put hv (show 36 < 43 by decide) (fun q hq => by cases hq)
theorem KW.o_9_37 (w : KW h A V M) (hv : V 9 i) : kok h (A 9 i) 9 37 := w.ok hv (show 37 < 43 by decide)
theorem KW.g_9_37 (w : KW h A V M) (hv : V 9 i) : kg h (A 9 i) 37 = .ref (A 87 0) := w.get hv (show 37 < 43 by decide)
theorem KW.o_9_38 (w : KW h A V M) (hv : V 9 i) : kok h (A 9 i) 9 38 := w.ok hv (show 38 < 43 by decide)
theorem KW.g_9_38 (w : KW h A V M) (hv : V 9 i) : kg h (A 9 i) 38 = .ref (A 88 0) := w.get hv (show 38 < 43 by decide)
theorem KW.o_9_39 (w : KW h A V M) (hv : V 9 i) : kok h (A 9 i) 9 39 := w.ok hv (show 39 < 43 by decide)
theorem KW.g_9_39 (w : KW h A V M) (hv : V 9 i) : kg h (A 9 i) 39 = iv (M 9 i 39) := w.get hv (show 39 < 43 by decide)
theorem KW.p_9_39 (w : KW h A V M) (hv : V 9 i) : KW (kup h (A 9 i) 39 (iv x)) A V (kmu M 9 i 39 x) := w.put hv (show 39 < 43 by decide) (fun q hq => by cases hq)
theorem KW.o_9_40 (w : KW h A V M) (hv : V 9 i) : kok h (A 9 i) 9 40 := w.ok hv (show 40 < 43 by decide)
theorem KW.g_9_40 (w : KW h A V M) (hv : V 9 i) : kg h (A 9 i) 40 = iv (M 9 i 40) := w.get hv (show 40 < 43 by decide)
theorem KW.p_9_40 (w : KW h A V M) (hv : V 9 i) : KW (kup h (A 9 i) 40 (iv x)) A V (kmu M 9 i 40 x) := w.put hv (show 40 < 43 by decide) (fun q hq => by cases hq)
theorem KW.o_9_41 (w : KW h A V M) (hv : V 9 i) : kok h (A 9 i) 9 41 := w.ok hv (show 41 < 43 by decide)
theorem KW.g_9_41 (w : KW h A V M) (hv : V 9 i) : kg h (A 9 i) 41 = iv (M 9 i 41) := w.get hv (show 41 < 43 by decide)
theorem KW.p_9_41 (w : KW h A V M) (hv : V 9 i) : KW (kup h (A 9 i) 41 (iv x)) A V (kmu M 9 i 41 x) := w.put hv (show 41 < 43 by decide) (fun q hq => by cases hq)
theorem KW.o_9_42 (w : KW h A V M) (hv : V 9 i) : kok h (A 9 i) 9 42 := w.ok hv (show 42 < 43 by decide)
theorem KW.g_9_42 (w : KW h A V M) (hv : V 9 i) : kg h (A 9 i) 42 = iv (M 9 i 42) := w.get hv (show 42 < 43 by decide)
theorem KW.p_9_42 (w : KW h A V M) (hv : V 9 i) : KW (kup h (A 9 i) 42 (iv x)) A V (kmu M 9 i 42 x) := w.put hv (show 42 < 43 by decide) (fun q hq => by cases hq)
theorem KW.t_10 (w : KW h A V M) (hv : V 10 i) : ktg h (A 10 i) 10 := w.tg hv
theorem KW.o_10_0 (w : KW h A V M) (hv : V 10 i) : kok h (A 10 i) 10 0 := w.ok hv (show 0 < 3 by decide)
theorem KW.g_10_0 (w : KW h A V M) (hv : V 10 i) : kg h (A 10 i) 0 = kre A (if (M 10 i 0) % 1000 = 0 then some (34, 0) else some (33, (M 10 i 0))) := w.get hv (show 0 < 3 by decide)
theorem KW.o_10_1 (w : KW h A V M) (hv : V 10 i) : kok h (A 10 i) 10 1 := w.ok hv (show 1 < 3 by decide)
theorem KW.g_10_1 (w : KW h A V M) (hv : V 10 i) : kg h (A 10 i) 1 = iv (M 10 i 1) := w.get hv (show 1 < 3 by decide)
theorem KW.p_10_1 (w : KW h A V M) (hv : V 10 i) : KW (kup h (A 10 i) 1 (iv x)) A V (kmu M 10 i 1 x) := w.put hv (show 1 < 3 by decide) (fun q hq => by cases hq)
theorem KW.o_10_2 (w : KW h A V M) (hv : V 10 i) : kok h (A 10 i) 10 2 := w.ok hv (show 2 < 3 by decide)
theorem KW.g_10_2 (w : KW h A V M) (hv : V 10 i) : kg h (A 10 i) 2 = iv (M 10 i 2) := w.get hv (show 2 < 3 by decide)
theorem KW.p_10_2 (w : KW h A V M) (hv : V 10 i) : KW (kup h (A 10 i) 2 (iv x)) A V (kmu M 10 i 2 x) := w.put hv (show 2 < 3 by decide) (fun q hq => by cases hq)
theorem KW.oa_20 (w : KW h A V M) (hv : V 20 i) (h0 : 0 ≤ y) (h1 : y < 5) : kok h (A 20 i) 1000 y.toNat := w.ok hv (show y.toNat < 5 by omega)
theorem KW.ga_20 (w : KW h A V M) (hv : V 20 i) (h0 : 0 ≤ y) (h1 : y < 5) : kg h (A 20 i) y.toNat = iv (M 20 i y) := w.geta hv h0 (show y.toNat < 5 by omega)
theorem KW.pa_20 (w : KW h A V M) (hv : V 20 i) (h0 : 0 ≤ y) (h1 : y < 5) : KW (kup h (A 20 i) y.toNat (iv x)) A V (kmu M 20 i y x) := w.puta hv h0 (show y.toNat < 5 by omega) (fun q hq => by cases hq)
theorem KW.oa_21 (w : KW h A V M) (hv : V 21 i) (h0 : 0 ≤ y) (h1 : y < 5) : kok h (A 21 i) 1000 y.toNat := w.ok hv (show y.toNat < 5 by omega)
theorem KW.ga_21 (w : KW h A V M) (hv : V 21 i) (h0 : 0 ≤ y) (h1 : y < 5) : kg h (A 21 i) y.toNat = iv (M 21 i y) := w.geta hv h0 (show y.toNat < 5 by omega)
theorem KW.pa_21 (w : KW h A V M) (hv : V 21 i) (h0 : 0 ≤ y) (h1 : y < 5) : KW (kup h (A 21 i) y.toNat (iv x)) A V (kmu M 21 i y x) := w.puta hv h0 (show y.toNat < 5 by omega) (fun q hq => by cases hq)
theorem KW.oa_22 (w : KW h A V M) (hv : V 22 i) (h0 : 0 ≤ y) (h1 : y < 5) : kok h (A 22 i) 1000 y.toNat := w.ok hv (show y.toNat < 5 by omega)
theorem KW.ga_22 (w : KW h A V M) (hv : V 22 i) (h0 : 0 ≤ y) (h1 : y < 5) : kg h (A 22 i) y.toNat = iv (M 22 i y) := w.geta hv h0 (show y.toNat < 5 by omega)
theorem KW.pa_22 (w : KW h A V M) (hv : V 22 i) (h0 : 0 ≤ y) (h1 : y < 5) : KW (kup h (A 22 i) y.toNat (iv x)) A V (kmu M 22 i y x) := w.puta hv h0 (show y.toNat < 5 by omega) (fun q hq => by cases hq)
theorem KW.oa_23 (w : KW h A V M) (hv : V 23 i) (h0 : 0 ≤ y) (h1 : y < 5) : kok h (A 23 i) 1000 y.toNat := w.ok hv (show y.toNat < 5 by omega)
theorem KW.ga_23 (w : KW h A V M) (hv : V 23 i) (h0 : 0 ≤ y) (h1 : y < 5) : kg h (A 23 i) y.toNat = iv (M 23 i y) := w.geta hv h0 (show y.toNat < 5 by omega)
theorem KW.pa_23 (w : KW h A V M) (hv : V 23 i) (h0 : 0 ≤ y) (h1 : y < 5) : KW (kup h (A 23 i) y.toNat (iv x)) A V (kmu M 23 i y x) := w.puta hv h0 (show y.toNat < 5 by omega) (fun q hq => by cases hq)
theorem KW.oa_24 (w : KW h A V M) (hv : V 24 i) (h0 : 0 ≤ y) (h1 : y < 5) : kok h (A 24 i) 1000 y.toNat := w.ok hv (show y.toNat < 5 by omega)
theorem KW.ga_24 (w : KW h A V M) (hv : V 24 i) (h0 : 0 ≤ y) (h1 : y < 5) : kg h (A 24 i) y.toNat = iv (M 24 i y) := w.geta hv h0 (show y.toNat < 5 by omega)
theorem KW.pa_24 (w : KW h A V M) (hv : V 24 i) (h0 : 0 ≤ y) (h1 : y < 5) : KW (kup h (A 24 i) y.toNat (iv x)) A V (kmu M 24 i y x) := w.puta hv h0 (show y.toNat < 5 by omega) (fun q hq => by cases hq)
theorem KW.oa_25 (w : KW h A V M) (hv : V 25 i) (h0 : 0 ≤ y) (h1 : y < 20) : kok h (A 25 i) 1000 y.toNat := w.ok hv (show y.toNat < 20 by omega)
theorem KW.ga_25 (w : KW h A V M) (hv : V 25 i) (h0 : 0 ≤ y) (h1 : y < 20) : kg h (A 25 i) y.toNat = iv (M 25 i y) := w.geta hv h0 (show y.toNat < 20 by omega)
theorem KW.pa_25 (w : KW h A V M) (hv : V 25 i) (h0 : 0 ≤ y) (h1 : y < 20) : KW (kup h (A 25 i) y.toNat (iv x)) A V (kmu M 25 i y x) := w.puta hv h0 (show y.toNat < 20 by omega) (fun q hq => by cases hq)
theorem KW.oa_26 (w : KW h A V M) (hv : V 26 i) (h0 : 0 ≤ y) (h1 : y < 20) : kok h (A 26 i) 1000 y.toNat := w.ok hv (show y.toNat < 20 by omega)
theorem KW.ga_26 (w : KW h A V M) (hv : V 26 i) (h0 : 0 ≤ y) (h1 : y < 20) : kg h (A 26 i) y.toNat = iv (M 26 i y) := w.geta hv h0 (show y.toNat < 20 by omega)
theorem KW.pa_26 (w : KW h A V M) (hv : V 26 i) (h0 : 0 ≤ y) (h1 : y < 20) : KW (kup h (A 26 i) y.toNat (iv x)) A V (kmu M 26 i y x) := w.puta hv h0 (show y.toNat < 20 by omega) (fun q hq => by cases hq)
theorem KW.oa_27 (w : KW h A V M) (hv : V 27 i) (h0 : 0 ≤ y) (h1 : y < 20) : kok h (A 27 i) 1000 y.toNat := w.ok hv (show y.toNat < 20 by omega)
theorem KW.ga_27 (w : KW h A V M) (hv : V 27 i) (h0 : 0 ≤ y) (h1 : y < 20) : kg h (A 27 i) y.toNat = iv (M 27 i y) := w.geta hv h0 (show y.toNat < 20 by omega)
theorem KW.pa_27 (w : KW h A V M) (hv : V 27 i) (h0 : 0 ≤ y) (h1 : y < 20) : KW (kup h (A 27 i) y.toNat (iv x)) A V (kmu M 27 i y x) := w.puta hv h0 (show y.toNat < 20 by omega) (fun q hq => by cases hq)
theorem KW.oa_28 (w : KW h A V M) (hv : V 28 i) (h0 : 0 ≤ y) (h1 : y < 20) : kok h (A 28 i) 1000 y.toNat := w.ok hv (show y.toNat < 20 by omega)
theorem KW.ga_28 (w : KW h A V M) (hv : V 28 i) (h0 : 0 ≤ y) (h1 : y < 20) : kg h (A 28 i) y.toNat = iv (M 28 i y) := w.geta hv h0 (show y.toNat < 20 by omega)
theorem KW.pa_28 (w : KW h A V M) (hv : V 28 i) (h0 : 0 ≤ y) (h1 : y < 20) : KW (kup h (A 28 i) y.toNat (iv x)) A V (kmu M 28 i y x) := w.puta hv h0 (show y.toNat < 20 by omega) (fun q hq => by cases hq)
theorem KW.oa_29 (w : KW h A V M) (hv : V 29 i) (h0 : 0 ≤ y) (h1 : y < 20) : kok h (A 29 i) 1000 y.toNat := w.ok hv (show y.toNat < 20 by omega)
theorem KW.ga_29 (w : KW h A V M) (hv : V 29 i) (h0 : 0 ≤ y) (h1 : y < 20) : kg h (A 29 i) y.toNat = iv (M 29 i y) := w.geta hv h0 (show y.toNat < 20 by omega)
theorem KW.pa_29 (w : KW h A V M) (hv : V 29 i) (h0 : 0 ≤ y) (h1 : y < 20) : KW (kup h (A 29 i) y.toNat (iv x)) A V (kmu M 29 i y x) := w.puta hv h0 (show y.toNat < 20 by omega) (fun q hq => by cases hq)
theorem KW.oa_30 (w : KW h A V M) (hv : V 30 i) (h0 : 0 ≤ y) (h1 : y < 20) : kok h (A 30 i) 1000 y.toNat := w.ok hv (show y.toNat < 20 by omega)
theorem KW.ga_30 (w : KW h A V M) (hv : V 30 i) (h0 : 0 ≤ y) (h1 : y < 20) : kg h (A 30 i) y.toNat = iv (M 30 i y) := w.geta hv h0 (show y.toNat < 20 by omega)
theorem KW.pa_30 (w : KW h A V M) (hv : V 30 i) (h0 : 0 ≤ y) (h1 : y < 20) : KW (kup h (A 30 i) y.toNat (iv x)) A V (kmu M 30 i y x) := w.puta hv h0 (show y.toNat < 20 by omega) (fun q hq => by cases hq)
theorem KW.oa_31 (w : KW h A V M) (hv : V 31 i) (h0 : 0 ≤ y) (h1 : y < 1000) : kok h (A 31 i) 1002 y.toNat := w.ok hv (show y.toNat < 1000 by omega)
theorem KW.ga_31 (w : KW h A V M) (hv : V 31 i) (h0 : 0 ≤ y) (h1 : y < 1000) : kg h (A 31 i) y.toNat = iv (M 31 i y) := w.geta hv h0 (show y.toNat < 1000 by omega)
theorem KW.pa_31 (w : KW h A V M) (hv : V 31 i) (h0 : 0 ≤ y) (h1 : y < 1000) : KW (kup h (A 31 i) y.toNat (iv x)) A V (kmu M 31 i y x) := w.puta hv h0 (show y.toNat < 1000 by omega) (fun q hq => by cases hq)
theorem KW.oa_36 (w : KW h A V M) (hv : V 36 i) (h0 : 0 ≤ y) (h1 : y < 1) : kok h (A 36 i) 1001 y.toNat := w.ok hv (show y.toNat < 1 by omega)
theorem KW.ga_36 (w : KW h A V M) (hv : V 36 i) (h0 : 0 ≤ y) (h1 : y < 1) : kg h (A 36 i) y.toNat = lv (M 36 i y) := w.geta hv h0 (show y.toNat < 1 by omega)
theorem KW.pa_36 (w : KW h A V M) (hv : V 36 i) (h0 : 0 ≤ y) (h1 : y < 1) : KW (kup h (A 36 i) y.toNat (lv x)) A V (kmu M 36 i y x) := w.puta hv h0 (show y.toNat < 1 by omega) (fun q hq => by cases hq)
theorem KW.oa_52 (w : KW h A V M) (hv : V 52 i) (h0 : 0 ≤ y) (h1 : y < 1000) : kok h (A 52 i) 1000 y.toNat := w.ok hv (show y.toNat < 1000 by omega)
theorem KW.ga_52 (w : KW h A V M) (hv : V 52 i) (h0 : 0 ≤ y) (h1 : y < 1000) : kg h (A 52 i) y.toNat = iv (M 52 i y) := w.geta hv h0 (show y.toNat < 1000 by omega)
theorem KW.pa_52 (w : KW h A V M) (hv : V 52 i) (h0 : 0 ≤ y) (h1 : y < 1000) : KW (kup h (A 52 i) y.toNat (iv x)) A V (kmu M 52 i y x) := w.puta hv h0 (show y.toNat < 1000 by omega) (fun q hq => by cases hq)
theorem KW.oa_54 (w : KW h A V M) (hv : V 54 i) (h0 : 0 ≤ y) (h1 : y < 20) : kok h (A 54 i) 1000 y.toNat := w.ok hv (show y.toNat < 20 by omega)
theorem KW.ga_54 (w : KW h A V M) (hv : V 54 i) (h0 : 0 ≤ y) (h1 : y < 20) : kg h (A 54 i) y.toNat = iv (M 54 i y) := w.geta hv h0 (show y.toNat < 20 by omega)
theorem KW.pa_54 (w : KW h A V M) (hv : V 54 i) (h0 : 0 ≤ y) (h1 : y < 20) : KW (kup h (A 54 i) y.toNat (iv x)) A V (kmu M 54 i y x) := w.puta hv h0 (show y.toNat < 20 by omega) (fun q hq => by cases hq)
theorem KW.oa_55 (w : KW h A V M) (hv : V 55 i) (h0 : 0 ≤ y) (h1 : y < 20) : kok h (A 55 i) 1000 y.toNat := w.ok hv (show y.toNat < 20 by omega)
theorem KW.ga_55 (w : KW h A V M) (hv : V 55 i) (h0 : 0 ≤ y) (h1 : y < 20) : kg h (A 55 i) y.toNat = iv (M 55 i y) := w.geta hv h0 (show y.toNat < 20 by omega)
theorem KW.pa_55 (w : KW h A V M) (hv : V 55 i) (h0 : 0 ≤ y) (h1 : y < 20) : KW (kup h (A 55 i) y.toNat (iv x)) A V (kmu M 55 i y x) := w.puta hv h0 (show y.toNat < 20 by omega) (fun q hq => by cases hq)
theorem KW.oa_56 (w : KW h A V M) (hv : V 56 i) (h0 : 0 ≤ y) (h1 : y < 20) : kok h (A 56 i) 1000 y.toNat := w.ok hv (show y.toNat < 20 by omega)
theorem KW.ga_56 (w : KW h A V M) (hv : V 56 i) (h0 : 0 ≤ y) (h1 : y < 20) : kg h (A 56 i) y.toNat = iv (M 56 i y) := w.geta hv h0 (show y.toNat < 20 by omega)
theorem KW.pa_56 (w : KW h A V M) (hv : V 56 i) (h0 : 0 ≤ y) (h1 : y < 20) : KW (kup h (A 56 i) y.toNat (iv x)) A V (kmu M 56 i y x) := w.puta hv h0 (show y.toNat < 20 by omega) (fun q hq => by cases hq)
theorem KW.oa_58 (w : KW h A V M) (hv : V 58 i) (h0 : 0 ≤ y) (h1 : y < 21) : kok h (A 58 i) 1000 y.toNat := w.ok hv (show y.toNat < 21 by omega)
theorem KW.ga_58 (w : KW h A V M) (hv : V 58 i) (h0 : 0 ≤ y) (h1 : y < 21) : kg h (A 58 i) y.toNat = iv (M 58 i y) := w.geta hv h0 (show y.toNat < 21 by omega)
theorem KW.pa_58 (w : KW h A V M) (hv : V 58 i) (h0 : 0 ≤ y) (h1 : y < 21) : KW (kup h (A 58 i) y.toNat (iv x)) A V (kmu M 58 i y x) := w.puta hv h0 (show y.toNat < 21 by omega) (fun q hq => by cases hq)
theorem KW.oa_59 (w : KW h A V M) (hv : V 59 i) (h0 : 0 ≤ y) (h1 : y < 21) : kok h (A 59 i) 1000 y.toNat := w.ok hv (show y.toNat < 21 by omega)
theorem KW.ga_59 (w : KW h A V M) (hv : V 59 i) (h0 : 0 ≤ y) (h1 : y < 21) : kg h (A 59 i) y.toNat = iv (M 59 i y) := w.geta hv h0 (show y.toNat < 21 by omega)
theorem KW.pa_59 (w : KW h A V M) (hv : V 59 i) (h0 : 0 ≤ y) (h1 : y < 21) : KW (kup h (A 59 i) y.toNat (iv x)) A V (kmu M 59 i y x) := w.puta hv h0 (show y.toNat < 21 by omega) (fun q hq => by cases hq)
theorem KW.oa_60 (w : KW h A V M) (hv : V 60 i) (h0 : 0 ≤ y) (h1 : y < 84) : kok h (A 60 i) 1000 y.toNat := w.ok hv (show y.toNat < 84 by omega)
theorem KW.ga_60 (w : KW h A V M) (hv : V 60 i) (h0 : 0 ≤ y) (h1 : y < 84) : kg h (A 60 i) y.toNat = iv (M 60 i y) := w.geta hv h0 (show y.toNat < 84 by omega)
theorem KW.pa_60 (w : KW h A V M) (hv : V 60 i) (h0 : 0 ≤ y) (h1 : y < 84) : KW (kup h (A 60 i) y.toNat (iv x)) A V (kmu M 60 i y x) := w.puta hv h0 (show y.toNat < 84 by omega) (fun q hq => by cases hq)
theorem KW.oa_61 (w : KW h A V M) (hv : V 61 i) (h0 : 0 ≤ y) (h1 : y < 84) : kok h (A 61 i) 1000 y.toNat := w.ok hv (show y.toNat < 84 by omega)
theorem KW.ga_61 (w : KW h A V M) (hv : V 61 i) (h0 : 0 ≤ y) (h1 : y < 84) : kg h (A 61 i) y.toNat = iv (M 61 i y) := w.geta hv h0 (show y.toNat < 84 by omega)
theorem KW.pa_61 (w : KW h A V M) (hv : V 61 i) (h0 : 0 ≤ y) (h1 : y < 84) : KW (kup h (A 61 i) y.toNat (iv x)) A V (kmu M 61 i y x) := w.puta hv h0 (show y.toNat < 84 by omega) (fun q hq => by cases hq)
theorem KW.oa_62 (w : KW h A V M) (hv : V 62 i) (h0 : 0 ≤ y) (h1 : y < 420) : kok h (A 62 i) 1000 y.toNat := w.ok hv (show y.toNat < 420 by omega)
theorem KW.ga_62 (w : KW h A V M) (hv : V 62 i) (h0 : 0 ≤ y) (h1 : y < 420) : kg h (A 62 i) y.toNat = iv (M 62 i y) := w.geta hv h0 (show y.toNat < 420 by omega)
theorem KW.pa_62 (w : KW h A V M) (hv : V 62 i) (h0 : 0 ≤ y) (h1 : y < 420) : KW (kup h (A 62 i) y.toNat (iv x)) A V (kmu M 62 i y x) := w.puta hv h0 (show y.toNat < 420 by omega) (fun q hq => by cases hq)
theorem KW.oa_63 (w : KW h A V M) (hv : V 63 i) (h0 : 0 ≤ y) (h1 : y < 420) : kok h (A 63 i) 1000 y.toNat := w.ok hv (show y.toNat < 420 by omega)
theorem KW.ga_63 (w : KW h A V M) (hv : V 63 i) (h0 : 0 ≤ y) (h1 : y < 420) : kg h (A 63 i) y.toNat = iv (M 63 i y) := w.geta hv h0 (show y.toNat < 420 by omega)
theorem KW.pa_63 (w : KW h A V M) (hv : V 63 i) (h0 : 0 ≤ y) (h1 : y < 420) : KW (kup h (A 63 i) y.toNat (iv x)) A V (kmu M 63 i y x) := w.puta hv h0 (show y.toNat < 420 by omega) (fun q hq => by cases hq)
theorem KW.oa_64 (w : KW h A V M) (hv : V 64 i) (h0 : 0 ≤ y) (h1 : y < 420) : kok h (A 64 i) 1000 y.toNat := w.ok hv (show y.toNat < 420 by omega)
theorem KW.ga_64 (w : KW h A V M) (hv : V 64 i) (h0 : 0 ≤ y) (h1 : y < 420) : kg h (A 64 i) y.toNat = iv (M 64 i y) := w.geta hv h0 (show y.toNat < 420 by omega)
theorem KW.pa_64 (w : KW h A V M) (hv : V 64 i) (h0 : 0 ≤ y) (h1 : y < 420) : KW (kup h (A 64 i) y.toNat (iv x)) A V (kmu M 64 i y x) := w.puta hv h0 (show y.toNat < 420 by omega) (fun q hq => by cases hq)
theorem KW.oa_66 (w : KW h A V M) (hv : V 66 i) (h0 : 0 ≤ y) (h1 : y < 41) : kok h (A 66 i) 1000 y.toNat := w.ok hv (show y.toNat < 41 by omega)
theorem KW.ga_66 (w : KW h A V M) (hv : V 66 i) (h0 : 0 ≤ y) (h1 : y < 41) : kg h (A 66 i) y.toNat = iv (M 66 i y) := w.geta hv h0 (show y.toNat < 41 by omega)
theorem KW.pa_66 (w : KW h A V M) (hv : V 66 i) (h0 : 0 ≤ y) (h1 : y < 41) : KW (kup h (A 66 i) y.toNat (iv x)) A V (kmu M 66 i y x) := w.puta hv h0 (show y.toNat < 41 by omega) (fun q hq => by cases hq)
theorem KW.oa_67 (w : KW h A V M) (hv : V 67 i) (h0 : 0 ≤ y) (h1 : y < 41) : kok h (A 67 i) 1000 y.toNat := w.ok hv (show y.toNat < 41 by omega)
theorem KW.ga_67 (w : KW h A V M) (hv : V 67 i) (h0 : 0 ≤ y) (h1 : y < 41) : kg h (A 67 i) y.toNat = iv (M 67 i y) := w.geta hv h0 (show y.toNat < 41 by omega)
theorem KW.pa_67 (w : KW h A V M) (hv : V 67 i) (h0 : 0 ≤ y) (h1 : y < 41) : KW (kup h (A 67 i) y.toNat (iv x)) A V (kmu M 67 i y x) := w.puta hv h0 (show y.toNat < 41 by omega) (fun q hq => by cases hq)
theorem KW.oa_68 (w : KW h A V M) (hv : V 68 i) (h0 : 0 ≤ y) (h1 : y < 41) : kok h (A 68 i) 1000 y.toNat := w.ok hv (show y.toNat < 41 by omega)
theorem KW.ga_68 (w : KW h A V M) (hv : V 68 i) (h0 : 0 ≤ y) (h1 : y < 41) : kg h (A 68 i) y.toNat = iv (M 68 i y) := w.geta hv h0 (show y.toNat < 41 by omega)
theorem KW.pa_68 (w : KW h A V M) (hv : V 68 i) (h0 : 0 ≤ y) (h1 : y < 41) : KW (kup h (A 68 i) y.toNat (iv x)) A V (kmu M 68 i y x) := w.puta hv h0 (show y.toNat < 41 by omega) (fun q hq => by cases hq)
theorem KW.oa_69 (w : KW h A V M) (hv : V 69 i) (h0 : 0 ≤ y) (h1 : y < 41) : kok h (A 69 i) 1000 y.toNat := w.ok hv (show y.toNat < 41 by omega)
theorem KW.ga_69 (w : KW h A V M) (hv : V 69 i) (h0 : 0 ≤ y) (h1 : y < 41) : kg h (A 69 i) y.toNat = iv (M 69 i y) := w.geta hv h0 (show y.toNat < 41 by omega)
theorem KW.pa_69 (w : KW h A V M) (hv : V 69 i) (h0 : 0 ≤ y) (h1 : y < 41) : KW (kup h (A 69 i) y.toNat (iv x)) A V (kmu M 69 i y x) := w.puta hv h0 (show y.toNat < 41 by omega) (fun q hq => by cases hq)
theorem KW.oa_70 (w : KW h A V M) (hv : V 70 i) (h0 : 0 ≤ y) (h1 : y < 41) : kok h (A 70 i) 1000 y.toNat := w.ok hv (show y.toNat < 41 by omega)
theorem KW.ga_70 (w : KW h A V M) (hv : V 70 i) (h0 : 0 ≤ y) (h1 : y < 41) : kg h (A 70 i) y.toNat = iv (M 70 i y) := w.geta hv h0 (show y.toNat < 41 by omega)
theorem KW.pa_70 (w : KW h A V M) (hv : V 70 i) (h0 : 0 ≤ y) (h1 : y < 41) : KW (kup h (A 70 i) y.toNat (iv x)) A V (kmu M 70 i y x) := w.puta hv h0 (show y.toNat < 41 by omega) (fun q hq => by cases hq)
theorem KW.oa_71 (w : KW h A V M) (hv : V 71 i) (h0 : 0 ≤ y) (h1 : y < 41) : kok h (A 71 i) 1000 y.toNat := w.ok hv (show y.toNat < 41 by omega)
theorem KW.ga_71 (w : KW h A V M) (hv : V 71 i) (h0 : 0 ≤ y) (h1 : y < 41) : kg h (A 71 i) y.toNat = iv (M 71 i y) := w.geta hv h0 (show y.toNat < 41 by omega)
theorem KW.pa_71 (w : KW h A V M) (hv : V 71 i) (h0 : 0 ≤ y) (h1 : y < 41) : KW (kup h (A 71 i) y.toNat (iv x)) A V (kmu M 71 i y x) := w.puta hv h0 (show y.toNat < 41 by omega) (fun q hq => by cases hq)
theorem KW.oa_72 (w : KW h A V M) (hv : V 72 i) (h0 : 0 ≤ y) (h1 : y < 205) : kok h (A 72 i) 1000 y.toNat := w.ok hv (show y.toNat < 205 by omega)
theorem KW.ga_72 (w : KW h A V M) (hv : V 72 i) (h0 : 0 ≤ y) (h1 : y < 205) : kg h (A 72 i) y.toNat = iv (M 72 i y) := w.geta hv h0 (show y.toNat < 205 by omega)
theorem KW.pa_72 (w : KW h A V M) (hv : V 72 i) (h0 : 0 ≤ y) (h1 : y < 205) : KW (kup h (A 72 i) y.toNat (iv x)) A V (kmu M 72 i y x) := w.puta hv h0 (show y.toNat < 205 by omega) (fun q hq => by cases hq)
theorem KW.oa_73 (w : KW h A V M) (hv : V 73 i) (h0 : 0 ≤ y) (h1 : y < 205) : kok h (A 73 i) 1000 y.toNat := w.ok hv (show y.toNat < 205 by omega)
theorem KW.ga_73 (w : KW h A V M) (hv : V 73 i) (h0 : 0 ≤ y) (h1 : y < 205) : kg h (A 73 i) y.toNat = iv (M 73 i y) := w.geta hv h0 (show y.toNat < 205 by omega)
theorem KW.pa_73 (w : KW h A V M) (hv : V 73 i) (h0 : 0 ≤ y) (h1 : y < 205) : KW (kup h (A 73 i) y.toNat (iv x)) A V (kmu M 73 i y x) := w.puta hv h0 (show y.toNat < 205 by omega) (fun q hq => by cases hq)
theorem KW.oa_74 (w : KW h A V M) (hv : V 74 i) (h0 : 0 ≤ y) (h1 : y < 205) : kok h (A 74 i) 1000 y.toNat := w.ok hv (show y.toNat < 205 by omega)
theorem KW.ga_74 (w : KW h A V M) (hv : V 74 i) (h0 : 0 ≤ y) (h1 : y < 205) : kg h (A 74 i) y.toNat = iv (M 74 i y) := w.geta hv h0 (show y.toNat < 205 by omega)
theorem KW.pa_74 (w : KW h A V M) (hv : V 74 i) (h0 : 0 ≤ y) (h1 : y < 205) : KW (kup h (A 74 i) y.toNat (iv x)) A V (kmu M 74 i y x) := w.puta hv h0 (show y.toNat < 205 by omega) (fun q hq => by cases hq)
theorem KW.oa_75 (w : KW h A V M) (hv : V 75 i) (h0 : 0 ≤ y) (h1 : y < 205) : kok h (A 75 i) 1000 y.toNat := w.ok hv (show y.toNat < 205 by omega)
theorem KW.ga_75 (w : KW h A V M) (hv : V 75 i) (h0 : 0 ≤ y) (h1 : y < 205) : kg h (A 75 i) y.toNat = iv (M 75 i y) := w.geta hv h0 (show y.toNat < 205 by omega)
theorem KW.pa_75 (w : KW h A V M) (hv : V 75 i) (h0 : 0 ≤ y) (h1 : y < 205) : KW (kup h (A 75 i) y.toNat (iv x)) A V (kmu M 75 i y x) := w.puta hv h0 (show y.toNat < 205 by omega) (fun q hq => by cases hq)
theorem KW.oa_77 (w : KW h A V M) (hv : V 77 i) (h0 : 0 ≤ y) (h1 : y < 61) : kok h (A 77 i) 1000 y.toNat := w.ok hv (show y.toNat < 61 by omega)
theorem KW.ga_77 (w : KW h A V M) (hv : V 77 i) (h0 : 0 ≤ y) (h1 : y < 61) : kg h (A 77 i) y.toNat = iv (M 77 i y) := w.geta hv h0 (show y.toNat < 61 by omega)
theorem KW.pa_77 (w : KW h A V M) (hv : V 77 i) (h0 : 0 ≤ y) (h1 : y < 61) : KW (kup h (A 77 i) y.toNat (iv x)) A V (kmu M 77 i y x) := w.puta hv h0 (show y.toNat < 61 by omega) (fun q hq => by cases hq)
theorem KW.oa_78 (w : KW h A V M) (hv : V 78 i) (h0 : 0 ≤ y) (h1 : y < 61) : kok h (A 78 i) 1000 y.toNat := w.ok hv (show y.toNat < 61 by omega)
theorem KW.ga_78 (w : KW h A V M) (hv : V 78 i) (h0 : 0 ≤ y) (h1 : y < 61) : kg h (A 78 i) y.toNat = iv (M 78 i y) := w.geta hv h0 (show y.toNat < 61 by omega)
theorem KW.pa_78 (w : KW h A V M) (hv : V 78 i) (h0 : 0 ≤ y) (h1 : y < 61) : KW (kup h (A 78 i) y.toNat (iv x)) A V (kmu M 78 i y x) := w.puta hv h0 (show y.toNat < 61 by omega) (fun q hq => by cases hq)
theorem KW.oa_79 (w : KW h A V M) (hv : V 79 i) (h0 : 0 ≤ y) (h1 : y < 61) : kok h (A 79 i) 1000 y.toNat := w.ok hv (show y.toNat < 61 by omega)
theorem KW.ga_79 (w : KW h A V M) (hv : V 79 i) (h0 : 0 ≤ y) (h1 : y < 61) : kg h (A 79 i) y.toNat = iv (M 79 i y) := w.geta hv h0 (show y.toNat < 61 by omega)
theorem KW.pa_79 (w : KW h A V M) (hv : V 79 i) (h0 : 0 ≤ y) (h1 : y < 61) : KW (kup h (A 79 i) y.toNat (iv x)) A V (kmu M 79 i y x) := w.puta hv h0 (show y.toNat < 61 by omega) (fun q hq => by cases hq)
theorem KW.oa_80 (w : KW h A V M) (hv : V 80 i) (h0 : 0 ≤ y) (h1 : y < 61) : kok h (A 80 i) 1000 y.toNat := w.ok hv (show y.toNat < 61 by omega)
theorem KW.ga_80 (w : KW h A V M) (hv : V 80 i) (h0 : 0 ≤ y) (h1 : y < 61) : kg h (A 80 i) y.toNat = iv (M 80 i y) := w.geta hv h0 (show y.toNat < 61 by omega)
theorem KW.pa_80 (w : KW h A V M) (hv : V 80 i) (h0 : 0 ≤ y) (h1 : y < 61) : KW (kup h (A 80 i) y.toNat (iv x)) A V (kmu M 80 i y x) := w.puta hv h0 (show y.toNat < 61 by omega) (fun q hq => by cases hq)
theorem KW.oa_81 (w : KW h A V M) (hv : V 81 i) (h0 : 0 ≤ y) (h1 : y < 61) : kok h (A 81 i) 1000 y.toNat := w.ok hv (show y.toNat < 61 by omega)
theorem KW.ga_81 (w : KW h A V M) (hv : V 81 i) (h0 : 0 ≤ y) (h1 : y < 61) : kg h (A 81 i) y.toNat = iv (M 81 i y) := w.geta hv h0 (show y.toNat < 61 by omega)
theorem KW.pa_81 (w : KW h A V M) (hv : V 81 i) (h0 : 0 ≤ y) (h1 : y < 61) : KW (kup h (A 81 i) y.toNat (iv x)) A V (kmu M 81 i y x) := w.puta hv h0 (show y.toNat < 61 by omega) (fun q hq => by cases hq)
theorem KW.oa_83 (w : KW h A V M) (hv : V 83 i) (h0 : 0 ≤ y) (h1 : y < 5) : kok h (A 83 i) 1000 y.toNat := w.ok hv (show y.toNat < 5 by omega)
theorem KW.ga_83 (w : KW h A V M) (hv : V 83 i) (h0 : 0 ≤ y) (h1 : y < 5) : kg h (A 83 i) y.toNat = iv (M 83 i y) := w.geta hv h0 (show y.toNat < 5 by omega)
theorem KW.pa_83 (w : KW h A V M) (hv : V 83 i) (h0 : 0 ≤ y) (h1 : y < 5) : KW (kup h (A 83 i) y.toNat (iv x)) A V (kmu M 83 i y x) := w.puta hv h0 (show y.toNat < 5 by omega) (fun q hq => by cases hq)
theorem KW.oa_84 (w : KW h A V M) (hv : V 84 i) (h0 : 0 ≤ y) (h1 : y < 5) : kok h (A 84 i) 1000 y.toNat := w.ok hv (show y.toNat < 5 by omega)
theorem KW.ga_84 (w : KW h A V M) (hv : V 84 i) (h0 : 0 ≤ y) (h1 : y < 5) : kg h (A 84 i) y.toNat = iv (M 84 i y) := w.geta hv h0 (show y.toNat < 5 by omega)
theorem KW.pa_84 (w : KW h A V M) (hv : V 84 i) (h0 : 0 ≤ y) (h1 : y < 5) : KW (kup h (A 84 i) y.toNat (iv x)) A V (kmu M 84 i y x) := w.puta hv h0 (show y.toNat < 5 by omega) (fun q hq => by cases hq)
theorem KW.oa_85 (w : KW h A V M) (hv : V 85 i) (h0 : 0 ≤ y) (h1 : y < 21) : kok h (A 85 i) 1000 y.toNat := w.ok hv (show y.toNat < 21 by omega)
theorem KW.ga_85 (w : KW h A V M) (hv : V 85 i) (h0 : 0 ≤ y) (h1 : y < 21) : kg h (A 85 i) y.toNat = iv (M 85 i y) := w.geta hv h0 (show y.toNat < 21 by omega)
theorem KW.pa_85 (w : KW h A V M) (hv : V 85 i) (h0 : 0 ≤ y) (h1 : y < 21) : KW (kup h (A 85 i) y.toNat (iv x)) A V (kmu M 85 i y x) := w.puta hv h0 (show y.toNat < 21 by omega) (fun q hq => by cases hq)
theorem KW.oa_87 (w : KW h A V M) (hv : V 87 i) (h0 : 0 ≤ y) (h1 : y < 20) : kok h (A 87 i) 1000 y.toNat := w.ok hv (show y.toNat < 20 by omega)
theorem KW.ga_87 (w : KW h A V M) (hv : V 87 i) (h0 : 0 ≤ y) (h1 : y < 20) : kg h (A 87 i) y.toNat = iv (M 87 i y) := w.geta hv h0 (show y.toNat < 20 by omega)
theorem KW.pa_87 (w : KW h A V M) (hv : V 87 i) (h0 : 0 ≤ y) (h1 : y < 20) : KW (kup h (A 87 i) y.toNat (iv x)) A V (kmu M 87 i y x) := w.puta hv h0 (show y.toNat < 20 by omega) (fun q hq => by cases hq)
theorem KW.oa_88 (w : KW h A V M) (hv : V 88 i) (h0 : 0 ≤ y) (h1 : y < 21) : kok h (A 88 i) 1001 y.toNat := w.ok hv (show y.toNat < 21 by omega)
theorem KW.ga_88 (w : KW h A V M) (hv : V 88 i) (h0 : 0 ≤ y) (h1 : y < 21) : kg h (A 88 i) y.toNat = lv (M 88 i y) := w.geta hv h0 (show y.toNat < 21 by omega)
theorem KW.pa_88 (w : KW h A V M) (hv : V 88 i) (h0 : 0 ≤ y) (h1 : y < 21) : KW (kup h (A 88 i) y.toNat (lv x)) A V (kmu M 88 i y x) := w.puta hv h0 (show y.toNat < 21 by omega) (fun q hq => by cases hq)
end
