/-! Bits. -/
theorem kbv {x : Int} (h0 : 0 ≤ x) (h1 : x < 2147483648) : (Int32.ofInt x).toBitVec.toNat = x.toNat ∧ (Int32.ofInt x).toBitVec.msb = false := by
  have e : (Int32.ofInt x).toBitVec.toNat = x.toNat := by
    rw [Int32.toBitVec_ofInt, BitVec.toNat_ofInt]
    congr 1
    have : (x % ((2 ^ 32 : Nat) : Int)) = x := Int.emod_eq_of_lt h0 (by omega)
    exact this
  refine ⟨e, ?_⟩
  rw [BitVec.msb_eq_false_iff_two_mul_lt, e]
  omega
theorem kbv_int {b : BitVec 32} {n : Nat} (h : b.toNat = n) (hn : n < 2147483648) : (Int32.ofBitVec b).toInt = n := by
  show b.toInt = n
  rw [BitVec.toInt_eq_toNat_cond, h, if_pos (by omega)]
theorem kint_bv (z : Int32) {n : Nat} (h : z.toBitVec.toNat = n) (hn : n < 2147483648) : z.toInt = n := by
  show z.toBitVec.toInt = n
  rw [BitVec.toInt_eq_toNat_cond, h, if_pos (by omega)]
theorem kand_nat {x y : Int} (x0 : 0 ≤ x) (x1 : x < 2147483648) (y0 : 0 ≤ y) (y1 : y < 2147483648) : kand x y = ((x.toNat &&& y.toNat : Nat) : Int) := by
  refine kint_bv _ ?_ (Nat.lt_of_le_of_lt (Nat.and_le_left) (by omega))
  rw [Int32.toBitVec_and, BitVec.toNat_and, (kbv x0 x1).1, (kbv y0 y1).1]
theorem kor_nat {x y : Int} (x0 : 0 ≤ x) (x1 : x < 2147483648) (y0 : 0 ≤ y) (y1 : y < 2147483648) : kor x y = ((x.toNat ||| y.toNat : Nat) : Int) := by
  refine kint_bv _ ?_ (Nat.or_lt_two_pow (n := 31) (by omega) (by omega))
  rw [Int32.toBitVec_or, BitVec.toNat_or, (kbv x0 x1).1, (kbv y0 y1).1]
theorem kshamt : ∀ n : Fin 20, ((Int32.ofInt (n.val : Int)) &&& 31).toBitVec.smod 32 = BitVec.ofNat 32 n.val := by decide +kernel
theorem kshr_nat {x h : Int} (x0 : 0 ≤ x) (x1 : x < 2147483648) (h0 : 0 ≤ h) (h1 : h < 20) : kshr x h = ((x.toNat >>> h.toNat : Nat) : Int) := by
  have e : h = ((⟨h.toNat, by omega⟩ : Fin 20).val : Int) := by show h = (h.toNat : Int); omega
  have ha := kshamt ⟨h.toNat, by omega⟩
  refine kint_bv _ ?_ (Nat.lt_of_le_of_lt (Nat.shiftRight_le _ _) (by omega))
  rw [Int32.toBitVec_shiftRight]
  rw [← e] at ha
  rw [ha]
  show ((Int32.ofInt x).toBitVec.sshiftRight (BitVec.ofNat 32 h.toNat).toNat).toNat = _
  rw [BitVec.toNat_sshiftRight_of_msb_false (kbv x0 x1).2, (kbv x0 x1).1, BitVec.toNat_ofNat, Nat.mod_eq_of_lt (by omega)]
theorem kshl_all : ∀ n : Fin 20, kshl 1 (n.val : Int) = ((2 ^ n.val : Nat) : Int) := by decide +kernel
theorem kshl_nat {g : Int} (g0 : 0 ≤ g) (g1 : g < 20) : kshl 1 g = ((2 ^ g.toNat : Nat) : Int) := by
  have e : g = ((⟨g.toNat, by omega⟩ : Fin 20).val : Int) := by show g = (g.toNat : Int); omega
  have := kshl_all ⟨g.toNat, by omega⟩
  rw [← e] at this
  exact this
theorem kbit_nat {x h : Int} (x0 : 0 ≤ x) (x1 : x < 2147483648) (h0 : 0 ≤ h) (h1 : h < 20) : (kand (kshr x h) 1 = 1) ↔ x.toNat.testBit h.toNat = true := by
  have hr := kshr_nat x0 x1 h0 h1
  have hb : x.toNat >>> h.toNat < 2147483648 := Nat.lt_of_le_of_lt (Nat.shiftRight_le _ _) (by omega)
  have hi : ((x.toNat >>> h.toNat : Nat) : Int) < 2147483648 := by
    generalize x.toNat >>> h.toNat = q at hb
    omega
  rw [hr, kand_nat (Int.natCast_nonneg _) hi (by decide) (by decide), Int.toNat_natCast]
  show ((x.toNat >>> h.toNat &&& 1 : Nat) : Int) = 1 ↔ _
  rw [Nat.and_one_is_mod, Nat.testBit_eq_decide_div_mod_eq, Nat.shiftRight_eq_div_pow, decide_eq_true_eq]
  omega
theorem ktwo_lt {g : Nat} (h : g < 20) : 2 ^ g < 1048576 := by
  have : 2 ^ g < 2 ^ 20 := Nat.pow_lt_pow_right (by decide) h
  exact this
theorem ktwo_i {g : Nat} (h : g < 20) : 0 ≤ ((2 ^ g : Nat) : Int) ∧ ((2 ^ g : Nat) : Int) < 1048576 := by
  have := ktwo_lt h
  generalize 2 ^ g = q at this
  omega
/-- a good is added to a set of goods -/
theorem kbit_or {x g : Int} (x0 : 0 ≤ x) (x1 : x < 1048576) (g0 : 0 ≤ g) (g1 : g < 20) : 0 ≤ kor x (kshl 1 g) ∧ kor x (kshl 1 g) < 1048576 ∧ ∀ h, 0 ≤ h → h < 20 → (kand (kshr (kor x (kshl 1 g)) h) 1 = 1 ↔ kand (kshr x h) 1 = 1 ∨ h = g) := by
  have hp := ktwo_lt (g := g.toNat) (by omega)
  have e : kor x (kshl 1 g) = ((x.toNat ||| 2 ^ g.toNat : Nat) : Int) := by
    rw [kshl_nat g0 g1, kor_nat x0 (by omega) (ktwo_i (by omega)).1 (Int.lt_trans (ktwo_i (by omega)).2 (by decide)), Int.toNat_natCast]
  have hl : x.toNat ||| 2 ^ g.toNat < 1048576 := Nat.or_lt_two_pow (n := 20) (by omega) (by omega)
  rw [e]
  refine ⟨by omega, by omega, fun h h0 h1 => ?_⟩
  rw [kbit_nat (by omega) (by omega) h0 h1, kbit_nat x0 (by omega) h0 h1, Int.toNat_natCast, Nat.testBit_or, Nat.testBit_two_pow, Bool.or_eq_true, decide_eq_true_eq]
  constructor
  · rintro (z | z)
    · exact Or.inl z
    · exact Or.inr (by omega)
  · rintro (z | z)
    · exact Or.inl z
    · exact Or.inr (by omega)
theorem kbit_0 {h : Int} (h0 : 0 ≤ h) (h1 : h < 20) : ¬ kand (kshr 0 h) 1 = 1 := by
  rw [kbit_nat (by decide) (by decide) h0 h1]
  simp
theorem kbit_1 {g h : Int} (g0 : 0 ≤ g) (g1 : g < 20) (h0 : 0 ≤ h) (h1 : h < 20) : kand (kshr (kshl 1 g) h) 1 = 1 ↔ h = g := by
  have hp := ktwo_lt (g := g.toNat) (by omega)
  rw [kshl_nat g0 g1, kbit_nat (ktwo_i (by omega)).1 (Int.lt_trans (ktwo_i (by omega)).2 (by decide)) h0 h1, Int.toNat_natCast, Nat.testBit_two_pow, decide_eq_true_eq]
  omega
/-- two sets of goods meet -/
theorem kbit_and {x y : Int} (x0 : 0 ≤ x) (x1 : x < 1048576) (y0 : 0 ≤ y) (y1 : y < 1048576) : ¬ kand x y = 0 ↔ ∃ h, 0 ≤ h ∧ h < 20 ∧ kand (kshr x h) 1 = 1 ∧ kand (kshr y h) 1 = 1 := by
  rw [kand_nat x0 (by omega) y0 (by omega)]
  constructor
  · intro hz
    apply Classical.byContradiction
    intro hn
    apply hz
    have : x.toNat &&& y.toNat = 0 := by
      apply Nat.eq_of_testBit_eq
      intro i
      rw [Nat.testBit_and, Nat.zero_testBit]
      by_cases hi : i < 20
      · apply Classical.byContradiction
        intro hb
        have hb' : (x.toNat.testBit i && y.toNat.testBit i) = true := by simpa using hb
        rw [Bool.and_eq_true] at hb'
        refine hn ⟨i, by omega, by omega, ?_, ?_⟩
        · rw [kbit_nat x0 (by omega) (by omega) (by omega), Int.toNat_natCast]; exact hb'.1
        · rw [kbit_nat y0 (by omega) (by omega) (by omega), Int.toNat_natCast]; exact hb'.2
      · have : x.toNat.testBit i = false := Nat.testBit_lt_two_pow (Nat.lt_of_lt_of_le (show x.toNat < 2 ^ 20 by omega) (Nat.pow_le_pow_right (by decide) (by omega)))
        rw [this]
        rfl
    omega
  · rintro ⟨h, h0, h1, h2, h3⟩ hz
    rw [kbit_nat x0 (by omega) h0 h1] at h2
    rw [kbit_nat y0 (by omega) h0 h1] at h3
    have : (x.toNat &&& y.toNat).testBit h.toNat = true := by rw [Nat.testBit_and, h2, h3]; rfl
    have e : x.toNat &&& y.toNat = 0 := by omega
    rw [e, Nat.zero_testBit] at this
    cases this
theorem kbit_z {x : Int} (x0 : 0 ≤ x) (x1 : x < 1048576) : x = 0 ↔ ∀ h, 0 ≤ h → h < 20 → ¬ kand (kshr x h) 1 = 1 := by
  constructor
  · rintro rfl h h0 h1
    exact kbit_0 h0 h1
  · intro H
    have : x.toNat = 0 := by
      apply Nat.eq_of_testBit_eq
      intro i
      rw [Nat.zero_testBit]
      by_cases hi : i < 20
      · apply Classical.byContradiction
        intro hb
        have hb' : x.toNat.testBit i = true := by simpa using hb
        refine H i (by omega) (by omega) ?_
        rw [kbit_nat x0 (by omega) (by omega) (by omega), Int.toNat_natCast]; exact hb'
      · exact Nat.testBit_lt_two_pow (Nat.lt_of_lt_of_le (show x.toNat < 2 ^ 20 by omega) (Nat.pow_le_pow_right (by decide) (by omega)))
    omega
