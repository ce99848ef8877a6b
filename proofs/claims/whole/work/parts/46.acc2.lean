/-! Arrays of references, lengths. -/
section
variable {J : ka_H} {A : ka_A} {V : ka_V} {C R : ka_M} {i x y : Int}
theorem hea_32 (hA : kJ A V) (hv : V 32 i) (h0 : 0 ≤ y) (h1 : y < 20) : ∃ t, 2000 ≤ t ∧ t < 3000 ∧ kok (kHp J A V C R) (A 32 i) t y.toNat := ⟨2003, by decide, by decide, hoa_32 hA hv h0 h1⟩
theorem hea_33 (hA : kJ A V) (hv : V 33 i) (h0 : 0 ≤ y) (h1 : y < i % 1000) : ∃ t, 2000 ≤ t ∧ t < 3000 ∧ kok (kHp J A V C R) (A 33 i) t y.toNat := ⟨2999, by decide, by decide, hoa_33 hA hv h0 h1⟩
theorem hal_33 (hA : kJ A V) (hv : V 33 i) : ∃ t, ktg (kHp J A V C R) (A 33 i) t ∧ (1000 ≤ t ∧ t < 3000 ∨ t = 4000 ∨ t = 4001) := ⟨2999, kHp_tg (f := 33) hA hv, by decide⟩
theorem hal_34 (hA : kJ A V) (hv : V 34 i) : ∃ t, ktg (kHp J A V C R) (A 34 i) t ∧ (1000 ≤ t ∧ t < 3000 ∨ t = 4000 ∨ t = 4001) := ⟨4001, kHp_tg (f := 34) hA hv, by decide⟩
theorem hal_35 (hA : kJ A V) (hv : V 35 i) : ∃ t, ktg (kHp J A V C R) (A 35 i) t ∧ (1000 ≤ t ∧ t < 3000 ∨ t = 4000 ∨ t = 4001) := ⟨4000, kHp_tg (f := 35) hA hv, by decide⟩
theorem hal_26 (hA : kJ A V) (hv : V 26 i) : ∃ t, ktg (kHp J A V C R) (A 26 i) t ∧ (1000 ≤ t ∧ t < 3000 ∨ t = 4000 ∨ t = 4001) := ⟨1000, kHp_tg (f := 26) hA hv, by decide⟩
theorem hl_34 (hA : kJ A V) (hv : V 34 i) : kln (kHp J A V C R) (A 34 i) = 0 := kHp_ln hA hv
theorem ht_33 (hA : kJ A V) (hv : V 33 i) : ktg (kHp J A V C R) (A 33 i) 2999 := kHp_tg (f := 33) hA hv
end
