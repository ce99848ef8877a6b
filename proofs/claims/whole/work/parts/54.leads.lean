/-! The reference: does one good lead to another in one go. -/
def kP (M : ka_M) (base hh : Int) (p : Int) : Prop := ∃ q, p ≤ q ∧ q < 5 * base + M 61 0 base ∧ (M 62 0 q = hh ∨ M 64 0 q = hh)
section
variable {E : Nat × Nat} {d c l : Nat} {h : ka_H} {s : ka_S} {Q : ka_Q} {A : ka_A} {V : ka_V} {M : ka_M}
theorem k124_i (w : KW h A V M) (r : kRW V M) {g hh k rr base : Int} (b0 : 0 ≤ base) (b1 : base < 84) (hh0 : 0 ≤ hh) (hh1 : hh ≤ 19) :
    ∀ (n : Nat) (p is : Int), 5 * base ≤ p → p ≤ 5 * base + M 61 0 base → 5 * base + M 61 0 base ≤ p + n → (is = 0 ∨ is = 1) →
    (∀ b : Int, (b = 0 ∨ b = 1) → (b = 1 ↔ is = 1 ∨ kP M base hh p) → ka_W (kp E) (d, (124, 100, [some (.ref (A 9 0)), some (iv g), some (iv hh), some (iv k), some (iv b), some (iv rr), some (iv base), some (iv (5 * base + M 61 0 base))], []), (h, c, l)) Q) →
    ka_W (kp E) (d, (124, 43, [some (.ref (A 9 0)), some (iv g), some (iv hh), some (iv k), some (iv is), some (iv rr), some (iv base), some (iv p)], []), (h, c, l)) Q
  | n, p, is, p0, p1, pn, hi, hQ => by
    have B := r.a61 b0 b1
    have hs : kR is := by rcases hi with rfl | rfl <;> (unfold kR; omega)
    by_cases c1 : 5 * base + M 61 0 base ≤ p
    · have e : p = 5 * base + M 61 0 base := by omega
      subst e
      simp (disch := first | assumption | omega | (unfold kR; omega)) only [r124_43, r124_45, r124_46, r124_48, r124_49, r124_50, r124_53, r124_55, r124_56, r124_57, true_and, and_true, kk1_i, kk1_r, kk1_n, kk1_0, kcat_iv, kcat_ref, kcat_null, kisR_ref, kisR_null, ksz_nil, ksz_iv, ksz_ref, ksz_null, ksz_lv, kfit_int, kfit_long, kfit_obj, kfit_objN, kfit_arr, kfit_arrN, knarI, knarZ0, knarZ1, kret_v, kret_n, kret_x, Nat.reduceAdd, Nat.reduceLeDiff, w.o_9_11 r.v9, w.g_9_11 r.v9, w.oa_61 r.v61, w.ga_61 r.v61, true_or, Int.le_refl, true_implies, not_true_eq_false, false_implies]
      refine hQ is hi ⟨Or.inl, fun z => z.elim id (fun ⟨q, q1, q2, _⟩ => by omega)⟩
    · cases n with
      | zero => omega
      | succ n =>
        have G := r.a62 (j := p) (by omega) (by omega)
        have I := r.a64 (j := p) (by omega) (by omega)
        have key : ∀ b : Int, (b = 0 ∨ b = 1) → (b = 1 ↔ is = 1 ∨ M 62 0 p = hh ∨ M 64 0 p = hh) → ka_W (kp E) (d, (124, 43, [some (.ref (A 9 0)), some (iv g), some (iv hh), some (iv k), some (iv b), some (iv rr), some (iv base), some (iv (p + 1))], []), (h, c, l)) Q := by
          intro b hb hb1
          refine k124_i w r b0 b1 hh0 hh1 n (p + 1) b (by omega) (by omega) (by omega) hb (fun b' hb' hb1' => hQ b' hb' ?_)
          rw [hb1', hb1]
          constructor
          · rintro ((z | z) | ⟨q, q1, q2, q3⟩)
            · exact Or.inl z
            · exact Or.inr ⟨p, by omega, by omega, z⟩
            · exact Or.inr ⟨q, by omega, q2, q3⟩
          · rintro (z | ⟨q, q1, q2, q3⟩)
            · exact Or.inl (Or.inl z)
            · by_cases e : q = p
              · subst e
                exact Or.inl (Or.inr q3)
              · exact Or.inr ⟨q, by omega, q2, q3⟩
        rw [r124_43]
        simp (disch := first | assumption | omega | (unfold kR; omega)) only [r124_45, r124_46, r124_48, r124_49, r124_50, r124_53, r124_55, r124_56, r124_57, r124_60, r124_62, r124_65, r124_66, r124_69, r124_71, r124_72, r124_73, r124_76, r124_77, r124_80, r124_82, r124_83, r124_84, r124_87, r124_88, r124_91, r124_92, r124_94, r124_97, true_and, and_true, kk1_i, kk1_r, kk1_n, kk1_0, kcat_iv, kcat_ref, kcat_null, kisR_ref, kisR_null, ksz_nil, ksz_iv, ksz_ref, ksz_null, ksz_lv, kfit_int, kfit_long, kfit_obj, kfit_objN, kfit_arr, kfit_arrN, knarI, knarZ0, knarZ1, kret_v, kret_n, kret_x, Nat.reduceAdd, Nat.reduceLeDiff, w.o_9_11 r.v9, w.g_9_11 r.v9, w.oa_61 r.v61, w.ga_61 r.v61, w.o_9_12 r.v9, w.g_9_12 r.v9, w.oa_62 r.v62, w.ga_62 r.v62, w.o_9_14 r.v9, w.g_9_14 r.v9, w.oa_64 r.v64, w.ga_64 r.v64, true_or, c1, true_implies, not_true_eq_false, false_implies, not_false_eq_true]
        exact ⟨fun z => key 1 (Or.inr rfl) (by omega), fun z => ⟨fun z1 => key 1 (Or.inr rfl) (by omega), fun z1 => ⟨fun z2 => key 0 (Or.inl rfl) (by omega), fun z2 => key 1 (Or.inr rfl) (by omega)⟩⟩⟩
end
