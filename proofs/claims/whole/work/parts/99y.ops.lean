/-! A call of the program beside the reference's. -/
def kSp (X : ka_M) : Prop := ∀ m, 1 ≤ m → m ≤ X 9 0 15 → X 69 0 m ≤ X 70 0 m
/-- the reference's calls with no answer -/
def kvo (y : Nat) : Bool := y == 122 || y == 136 || y == 137 || y == 158 || y == 164
def kXI (X : ka_M) (t : Int) : Prop := X 9 0 7 ≤ 12 ∧ kND X ∧ kUX X (1000 * t) ∧ kBY X ∧ kSp X
def kIv (E : Nat × Nat) (A : ka_A) (V : ka_V) (C R : ka_M) (t : Int) : Prop := kJ A V ∧ kLV V ∧ A 34 0 = E.1 ∧ kRW V R ∧ kFI V C R ∧ kXI R t
/-- what a call of the program leaves, so that the reference's call answers alike -/
def kEnd (E : Nat × Nat) (D yr : Nat) (ag : ka_A → List (Option Value)) (ex : List (Nat × Int)) (V : ka_V) (A : ka_A) (R : ka_M) (t : Int) (c l : Nat) (Q : ka_Q) : Prop :=
  ∀ J' A' V' C' R' c' l' o b, kIv E A' V' C' R' (t + 1) → kEx0 V V' A A' → c ≤ c' + 121 → l ≤ l' + 2786 →
  (∀ (C9 : ka_M) (Q' : ka_Q), Q' (.inl b) (kHp J' A' V' C9 R', c', l') → ka_W (kp E) (D, (yr, 0, ag A', []), (kHp J' A' V' C9 R, c', l')) Q') →
  ((o = .inl b ∧ R' 9 0 0 = 0) ∨ ∃ e, e ∈ ex ∧ o = .inr e.1 ∧ R' 9 0 0 = e.2) → ((kvo yr = true ∧ b = none) ∨ (kvo yr = false ∧ ∃ x, b = some (iv x) ∧ kR x)) → Q o (kHp J' A' V' C' R, c', l')
section
variable {E : Nat × Nat} {d D yr c l : Nat} {s : ka_S} {h : ka_H} {Q : ka_Q} {J : ka_H} {A A' : ka_A} {V V' : ka_V} {C C' R R' X X' X'' Y Z : ka_M} {t : Int} {ag : ka_A → List (Option Value)} {ex : List (Nat × Int)}
/-- only numbers of the reference's own change that stand in no invariant -/
theorem kUX_9 {b b' : Int} (U : kUX X b) (hb : b ≤ b') (hX : ∀ f, f = 55 ∨ f = 68 ∨ f = 69 ∨ f = 71 ∨ f = 75 ∨ f = 78 ∨ f = 79 ∨ f = 80 → X' f = X f) (h15 : X' 9 0 15 = X 9 0 15) (h26 : X' 9 0 26 = X 9 0 26) : kUX X' b' :=
  kUX_g U h15 h26 (hX 79 (by omega)) (hX 71 (by omega)) (fun m z => by rw [hX 68 (by omega)]; exact z) (fun m _ => by rw [hX 69 (by omega)]) (fun q _ => by rw [hX 75 (by omega)]) (fun u => Or.inl ⟨by rw [hX 78 (by omega)], by rw [hX 80 (by omega)]⟩) (fun g x y => by rw [hX 55 (by omega)]; have := U.2.2.2.2.2.2 g x y; omega)
theorem kND_9 (nd : kND X) (hX : ∀ f, f = 68 ∨ f = 70 ∨ f = 73 ∨ f = 75 ∨ f = 78 ∨ f = 80 ∨ f = 81 → X' f = X f) (h15 : X' 9 0 15 = X 9 0 15) (h26 : X' 9 0 26 = X 9 0 26) : kND X' := by
  intro m p a1 a2 a3 a4 a5
  rw [h15] at a2
  rw [hX 70 (by omega)] at a4
  rw [hX 68 (by omega)] at a5
  rw [f151_c (R := X) h26 (hX 75 (by omega)) (hX 78 (by omega)) (hX 80 (by omega)) (hX 81 (by omega)), hX 73 (by omega)]
  exact nd m p a1 a2 a3 a4 a5
theorem kXI_9 {t' : Int} (I : kXI X t) (ht : t ≤ t') (hX : ∀ f, f ≠ 9 → f ≠ 52 → f ≠ 54 → f ≠ 85 → f ≠ 87 → f ≠ 88 → X' f = X f) (h7 : X' 9 0 7 = X 9 0 7) (h15 : X' 9 0 15 = X 9 0 15) (h26 : X' 9 0 26 = X 9 0 26) : kXI X' t' := by
  obtain ⟨x1, x2, x3, x4, x5⟩ := I
  refine ⟨by rw [h7]; exact x1, kND_9 x2 (fun f hf => hX f (by omega) (by omega) (by omega) (by omega) (by omega) (by omega)) h15 h26, kUX_9 x3 (by omega) (fun f hf => hX f (by omega) (by omega) (by omega) (by omega) (by omega) (by omega)) h15 h26, kBY_c x4 (fun f hf => hX f (by omega) (by omega) (by omega) (by omega) (by omega) (by omega)) h7, ?_⟩
  unfold kSp
  rw [h15, hX 69 (by decide) (by decide) (by decide) (by decide) (by decide) (by decide), hX 70 (by decide) (by decide) (by decide) (by decide) (by decide) (by decide)]
  exact x5
theorem kIv_0 (I : kIv E A V C R t) {x : Int} (x0 : 0 ≤ x) (x1 : x ≤ 4) : kIv E A V C (kmu R 9 0 0 x) (t + 1) := by
  obtain ⟨i1, i2, i3, i4, i5, i6⟩ := I
  exact ⟨i1, i2, i3, i4.pi0 x0 x1, kFI_0 i5, kXI_9 i6 (by omega) (fun f a _ _ _ _ _ => kmu_ff a) (kmu_j (by decide)) (kmu_j (by decide)) (kmu_j (by decide))⟩
theorem kIv_t (I : kIv E A V C R t) {t' : Int} (ht : t ≤ t') : kIv E A V C R t' := by
  obtain ⟨i1, i2, i3, i4, i5, i6⟩ := I
  exact ⟨i1, i2, i3, i4, i5, kXI_9 i6 ht (fun f _ _ _ _ _ _ => rfl) rfl rfl rfl⟩
/-- a refused call -/
theorem kEnd.x (H : kEnd E D yr ag ex V A R t c l Q) (I : kIv E A V C R t) {e : Nat} {x : Int} {b : Option Value} (he : (e, x) ∈ ex) (x0 : 0 ≤ x) (x1 : x ≤ 4) (hr : ∀ (C9 : ka_M) (Q' : ka_Q), Q' (.inl b) (kHp J A V C9 (kmu R 9 0 0 x), c - 1, l - 6) → ka_W (kp E) (D, (yr, 0, ag A, []), (kHp J A V C9 R, c - 1, l - 6)) Q') (hb : (kvo yr = true ∧ b = none) ∨ (kvo yr = false ∧ b = some (iv 0))) : Q (.inr e) (kHp J A V C R, c - 1, l - 6) := by
  refine H J A V C (kmu R 9 0 0 x) (c - 1) (l - 6) (.inr e) b (kIv_0 I x0 x1) kEx0_rfl (by omega) (by omega) hr (Or.inr ⟨(e, x), he, rfl, kmu_eq⟩) ?_
  rcases hb with hb | hb
  · exact Or.inl hb
  · exact Or.inr ⟨hb.1, 0, hb.2, by unfold kR; omega⟩
/-- an answer that changes no number of the program's, nor of the reference's but the code -/
theorem kEnd.q (H : kEnd E D yr ag ex V A R t c l Q) (I : kIv E A V C R t) {x : Int} (hx : kR x) (hr : ∀ (C9 : ka_M) (Q' : ka_Q), Q' (.inl (some (iv x))) (kHp J A V C9 (kmu R 9 0 0 0), c, l) → ka_W (kp E) (D, (yr, 0, ag A, []), (kHp J A V C9 R, c, l)) Q') (hv : kvo yr = false := by rfl) : Q (.inl (some (iv x))) (kHp J A V C R, c, l) :=
  H J A V C (kmu R 9 0 0 0) c l _ _ (kIv_0 I (by omega) (by omega)) kEx0_rfl (by omega) (by omega) hr (Or.inl ⟨rfl, kmu_eq⟩) (Or.inr ⟨hv, x, rfl, hx⟩)
/-- day -/
theorem t27 (I : kIv E A V C R t) {x : Int} (hx : kR x) (hd : 40 ≤ d) (hD : 40 ≤ D) (hc : 121 ≤ c) (hl : 2786 ≤ l) (H : kEnd E D 136 (fun A => [some (.ref (A 9 0)), some (iv x)]) [(0, 1), (1, 2)] V A R t c l Q) :
    ka_W (kp E) (d, (27, 0, [some (.ref (A 0 0)), some (iv x)], []), (kHp J A V C R, c, l)) Q := by
  have hI := I
  obtain ⟨hA, v, hE, rw, ⟨B, M1, M2, M3, M4, M5, M6⟩, XI⟩ := hI
  have B1 := rw.i1
  by_cases h1 : 0 ≤ x ∧ x ≤ 1000
  · by_cases h2 : x < R 9 0 1
    · have := H.x I (J := J) (e := 1) (x := 2) (b := none) (by simp) (by omega) (by omega) (fun _ Q' z => (j136_2 hA v rw (by omega) hx h1 h2).mpr z) (Or.inl ⟨rfl, rfl⟩)
      simp (disch := first | assumption | (unfold kR; decide) | exact klc_R | (unfold kR; omega) | omega | (unfold kL; omega) | exact kcat_null | exact kcat_ref _ | exact kcat_iv _) only [r27_0, r27_1, r27_2, r27_5, r27_8, r27_9, r27_10, r27_13, r27_16, ho_0_6 hA v.l0, hg_0_6 hA v.l0, true_and, and_true, kk1_i, kk1_r, kk1_n, kk1_0, kcat_iv, kcat_ref, kcat_null, kisR_ref, kisR_null, ksz_nil, ksz_iv, ksz_ref, ksz_null, ksz_lv, kfit_int, kfit_long, kfit_obj, kfit_objN, kfit_arr, kfit_arrN, knarI, knarZ0, knarZ1, kret_v, kret_n, kret_x, Nat.reduceAdd, Nat.reduceLeDiff, reduceCtorEq, Int.reduceLE, Int.reduceLT, Int.reduceEq, ite_true, ite_false, true_or, or_true, false_implies, true_implies, not_true_eq_false, not_false_eq_true, and_self, eq_self, klc_lt, klc_ge, klc_le, klc_gt, klc_eq, kmu_eq, kmu_f, kmu_i, kmu_j, c42, M1, h1, show ¬ R 9 0 1 ≤ x by omega, Nat.zero_le, show 1 ≤ d by omega]
      exact ⟨by omega, by omega, by omega, this⟩
    · have kf : kFI V (kmu C 0 0 6 x) (kmu (kmu R 9 0 0 0) 9 0 1 x) := by
        refine ⟨?_, ?_, ?_, fun j a b => ?_, ?_, fun g a b => ?_, ?_⟩
        · have B' := kBI_q (C' := C) (X' := kmu (kmu R 9 0 0 0) 9 0 1 x) B (fun _ _ _ => rfl) (fun f a _ => by rw [kmu_ff a, kmu_ff a]) (by rw [kmu_j (by decide), kmu_j (by decide)]) (by rw [kmu_j (by decide), kmu_j (by decide)]) (by rw [kmu_j (by decide), kmu_j (by decide)])
          obtain ⟨VI, K, F, Bk, P, M⟩ := B'
          refine ⟨?_, ?_, ?_, Bk, ?_, M⟩
          · unfold kVI
            rw [kmu_ff (show (10:Nat) ≠ 0 by decide), kmu_ff (show (3:Nat) ≠ 0 by decide)]
            exact VI
          · unfold kRK kLs
            rw [kmu_ff (show (10:Nat) ≠ 0 by decide), kmu_ff (show (3:Nat) ≠ 0 by decide), kmu_ff (show (33:Nat) ≠ 0 by decide), kmu_ff (show (6:Nat) ≠ 0 by decide), kmu_ff (show (20:Nat) ≠ 0 by decide), kmu_ff (show (21:Nat) ≠ 0 by decide), kmu_ff (show (22:Nat) ≠ 0 by decide), kmu_ff (show (32:Nat) ≠ 0 by decide), kmu_ff (show (25:Nat) ≠ 0 by decide)]
            exact K
          · exact kRF_fr F (fun _ _ _ z => z) (fun _ _ z => z) (fun f hf => kmu_ff (by omega)) (fun f q hf _ => by rw [kmu_ff (by omega)]) (fun q _ => by rw [kmu_ff (by decide)]) (fun q _ => by rw [kmu_ff (by decide)]) rfl rfl (fun f hf => rfl) (fun m _ _ => rfl)
          · unfold kCp3
            rw [kmu_ff (show (10:Nat) ≠ 0 by decide), kmu_j (show (5:Int) ≠ 6 by decide)]
            exact P
        · rw [kmu_eq, kmu_eq]
        · rw [kmu_f (by decide), kmu_j (by decide), kmu_j (by decide)]; exact M2
        · rw [kmu_j (by decide), kmu_j (by decide)] at b
          rw [kmu_f (by decide), kmu_f (by decide), kmu_f (by decide)]
          exact M3 j a b
        · exact kRg_c M4 (kmu_ff (by decide)) (kmu_ff (by decide)) (by rw [kmu_j (by decide), kmu_j (by decide)]) (by rw [kmu_ff (by decide), kmu_ff (by decide)])
        · rw [kmu_f (by decide), kmu_f (by decide), kmu_f (by decide)]; exact M5 g a b
        · exact kBw_c M6 (kmu_j (by decide)) (by rw [kmu_j (by decide), kmu_j (by decide)]) (by rw [kmu_j (by decide), kmu_j (by decide)]) (fun f hf => by rw [kmu_ff (by omega), kmu_ff (by omega)])
      have := H J A V (kmu C 0 0 6 x) (kmu (kmu R 9 0 0 0) 9 0 1 x) c l (.inl none) none ⟨hA, v, hE, (rw.pi0 (by omega) (by omega)).pi1 h1.1 h1.2, kf, kXI_9 XI (by omega) (fun f a _ _ _ _ _ => by rw [kmu_ff a, kmu_ff a]) (by rw [kmu_j (by decide), kmu_j (by decide)]) (by rw [kmu_j (by decide), kmu_j (by decide)]) (by rw [kmu_j (by decide), kmu_j (by decide)])⟩ kEx0_rfl (by omega) (by omega) (fun _ Q' z => (j136_0 hA v rw (by omega) hx h1 (by omega)).mpr z) (Or.inl ⟨rfl, by rw [kmu_j (by decide), kmu_eq]⟩) (Or.inl ⟨rfl, rfl⟩)
      simp (disch := first | assumption | (unfold kR; decide) | exact klc_R | (unfold kR; omega) | omega | (unfold kL; omega) | exact kcat_null | exact kcat_ref _ | exact kcat_iv _) only [r27_0, r27_1, r27_2, r27_5, r27_8, r27_9, r27_10, r27_13, r27_26, r27_27, r27_28, r27_31, ho_0_6 hA v.l0, hg_0_6 hA v.l0, hp_0_6 hA v.l0, true_and, and_true, kk1_i, kk1_r, kk1_n, kk1_0, kcat_iv, kcat_ref, kcat_null, kisR_ref, kisR_null, ksz_nil, ksz_iv, ksz_ref, ksz_null, ksz_lv, kfit_int, kfit_long, kfit_obj, kfit_objN, kfit_arr, kfit_arrN, knarI, knarZ0, knarZ1, kret_v, kret_n, kret_x, Nat.reduceAdd, Nat.reduceLeDiff, reduceCtorEq, Int.reduceLE, Int.reduceLT, Int.reduceEq, ite_true, ite_false, true_or, or_true, false_implies, true_implies, not_true_eq_false, not_false_eq_true, and_self, eq_self, klc_lt, klc_ge, klc_le, klc_gt, klc_eq, kmu_eq, kmu_f, kmu_i, kmu_j, c42, M1, h1, show R 9 0 1 ≤ x by omega, Nat.zero_le, show 1 ≤ d by omega]
      exact this
  · have := H.x I (J := J) (e := 0) (x := 1) (b := none) (by simp) (by omega) (by omega) (fun _ Q' z => (j136_1 hA v rw (by omega) hx h1).mpr z) (Or.inl ⟨rfl, rfl⟩)
    simp (disch := first | assumption | (unfold kR; decide) | exact klc_R | (unfold kR; omega) | omega | (unfold kL; omega) | exact kcat_null | exact kcat_ref _ | exact kcat_iv _) only [r27_0, r27_1, r27_2, r27_5, true_and, and_true, kk1_i, kk1_r, kk1_n, kk1_0, kcat_iv, kcat_ref, kcat_null, kisR_ref, kisR_null, ksz_nil, ksz_iv, ksz_ref, ksz_null, ksz_lv, kfit_int, kfit_long, kfit_obj, kfit_objN, kfit_arr, kfit_arrN, knarI, knarZ0, knarZ1, kret_v, kret_n, kret_x, Nat.reduceAdd, Nat.reduceLeDiff, reduceCtorEq, Int.reduceLE, Int.reduceLT, Int.reduceEq, ite_true, ite_false, true_or, or_true, false_implies, true_implies, not_true_eq_false, not_false_eq_true, and_self, eq_self, klc_lt, klc_ge, klc_le, klc_gt, klc_eq, kmu_eq, kmu_f, kmu_i, kmu_j, c42x, h1, Nat.zero_le, show 1 ≤ d by omega]
    exact ⟨by omega, by omega, by omega, this⟩
end
