/-! The floor: takeApart. -/
/-- a bound unit's whole is there -/
def kU3 (R : ka_M) : Prop := ∀ u, 1 ≤ u → u ≤ R 9 0 26 → R 78 0 u = 2 → 1 ≤ R 80 0 u ∧ R 80 0 u ≤ R 9 0 26
section
variable {E : Nat × Nat} {d c l : Nat} {s : ka_S} {h : ka_H} {Q : ka_Q} {J : ka_H} {A : ka_A} {V : ka_V} {C R X : ka_M}
theorem f161_o {u : Int} : (∀ f, f ≠ 78 → f ≠ 80 → f161 X u f = X f) ∧ (∀ j, j ≠ u → f161 X u 78 0 j = X 78 0 j ∧ f161 X u 80 0 j = X 80 0 j) ∧ f161 X u 78 0 u = 3 ∧ f161 X u 80 0 u = 0 := by
  unfold f161
  refine ⟨fun f a b => by rw [kmu_ff b, kmu_ff a], fun j a => ⟨by rw [kmu_f (by decide), kmu_j a], by rw [kmu_j a, kmu_f (by decide)]⟩, by rw [kmu_f (by decide), kmu_eq], kmu_eq⟩
theorem f161_ud {u : Int} : kUd X (f161 X u) u := by
  obtain ⟨o1, o2, o3, o4⟩ := f161_o (X := X) (u := u)
  exact ⟨o1 77 (by decide) (by decide), by rw [o1 9 (by decide) (by decide)], fun j hj => ⟨(o2 j hj).1, (o2 j hj).2, by rw [o1 81 (by decide) (by decide)]⟩⟩
theorem kul_o2 {w u : Int} : kUd X (kul w u X) u ∧ ∀ f, f ≠ 78 → f ≠ 80 → kul w u X f = X f := by
  unfold kul
  split
  · refine ⟨⟨?_, ?_, fun j hj => ⟨?_, ?_, ?_⟩⟩, fun f a b => ?_⟩
    · rw [kmu_ff (by decide), kmu_ff (by decide)]
    · rw [kmu_f (by decide), kmu_f (by decide)]
    · rw [kmu_f (by decide), kmu_j hj]
    · rw [kmu_j hj, kmu_f (by decide)]
    · rw [kmu_f (by decide), kmu_f (by decide)]
    · rw [kmu_ff b, kmu_ff a]
  · exact ⟨⟨rfl, rfl, fun j hj => ⟨rfl, rfl, rfl⟩⟩, fun f a b => rfl⟩
theorem kul_161 {w u : Int} (h : X 78 0 w ≠ 2) : kul w u (f161 X w) = f161 (kul w u X) w := by
  obtain ⟨o1, o2, o3, o4⟩ := f161_o (X := X) (u := w)
  by_cases e : u = w
  · subst e
    unfold kul
    rw [if_neg (show ¬ (f161 X u 78 0 u = 2 ∧ _) from fun z => by have := z.1; omega), if_neg (fun z => h z.1)]
  · obtain ⟨x1, x2⟩ := o2 u e
    unfold kul
    by_cases z : X 78 0 u = 2 ∧ X 80 0 u = w
    · rw [if_pos (by rw [x1, x2]; exact z), if_pos z]
      unfold f161
      funext f i j
      unfold kmu
      by_cases a1 : f = 80 ∧ i = 0 ∧ j = u
      · obtain ⟨rfl, rfl, rfl⟩ := a1
        simp [e]
      · by_cases a2 : f = 78 ∧ i = 0 ∧ j = u
        · obtain ⟨rfl, rfl, rfl⟩ := a2
          simp [e]
        · simp only [if_neg a1, if_neg a2]
    · rw [if_neg (by rw [x1, x2]; exact z), if_neg z]
theorem kuls_161 {w : Int} : ∀ (n : Nat) (u : Int) (X : ka_M), X 78 0 w ≠ 2 → kfd (kul w) n u (f161 X w) = f161 (kfd (kul w) n u X) w
  | 0, u, X, h => rfl
  | n + 1, u, X, h => by
    unfold kfd
    rw [kul_161 h]
    refine kuls_161 n (u + 1) _ ?_
    by_cases e : w = u
    · subst e
      unfold kul
      rw [if_neg (fun z => h z.1)]
      exact h
    · rw [((kul_o2 (X := X) (w := w) (u := u)).1.2.2 w e).1]
      exact h
theorem kU3.ul (h : kU3 X) {w u : Int} : kU3 (kul w u X) := by
  intro j a b c'
  obtain ⟨⟨x1, x2, x3⟩, x4⟩ := kul_o2 (X := X) (w := w) (u := u)
  rw [x4 9 (by decide) (by decide)] at b ⊢
  by_cases e : j = u
  · subst e
    unfold kul at c' ⊢
    split at c'
    · rw [kmu_f (by decide), kmu_eq] at c'
      omega
    · rename_i e
      rw [if_neg e]
      exact h j a b c'
  · rw [(x3 j e).1] at c'
    rw [(x3 j e).2.1]
    exact h j a b c'
/-- a unit that was bound becomes loose, on both sides -/
theorem kRF_ul (rw : kRW V X) {w u : Int} (F : kRF V C X) (u1 : 1 ≤ u) (u2 : u ≤ X 9 0 26) (h : X 78 0 u = 2 ∧ X 80 0 u = w) :
    kRF V (kmu (g116 C u 0) 29 0 (X 77 0 u) (C 29 0 (X 77 0 u) + 1)) (kul w u X) := by
  have e : kul w u X = kmu (kmu X 78 0 u 0) 80 0 u 0 := if_pos h
  obtain ⟨ud, x4⟩ := kul_o2 (X := X) (w := w) (u := u)
  have hu := fun m' p' => khu_u ud u1 u2 m' p'
  have h9 := fun g' => f149_u ud u1 u2 g'
  obtain ⟨o1, o2, o3, o4, o5, o6, o7⟩ := g116_o (C := C) (u := u) (x := 0)
  have F' := F
  obtain ⟨F1, F2, F3, F4, F5, F6, F7, F8⟩ := F'
  have e78 : kul w u X 78 0 u = 0 := by rw [e, kmu_f (by decide), kmu_eq]
  refine kRF_unit F u1 u2 (by omega) (fun f a b c' => x4 f a b) ud (fun f a b c' => ?_) (fun u' a => ?_) (fun j a => ?_) ?_ ?_ ?_ ?_ (fun g' a b => ?_) (fun m' p' a b a' b' z => ?_)
  · rw [kmu_ff c', o1 f a]
  · rw [kmu_ff (by decide), o2 u' a]
  · rw [kmu_f (by decide), o3 j a]
  · rw [kmu_f (by decide), o4, e78]
  · rw [kmu_f (by decide), o5, e78, if_neg (by decide)]
  · rw [kmu_f (by decide), o6, e78, if_neg (by decide)]
  · rw [kmu_f (by decide), o7, e78, if_neg (by decide)]
  · have F8' := (F8 g' a b).2
    rw [h9 g', e78, ← F8', kb_f (show ¬ (X 77 0 u = g' ∧ X 78 0 u = 0) by omega)]
    by_cases z : g' = X 77 0 u
    · rw [z, kmu_eq, kb_t ⟨rfl, rfl⟩]; omega
    · rw [kmu_j z, o1 29 (by decide), kb_f (fun y => z y.1.symm)]
      omega
  · rw [kmu_f (by decide), o1 24 (by decide), hu m' p', ← (F6 m' p' a b a' b').2.2.2.1 z, e78, kb_f (show ¬ ((0:Int) = 1 ∧ _ ∧ _) from fun w => absurd w.1 (by decide)), kb_f (show ¬ (X 78 0 u = 1 ∧ _ ∧ _) from fun w => by have := w.1; omega)]
    omega
theorem c74_u (hA : kJ A V) (v : kLV V) {w m : Int} (hd : 6 ≤ d) (hw : V 8 w) (w0 : 1 ≤ w) :
    ∀ (n : Nat) (i : Int) (C X : ka_M) (l4 : Option Value), kRW V X → kU3 X → kRF V C X → 0 ≤ i → i + n = X 9 0 26 → 1 ≤ m → m ≤ X 9 0 15 → kND (kfd (kul w) n (i + 1) X) →
    (∀ C', kFl C C' → kRF V C' (f153 (kfd (kul w) n (i + 1) X)) → Q (.inl (some (.ref (A 6 (100 + m))))) (kHp J A V C' R, c, l)) →
    ka_W (kp E) (d, (74, 67, [some (.ref (A 2 0)), some (.ref (A 8 w)), some (.ref (A 4 m)), some (iv i), l4], []), (kHp J A V C R, c, l)) Q
  | n, i, C, X, l4, rw, hU, F, i0, hn, m0, m1, nd, H => by
    have B26 := rw.i26
    have F' := F
    obtain ⟨F1, F2, F3, F4, F5, F6, F7, F8⟩ := F'
    have v102 : V 10 2 := v.2.2.2
    cases n with
    | zero =>
      have z := c77 (E := E) (d := d - 1) (c := c) (l := l) (J := J) (R := R) (Q := kret E d 74 116 [some (.ref (A 2 0)), some (.ref (A 8 w)), some (.ref (A 4 m)), some (iv i), l4] [] Q) hA v rw F nd (by omega) (fun C' h1 h2 => by
        have := H C' h1 h2
        have M1 := (F5 m m0 m1).1
        simp (disch := first | assumption | (unfold kR; decide) | exact klc_R | (unfold kR; omega) | omega | (unfold kL; omega) | exact kcat_null | exact kcat_ref _ | exact kcat_iv _) only [r74_116, r74_117, r74_120, ho_4_4 hA, hg_4_4 hA, true_and, and_true, kk1_i, kk1_r, kk1_n, kk1_0, kcat_iv, kcat_ref, kcat_null, kisR_ref, kisR_null, ksz_nil, ksz_iv, ksz_ref, ksz_null, ksz_lv, kfit_int, kfit_long, kfit_obj, kfit_objN, kfit_arr, kfit_arrN, knarI, knarZ0, knarZ1, kret_v, kret_n, kret_x, Nat.reduceAdd, Nat.reduceLeDiff, reduceCtorEq, Int.reduceLE, Int.reduceLT, Int.reduceEq, ite_true, ite_false, true_or, or_true, false_implies, true_implies, not_true_eq_false, not_false_eq_true, and_self, eq_self, klc_lt, klc_ge, klc_le, klc_gt, klc_eq, kmu_eq, kmu_f, kmu_i, kmu_j]
        exact this)
      simp (disch := first | assumption | (unfold kR; decide) | exact klc_R | (unfold kR; omega) | omega | (unfold kL; omega) | exact kcat_null | exact kcat_ref _ | exact kcat_iv _) only [r74_67, r74_68, r74_69, r74_72, r74_75, r74_112, r74_113, ho_2_1 hA v.l2, hg_2_1 hA v.l2, ht_10 hA, ht_2 hA v.l2, true_and, and_true, kk1_i, kk1_r, kk1_n, kk1_0, kcat_iv, kcat_ref, kcat_null, kisR_ref, kisR_null, ksz_nil, ksz_iv, ksz_ref, ksz_null, ksz_lv, kfit_int, kfit_long, kfit_obj, kfit_objN, kfit_arr, kfit_arrN, knarI, knarZ0, knarZ1, kret_v, kret_n, kret_x, Nat.reduceAdd, Nat.reduceLeDiff, reduceCtorEq, Int.reduceLE, Int.reduceLT, Int.reduceEq, ite_true, ite_false, true_or, or_true, false_implies, true_implies, not_true_eq_false, not_false_eq_true, and_self, eq_self, klc_lt, klc_ge, klc_le, klc_gt, klc_eq, kmu_eq, kmu_f, kmu_i, kmu_j, c180 hA v102, F4, show X 9 0 26 ≤ i by omega, Nat.zero_le, show 1 ≤ d by omega]
      exact z
    | succ n =>
      obtain ⟨U1, U2, U3, U4, U5, U6, U7, U8, U9⟩ := F7 (i + 1) (by omega) (by omega)
      rw [Int.add_sub_cancel] at U2
      have B78 := rw.a78 (j := i + 1) (by omega) (by omega)
      have B77 := rw.a77 (j := i + 1) (by omega) (by omega)
      have B80 := rw.a80 (j := i + 1) (by omega) (by omega)
      have q182 := fun {Q} => c182_2 (E := E) (d := d - 1) (c := c) (l := l) (Q := Q) (J := J) (R := R) hA v F2 (x := i) (y := i + 1) (by omega) i0 (by omega) U2 (by omega)
      have hv : 0 ≤ C 8 (i + 1) 6 → V 8 (C 8 (i + 1) 6) := by
        intro z
        rw [U9] at z ⊢
        by_cases y : X 78 0 (i + 1) = 2
        · rw [if_pos y]
          have := hU _ (by omega) (by omega) y
          exact (F7 _ this.1 this.2).1
        · rw [if_neg y] at z
          omega
      have q112 := fun {Q} => c112 (E := E) (d := d - 1) (c := c) (l := l) (Q := Q) (J := J) (R := R) hA (u := i + 1) (w := w) U1 hw (by omega) hv
      have hc : C 8 (i + 1) 6 = w ↔ (X 78 0 (i + 1) = 2 ∧ X 80 0 (i + 1) = w) := by
        rw [U9]
        by_cases y : X 78 0 (i + 1) = 2
        · rw [if_pos y]; simp [y]
        · rw [if_neg y]
          constructor
          · intro a; omega
          · rintro ⟨a, b⟩; exact absurd a y
      have hstep : kfd (kul w) (n + 1) (i + 1) X = kfd (kul w) n (i + 1 + 1) (kul w (i + 1) X) := rfl
      rw [hstep] at H nd
      have o := kul_o (V := V) (w := w) (u := i + 1) rw
      have t9 := o.2 9 (by decide) (by decide) (by decide) (by decide) (by decide)
      by_cases c1 : X 78 0 (i + 1) = 2 ∧ X 80 0 (i + 1) = w
      · have L := kRF_ul rw F (by omega) (by omega) c1
        have ih := c74_u hA v hd hw w0 n (i + 1) (kmu (g116 C (i + 1) 0) 29 0 (X 77 0 (i + 1)) (C 29 0 (X 77 0 (i + 1)) + 1)) (kul w (i + 1) X) (some (.ref (A 8 (i + 1)))) o.1 hU.ul L (by omega) (by rw [t9]; omega) m0 (by rw [t9]; exact m1) nd (fun C' h1 h2 => H C' (kFl.trans (by
            unfold g116
            exact ((((kFl_rfl.mu (by omega)).mu (by omega)).mu (by omega)).mu (by omega)).mu (by omega)) h1) h2)
        have q76 := fun {Q} => c76 (E := E) (d := d - 1) (c := c) (l := l) (Q := Q) (J := J) (C := C) (R := R) hA v (u := i + 1) (by omega) U1 (by rw [U4]; omega) (by rw [U4]; omega)
        rw [U4] at q76
        rw [r74_67]
        simp (disch := first | assumption | (unfold kR; decide) | exact klc_R | (unfold kR; omega) | omega | (unfold kL; omega) | exact kcat_null | exact kcat_ref _ | exact kcat_iv _) only [r74_68, r74_69, r74_72, r74_75, r74_78, r74_79, r74_82, r74_83, r74_86, r74_89, r74_91, r74_93, r74_94, r74_97, r74_100, r74_101, r74_103, r74_106, r74_109, ho_2_1 hA v.l2, hg_2_1 hA v.l2, ht_10 hA, ht_8 hA, ht_2 hA v.l2, true_and, and_true, kk1_i, kk1_r, kk1_n, kk1_0, kcat_iv, kcat_ref, kcat_null, kisR_ref, kisR_null, ksz_nil, ksz_iv, ksz_ref, ksz_null, ksz_lv, kfit_int, kfit_long, kfit_obj, kfit_objN, kfit_arr, kfit_arrN, knarI, knarZ0, knarZ1, kret_v, kret_n, kret_x, Nat.reduceAdd, Nat.reduceLeDiff, reduceCtorEq, Int.reduceLE, Int.reduceLT, Int.reduceEq, ite_true, ite_false, true_or, or_true, false_implies, true_implies, not_true_eq_false, not_false_eq_true, and_self, eq_self, klc_lt, klc_ge, klc_le, klc_gt, klc_eq, kmu_eq, kmu_f, kmu_i, kmu_j, c180 hA v102, q182, q112, hc, q76, F4, c1, show ¬ X 9 0 26 ≤ i by omega, Nat.zero_le, show 1 ≤ d by omega]
        exact ih
      · have e : kul w (i + 1) X = X := if_neg c1
        rw [e] at H nd
        have ih := c74_u hA v hd hw w0 n (i + 1) C X (some (.ref (A 8 (i + 1)))) rw hU F (by omega) (by omega) m0 m1 nd H
        rw [r74_67]
        simp (disch := first | assumption | (unfold kR; decide) | exact klc_R | (unfold kR; omega) | omega | (unfold kL; omega) | exact kcat_null | exact kcat_ref _ | exact kcat_iv _) only [r74_68, r74_69, r74_72, r74_75, r74_78, r74_79, r74_82, r74_83, r74_86, r74_89, r74_91, r74_93, r74_94, r74_97, r74_100, r74_101, r74_103, r74_106, r74_109, ho_2_1 hA v.l2, hg_2_1 hA v.l2, ht_10 hA, ht_8 hA, ht_2 hA v.l2, true_and, and_true, kk1_i, kk1_r, kk1_n, kk1_0, kcat_iv, kcat_ref, kcat_null, kisR_ref, kisR_null, ksz_nil, ksz_iv, ksz_ref, ksz_null, ksz_lv, kfit_int, kfit_long, kfit_obj, kfit_objN, kfit_arr, kfit_arrN, knarI, knarZ0, knarZ1, kret_v, kret_n, kret_x, Nat.reduceAdd, Nat.reduceLeDiff, reduceCtorEq, Int.reduceLE, Int.reduceLT, Int.reduceEq, ite_true, ite_false, true_or, or_true, false_implies, true_implies, not_true_eq_false, not_false_eq_true, and_self, eq_self, klc_lt, klc_ge, klc_le, klc_gt, klc_eq, kmu_eq, kmu_f, kmu_i, kmu_j, c180 hA v102, q182, q112, hc, F4, c1, show ¬ X 9 0 26 ≤ i by omega, Nat.zero_le, show 1 ≤ d by omega]
        exact ih
/-- a row's plain pieces, on both sides; the unit is broken already -/
theorem kRF_rw (rw : kRW V X) {m p u : Int} (F : kRF V C (f161 X u)) (m0 : 1 ≤ m) (m1 : m ≤ X 9 0 15) (hs : X 68 0 m = 1) (hu : X 71 0 m = u) (p0 : 0 ≤ p) (p1 : p < X 70 0 m) :
    kRF V (kmu C 28 0 (X 72 0 (5 * m + p)) (X 55 0 (X 72 0 (5 * m + p)) + X 75 0 (5 * m + p))) (f161 (krw m p X) u) := by
  have B15 := rw.i15
  have B70 := rw.a70 (j := m) (by omega) (by omega)
  obtain ⟨o1, o2, o3, o4⟩ := f161_o (X := X) (u := u)
  obtain ⟨q1, q2, q3, q4⟩ := f161_o (X := krw m p X) (u := u)
  have kr : ∀ f, f ≠ 55 → f ≠ 75 → f ≠ 83 → f ≠ 84 → krw m p X f = X f := fun f a b c' d' => by
    unfold krw
    rw [kmu_ff b, kmu_ff a, kmu_ff d', kmu_ff c']
  have ff : ∀ f, f ≠ 55 → f ≠ 75 → f ≠ 83 → f ≠ 84 → f161 (krw m p X) u f = f161 X u f := fun f a b c' d' => by
    unfold f161
    by_cases e1 : f = 80
    · subst e1
      funext i j
      unfold kmu
      rw [kr 80 (by decide) (by decide) (by decide) (by decide)]
    · by_cases e2 : f = 78
      · subst e2
        funext i j
        unfold kmu
        rw [kr 78 (by decide) (by decide) (by decide) (by decide)]
      · rw [kmu_ff e1, kmu_ff e2, kmu_ff e1, kmu_ff e2, kr f a b c' d']
  have cc : ∀ f, f ≠ 28 → (kmu C 28 0 (X 72 0 (5 * m + p)) (X 55 0 (X 72 0 (5 * m + p)) + X 75 0 (5 * m + p))) f = C f := fun f hf => kmu_ff hf
  have x15 : f161 X u 9 0 15 = X 9 0 15 := by rw [o1 9 (by decide) (by decide)]
  have g9 := ff 9 (by decide) (by decide) (by decide) (by decide)
  refine kRF_f F (cc 8 (by decide)) (cc 10 (by decide)) (cc 33 (by decide)) (fun j _ => by rw [g9]) (ff 77 (by decide) (by decide) (by decide) (by decide)) (ff 78 (by decide) (by decide) (by decide) (by decide)) (ff 79 (by decide) (by decide) (by decide) (by decide)) (ff 80 (by decide) (by decide) (by decide) (by decide)) (ff 81 (by decide) (by decide) (by decide) (by decide)) (fun m' a b h => h.c (cc 4 (by decide)) (cc 6 (by decide)) (cc 10 (by decide)) (cc 33 (by decide)) (ff 58 (by decide) (by decide) (by decide) (by decide)) (ff 66 (by decide) (by decide) (by decide) (by decide)) (ff 67 (by decide) (by decide) (by decide) (by decide)) (ff 68 (by decide) (by decide) (by decide) (by decide)) (ff 69 (by decide) (by decide) (by decide) (by decide)) (ff 70 (by decide) (by decide) (by decide) (by decide)) (ff 71 (by decide) (by decide) (by decide) (by decide))) (fun m' p' a b a' b' => ?_) (fun g' a b => ?_) (cc 29 (by decide))
  · rw [ff 70 (by decide) (by decide) (by decide) (by decide)] at b'
    rw [x15] at b
    have x70 : f161 X u 70 = X 70 := o1 70 (by decide) (by decide)
    have B70' := rw.a70 (j := m') (by omega) (by omega)
    obtain ⟨y1, y2, y3, y4, y5⟩ := F.2.2.2.2.2.1 m' p' a (by rw [x15]; exact b) a' b'
    rw [x70] at b'
    unfold kRp
    rw [cc 20 (by decide), cc 21 (by decide), cc 22 (by decide), cc 23 (by decide), cc 24 (by decide), ff 72 (by decide) (by decide) (by decide) (by decide), ff 73 (by decide) (by decide) (by decide) (by decide), ff 74 (by decide) (by decide) (by decide) (by decide), ff 68 (by decide) (by decide) (by decide) (by decide), ff 71 (by decide) (by decide) (by decide) (by decide), ff 78 (by decide) (by decide) (by decide) (by decide), khu_c (R := f161 X u) (by rw [g9]) (ff 78 (by decide) (by decide) (by decide) (by decide)) (ff 80 (by decide) (by decide) (by decide) (by decide)) (ff 81 (by decide) (by decide) (by decide) (by decide))]
    refine ⟨y1, y2, y3, y4, fun z => ?_⟩
    by_cases e : m' = m
    · exact absurd ⟨by rw [e, o1 68 (by decide) (by decide)]; exact hs, by rw [e, o1 71 (by decide) (by decide), hu]; exact o3⟩ z
    · rw [y5 z, o1 75 (by decide) (by decide), q1 75 (by decide) (by decide)]
      unfold krw
      rw [kmu_j (by omega), kmu_f (by decide), kmu_f (by decide), kmu_f (by decide)]
  · have G := (F.2.2.2.2.2.2.2 g' a b).1
    rw [o1 55 (by decide) (by decide)] at G
    rw [q1 55 (by decide) (by decide)]
    unfold krw
    rw [kmu_f (show (55:Nat) ≠ 75 by decide)]
    by_cases e : g' = X 72 0 (5 * m + p)
    · rw [e, kmu_eq, kmu_eq]
    · rw [kmu_j e, kmu_j e, kmu_f (by decide), kmu_f (by decide)]
      exact G
theorem c74_p (hA : kJ A V) (v : kLV V) {u m : Int} (hd : 6 ≤ d) (hw : V 8 u) (u0 : 1 ≤ u) (hm : V 4 m) (Y : ka_M) :
    ∀ (n : Nat) (p : Int) (C X : ka_M), kRW V X → kRF V C (f161 X u) → 1 ≤ m → m ≤ X 9 0 15 → X 68 0 m = 1 → X 71 0 m = u → 0 ≤ p → p + n = X 70 0 m → (∀ g, 0 ≤ g → g < 20 → X 55 0 g ≤ 990000 + 9 * p) → (∀ q, p ≤ q → q < X 70 0 m → C 23 m q = X 75 0 (5 * m + q)) → kfd (krw m) n p X = Y →
    (∀ C', (∀ f, f ≠ 28 → C' f = C f) → kRF V C' (f161 Y u) → ka_W (kp E) (d, (74, 65, [some (.ref (A 2 0)), some (.ref (A 8 u)), some (.ref (A 4 m)), some (iv (p + n)), none], []), (kHp J A V C' R, c, l)) Q) →
    ka_W (kp E) (d, (74, 25, [some (.ref (A 2 0)), some (.ref (A 8 u)), some (.ref (A 4 m)), some (iv p), none], []), (kHp J A V C R, c, l)) Q
  | n, p, C, X, rw, F, m0, m1, hs, hu, p0, hp, hb, h23, hY, H => by
    have B15 := rw.i15
    have B70 := rw.a70 (j := m) (by omega) (by omega)
    obtain ⟨o1, o2, o3, o4⟩ := f161_o (X := X) (u := u)
    have F' := F
    obtain ⟨F1, F2, F3, F4, F5, F6, F7, F8⟩ := F'
    obtain ⟨M1, M2, M3, ⟨r1, r2, r3, r4⟩, M5, M6, M7, M8, M9, M10, M11, M12, M13, M14⟩ := F5 m m0 (by rw [o1 9 (by decide) (by decide)]; exact m1)
    rw [o1 70 (by decide) (by decide)] at M13
    cases n with
    | zero =>
      have hY' : X = Y := hY
      subst hY'
      have := H C (fun _ _ => rfl) F
      have e : p + ((0 : Nat) : Int) = p := by omega
      rw [e] at this
      simp (disch := first | assumption | (unfold kR; decide) | exact klc_R | (unfold kR; omega) | omega | (unfold kL; omega) | exact kcat_null | exact kcat_ref _ | exact kcat_iv _) only [r74_25, r74_26, r74_27, r74_30, r74_33, ho_4_4 hA, hg_4_4 hA, ho_6_5 hA, hg_6_5 hA, true_and, and_true, kk1_i, kk1_r, kk1_n, kk1_0, kcat_iv, kcat_ref, kcat_null, kisR_ref, kisR_null, ksz_nil, ksz_iv, ksz_ref, ksz_null, ksz_lv, kfit_int, kfit_long, kfit_obj, kfit_objN, kfit_arr, kfit_arrN, knarI, knarZ0, knarZ1, kret_v, kret_n, kret_x, Nat.reduceAdd, Nat.reduceLeDiff, reduceCtorEq, Int.reduceLE, Int.reduceLT, Int.reduceEq, ite_true, ite_false, true_or, or_true, false_implies, true_implies, not_true_eq_false, not_false_eq_true, and_self, eq_self, klc_lt, klc_ge, klc_le, klc_gt, klc_eq, kmu_eq, kmu_f, kmu_i, kmu_j, M13, show X 70 0 m ≤ p by omega]
      exact this
    | succ n =>
      obtain ⟨P1, P2, P3, P4, P5⟩ := F6 m p m0 (by rw [o1 9 (by decide) (by decide)]; exact m1) p0 (by rw [o1 70 (by decide) (by decide)]; omega)
      rw [o1 72 (by decide) (by decide)] at P1
      have B72 := rw.a72 (j := 5 * m + p) (by omega) (by omega)
      have B75 := rw.a75 (j := 5 * m + p) (by omega) (by omega)
      have G := (F8 (X 72 0 (5 * m + p)) (by omega) (by omega)).1
      rw [o1 55 (by decide) (by decide)] at G
      have L := kRF_rw rw F m0 m1 hs hu p0 (by omega)
      obtain ⟨y1, y2, y3⟩ := krw_o (m := m) (p := p) rw m0 (by omega) p0 (by omega) (b := 990000 + 9 * p) hb (by omega)
      have h23p := h23 p (Int.le_refl _) (by omega)
      have ih := c74_p hA v hd hw u0 hm Y n (p + 1) (kmu C 28 0 (X 72 0 (5 * m + p)) (X 55 0 (X 72 0 (5 * m + p)) + X 75 0 (5 * m + p))) (krw m p X) y1 L m0 (by rw [y2 9 (by decide) (by decide) (by decide) (by decide)]; exact m1) (by rw [y2 68 (by decide) (by decide) (by decide) (by decide)]; exact hs) (by rw [y2 71 (by decide) (by decide) (by decide) (by decide)]; exact hu) (by omega) (by rw [y2 70 (by decide) (by decide) (by decide) (by decide)]; omega) (fun g g0 g1 => by have := y3 g g0 g1; omega) (fun q a b => by
          rw [y2 70 (by decide) (by decide) (by decide) (by decide)] at b
          rw [kmu_f (by decide), h23 q (by omega) b]
          unfold krw
          rw [kmu_j (by omega), kmu_f (by decide), kmu_f (by decide), kmu_f (by decide)]) hY (fun C' h1 h2 => by
          have := H C' (fun f a => (h1 f a).trans (kmu_ff a)) h2
          have e : p + 1 + (n : Int) = p + ((n + 1 : Nat) : Int) := by omega
          rw [e]
          exact this)
      rw [r74_25]
      simp (disch := first | assumption | (unfold kR; decide) | exact klc_R | (unfold kR; omega) | omega | (unfold kL; omega) | exact kcat_null | exact kcat_ref _ | exact kcat_iv _) only [r74_26, r74_27, r74_30, r74_33, r74_36, r74_37, r74_40, r74_41, r74_44, r74_47, r74_48, r74_49, r74_50, r74_51, r74_52, r74_55, r74_56, r74_57, r74_58, r74_59, r74_62, ho_4_4 hA, hg_4_4 hA, ho_6_5 hA, hg_6_5 hA, ho_2_2 hA v.l2, hg_2_2 hA v.l2, hoa_28 hA v.l28, hga_28 hA v.l28, hpa_28 hA v.l28, ho_6_2 hA, hg_6_2 hA, hoa_20 hA, hga_20 hA, hpa_20 hA, ho_4_5 hA, hg_4_5 hA, hoa_23 hA, hga_23 hA, hpa_23 hA, true_and, and_true, kk1_i, kk1_r, kk1_n, kk1_0, kcat_iv, kcat_ref, kcat_null, kisR_ref, kisR_null, ksz_nil, ksz_iv, ksz_ref, ksz_null, ksz_lv, kfit_int, kfit_long, kfit_obj, kfit_objN, kfit_arr, kfit_arrN, knarI, knarZ0, knarZ1, kret_v, kret_n, kret_x, Nat.reduceAdd, Nat.reduceLeDiff, reduceCtorEq, Int.reduceLE, Int.reduceLT, Int.reduceEq, ite_true, ite_false, true_or, or_true, false_implies, true_implies, not_true_eq_false, not_false_eq_true, and_self, eq_self, klc_lt, klc_ge, klc_le, klc_gt, klc_eq, kmu_eq, kmu_f, kmu_i, kmu_j, M13, P1, h23p, G, show ¬ X 70 0 m ≤ p by omega, Nat.zero_le]
      exact ih
/-- takeApart -/
theorem c74 (hA : kJ A V) (v : kLV V) (rw : kRW V X) (hU3 : kU3 X) (F : kRF V C X) {u m : Int} (hd : 6 ≤ d) (u1 : 1 ≤ u) (u2 : u ≤ X 9 0 26) (hs : X 78 0 u = 0) (hm : X 79 0 u = m) (m0 : 1 ≤ m) (m1 : m ≤ X 9 0 15) (h68 : X 68 0 m = 1) (h71 : X 71 0 m = u) (hb : ∀ g, 0 ≤ g → g < 20 → X 55 0 g ≤ 990000) (nd : kND (f166b X u))
    (H : ∀ C', kFl C C' → kRF V C' (f166 X u) → Q (.inl (some (.ref (A 6 (100 + m))))) (kHp J A V C' R, c, l)) :
    ka_W (kp E) (d, (74, 0, [some (.ref (A 2 0)), some (.ref (A 8 u)), none, none, none], []), (kHp J A V C R, c, l)) Q := by
  have B26 := rw.i26
  have B15 := rw.i15
  have B70 := rw.a70 (j := m) (by omega) (by omega)
  have B77 := rw.a77 (j := u) (by omega) (by omega)
  have F' := F
  obtain ⟨F1, F2, F3, F4, F5, F6, F7, F8⟩ := F'
  obtain ⟨U1, U2, U3, U4, U5, U6, U7, U8, U9⟩ := F7 u u1 u2
  have M1 := (F5 m m0 m1).1
  rw [hm] at U5
  -- the rows' number
  have Fn : kRF V C (kmu X 9 0 32 (X 70 0 m)) := by
    have rr : ∀ f, f ≠ 9 → kmu X 9 0 32 (X 70 0 m) f = X f := fun f hf => kmu_ff hf
    refine kRF_f F rfl rfl rfl (fun j hj => kmu_j (by omega)) (rr 77 (by decide)) (rr 78 (by decide)) (rr 79 (by decide)) (rr 80 (by decide)) (rr 81 (by decide)) (fun m' a b h => h.c rfl rfl rfl rfl (rr 58 (by decide)) (rr 66 (by decide)) (rr 67 (by decide)) (rr 68 (by decide)) (rr 69 (by decide)) (rr 70 (by decide)) (rr 71 (by decide))) (fun m' p' a b a' b' => ?_) (fun g a b => ?_) rfl
    · rw [rr 70 (by decide)] at b'
      exact (F6 m' p' a b a' b').cc rfl rfl rfl rfl rfl (rr 72 (by decide)) (rr 73 (by decide)) (rr 74 (by decide)) (rr 68 (by decide)) (rr 71 (by decide)) (rr 75 (by decide)) (rr 78 (by decide)) (rr 80 (by decide)) (rr 81 (by decide)) (kmu_j (by decide))
    · rw [rr 55 (by decide)]; exact (F8 g a b).1
  have rwn : kRW V (kmu X 9 0 32 (X 70 0 m)) := rw.pi32 (by omega) (by omega)
  have n78 : kmu X 9 0 32 (X 70 0 m) 78 = X 78 := kmu_ff (by decide)
  have n26 : kmu X 9 0 32 (X 70 0 m) 9 0 26 = X 9 0 26 := kmu_j (by decide)
  have n15 : kmu X 9 0 32 (X 70 0 m) 9 0 15 = X 9 0 15 := kmu_j (by decide)
  have n70 : kmu X 9 0 32 (X 70 0 m) 70 = X 70 := kmu_ff (by decide)
  have n68 : kmu X 9 0 32 (X 70 0 m) 68 = X 68 := kmu_ff (by decide)
  have n71 : kmu X 9 0 32 (X 70 0 m) 71 = X 71 := kmu_ff (by decide)
  have n75 : kmu X 9 0 32 (X 70 0 m) 75 = X 75 := kmu_ff (by decide)
  have n77 : kmu X 9 0 32 (X 70 0 m) 77 = X 77 := kmu_ff (by decide)
  have n80 : kmu X 9 0 32 (X 70 0 m) 80 = X 80 := kmu_ff (by decide)
  have n55 : kmu X 9 0 32 (X 70 0 m) 55 = X 55 := kmu_ff (by decide)
  have hU3' : kU3 (kmu X 9 0 32 (X 70 0 m)) := by
    unfold kU3
    rw [n26, n78, n80]
    exact hU3
  have e166 : f166a X u = kfd (krw m) (X 70 0 m).toNat 0 (kmu X 9 0 32 (X 70 0 m)) := by
    unfold f166a
    rw [hm]
  have h78n : kmu X 9 0 32 (X 70 0 m) 78 0 u = 0 := by rw [n78]; exact hs
  have h77n : kmu X 9 0 32 (X 70 0 m) 77 0 u = X 77 0 u := by rw [n77]
  have rY : kRW V (f166a X u) ∧ kRo (kmu X 9 0 32 (X 70 0 m)) (f166a X u) := by
    rw [e166]
    have z := kfd_inv (P := fun p Y => 0 ≤ p ∧ kRW V Y ∧ kRo (kmu X 9 0 32 (X 70 0 m)) Y ∧ ∀ g, 0 ≤ g → g < 20 → Y 55 0 g ≤ 990000 + 9 * p) (f := krw m) (X 70 0 m).toNat 0 (kmu X 9 0 32 (X 70 0 m)) (fun p Y p0 p1 ⟨_, x1, x2, x3⟩ => by
      obtain ⟨y1, y2, y3⟩ := krw_o (m := m) (p := p) x1 m0 (by omega) p0 (by omega) (b := 990000 + 9 * p) x3 (by omega)
      exact ⟨by omega, y1, fun f a b c' d' => (y2 f a b c' d').trans (x2 f a b c' d'), fun g g0 g1 => by have := y3 g g0 g1; omega⟩) ⟨by omega, rwn, fun _ _ _ _ _ => rfl, fun g g0 g1 => by rw [n55]; have := hb g g0 g1; omega⟩
    exact ⟨z.2.1, z.2.2.1⟩
  generalize kmu X 9 0 32 (X 70 0 m) = N at *
  -- the unit breaks
  obtain ⟨q1, q2, q3, q4⟩ := f161_o (X := N) (u := u)
  have ud : kUd N (f161 N u) u := f161_ud
  obtain ⟨o1, o2, o3, o4, o5, o6, o7⟩ := g116_o (C := kmu C 29 0 (X 77 0 u) (C 29 0 (X 77 0 u) - 1)) (u := u) (x := 3)
  have FB : kRF V (g116 (kmu C 29 0 (X 77 0 u) (C 29 0 (X 77 0 u) - 1)) u 3) (f161 N u) := by
    have hu := fun m' p' => khu_u ud u1 (by rw [n26]; exact u2) m' p'
    have h9 := fun g' => f149_u ud u1 (by rw [n26]; exact u2) g'
    refine kRF_unit Fn u1 (by rw [n26]; exact u2) (by omega) (fun f a b c' => q1 f a b) ud (fun f a b c' => ?_) (fun u' a => ?_) (fun j a => ?_) ?_ ?_ ?_ ?_ (fun g' a b => ?_) (fun m' p' a b a' b' z => ?_)
    · rw [o1 f a, kmu_ff c']
    · rw [o2 u' a, kmu_ff (by decide)]
    · rw [o3 j a, kmu_f (by decide)]
    · rw [o4, q3]
    · rw [o5, q3, if_neg (by decide)]
    · rw [o6, q3, if_neg (by decide)]
    · rw [o7, q3, if_neg (by decide)]
    · have F8' := (Fn.2.2.2.2.2.2.2 g' a b).2
      rw [h9 g', q3, ← F8', o1 29 (by decide), kb_f (show ¬ (N 77 0 u = g' ∧ (3:Int) = 0) by omega), h78n, h77n]
      by_cases z : g' = X 77 0 u
      · rw [z, kmu_eq, kb_t ⟨rfl, rfl⟩]; omega
      · rw [kmu_j z, kb_f (fun y => z y.1.symm)]; omega
    · rw [o1 24 (by decide), kmu_f (by decide), hu m' p', ← (Fn.2.2.2.2.2.1 m' p' a b a' b').2.2.2.1 z, q3, kb_f (show ¬ ((3:Int) = 1 ∧ _ ∧ _) from fun w => absurd w.1 (by decide)), kb_f (show ¬ (N 78 0 u = 1 ∧ _ ∧ _) from fun w => by have := w.1; omega)]
      omega
  -- then the rest
  have e23 : g116 (kmu C 29 0 (X 77 0 u) (C 29 0 (X 77 0 u) - 1)) u 3 23 = C 23 := by rw [o1 23 (by decide), kmu_ff (by decide)]
  have y70 : f166a X u 9 = N 9 := rY.2 9 (by decide) (by decide) (by decide) (by decide)
  have y78 : f166a X u 78 = N 78 := rY.2 78 (by decide) (by decide) (by decide) (by decide)
  have y80 : f166a X u 80 = N 80 := rY.2 80 (by decide) (by decide) (by decide) (by decide)
  have hcomm : kfd (kul u) (X 9 0 26).toNat 1 (f161 (f166a X u) u) = f166b X u := by
    unfold f166b
    exact kuls_161 (X 9 0 26).toNat 1 (f166a X u) (by rw [y78, h78n]; decide)
  obtain ⟨t1, t2, t3, t4⟩ := f161_o (X := f166a X u) (u := u)
  have rB : kRW V (f161 (f166a X u) u) := (rY.1.pa78 (by omega) (by omega)).pa80 (by omega) (by omega)
  have hU3B : kU3 (f161 (f166a X u) u) := by
    intro j a b c'
    rw [t1 9 (by decide) (by decide), y70] at b ⊢
    by_cases e : j = u
    · subst e
      rw [t3] at c'
      omega
    · rw [(t2 j e).1, y78] at c'
      rw [(t2 j e).2, y80]
      exact hU3' j a b c'
  have z := c74_p (E := E) (d := d) (c := c) (l := l) (Q := Q) (J := J) (R := R) hA v (u := u) (m := m) hd U1 u1 M1 (f166a X u) (X 70 0 m).toNat 0 (g116 (kmu C 29 0 (X 77 0 u) (C 29 0 (X 77 0 u) - 1)) u 3) N rwn FB m0 (by rw [n15]; exact m1) (by rw [n68]; exact h68) (by rw [n71]; exact h71) (by omega) (by rw [n70]; omega) (fun g g0 g1 => by rw [n55]; have := hb g g0 g1; omega) (fun q a b => by
      rw [n70] at b
      rw [e23, n75]
      exact (F6 m q m0 m1 a b).2.2.2.2 (fun w => by rw [h71] at w; omega)) e166.symm (fun C' h1 h2 => by
      have zz := c74_u (E := E) (d := d) (c := c) (l := l) (Q := Q) (J := J) (R := R) hA v (w := u) (m := m) hd U1 u1 (X 9 0 26).toNat 0 C' (f161 (f166a X u) u) none rB hU3B h2 (by omega) (by rw [t1 9 (by decide) (by decide), y70, n26]; omega) m0 (by rw [t1 9 (by decide) (by decide), y70, n15]; exact m1) (by rw [show (0:Int) + 1 = 1 from rfl, hcomm]; exact nd) (fun C'' h3 h4 => by
        rw [show (0:Int) + 1 = 1 from rfl, hcomm] at h4
        exact H C'' (kFl.trans (fun f a1 a2 a3 a4 a5 => by rw [h1 f a4, o1 f a1, kmu_ff a5]) h3) h4)
      simp (disch := first | assumption | (unfold kR; decide) | exact klc_R | (unfold kR; omega) | omega | (unfold kL; omega) | exact kcat_null | exact kcat_ref _ | exact kcat_iv _) only [r74_65, r74_66, true_and, and_true, kk1_i, kk1_r, kk1_n, kk1_0, kcat_iv, kcat_ref, kcat_null, kisR_ref, kisR_null, ksz_nil, ksz_iv, ksz_ref, ksz_null, ksz_lv, kfit_int, kfit_long, kfit_obj, kfit_objN, kfit_arr, kfit_arrN, knarI, knarZ0, knarZ1, kret_v, kret_n, kret_x, Nat.reduceAdd, Nat.reduceLeDiff, reduceCtorEq, Int.reduceLE, Int.reduceLT, Int.reduceEq, ite_true, ite_false, true_or, or_true, false_implies, true_implies, not_true_eq_false, not_false_eq_true, and_self, eq_self, klc_lt, klc_ge, klc_le, klc_gt, klc_eq, kmu_eq, kmu_f, kmu_i, kmu_j]
      exact zz)
  have q116 := fun {Q} => c116 (E := E) (d := d - 1) (c := c) (l := l) (Q := Q) (J := J) (C := kmu C 29 0 (X 77 0 u) (C 29 0 (X 77 0 u) - 1)) (R := R) hA (u := u) (x := 3) U1
  simp (disch := first | assumption | (unfold kR; decide) | exact klc_R | (unfold kR; omega) | omega | (unfold kL; omega) | exact kcat_null | exact kcat_ref _ | exact kcat_iv _) only [r74_0, r74_1, r74_4, r74_5, r74_6, r74_9, r74_10, r74_13, r74_14, r74_15, r74_16, r74_17, r74_18, r74_19, r74_20, r74_23, r74_24, ho_8_2 hA, hg_8_2 hA, hgn_8_2 hA, ho_2_3 hA v.l2, hg_2_3 hA v.l2, hoa_29 hA v.l29, hga_29 hA v.l29, hpa_29 hA v.l29, ho_8_1 hA, hg_8_1 hA, ht_8 hA, true_and, and_true, kk1_i, kk1_r, kk1_n, kk1_0, kcat_iv, kcat_ref, kcat_null, kisR_ref, kisR_null, ksz_nil, ksz_iv, ksz_ref, ksz_null, ksz_lv, kfit_int, kfit_long, kfit_obj, kfit_objN, kfit_arr, kfit_arrN, knarI, knarZ0, knarZ1, kret_v, kret_n, kret_x, Nat.reduceAdd, Nat.reduceLeDiff, reduceCtorEq, Int.reduceLE, Int.reduceLT, Int.reduceEq, ite_true, ite_false, true_or, or_true, false_implies, true_implies, not_true_eq_false, not_false_eq_true, and_self, eq_self, klc_lt, klc_ge, klc_le, klc_gt, klc_eq, kmu_eq, kmu_f, kmu_i, kmu_j, U4, U5, q116, Nat.zero_le, show 1 ≤ d by omega]
  exact z
end
