/-! The book, as a text's part is read. -/
section
variable {E : Nat × Nat} {d c l : Nat} {s : ka_S} {h : ka_H} {Q : ka_Q} {J : ka_H} {A A' : ka_A} {V V' : ka_V} {C C' R X X' : ka_M}
theorem klead_c (h56 : X' 56 = X 56) (h59 : X' 59 = X 59) (h61 : X' 61 = X 61) (h62 : X' 62 = X 62) (h64 : X' 64 = X 64) (a b : Int) : klead X' a b ↔ klead X a b := by
  unfold klead kPr kP
  rw [h56, h59, h61, h62, h64]
/-- the reader's and the measure's numbers change -/
theorem kBI_q (I : kBI V C X) (hC : ∀ f, f ≠ 5 → f ≠ 26 → C' f = C f) (hX : ∀ f, f ≠ 9 → f ≠ 87 → X' f = X f) (h7 : X' 9 0 7 = X 9 0 7) (h15 : X' 9 0 15 = X 9 0 15) (h26 : X' 9 0 26 = X 9 0 26) : kBI V C' X' := by
  obtain ⟨VI, K, F, B, P, M⟩ := I
  have cc : ∀ f, f ≠ 5 → f ≠ 26 → C' f = C f := hC
  refine ⟨?_, ?_, ?_, ?_, ?_, ?_⟩
  · unfold kVI
    rw [hC 10 (by decide) (by decide), hC 3 (by decide) (by decide)]
    exact VI
  · obtain ⟨K1, K2, K3, K4, K5, K6, K7⟩ := K
    unfold kRK
    rw [h7, hC 10 (by decide) (by decide), hC 3 (by decide) (by decide), hC 33 (by decide) (by decide), hC 6 (by decide) (by decide), hC 20 (by decide) (by decide), hC 21 (by decide) (by decide), hC 22 (by decide) (by decide), hC 32 (by decide) (by decide), hC 25 (by decide) (by decide), hX 58 (by decide) (by decide), hX 59 (by decide) (by decide), hX 60 (by decide) (by decide), hX 61 (by decide) (by decide), hX 62 (by decide) (by decide), hX 63 (by decide) (by decide), hX 64 (by decide) (by decide), hX 56 (by decide) (by decide)]
    refine ⟨K1.c (hC 10 (by decide) (by decide)) (hC 33 (by decide) (by decide)), K2, K3, K4, K5, K6, fun g g0 g1 => ?_⟩
    obtain ⟨x1, x2, x3⟩ := K7 g g0 g1
    refine ⟨x1, x2, fun h h0 h1 => ?_⟩
    rw [klead_c (X := X) (hX 56 (by decide) (by decide)) (hX 59 (by decide) (by decide)) (hX 61 (by decide) (by decide)) (hX 62 (by decide) (by decide)) (hX 64 (by decide) (by decide))]
    exact x3 h h0 h1
  · exact kRF_fr F (fun _ _ _ z => z) (fun _ _ z => z) (fun f hf => hC f (by omega) (by omega)) (fun f q hf _ => by rw [hC f (by omega) (by omega)]) (fun q _ => by rw [hC 10 (by decide) (by decide)]) (fun q _ => by rw [hC 33 (by decide) (by decide)]) h15 h26 (fun f hf => hX f (by omega) (by omega)) (fun m _ _ => by rw [hX 58 (by decide) (by decide)])
  · exact B.c (hX 56 (by decide) (by decide)) (hX 58 (by decide) (by decide)) (hX 59 (by decide) (by decide)) h7
  · unfold kCp3
    rw [hC 10 (by decide) (by decide), hC 0 (by decide) (by decide)]
    exact P
  · rw [h15, h7, hX 66 (by decide) (by decide)]
    exact M
theorem kBI.ld (I : kBI V C X) : kLd C X := I.2.1.2.2.2.2.2.2
theorem f130_o {k g n : Int} : (∀ i, f130 X k g n 61 0 i = if i = 4 * k + X 59 0 k - 1 then X 61 0 (4 * k + X 59 0 k - 1) + 1 else X 61 0 i) ∧ (∀ i, f130 X k g n 62 0 i = if i = 5 * (4 * k + X 59 0 k - 1) + X 61 0 (4 * k + X 59 0 k - 1) then g else X 62 0 i) ∧ (∀ i, f130 X k g n 63 0 i = if i = 5 * (4 * k + X 59 0 k - 1) + X 61 0 (4 * k + X 59 0 k - 1) then n else X 63 0 i) ∧ (∀ i, f130 X k g n 64 0 i = if i = 5 * (4 * k + X 59 0 k - 1) + X 61 0 (4 * k + X 59 0 k - 1) then -1 else X 64 0 i) := by
  unfold f130
  generalize 4 * k + X 59 0 k - 1 = l
  refine ⟨fun i => ?_, fun i => ?_, fun i => ?_, fun i => ?_⟩
  · by_cases e : i = l
    · rw [e, kmu_eq, if_pos rfl]
    · rw [kmu_j e, kmu_f (by decide), kmu_f (by decide), kmu_f (by decide), if_neg e]
  · rw [kmu_f (by decide), kmu_f (by decide), kmu_f (by decide)]
    by_cases e : i = 5 * l + X 61 0 l
    · rw [e, kmu_eq, if_pos rfl]
    · rw [kmu_j e, if_neg e]
  · rw [kmu_f (by decide), kmu_f (by decide)]
    by_cases e : i = 5 * l + X 61 0 l
    · rw [e, kmu_eq, if_pos rfl]
    · rw [kmu_j e, kmu_f (by decide), if_neg e]
  · rw [kmu_f (by decide)]
    by_cases e : i = 5 * l + X 61 0 l
    · rw [e, kmu_eq, if_pos rfl]
    · rw [kmu_j e, kmu_f (by decide), kmu_f (by decide), if_neg e]
/-- where a kit's newest recipe stands -/
theorem kBI.new (rw : kRW V X) (I : kBI V C X) {k : Int} (k0 : 0 ≤ k) (k1 : k < X 9 0 7) : V 3 k ∧ C 3 k 2 = 4 * k + X 59 0 k - 1 ∧ kRc V C (4 * k + X 59 0 k - 1) ∧ C 6 (4 * k + X 59 0 k - 1) 5 = X 61 0 (4 * k + X 59 0 k - 1) ∧ C 3 k 1 = X 58 0 k ∧ 0 ≤ X 58 0 k ∧ X 58 0 k < 20 ∧ 1 ≤ X 59 0 k ∧ X 59 0 k ≤ 4 := by
  obtain ⟨VI, ⟨K1, K2, K3, K4, K5, K6, K7⟩, F, B, P, M⟩ := I
  have B7 := rw.i7
  have B59 := rw.a59 (j := k) (by omega) (by omega)
  have B58 := rw.a58 (j := k) (by omega) (by omega)
  have hr := B.2.2.2 k k0 k1
  obtain ⟨x1, x2, x3, x4, x5, x6⟩ := K3 k k0 k1
  obtain ⟨y1, y2, y3, y4⟩ := K4 k (X 59 0 k - 1) k0 k1 (by omega) (by omega)
  have e : 4 * k + (X 59 0 k - 1) = 4 * k + X 59 0 k - 1 := by omega
  rw [e] at y1 y4
  exact ⟨x1, x5, y1, y4, x4, B58.1, by omega, hr, B59.2⟩
theorem kBI_pt (rw : kRW V X) (I : kBI V C X) {k g n : Int} (k0 : 0 ≤ k) (k1 : k < X 9 0 7) (hp : X 61 0 (4 * k + X 59 0 k - 1) < 5) (g0 : 0 ≤ g) (g1 : g < 20) :
    kBI V (kmu (g101 C (4 * k + X 59 0 k - 1) g n) 25 0 (C 3 k 1) (kor (C 25 0 (C 3 k 1)) (kshl 1 g))) (f130 X k g n) := by
  obtain ⟨n1, n2, n3, n4, n5, n6, n7, n8, n9⟩ := I.new rw k0 k1
  obtain ⟨VI, K, F, B, P, M⟩ := I
  have B7 := rw.i7
  have B61 := rw.a61 (j := 4 * k + X 59 0 k - 1) (by omega) (by omega)
  have hlead := fun a b a0 a1 b0 => f130_lead rw B (n := n) (g := g) (a := a) (b := b) k0 k1 hp a0 a1 b0
  obtain ⟨o1, o2, o3, o4⟩ := f130_o (X := X) (k := k) (g := g) (n := n)
  have ps := f130_ps (R := X) (k := k) (g := g) (n := n)
  have h9 : f130 X k g n 9 = X 9 := ps 9 (by decide) (by decide) (by decide) (by decide)
  rw [n5]
  have hK := K
  obtain ⟨K1, K2, K3, K4, K5, K6, K7⟩ := K
  have c25 : (kmu (g101 C (4 * k + X 59 0 k - 1) g n) 25 0 (X 58 0 k) (kor (C 25 0 (X 58 0 k)) (kshl 1 g))) 25 = kmu C 25 0 (X 58 0 k) (kor (C 25 0 (X 58 0 k)) (kshl 1 g)) 25 := by
    have e : g101 C (4 * k + X 59 0 k - 1) g n 25 = C 25 := by unfold g101; rw [kmu_ff (by decide), kmu_ff (by decide), kmu_ff (by decide), kmu_ff (by decide)]
    funext i j
    unfold kmu
    rw [e]
  have L := kLd_add rw B (X' := f130 X k g n) (g := g) (show kLd C X from K7) k0 k1 g0 g1 (fun a b a0 a1 b0 _ => hlead a b a0 a1 b0) c25
  generalize hl : 4 * k + X 59 0 k - 1 = q0 at *
  have cf : ∀ f, f ≠ 6 → f ≠ 20 → f ≠ 21 → f ≠ 22 → f ≠ 25 → (kmu (g101 C q0 g n) 25 0 (X 58 0 k) (kor (C 25 0 (X 58 0 k)) (kshl 1 g))) f = C f := by
    intro f a b c' d' e
    unfold g101
    rw [kmu_ff e, kmu_ff a, kmu_ff d', kmu_ff c', kmu_ff b]
  have cr : ∀ f i, f = 6 ∨ f = 20 ∨ f = 21 ∨ f = 22 → i ≠ q0 → (kmu (g101 C q0 g n) 25 0 (X 58 0 k) (kor (C 25 0 (X 58 0 k)) (kshl 1 g))) f i = C f i := by
    intro f i hf hi
    funext j
    rw [kmu_f (by omega)]
    unfold g101
    rw [kmu_i hi, kmu_i hi, kmu_i hi, kmu_i hi]
  have c6 : ∀ j, (kmu (g101 C q0 g n) 25 0 (X 58 0 k) (kor (C 25 0 (X 58 0 k)) (kshl 1 g))) 6 q0 j = if j = 5 then X 61 0 q0 + 1 else C 6 q0 j := by
    intro j
    rw [kmu_f (by decide)]
    unfold g101
    by_cases e : j = 5
    · rw [e, kmu_eq, n4, if_pos rfl]
    · rw [kmu_j e, kmu_f (by decide), kmu_f (by decide), kmu_f (by decide), if_neg e]
  have c20 : ∀ j, (kmu (g101 C q0 g n) 25 0 (X 58 0 k) (kor (C 25 0 (X 58 0 k)) (kshl 1 g))) 20 q0 j = if j = X 61 0 q0 then g else C 20 q0 j := by
    intro j
    rw [kmu_f (by decide)]
    unfold g101
    rw [kmu_f (by decide), kmu_f (by decide), kmu_f (by decide), n4]
    by_cases e : j = X 61 0 q0
    · rw [e, kmu_eq, if_pos rfl]
    · rw [kmu_j e, if_neg e]
  have c21 : ∀ j, (kmu (g101 C q0 g n) 25 0 (X 58 0 k) (kor (C 25 0 (X 58 0 k)) (kshl 1 g))) 21 q0 j = if j = X 61 0 q0 then n else C 21 q0 j := by
    intro j
    rw [kmu_f (by decide)]
    unfold g101
    rw [kmu_f (by decide), kmu_f (by decide), n4]
    by_cases e : j = X 61 0 q0
    · rw [e, kmu_eq, if_pos rfl]
    · rw [kmu_j e, kmu_f (by decide), if_neg e]
  have c22 : ∀ j, (kmu (g101 C q0 g n) 25 0 (X 58 0 k) (kor (C 25 0 (X 58 0 k)) (kshl 1 g))) 22 q0 j = if j = X 61 0 q0 then -1 else C 22 q0 j := by
    intro j
    rw [kmu_f (by decide)]
    unfold g101
    rw [kmu_f (by decide), n4]
    by_cases e : j = X 61 0 q0
    · rw [e, kmu_eq, if_pos rfl]
    · rw [kmu_j e, kmu_f (by decide), kmu_f (by decide), if_neg e]
  generalize (kmu (g101 C q0 g n) 25 0 (X 58 0 k) (kor (C 25 0 (X 58 0 k)) (kshl 1 g))) = C1 at *
  have c10 := cf 10 (by decide) (by decide) (by decide) (by decide) (by decide)
  have c33 := cf 33 (by decide) (by decide) (by decide) (by decide) (by decide)
  have c3 := cf 3 (by decide) (by decide) (by decide) (by decide) (by decide)
  have x59 : f130 X k g n 59 = X 59 := ps 59 (by decide) (by decide) (by decide) (by decide)
  have x58 : f130 X k g n 58 = X 58 := ps 58 (by decide) (by decide) (by decide) (by decide)
  have x56 : f130 X k g n 56 = X 56 := ps 56 (by decide) (by decide) (by decide) (by decide)
  refine ⟨?_, ?_, ?_, ?_, ?_, ?_⟩
  · unfold kVI
    rw [c10, c3]
    exact VI
  · unfold kRK
    rw [h9, x58, x59, x56, c10, c3, c33, ps 60 (by decide) (by decide) (by decide) (by decide), cf 32 (by decide) (by decide) (by decide) (by decide) (by decide)]
    refine ⟨K1.c c10 c33, K2, K3, fun k' q a b a' b' => ?_, fun k' q p a b a' b' a'' b'' => ?_, K6, L⟩
    · obtain ⟨y1, y2, y3, y4⟩ := K4 k' q a b a' b'
      rw [o1]
      by_cases e : 4 * k' + q = q0
      · rw [e] at y1 y2 y3 y4 ⊢
        rw [c6, c6, c6, if_neg (by decide), if_neg (by decide), if_pos rfl, if_pos rfl]
        exact ⟨y1, y2, y3, rfl⟩
      · rw [cr 6 _ (by omega) e, if_neg e]
        exact ⟨y1, y2, y3, y4⟩
    · rw [o1] at b''
      rw [o2, o3, o4]
      by_cases e : 4 * k' + q = q0
      · rw [e] at b'' ⊢
        rw [if_pos rfl] at b''
        rw [c20, c21, c22]
        by_cases ep : p = X 61 0 q0
        · rw [ep, if_pos rfl, if_pos rfl, if_pos rfl, if_pos rfl, if_pos rfl, if_pos rfl]
          exact ⟨rfl, rfl, rfl⟩
        · rw [if_neg ep, if_neg ep, if_neg ep, if_neg (by omega), if_neg (by omega), if_neg (by omega)]
          have := K5 k' q p a b a' b' a'' (by rw [e]; omega)
          rw [e] at this
          exact this
      · rw [if_neg e] at b''
        have hb := rw.a61 (j := 4 * k' + q) (by omega) (by have := rw.a59 (j := k') (by omega) (by omega); omega)
        rw [cr 20 _ (by omega) e, cr 21 _ (by omega) e, cr 22 _ (by omega) e, if_neg (by omega), if_neg (by omega), if_neg (by omega)]
        exact K5 k' q p a b a' b' a'' b''
  · exact kRF_fr F (fun _ _ _ z => z) (fun _ _ z => z) (fun f hf => cf f (by omega) (by omega) (by omega) (by omega) (by omega)) (fun f q hf hq => cr f q hf (by omega)) (fun q _ => by rw [c10]) (fun q _ => by rw [c33]) (by rw [h9]) (by rw [h9]) (fun f hf => ps f (by omega) (by omega) (by omega) (by omega)) (fun m _ _ => by rw [x58])
  · exact B.c x56 x58 x59 (by rw [h9])
  · unfold kCp3
    rw [c10, cf 0 (by decide) (by decide) (by decide) (by decide) (by decide)]
    exact P
  · rw [h9, ps 66 (by decide) (by decide) (by decide) (by decide)]
    exact M
theorem kBI_in (rw : kRW V X) (I : kBI V C X) {k g : Int} (k0 : 0 ≤ k) (k1 : k < X 9 0 7) (hp : 1 ≤ X 61 0 (4 * k + X 59 0 k - 1)) (hi : X 64 0 (f131 X k) = -1) (g0 : 0 ≤ g) (g1 : g < 20) :
    kBI V (kmu (kmu C 22 (4 * k + X 59 0 k - 1) (C 6 (4 * k + X 59 0 k - 1) 5 - 1) g) 25 0 (C 3 k 1) (kor (C 25 0 (C 3 k 1)) (kshl 1 g))) (kmu X 64 0 (f131 X k) g) := by
  obtain ⟨n1, n2, n3, n4, n5, n6, n7, n8, n9⟩ := I.new rw k0 k1
  obtain ⟨VI, K, F, B, P, M⟩ := I
  have B7 := rw.i7
  have B61 := rw.a61 (j := 4 * k + X 59 0 k - 1) (by omega) (by omega)
  have hlead := fun a b a0 a1 b0 => f64_lead rw B (g := g) (a := a) (b := b) k0 k1 hp hi a0 a1 b0
  have ps : ∀ f, f ≠ 64 → kmu X 64 0 (f131 X k) g f = X f := fun f hf => kmu_ff hf
  have o4 : ∀ i, kmu X 64 0 (f131 X k) g 64 0 i = if i = 5 * (4 * k + X 59 0 k - 1) + X 61 0 (4 * k + X 59 0 k - 1) - 1 then g else X 64 0 i := by
    intro i
    by_cases e : i = 5 * (4 * k + X 59 0 k - 1) + X 61 0 (4 * k + X 59 0 k - 1) - 1
    · rw [if_pos e, e]; exact kmu_eq
    · rw [if_neg e]; exact kmu_j e
  generalize kmu X 64 0 (f131 X k) g = X1 at *
  have h9 : X1 9 = X 9 := ps 9 (by decide)
  rw [n5]
  have hK := K
  obtain ⟨K1, K2, K3, K4, K5, K6, K7⟩ := K
  have c25 : (kmu (kmu C 22 (4 * k + X 59 0 k - 1) (C 6 (4 * k + X 59 0 k - 1) 5 - 1) g) 25 0 (X 58 0 k) (kor (C 25 0 (X 58 0 k)) (kshl 1 g))) 25 = kmu C 25 0 (X 58 0 k) (kor (C 25 0 (X 58 0 k)) (kshl 1 g)) 25 := by
    funext i j
    unfold kmu
    simp
  have L := kLd_add rw B (X' := X1) (g := g) (show kLd C X from K7) k0 k1 g0 g1 (fun a b a0 a1 b0 _ => hlead a b a0 a1 b0) c25
  generalize hl : 4 * k + X 59 0 k - 1 = q0 at *
  have cf : ∀ f, f ≠ 22 → f ≠ 25 → (kmu (kmu C 22 q0 (C 6 q0 5 - 1) g) 25 0 (X 58 0 k) (kor (C 25 0 (X 58 0 k)) (kshl 1 g))) f = C f := by
    intro f a e
    rw [kmu_ff e, kmu_ff a]
  have cr : ∀ i, i ≠ q0 → (kmu (kmu C 22 q0 (C 6 q0 5 - 1) g) 25 0 (X 58 0 k) (kor (C 25 0 (X 58 0 k)) (kshl 1 g))) 22 i = C 22 i := by
    intro i hi
    funext j
    rw [kmu_f (by omega), kmu_i hi]
  have c22 : ∀ j, (kmu (kmu C 22 q0 (C 6 q0 5 - 1) g) 25 0 (X 58 0 k) (kor (C 25 0 (X 58 0 k)) (kshl 1 g))) 22 q0 j = if j = X 61 0 q0 - 1 then g else C 22 q0 j := by
    intro j
    rw [kmu_f (by decide), n4]
    by_cases e : j = X 61 0 q0 - 1
    · rw [e, kmu_eq, if_pos rfl]
    · rw [kmu_j e, if_neg e]
  generalize (kmu (kmu C 22 q0 (C 6 q0 5 - 1) g) 25 0 (X 58 0 k) (kor (C 25 0 (X 58 0 k)) (kshl 1 g))) = C1 at *
  have c10 := cf 10 (by decide) (by decide)
  have c33 := cf 33 (by decide) (by decide)
  have c3 := cf 3 (by decide) (by decide)
  have x59 : X1 59 = X 59 := ps 59 (by decide)
  have x58 : X1 58 = X 58 := ps 58 (by decide)
  have x56 : X1 56 = X 56 := ps 56 (by decide)
  refine ⟨?_, ?_, ?_, ?_, ?_, ?_⟩
  · unfold kVI
    rw [c10, c3]
    exact VI
  · unfold kRK
    rw [h9, x58, x59, x56, c10, c3, c33, ps 60 (by decide), ps 61 (by decide), ps 62 (by decide), ps 63 (by decide), cf 32 (by decide) (by decide), cf 6 (by decide) (by decide), cf 20 (by decide) (by decide), cf 21 (by decide) (by decide)]
    refine ⟨K1.c c10 c33, K2, K3, K4, fun k' q p a b a' b' a'' b'' => ?_, K6, L⟩
    obtain ⟨y1, y2, y3⟩ := K5 k' q p a b a' b' a'' b''
    refine ⟨y1, y2, ?_⟩
    rw [o4]
    by_cases e : 4 * k' + q = q0
    · rw [e] at b'' y3 ⊢
      rw [c22]
      by_cases ep : p = X 61 0 q0 - 1
      · rw [if_pos ep, if_pos (by omega)]
      · rw [if_neg ep, if_neg (by omega)]
        exact y3
    · have hb := rw.a61 (j := 4 * k' + q) (by omega) (by have := rw.a59 (j := k') (by omega) (by omega); omega)
      rw [cr _ e, if_neg (by omega)]
      exact y3
  · exact kRF_fr F (fun _ _ _ z => z) (fun _ _ z => z) (fun f hf => cf f (by omega) (by omega)) (fun f q hf hq => by
      by_cases e : f = 22
      · rw [e]; exact cr q (by omega)
      · rw [cf f e (by omega)]) (fun q _ => by rw [c10]) (fun q _ => by rw [c33]) (by rw [h9]) (by rw [h9]) (fun f hf => ps f (by omega)) (fun m _ _ => by rw [x58])
  · exact B.c x56 x58 x59 (by rw [h9])
  · unfold kCp3
    rw [c10, cf 0 (by decide) (by decide)]
    exact P
  · rw [h9, ps 66 (by decide)]
    exact M
end
