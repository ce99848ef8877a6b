/-! The world behind the constructors. Printed by wip/whole/gens.py. -/
/-- where a role's address stands in the list -/
def kpos (f : Nat) (i : Int) : Nat := if f = 10 then (if i = 0 then 48 else if i = 1 then 39 else 38) else match f with
  | 0 => 33
  | 1 => 44
  | 2 => 35
  | 5 => 42
  | 7 => 40
  | 9 => 2
  | 25 => 46
  | 26 => 45
  | 27 => 41
  | 28 => 37
  | 29 => 36
  | 30 => 34
  | 31 => 43
  | 32 => 47
  | 34 => 49
  | 36 => 0
  | 52 => 32
  | 54 => 31
  | 55 => 30
  | 56 => 1
  | 58 => 29
  | 59 => 28
  | 60 => 27
  | 61 => 26
  | 62 => 25
  | 63 => 24
  | 64 => 23
  | 66 => 22
  | 67 => 21
  | 68 => 20
  | 69 => 19
  | 70 => 18
  | 71 => 17
  | 72 => 16
  | 73 => 15
  | 74 => 14
  | 75 => 13
  | 77 => 12
  | 78 => 11
  | 79 => 10
  | 80 => 9
  | 81 => 8
  | 83 => 7
  | 84 => 6
  | 85 => 5
  | 87 => 4
  | 88 => 3
  | _ => 99
def krol : List (Nat × Int) := ((36, 0) :: (56, 0) :: (9, 0) :: (88, 0) :: (87, 0) :: (85, 0) :: (84, 0) :: (83, 0) :: (81, 0) :: (80, 0) :: (79, 0) :: (78, 0) :: (77, 0) :: (75, 0) :: (74, 0) :: (73, 0) :: (72, 0) :: (71, 0) :: (70, 0) :: (69, 0) :: (68, 0) :: (67, 0) :: (66, 0) :: (64, 0) :: (63, 0) :: (62, 0) :: (61, 0) :: (60, 0) :: (59, 0) :: (58, 0) :: (55, 0) :: (54, 0) :: (52, 0) :: (0, 0) :: (30, 0) :: (2, 0) :: (29, 0) :: (28, 0) :: (10, 2) :: (10, 1) :: (7, 0) :: (27, 0) :: (5, 0) :: (31, 0) :: (1, 0) :: (26, 0) :: (25, 0) :: (32, 0) :: (10, 0) :: (34, 0) :: [])
def kV0 (f : Nat) (i : Int) : Prop := (ksta f = true ∧ i = 0) ∨ (f = 10 ∧ (i = 0 ∨ i = 1 ∨ i = 2))
def kC0 : ka_M := fun f i j => if f = 32 then -1 else if f = 0 then (if j = 5 then -1 else 0) else if f = 5 then (if j = 3 then -1 else 0) else if f = 10 then (if j = 0 then 1000 * i else 0) else 0
def kR0 : ka_M := fun f _ _ => if f = 56 then -1 else 0
def kA0 (as : List Nat) : ka_A := fun f i => as.getD (kpos f i) 0
theorem ksta_mem {f : Nat} (h : ksta f = true) : f ∈ [0, 1, 2, 5, 7, 9, 25, 26, 27, 28, 29, 30, 31, 32, 34, 36, 52, 54, 55, 56, 58, 59, 60, 61, 62, 63, 64, 66, 67, 68, 69, 70, 71, 72, 73, 74, 75, 77, 78, 79, 80, 81, 83, 84, 85, 87, 88] := by
  unfold ksta at h
  exact List.contains_iff_mem.mp h
theorem kpos_st : ∀ f ∈ [0, 1, 2, 5, 7, 9, 25, 26, 27, 28, 29, 30, 31, 32, 34, 36, 52, 54, 55, 56, 58, 59, 60, 61, 62, 63, 64, 66, 67, 68, 69, 70, 71, 72, 73, 74, 75, 77, 78, 79, 80, 81, 83, 84, 85, 87, 88], kpos f 0 < 50 ∧ krol.getD (kpos f 0) (0, 0) = (f, 0) := by decide +kernel
theorem kpos_inv {f : Nat} {i : Int} (h : kV0 f i) : kpos f i < 50 ∧ krol.getD (kpos f i) (0, 0) = (f, i) := by
  rcases h with ⟨h, rfl⟩ | ⟨rfl, rfl | rfl | rfl⟩
  · exact kpos_st f (ksta_mem h)
  · decide +kernel
  · decide +kernel
  · decide +kernel
theorem kA0_J {as : List Nat} (hl : as.length = 50) (hn : as.Nodup) : kJ (kA0 as) kV0 := by
  intro f i f' i' h h' e
  obtain ⟨a1, a2⟩ := kpos_inv h
  obtain ⟨b1, b2⟩ := kpos_inv h'
  unfold kA0 at e
  have h1 : kpos f i < as.length := by omega
  have h2 : kpos f' i' < as.length := by omega
  rw [List.getD_eq_getElem?_getD, List.getD_eq_getElem?_getD, List.getElem?_eq_getElem h1, List.getElem?_eq_getElem h2] at e
  have e1 : as[kpos f i] = as[kpos f' i'] := e
  have hp := List.pairwise_iff_getElem.mp hn
  have e2 : kpos f i = kpos f' i' := by
    rcases Nat.lt_trichotomy (kpos f i) (kpos f' i') with z | z | z
    · exact absurd e1 (hp _ _ h1 h2 z)
    · exact z
    · exact absurd e1.symm (hp _ _ h2 h1 z)
  rw [e2, b2] at a2
  injection a2 with x y
  exact ⟨x.symm, y.symm⟩
theorem kc_rep {A : ka_A} {M : ka_M} {f : Nat} {i : Int} {v : Value} {n : Nat} (hn : kl f i = n) (hv : ∀ j : Nat, ke A f i j (M f i j) = v) : kc A M f i = List.replicate n v := by
  unfold kc
  rw [hn]
  have e : (fun j : Nat => ke A f i j (M f i j)) = fun _ => v := funext hv
  rw [e, List.map_const', List.length_range]
theorem kHp_self {h : ka_H} {A : ka_A} {V : ka_V} {C R : ka_M} (hA : kJ A V) (H : ∀ f i, V f i → h (A f i) = some (kt f, kc A (kmx C R) f i)) : kHp h A V C R = h := by
  funext q
  by_cases hq : ∃ p : Nat × Int, V p.1 p.2 ∧ A p.1 p.2 = q
  · obtain ⟨⟨f, i⟩, hv, rfl⟩ := hq
    show kHp h A V C R (A f i) = h (A f i)
    rw [kHp_at hA hv, H f i hv]
  · exact kHp_off (fun f i hv z => hq ⟨(f, i), hv, z⟩)
theorem kV0_no {f : Nat} {i : Int} (h : kV0 f i) (h1 : ksta f = false) (h2 : f ≠ 10) : False := by
  rcases h with ⟨h, -⟩ | ⟨h, -⟩
  · rw [h1] at h; cases h
  · exact h2 h
theorem kRW_0 : kRW kV0 kR0 := by
  have hl : ∀ f ∈ [9, 52, 54, 55, 56, 58, 59, 60, 61, 62, 63, 64, 66, 67, 68, 69, 70, 71, 72, 73, 74, 75, 77, 78, 79, 80, 81, 83, 84, 85, 87, 88], ksta f = true := by decide +kernel
  refine ⟨fun f h => Or.inl ⟨hl f (List.contains_iff_mem.mp h), rfl⟩, fun f j h _ _ _ => ?_⟩
  have hm : f ∈ [9, 52, 54, 55, 56, 58, 59, 60, 61, 62, 63, 64, 66, 67, 68, 69, 70, 71, 72, 73, 74, 75, 77, 78, 79, 80, 81, 83, 84, 85, 87, 88] := List.contains_iff_mem.mp h
  simp only [List.mem_cons, List.not_mem_nil, or_false] at hm
  rcases hm with rfl | rfl | rfl | rfl | rfl | rfl | rfl | rfl | rfl | rfl | rfl | rfl | rfl | rfl | rfl | rfl | rfl | rfl | rfl | rfl | rfl | rfl | rfl | rfl | rfl | rfl | rfl | rfl | rfl | rfl | rfl | rfl
  · unfold krb kR0
    repeat' split
    all_goals first | decide | omega
  all_goals exact ⟨of_decide_eq_true rfl, of_decide_eq_true rfl⟩
theorem kLs_0 {i : Int} (hi : i = 0 ∨ i = 1 ∨ i = 2) : kLs kV0 kC0 i := by
  have e0 : kC0 10 i 0 = 1000 * i := rfl
  have e1 : kC0 10 i 1 = 0 := rfl
  unfold kLs
  rw [e0, e1]
  exact ⟨by omega, by omega, by omega, by omega, fun z => by omega, fun j a b => by omega⟩
theorem kBI_0 : kBI kV0 kC0 kR0 := by
  have e7 : kR0 9 0 7 = 0 := rfl
  have e15 : kR0 9 0 15 = 0 := rfl
  have e26 : kR0 9 0 26 = 0 := rfl
  refine ⟨⟨fun i h => ?_, fun i h => ?_, fun i h => ?_, fun i h => (kV0_no h rfl (by decide)).elim, fun i h => (kV0_no h rfl (by decide)).elim, fun i h => (kV0_no h rfl (by decide)).elim, fun f i hf h => ?_, fun f i hf h => ?_, fun i h => (kV0_no h rfl (by decide)).elim, fun i h => (kV0_no h rfl (by decide)).elim⟩, ⟨kLs_0 (by omega), rfl, fun k a b => by omega, fun k q a b => by omega, fun k q p a b => by omega, fun g _ _ => rfl, fun g g0 g1 => ⟨of_decide_eq_true rfl, of_decide_eq_true rfl, fun x x0 x1 => ⟨fun z => (kbit_0 x0 x1 z).elim, fun z => (z.1 rfl).elim⟩⟩⟩, ⟨kLs_0 (by omega), kLs_0 (by omega), rfl, rfl, fun m a b => by omega, fun m p a b => by omega, fun u a b => by omega, fun g _ _ => ⟨rfl, rfl⟩⟩, ⟨?_, fun k a b => by omega, fun g a b z => (z rfl).elim, fun k a b => by omega⟩, ⟨Or.inl (by decide), Or.inl (by decide), Or.inl (by decide), Or.inl rfl⟩, fun m a b => by omega⟩
  · rcases h with ⟨-, h⟩ | ⟨h, -⟩
    · exact h
    · cases h
  · rcases h with ⟨-, h⟩ | ⟨h, -⟩
    · exact h
    · cases h
  · rcases h with ⟨-, h⟩ | ⟨-, h⟩
    · exact Or.inl h
    · exact h
  · rcases hf with rfl | rfl <;> exact (kV0_no h rfl (by decide)).elim
  · rcases hf with rfl | rfl | rfl <;> exact (kV0_no h rfl (by decide)).elim
  · rw [e7]
    refine ((kcn_0 20).mpr (fun j _ _ z => z rfl)).symm
theorem kFI_s : kFI kV0 kC0 kR0 := by
  have e3 : kR0 9 0 3 = 0 := rfl
  have e36 : kR0 9 0 36 = 0 := rfl
  exact ⟨kBI_0, rfl, rfl, fun j a b => by omega, ⟨rfl, by rw [e36]; decide, by rw [e36]; decide, fun j a b => by omega⟩, fun g _ _ => rfl, Or.inl ⟨rfl, rfl⟩⟩
theorem kXI_s : kXI kR0 0 := by
  have e7 : kR0 9 0 7 = 0 := rfl
  have e15 : kR0 9 0 15 = 0 := rfl
  have e26 : kR0 9 0 26 = 0 := rfl
  refine ⟨by rw [e7]; decide, fun m p a b => by omega, ⟨fun u a b => by omega, fun u a b => by omega, fun u a b => by omega, fun u a b => by omega, fun m _ _ => ⟨rfl, rfl, fun _ _ _ => rfl⟩, fun u _ _ => ⟨rfl, rfl⟩, fun g _ _ => of_decide_eq_true rfl⟩, ⟨fun k q a b => by omega, fun k q p a b => by omega, fun a b h => (h.2.2.2.2.1 rfl).elim⟩, fun m a b => by omega⟩
theorem kst {E : Nat × Nat} {h : ka_H} {ou g56 mo g88 g87 g85 g84 g83 g81 g80 g79 g78 g77 g75 g74 g73 g72 g71 g70 g69 g68 g67 g66 g64 g63 g62 g61 g60 g59 g58 g55 g54 g52 kr g30 fl g29 g28 l2 l1 rg g27 rd g31 bk g26 g25 g32 l0 : Nat} (K : kCs h ((ou, (1001, List.replicate 1 (lv 0))) :: (g56, (1000, List.replicate 20 (iv (-1)))) :: (mo, (9, (iv 0 :: iv 0 :: .ref g52 :: iv 0 :: .ref g54 :: .ref g55 :: .ref g56 :: iv 0 :: .ref g58 :: .ref g59 :: .ref g60 :: .ref g61 :: .ref g62 :: .ref g63 :: .ref g64 :: iv 0 :: .ref g66 :: .ref g67 :: .ref g68 :: .ref g69 :: .ref g70 :: .ref g71 :: .ref g72 :: .ref g73 :: .ref g74 :: .ref g75 :: iv 0 :: .ref g77 :: .ref g78 :: .ref g79 :: .ref g80 :: .ref g81 :: iv 0 :: .ref g83 :: .ref g84 :: .ref g85 :: iv 0 :: .ref g87 :: .ref g88 :: iv 0 :: iv 0 :: iv 0 :: iv 0 :: []))) :: (g88, (1001, List.replicate 21 (lv 0))) :: (g87, (1000, List.replicate 20 (iv 0))) :: (g85, (1000, List.replicate 21 (iv 0))) :: (g84, (1000, List.replicate 5 (iv 0))) :: (g83, (1000, List.replicate 5 (iv 0))) :: (g81, (1000, List.replicate 61 (iv 0))) :: (g80, (1000, List.replicate 61 (iv 0))) :: (g79, (1000, List.replicate 61 (iv 0))) :: (g78, (1000, List.replicate 61 (iv 0))) :: (g77, (1000, List.replicate 61 (iv 0))) :: (g75, (1000, List.replicate 205 (iv 0))) :: (g74, (1000, List.replicate 205 (iv 0))) :: (g73, (1000, List.replicate 205 (iv 0))) :: (g72, (1000, List.replicate 205 (iv 0))) :: (g71, (1000, List.replicate 41 (iv 0))) :: (g70, (1000, List.replicate 41 (iv 0))) :: (g69, (1000, List.replicate 41 (iv 0))) :: (g68, (1000, List.replicate 41 (iv 0))) :: (g67, (1000, List.replicate 41 (iv 0))) :: (g66, (1000, List.replicate 41 (iv 0))) :: (g64, (1000, List.replicate 420 (iv 0))) :: (g63, (1000, List.replicate 420 (iv 0))) :: (g62, (1000, List.replicate 420 (iv 0))) :: (g61, (1000, List.replicate 84 (iv 0))) :: (g60, (1000, List.replicate 84 (iv 0))) :: (g59, (1000, List.replicate 21 (iv 0))) :: (g58, (1000, List.replicate 21 (iv 0))) :: (g55, (1000, List.replicate 20 (iv 0))) :: (g54, (1000, List.replicate 20 (iv 0))) :: (g52, (1000, List.replicate 1000 (iv 0))) :: (kr, (0, [.ref bk, .ref rd, .ref rg, .ref fl, .ref g30, .null, iv 0])) :: (g30, (1000, List.replicate 20 (iv 0))) :: (fl, (2, [.ref l1, .ref l2, .ref g28, .ref g29])) :: (g29, (1000, List.replicate 20 (iv 0))) :: (g28, (1000, List.replicate 20 (iv 0))) :: (l2, (10, [.ref E.1, iv 0, iv 0])) :: (l1, (10, [.ref E.1, iv 0, iv 0])) :: (rg, (7, [.ref g27, iv 0])) :: (g27, (1000, List.replicate 20 (iv 0))) :: (rd, (5, [.ref g31, iv 0, iv 0, iv (-1)])) :: (g31, (1002, List.replicate 1000 (iv 0))) :: (bk, (1, [.ref l0, .ref g32, .ref g25, .ref g26])) :: (g26, (1000, List.replicate 20 (iv 0))) :: (g25, (1000, List.replicate 20 (iv 0))) :: (g32, (2003, List.replicate 20 .null)) :: (l0, (10, [.ref E.1, iv 0, iv 0])) :: (E.1, (4001, [])) :: [])) :
    ∃ A, kIv E A kV0 kC0 kR0 0 ∧ kHp h A kV0 kC0 kR0 = h ∧ A 0 0 = kr ∧ A 9 0 = mo ∧ A 36 0 = ou := by
  have hn := K.2
  obtain ⟨A, hAe⟩ : ∃ A, A = kA0 (ou :: g56 :: mo :: g88 :: g87 :: g85 :: g84 :: g83 :: g81 :: g80 :: g79 :: g78 :: g77 :: g75 :: g74 :: g73 :: g72 :: g71 :: g70 :: g69 :: g68 :: g67 :: g66 :: g64 :: g63 :: g62 :: g61 :: g60 :: g59 :: g58 :: g55 :: g54 :: g52 :: kr :: g30 :: fl :: g29 :: g28 :: l2 :: l1 :: rg :: g27 :: rd :: g31 :: bk :: g26 :: g25 :: g32 :: l0 :: E.1 :: []) := ⟨_, rfl⟩
  have hA : kJ A kV0 := by rw [hAe]; exact kA0_J rfl hn
  have a36_0 : A 36 0 = ou := by rw [hAe]; rfl
  have a56_0 : A 56 0 = g56 := by rw [hAe]; rfl
  have a9_0 : A 9 0 = mo := by rw [hAe]; rfl
  have a88_0 : A 88 0 = g88 := by rw [hAe]; rfl
  have a87_0 : A 87 0 = g87 := by rw [hAe]; rfl
  have a85_0 : A 85 0 = g85 := by rw [hAe]; rfl
  have a84_0 : A 84 0 = g84 := by rw [hAe]; rfl
  have a83_0 : A 83 0 = g83 := by rw [hAe]; rfl
  have a81_0 : A 81 0 = g81 := by rw [hAe]; rfl
  have a80_0 : A 80 0 = g80 := by rw [hAe]; rfl
  have a79_0 : A 79 0 = g79 := by rw [hAe]; rfl
  have a78_0 : A 78 0 = g78 := by rw [hAe]; rfl
  have a77_0 : A 77 0 = g77 := by rw [hAe]; rfl
  have a75_0 : A 75 0 = g75 := by rw [hAe]; rfl
  have a74_0 : A 74 0 = g74 := by rw [hAe]; rfl
  have a73_0 : A 73 0 = g73 := by rw [hAe]; rfl
  have a72_0 : A 72 0 = g72 := by rw [hAe]; rfl
  have a71_0 : A 71 0 = g71 := by rw [hAe]; rfl
  have a70_0 : A 70 0 = g70 := by rw [hAe]; rfl
  have a69_0 : A 69 0 = g69 := by rw [hAe]; rfl
  have a68_0 : A 68 0 = g68 := by rw [hAe]; rfl
  have a67_0 : A 67 0 = g67 := by rw [hAe]; rfl
  have a66_0 : A 66 0 = g66 := by rw [hAe]; rfl
  have a64_0 : A 64 0 = g64 := by rw [hAe]; rfl
  have a63_0 : A 63 0 = g63 := by rw [hAe]; rfl
  have a62_0 : A 62 0 = g62 := by rw [hAe]; rfl
  have a61_0 : A 61 0 = g61 := by rw [hAe]; rfl
  have a60_0 : A 60 0 = g60 := by rw [hAe]; rfl
  have a59_0 : A 59 0 = g59 := by rw [hAe]; rfl
  have a58_0 : A 58 0 = g58 := by rw [hAe]; rfl
  have a55_0 : A 55 0 = g55 := by rw [hAe]; rfl
  have a54_0 : A 54 0 = g54 := by rw [hAe]; rfl
  have a52_0 : A 52 0 = g52 := by rw [hAe]; rfl
  have a0_0 : A 0 0 = kr := by rw [hAe]; rfl
  have a30_0 : A 30 0 = g30 := by rw [hAe]; rfl
  have a2_0 : A 2 0 = fl := by rw [hAe]; rfl
  have a29_0 : A 29 0 = g29 := by rw [hAe]; rfl
  have a28_0 : A 28 0 = g28 := by rw [hAe]; rfl
  have a10_2 : A 10 2 = l2 := by rw [hAe]; rfl
  have a10_1 : A 10 1 = l1 := by rw [hAe]; rfl
  have a7_0 : A 7 0 = rg := by rw [hAe]; rfl
  have a27_0 : A 27 0 = g27 := by rw [hAe]; rfl
  have a5_0 : A 5 0 = rd := by rw [hAe]; rfl
  have a31_0 : A 31 0 = g31 := by rw [hAe]; rfl
  have a1_0 : A 1 0 = bk := by rw [hAe]; rfl
  have a26_0 : A 26 0 = g26 := by rw [hAe]; rfl
  have a25_0 : A 25 0 = g25 := by rw [hAe]; rfl
  have a32_0 : A 32 0 = g32 := by rw [hAe]; rfl
  have a10_0 : A 10 0 = l0 := by rw [hAe]; rfl
  have a34_0 : A 34 0 = E.1 := by rw [hAe]; rfl
  have k1 := K.1
  simp only [List.forall_mem_cons] at k1
  obtain ⟨k36_0, k56_0, k9_0, k88_0, k87_0, k85_0, k84_0, k83_0, k81_0, k80_0, k79_0, k78_0, k77_0, k75_0, k74_0, k73_0, k72_0, k71_0, k70_0, k69_0, k68_0, k67_0, k66_0, k64_0, k63_0, k62_0, k61_0, k60_0, k59_0, k58_0, k55_0, k54_0, k52_0, k0_0, k30_0, k2_0, k29_0, k28_0, k10_2, k10_1, k7_0, k27_0, k5_0, k31_0, k1_0, k26_0, k25_0, k32_0, k10_0, k34_0, -⟩ := k1
  refine ⟨A, ⟨hA, ⟨fun f hf => Or.inl ⟨hf, rfl⟩, Or.inr ⟨rfl, Or.inl rfl⟩, Or.inr ⟨rfl, Or.inr (Or.inl rfl)⟩, Or.inr ⟨rfl, Or.inr (Or.inr rfl)⟩⟩, a34_0, kRW_0, kFI_s, kXI_s⟩, kHp_self hA (fun f i hv => ?_), a0_0, a9_0, a36_0⟩
  rcases hv with ⟨hf, rfl⟩ | ⟨rfl, rfl | rfl | rfl⟩
  · have hm := ksta_mem hf
    simp only [List.mem_cons, List.not_mem_nil, or_false] at hm
    rcases hm with rfl | rfl | rfl | rfl | rfl | rfl | rfl | rfl | rfl | rfl | rfl | rfl | rfl | rfl | rfl | rfl | rfl | rfl | rfl | rfl | rfl | rfl | rfl | rfl | rfl | rfl | rfl | rfl | rfl | rfl | rfl | rfl | rfl | rfl | rfl | rfl | rfl | rfl | rfl | rfl | rfl | rfl | rfl | rfl | rfl | rfl | rfl
    · rw [a0_0, k0_0, ← a1_0, ← a5_0, ← a7_0, ← a2_0, ← a30_0]; rfl
    · rw [a1_0, k1_0, ← a10_0, ← a32_0, ← a25_0, ← a26_0]; rfl
    · rw [a2_0, k2_0, ← a10_1, ← a10_2, ← a28_0, ← a29_0]; rfl
    · rw [a5_0, k5_0, ← a31_0]; rfl
    · rw [a7_0, k7_0, ← a27_0]; rfl
    · rw [a9_0, k9_0, ← a52_0, ← a54_0, ← a55_0, ← a56_0, ← a58_0, ← a59_0, ← a60_0, ← a61_0, ← a62_0, ← a63_0, ← a64_0, ← a66_0, ← a67_0, ← a68_0, ← a69_0, ← a70_0, ← a71_0, ← a72_0, ← a73_0, ← a74_0, ← a75_0, ← a77_0, ← a78_0, ← a79_0, ← a80_0, ← a81_0, ← a83_0, ← a84_0, ← a85_0, ← a87_0, ← a88_0]; rfl
    · rw [a25_0, kc_rep (n := 20) (v := (iv 0)) rfl (fun j => rfl)]; exact k25_0
    · rw [a26_0, kc_rep (n := 20) (v := (iv 0)) rfl (fun j => rfl)]; exact k26_0
    · rw [a27_0, kc_rep (n := 20) (v := (iv 0)) rfl (fun j => rfl)]; exact k27_0
    · rw [a28_0, kc_rep (n := 20) (v := (iv 0)) rfl (fun j => rfl)]; exact k28_0
    · rw [a29_0, kc_rep (n := 20) (v := (iv 0)) rfl (fun j => rfl)]; exact k29_0
    · rw [a30_0, kc_rep (n := 20) (v := (iv 0)) rfl (fun j => rfl)]; exact k30_0
    · rw [a31_0, kc_rep (n := 1000) (v := (iv 0)) rfl (fun j => rfl)]; exact k31_0
    · rw [a32_0, kc_rep (n := 20) (v := .null) rfl (fun j => rfl)]; exact k32_0
    · rw [a34_0]; exact k34_0
    · rw [a36_0, kc_rep (n := 1) (v := (lv 0)) rfl (fun j => rfl)]; exact k36_0
    · rw [a52_0, kc_rep (n := 1000) (v := (iv 0)) rfl (fun j => rfl)]; exact k52_0
    · rw [a54_0, kc_rep (n := 20) (v := (iv 0)) rfl (fun j => rfl)]; exact k54_0
    · rw [a55_0, kc_rep (n := 20) (v := (iv 0)) rfl (fun j => rfl)]; exact k55_0
    · rw [a56_0, kc_rep (n := 20) (v := (iv (-1))) rfl (fun j => rfl)]; exact k56_0
    · rw [a58_0, kc_rep (n := 21) (v := (iv 0)) rfl (fun j => rfl)]; exact k58_0
    · rw [a59_0, kc_rep (n := 21) (v := (iv 0)) rfl (fun j => rfl)]; exact k59_0
    · rw [a60_0, kc_rep (n := 84) (v := (iv 0)) rfl (fun j => rfl)]; exact k60_0
    · rw [a61_0, kc_rep (n := 84) (v := (iv 0)) rfl (fun j => rfl)]; exact k61_0
    · rw [a62_0, kc_rep (n := 420) (v := (iv 0)) rfl (fun j => rfl)]; exact k62_0
    · rw [a63_0, kc_rep (n := 420) (v := (iv 0)) rfl (fun j => rfl)]; exact k63_0
    · rw [a64_0, kc_rep (n := 420) (v := (iv 0)) rfl (fun j => rfl)]; exact k64_0
    · rw [a66_0, kc_rep (n := 41) (v := (iv 0)) rfl (fun j => rfl)]; exact k66_0
    · rw [a67_0, kc_rep (n := 41) (v := (iv 0)) rfl (fun j => rfl)]; exact k67_0
    · rw [a68_0, kc_rep (n := 41) (v := (iv 0)) rfl (fun j => rfl)]; exact k68_0
    · rw [a69_0, kc_rep (n := 41) (v := (iv 0)) rfl (fun j => rfl)]; exact k69_0
    · rw [a70_0, kc_rep (n := 41) (v := (iv 0)) rfl (fun j => rfl)]; exact k70_0
    · rw [a71_0, kc_rep (n := 41) (v := (iv 0)) rfl (fun j => rfl)]; exact k71_0
    · rw [a72_0, kc_rep (n := 205) (v := (iv 0)) rfl (fun j => rfl)]; exact k72_0
    · rw [a73_0, kc_rep (n := 205) (v := (iv 0)) rfl (fun j => rfl)]; exact k73_0
    · rw [a74_0, kc_rep (n := 205) (v := (iv 0)) rfl (fun j => rfl)]; exact k74_0
    · rw [a75_0, kc_rep (n := 205) (v := (iv 0)) rfl (fun j => rfl)]; exact k75_0
    · rw [a77_0, kc_rep (n := 61) (v := (iv 0)) rfl (fun j => rfl)]; exact k77_0
    · rw [a78_0, kc_rep (n := 61) (v := (iv 0)) rfl (fun j => rfl)]; exact k78_0
    · rw [a79_0, kc_rep (n := 61) (v := (iv 0)) rfl (fun j => rfl)]; exact k79_0
    · rw [a80_0, kc_rep (n := 61) (v := (iv 0)) rfl (fun j => rfl)]; exact k80_0
    · rw [a81_0, kc_rep (n := 61) (v := (iv 0)) rfl (fun j => rfl)]; exact k81_0
    · rw [a83_0, kc_rep (n := 5) (v := (iv 0)) rfl (fun j => rfl)]; exact k83_0
    · rw [a84_0, kc_rep (n := 5) (v := (iv 0)) rfl (fun j => rfl)]; exact k84_0
    · rw [a85_0, kc_rep (n := 21) (v := (iv 0)) rfl (fun j => rfl)]; exact k85_0
    · rw [a87_0, kc_rep (n := 20) (v := (iv 0)) rfl (fun j => rfl)]; exact k87_0
    · rw [a88_0, kc_rep (n := 21) (v := (lv 0)) rfl (fun j => rfl)]; exact k88_0
  · rw [a10_0, k10_0, ← a34_0]; rfl
  · rw [a10_1, k10_1, ← a34_0]; rfl
  · rw [a10_2, k10_2, ← a34_0]; rfl
