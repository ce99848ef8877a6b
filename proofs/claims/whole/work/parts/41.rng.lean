/-! What the reference's numbers keep to. Printed by wip/whole/gen9.py. -/
def kra (f : Nat) : Bool := ([9, 52, 54, 55, 56, 58, 59, 60, 61, 62, 63, 64, 66, 67, 68, 69, 70, 71, 72, 73, 74, 75, 77, 78, 79, 80, 81, 83, 84, 85, 87, 88] : List Nat).contains f
def krb : Nat → Int → Int × Int
  | 9, j => if j = 0 then (0, 4) else if j = 1 then (0, 1000) else if j = 3 then (0, 1000) else if j = 7 then (0, 20) else if j = 15 then (0, 40) else if j = 26 then (0, 60) else if j = 32 then (0, 5) else if j = 36 then (0, 21) else if j = 39 then (0, 1000) else if j = 40 then (0, 1000) else if j = 41 then (0, 20000) else if j = 42 then (0, 1000) else (0, 0)
  | 52, _ => (0, 126)
  | 54, _ => (0, 1000)
  | 55, _ => (0, 1000000)
  | 56, _ => (-1, 19)
  | 58, _ => (0, 19)
  | 59, _ => (0, 4)
  | 60, _ => (0, 1000)
  | 61, _ => (0, 5)
  | 62, _ => (0, 19)
  | 63, _ => (0, 9)
  | 64, _ => (-1, 19)
  | 66, _ => (0, 19)
  | 67, _ => (0, 4)
  | 68, _ => (0, 2)
  | 69, _ => (0, 5)
  | 70, _ => (0, 5)
  | 71, _ => (0, 60)
  | 72, _ => (0, 19)
  | 73, _ => (0, 9)
  | 74, _ => (-1, 19)
  | 75, _ => (0, 9)
  | 77, _ => (0, 19)
  | 78, _ => (0, 3)
  | 79, _ => (0, 40)
  | 80, _ => (0, 60)
  | 81, _ => (0, 4)
  | 83, _ => (0, 19)
  | 84, _ => (0, 9)
  | 85, _ => (0, 19)
  | 87, _ => (-1, 20)
  | 88, _ => (-1, 1000000000)
  | _, _ => (0, 0)
/-- the model's cells stand, its numbers keep to their ranges -/
def kRW (V : ka_V) (M : ka_M) : Prop := (∀ f, kra f = true → V f 0) ∧ ∀ f j, kra f = true → (f = 9 → krb 9 j ≠ (0, 0)) → 0 ≤ j → j < (kl f 0 : Int) → (krb f j).1 ≤ M f 0 j ∧ M f 0 j ≤ (krb f j).2
section
variable {V : ka_V} {M : ka_M}
theorem kRW.put (r : kRW V M) {f : Nat} {j x : Int} (h1 : (krb f j).1 ≤ x) (h2 : x ≤ (krb f j).2) : kRW V (kmu M f 0 j x) := by
  refine ⟨r.1, fun f' j' a b c d => ?_⟩
  unfold kmu
  split
  · rename_i e
    obtain ⟨rfl, -, rfl⟩ := e
    exact ⟨h1, h2⟩
  · exact r.2 f' j' a b c d
/-- other families change -/
theorem kRW.other (r : kRW V M) {f : Nat} {i j x : Int} (hf : kra f = false) : kRW V (kmu M f i j x) := by
  refine ⟨r.1, fun f' j' a b c d => ?_⟩
  unfold kmu
  rw [if_neg (fun e => by rw [e.1, hf] at a; cases a)]
  exact r.2 f' j' a b c d
theorem kRW.v9 (r : kRW V M) : V 9 0 := r.1 9 rfl
theorem kRW.v52 (r : kRW V M) : V 52 0 := r.1 52 rfl
theorem kRW.v54 (r : kRW V M) : V 54 0 := r.1 54 rfl
theorem kRW.v55 (r : kRW V M) : V 55 0 := r.1 55 rfl
theorem kRW.v56 (r : kRW V M) : V 56 0 := r.1 56 rfl
theorem kRW.v58 (r : kRW V M) : V 58 0 := r.1 58 rfl
theorem kRW.v59 (r : kRW V M) : V 59 0 := r.1 59 rfl
theorem kRW.v60 (r : kRW V M) : V 60 0 := r.1 60 rfl
theorem kRW.v61 (r : kRW V M) : V 61 0 := r.1 61 rfl
theorem kRW.v62 (r : kRW V M) : V 62 0 := r.1 62 rfl
theorem kRW.v63 (r : kRW V M) : V 63 0 := r.1 63 rfl
theorem kRW.v64 (r : kRW V M) : V 64 0 := r.1 64 rfl
theorem kRW.v66 (r : kRW V M) : V 66 0 := r.1 66 rfl
theorem kRW.v67 (r : kRW V M) : V 67 0 := r.1 67 rfl
theorem kRW.v68 (r : kRW V M) : V 68 0 := r.1 68 rfl
theorem kRW.v69 (r : kRW V M) : V 69 0 := r.1 69 rfl
theorem kRW.v70 (r : kRW V M) : V 70 0 := r.1 70 rfl
theorem kRW.v71 (r : kRW V M) : V 71 0 := r.1 71 rfl
theorem kRW.v72 (r : kRW V M) : V 72 0 := r.1 72 rfl
theorem kRW.v73 (r : kRW V M) : V 73 0 := r.1 73 rfl
theorem kRW.v74 (r : kRW V M) : V 74 0 := r.1 74 rfl
theorem kRW.v75 (r : kRW V M) : V 75 0 := r.1 75 rfl
theorem kRW.v77 (r : kRW V M) : V 77 0 := r.1 77 rfl
theorem kRW.v78 (r : kRW V M) : V 78 0 := r.1 78 rfl
theorem kRW.v79 (r : kRW V M) : V 79 0 := r.1 79 rfl
theorem kRW.v80 (r : kRW V M) : V 80 0 := r.1 80 rfl
theorem kRW.v81 (r : kRW V M) : V 81 0 := r.1 81 rfl
theorem kRW.v83 (r : kRW V M) : V 83 0 := r.1 83 rfl
theorem kRW.v84 (r : kRW V M) : V 84 0 := r.1 84 rfl
theorem kRW.v85 (r : kRW V M) : V 85 0 := r.1 85 rfl
theorem kRW.v87 (r : kRW V M) : V 87 0 := r.1 87 rfl
theorem kRW.v88 (r : kRW V M) : V 88 0 := r.1 88 rfl
theorem kRW.i0 (r : kRW V M) : 0 ≤ M 9 0 0 ∧ M 9 0 0 ≤ 4 := r.2 9 0 rfl (fun _ => by decide) (by decide) (by decide)
theorem kRW.pi0 (r : kRW V M) {x : Int} (h1 : 0 ≤ x) (h2 : x ≤ 4) : kRW V (kmu M 9 0 0 x) := r.put h1 h2
theorem kRW.i1 (r : kRW V M) : 0 ≤ M 9 0 1 ∧ M 9 0 1 ≤ 1000 := r.2 9 1 rfl (fun _ => by decide) (by decide) (by decide)
theorem kRW.pi1 (r : kRW V M) {x : Int} (h1 : 0 ≤ x) (h2 : x ≤ 1000) : kRW V (kmu M 9 0 1 x) := r.put h1 h2
theorem kRW.i3 (r : kRW V M) : 0 ≤ M 9 0 3 ∧ M 9 0 3 ≤ 1000 := r.2 9 3 rfl (fun _ => by decide) (by decide) (by decide)
theorem kRW.pi3 (r : kRW V M) {x : Int} (h1 : 0 ≤ x) (h2 : x ≤ 1000) : kRW V (kmu M 9 0 3 x) := r.put h1 h2
theorem kRW.i7 (r : kRW V M) : 0 ≤ M 9 0 7 ∧ M 9 0 7 ≤ 20 := r.2 9 7 rfl (fun _ => by decide) (by decide) (by decide)
theorem kRW.pi7 (r : kRW V M) {x : Int} (h1 : 0 ≤ x) (h2 : x ≤ 20) : kRW V (kmu M 9 0 7 x) := r.put h1 h2
theorem kRW.i15 (r : kRW V M) : 0 ≤ M 9 0 15 ∧ M 9 0 15 ≤ 40 := r.2 9 15 rfl (fun _ => by decide) (by decide) (by decide)
theorem kRW.pi15 (r : kRW V M) {x : Int} (h1 : 0 ≤ x) (h2 : x ≤ 40) : kRW V (kmu M 9 0 15 x) := r.put h1 h2
theorem kRW.i26 (r : kRW V M) : 0 ≤ M 9 0 26 ∧ M 9 0 26 ≤ 60 := r.2 9 26 rfl (fun _ => by decide) (by decide) (by decide)
theorem kRW.pi26 (r : kRW V M) {x : Int} (h1 : 0 ≤ x) (h2 : x ≤ 60) : kRW V (kmu M 9 0 26 x) := r.put h1 h2
theorem kRW.i32 (r : kRW V M) : 0 ≤ M 9 0 32 ∧ M 9 0 32 ≤ 5 := r.2 9 32 rfl (fun _ => by decide) (by decide) (by decide)
theorem kRW.pi32 (r : kRW V M) {x : Int} (h1 : 0 ≤ x) (h2 : x ≤ 5) : kRW V (kmu M 9 0 32 x) := r.put h1 h2
theorem kRW.i36 (r : kRW V M) : 0 ≤ M 9 0 36 ∧ M 9 0 36 ≤ 21 := r.2 9 36 rfl (fun _ => by decide) (by decide) (by decide)
theorem kRW.pi36 (r : kRW V M) {x : Int} (h1 : 0 ≤ x) (h2 : x ≤ 21) : kRW V (kmu M 9 0 36 x) := r.put h1 h2
theorem kRW.i39 (r : kRW V M) : 0 ≤ M 9 0 39 ∧ M 9 0 39 ≤ 1000 := r.2 9 39 rfl (fun _ => by decide) (by decide) (by decide)
theorem kRW.pi39 (r : kRW V M) {x : Int} (h1 : 0 ≤ x) (h2 : x ≤ 1000) : kRW V (kmu M 9 0 39 x) := r.put h1 h2
theorem kRW.i40 (r : kRW V M) : 0 ≤ M 9 0 40 ∧ M 9 0 40 ≤ 1000 := r.2 9 40 rfl (fun _ => by decide) (by decide) (by decide)
theorem kRW.pi40 (r : kRW V M) {x : Int} (h1 : 0 ≤ x) (h2 : x ≤ 1000) : kRW V (kmu M 9 0 40 x) := r.put h1 h2
theorem kRW.i41 (r : kRW V M) : 0 ≤ M 9 0 41 ∧ M 9 0 41 ≤ 20000 := r.2 9 41 rfl (fun _ => by decide) (by decide) (by decide)
theorem kRW.pi41 (r : kRW V M) {x : Int} (h1 : 0 ≤ x) (h2 : x ≤ 20000) : kRW V (kmu M 9 0 41 x) := r.put h1 h2
theorem kRW.i42 (r : kRW V M) : 0 ≤ M 9 0 42 ∧ M 9 0 42 ≤ 1000 := r.2 9 42 rfl (fun _ => by decide) (by decide) (by decide)
theorem kRW.pi42 (r : kRW V M) {x : Int} (h1 : 0 ≤ x) (h2 : x ≤ 1000) : kRW V (kmu M 9 0 42 x) := r.put h1 h2
theorem kRW.a52 (r : kRW V M) {j : Int} (h0 : 0 ≤ j) (h1 : j < 1000) : 0 ≤ M 52 0 j ∧ M 52 0 j ≤ 126 := r.2 52 j rfl (fun h => by cases h) h0 h1
theorem kRW.pa52 (r : kRW V M) {j x : Int} (h1 : 0 ≤ x) (h2 : x ≤ 126) : kRW V (kmu M 52 0 j x) := r.put (f := 52) (j := j) h1 h2
theorem kRW.a54 (r : kRW V M) {j : Int} (h0 : 0 ≤ j) (h1 : j < 20) : 0 ≤ M 54 0 j ∧ M 54 0 j ≤ 1000 := r.2 54 j rfl (fun h => by cases h) h0 h1
theorem kRW.pa54 (r : kRW V M) {j x : Int} (h1 : 0 ≤ x) (h2 : x ≤ 1000) : kRW V (kmu M 54 0 j x) := r.put (f := 54) (j := j) h1 h2
theorem kRW.a55 (r : kRW V M) {j : Int} (h0 : 0 ≤ j) (h1 : j < 20) : 0 ≤ M 55 0 j ∧ M 55 0 j ≤ 1000000 := r.2 55 j rfl (fun h => by cases h) h0 h1
theorem kRW.pa55 (r : kRW V M) {j x : Int} (h1 : 0 ≤ x) (h2 : x ≤ 1000000) : kRW V (kmu M 55 0 j x) := r.put (f := 55) (j := j) h1 h2
theorem kRW.a56 (r : kRW V M) {j : Int} (h0 : 0 ≤ j) (h1 : j < 20) : -1 ≤ M 56 0 j ∧ M 56 0 j ≤ 19 := r.2 56 j rfl (fun h => by cases h) h0 h1
theorem kRW.pa56 (r : kRW V M) {j x : Int} (h1 : -1 ≤ x) (h2 : x ≤ 19) : kRW V (kmu M 56 0 j x) := r.put (f := 56) (j := j) h1 h2
theorem kRW.a58 (r : kRW V M) {j : Int} (h0 : 0 ≤ j) (h1 : j < 21) : 0 ≤ M 58 0 j ∧ M 58 0 j ≤ 19 := r.2 58 j rfl (fun h => by cases h) h0 h1
theorem kRW.pa58 (r : kRW V M) {j x : Int} (h1 : 0 ≤ x) (h2 : x ≤ 19) : kRW V (kmu M 58 0 j x) := r.put (f := 58) (j := j) h1 h2
theorem kRW.a59 (r : kRW V M) {j : Int} (h0 : 0 ≤ j) (h1 : j < 21) : 0 ≤ M 59 0 j ∧ M 59 0 j ≤ 4 := r.2 59 j rfl (fun h => by cases h) h0 h1
theorem kRW.pa59 (r : kRW V M) {j x : Int} (h1 : 0 ≤ x) (h2 : x ≤ 4) : kRW V (kmu M 59 0 j x) := r.put (f := 59) (j := j) h1 h2
theorem kRW.a60 (r : kRW V M) {j : Int} (h0 : 0 ≤ j) (h1 : j < 84) : 0 ≤ M 60 0 j ∧ M 60 0 j ≤ 1000 := r.2 60 j rfl (fun h => by cases h) h0 h1
theorem kRW.pa60 (r : kRW V M) {j x : Int} (h1 : 0 ≤ x) (h2 : x ≤ 1000) : kRW V (kmu M 60 0 j x) := r.put (f := 60) (j := j) h1 h2
theorem kRW.a61 (r : kRW V M) {j : Int} (h0 : 0 ≤ j) (h1 : j < 84) : 0 ≤ M 61 0 j ∧ M 61 0 j ≤ 5 := r.2 61 j rfl (fun h => by cases h) h0 h1
theorem kRW.pa61 (r : kRW V M) {j x : Int} (h1 : 0 ≤ x) (h2 : x ≤ 5) : kRW V (kmu M 61 0 j x) := r.put (f := 61) (j := j) h1 h2
theorem kRW.a62 (r : kRW V M) {j : Int} (h0 : 0 ≤ j) (h1 : j < 420) : 0 ≤ M 62 0 j ∧ M 62 0 j ≤ 19 := r.2 62 j rfl (fun h => by cases h) h0 h1
theorem kRW.pa62 (r : kRW V M) {j x : Int} (h1 : 0 ≤ x) (h2 : x ≤ 19) : kRW V (kmu M 62 0 j x) := r.put (f := 62) (j := j) h1 h2
theorem kRW.a63 (r : kRW V M) {j : Int} (h0 : 0 ≤ j) (h1 : j < 420) : 0 ≤ M 63 0 j ∧ M 63 0 j ≤ 9 := r.2 63 j rfl (fun h => by cases h) h0 h1
theorem kRW.pa63 (r : kRW V M) {j x : Int} (h1 : 0 ≤ x) (h2 : x ≤ 9) : kRW V (kmu M 63 0 j x) := r.put (f := 63) (j := j) h1 h2
theorem kRW.a64 (r : kRW V M) {j : Int} (h0 : 0 ≤ j) (h1 : j < 420) : -1 ≤ M 64 0 j ∧ M 64 0 j ≤ 19 := r.2 64 j rfl (fun h => by cases h) h0 h1
theorem kRW.pa64 (r : kRW V M) {j x : Int} (h1 : -1 ≤ x) (h2 : x ≤ 19) : kRW V (kmu M 64 0 j x) := r.put (f := 64) (j := j) h1 h2
theorem kRW.a66 (r : kRW V M) {j : Int} (h0 : 0 ≤ j) (h1 : j < 41) : 0 ≤ M 66 0 j ∧ M 66 0 j ≤ 19 := r.2 66 j rfl (fun h => by cases h) h0 h1
theorem kRW.pa66 (r : kRW V M) {j x : Int} (h1 : 0 ≤ x) (h2 : x ≤ 19) : kRW V (kmu M 66 0 j x) := r.put (f := 66) (j := j) h1 h2
theorem kRW.a67 (r : kRW V M) {j : Int} (h0 : 0 ≤ j) (h1 : j < 41) : 0 ≤ M 67 0 j ∧ M 67 0 j ≤ 4 := r.2 67 j rfl (fun h => by cases h) h0 h1
theorem kRW.pa67 (r : kRW V M) {j x : Int} (h1 : 0 ≤ x) (h2 : x ≤ 4) : kRW V (kmu M 67 0 j x) := r.put (f := 67) (j := j) h1 h2
theorem kRW.a68 (r : kRW V M) {j : Int} (h0 : 0 ≤ j) (h1 : j < 41) : 0 ≤ M 68 0 j ∧ M 68 0 j ≤ 2 := r.2 68 j rfl (fun h => by cases h) h0 h1
theorem kRW.pa68 (r : kRW V M) {j x : Int} (h1 : 0 ≤ x) (h2 : x ≤ 2) : kRW V (kmu M 68 0 j x) := r.put (f := 68) (j := j) h1 h2
theorem kRW.a69 (r : kRW V M) {j : Int} (h0 : 0 ≤ j) (h1 : j < 41) : 0 ≤ M 69 0 j ∧ M 69 0 j ≤ 5 := r.2 69 j rfl (fun h => by cases h) h0 h1
theorem kRW.pa69 (r : kRW V M) {j x : Int} (h1 : 0 ≤ x) (h2 : x ≤ 5) : kRW V (kmu M 69 0 j x) := r.put (f := 69) (j := j) h1 h2
theorem kRW.a70 (r : kRW V M) {j : Int} (h0 : 0 ≤ j) (h1 : j < 41) : 0 ≤ M 70 0 j ∧ M 70 0 j ≤ 5 := r.2 70 j rfl (fun h => by cases h) h0 h1
theorem kRW.pa70 (r : kRW V M) {j x : Int} (h1 : 0 ≤ x) (h2 : x ≤ 5) : kRW V (kmu M 70 0 j x) := r.put (f := 70) (j := j) h1 h2
theorem kRW.a71 (r : kRW V M) {j : Int} (h0 : 0 ≤ j) (h1 : j < 41) : 0 ≤ M 71 0 j ∧ M 71 0 j ≤ 60 := r.2 71 j rfl (fun h => by cases h) h0 h1
theorem kRW.pa71 (r : kRW V M) {j x : Int} (h1 : 0 ≤ x) (h2 : x ≤ 60) : kRW V (kmu M 71 0 j x) := r.put (f := 71) (j := j) h1 h2
theorem kRW.a72 (r : kRW V M) {j : Int} (h0 : 0 ≤ j) (h1 : j < 205) : 0 ≤ M 72 0 j ∧ M 72 0 j ≤ 19 := r.2 72 j rfl (fun h => by cases h) h0 h1
theorem kRW.pa72 (r : kRW V M) {j x : Int} (h1 : 0 ≤ x) (h2 : x ≤ 19) : kRW V (kmu M 72 0 j x) := r.put (f := 72) (j := j) h1 h2
theorem kRW.a73 (r : kRW V M) {j : Int} (h0 : 0 ≤ j) (h1 : j < 205) : 0 ≤ M 73 0 j ∧ M 73 0 j ≤ 9 := r.2 73 j rfl (fun h => by cases h) h0 h1
theorem kRW.pa73 (r : kRW V M) {j x : Int} (h1 : 0 ≤ x) (h2 : x ≤ 9) : kRW V (kmu M 73 0 j x) := r.put (f := 73) (j := j) h1 h2
theorem kRW.a74 (r : kRW V M) {j : Int} (h0 : 0 ≤ j) (h1 : j < 205) : -1 ≤ M 74 0 j ∧ M 74 0 j ≤ 19 := r.2 74 j rfl (fun h => by cases h) h0 h1
theorem kRW.pa74 (r : kRW V M) {j x : Int} (h1 : -1 ≤ x) (h2 : x ≤ 19) : kRW V (kmu M 74 0 j x) := r.put (f := 74) (j := j) h1 h2
theorem kRW.a75 (r : kRW V M) {j : Int} (h0 : 0 ≤ j) (h1 : j < 205) : 0 ≤ M 75 0 j ∧ M 75 0 j ≤ 9 := r.2 75 j rfl (fun h => by cases h) h0 h1
theorem kRW.pa75 (r : kRW V M) {j x : Int} (h1 : 0 ≤ x) (h2 : x ≤ 9) : kRW V (kmu M 75 0 j x) := r.put (f := 75) (j := j) h1 h2
theorem kRW.a77 (r : kRW V M) {j : Int} (h0 : 0 ≤ j) (h1 : j < 61) : 0 ≤ M 77 0 j ∧ M 77 0 j ≤ 19 := r.2 77 j rfl (fun h => by cases h) h0 h1
theorem kRW.pa77 (r : kRW V M) {j x : Int} (h1 : 0 ≤ x) (h2 : x ≤ 19) : kRW V (kmu M 77 0 j x) := r.put (f := 77) (j := j) h1 h2
theorem kRW.a78 (r : kRW V M) {j : Int} (h0 : 0 ≤ j) (h1 : j < 61) : 0 ≤ M 78 0 j ∧ M 78 0 j ≤ 3 := r.2 78 j rfl (fun h => by cases h) h0 h1
theorem kRW.pa78 (r : kRW V M) {j x : Int} (h1 : 0 ≤ x) (h2 : x ≤ 3) : kRW V (kmu M 78 0 j x) := r.put (f := 78) (j := j) h1 h2
theorem kRW.a79 (r : kRW V M) {j : Int} (h0 : 0 ≤ j) (h1 : j < 61) : 0 ≤ M 79 0 j ∧ M 79 0 j ≤ 40 := r.2 79 j rfl (fun h => by cases h) h0 h1
theorem kRW.pa79 (r : kRW V M) {j x : Int} (h1 : 0 ≤ x) (h2 : x ≤ 40) : kRW V (kmu M 79 0 j x) := r.put (f := 79) (j := j) h1 h2
theorem kRW.a80 (r : kRW V M) {j : Int} (h0 : 0 ≤ j) (h1 : j < 61) : 0 ≤ M 80 0 j ∧ M 80 0 j ≤ 60 := r.2 80 j rfl (fun h => by cases h) h0 h1
theorem kRW.pa80 (r : kRW V M) {j x : Int} (h1 : 0 ≤ x) (h2 : x ≤ 60) : kRW V (kmu M 80 0 j x) := r.put (f := 80) (j := j) h1 h2
theorem kRW.a81 (r : kRW V M) {j : Int} (h0 : 0 ≤ j) (h1 : j < 61) : 0 ≤ M 81 0 j ∧ M 81 0 j ≤ 4 := r.2 81 j rfl (fun h => by cases h) h0 h1
theorem kRW.pa81 (r : kRW V M) {j x : Int} (h1 : 0 ≤ x) (h2 : x ≤ 4) : kRW V (kmu M 81 0 j x) := r.put (f := 81) (j := j) h1 h2
theorem kRW.a83 (r : kRW V M) {j : Int} (h0 : 0 ≤ j) (h1 : j < 5) : 0 ≤ M 83 0 j ∧ M 83 0 j ≤ 19 := r.2 83 j rfl (fun h => by cases h) h0 h1
theorem kRW.pa83 (r : kRW V M) {j x : Int} (h1 : 0 ≤ x) (h2 : x ≤ 19) : kRW V (kmu M 83 0 j x) := r.put (f := 83) (j := j) h1 h2
theorem kRW.a84 (r : kRW V M) {j : Int} (h0 : 0 ≤ j) (h1 : j < 5) : 0 ≤ M 84 0 j ∧ M 84 0 j ≤ 9 := r.2 84 j rfl (fun h => by cases h) h0 h1
theorem kRW.pa84 (r : kRW V M) {j x : Int} (h1 : 0 ≤ x) (h2 : x ≤ 9) : kRW V (kmu M 84 0 j x) := r.put (f := 84) (j := j) h1 h2
theorem kRW.a85 (r : kRW V M) {j : Int} (h0 : 0 ≤ j) (h1 : j < 21) : 0 ≤ M 85 0 j ∧ M 85 0 j ≤ 19 := r.2 85 j rfl (fun h => by cases h) h0 h1
theorem kRW.pa85 (r : kRW V M) {j x : Int} (h1 : 0 ≤ x) (h2 : x ≤ 19) : kRW V (kmu M 85 0 j x) := r.put (f := 85) (j := j) h1 h2
theorem kRW.a87 (r : kRW V M) {j : Int} (h0 : 0 ≤ j) (h1 : j < 20) : -1 ≤ M 87 0 j ∧ M 87 0 j ≤ 20 := r.2 87 j rfl (fun h => by cases h) h0 h1
theorem kRW.pa87 (r : kRW V M) {j x : Int} (h1 : -1 ≤ x) (h2 : x ≤ 20) : kRW V (kmu M 87 0 j x) := r.put (f := 87) (j := j) h1 h2
theorem kRW.a88 (r : kRW V M) {j : Int} (h0 : 0 ≤ j) (h1 : j < 21) : -1 ≤ M 88 0 j ∧ M 88 0 j ≤ 1000000000 := r.2 88 j rfl (fun h => by cases h) h0 h1
theorem kRW.pa88 (r : kRW V M) {j x : Int} (h1 : -1 ≤ x) (h2 : x ≤ 1000000000) : kRW V (kmu M 88 0 j x) := r.put (f := 88) (j := j) h1 h2
end
