/-! The words stay; the handlers; the throws. -/
theorem ko_move_ok : ko_move kTw := by
  intro w hw a a' s U hW h
  obtain ⟨-, h2⟩ := List.mem_filter.mp hw
  rw [Bool.or_eq_true] at h2
  rcases h2 with h2 | h2
  · exact word_at hW (good_of_word h2) h
  · cases w with
    | stringRef own k tx =>
      have h1 := Cond.stringRef_warmed hW h
      simp only [Cond.before, Cond.holds, Cond.value, State.names, State.poolOf?, State.resolvedAt?] at h1 ⊢
      exact h1
    | castable C T => exact va_tabs rfl (rfl : (s.setVm U.vm).vm = U.vm) (by rw [Cond.castable_setVm hW.alike]; exact h)
    | declares x => exact va_tabs rfl (rfl : (s.setVm U.vm).vm = U.vm) (by rw [Cond.declares_setVm hW.alike]; exact h)
    | arrayOver ty =>
      have h1 : (Cond.arrayOver ty).before a (s.setVm U.vm) = true := by rw [Cond.arrayOver_setVmC hW.alike ty]; exact h
      exact h1
    | _ => simp [ka_sr] at h2
theorem ka_fh_none {w : Nat → Option Nat} {pc k : Nat} : ∀ (l : List (Nat × Nat × Nat × Nat)) (b : Bool), ka_fh w pc k b l = none → ∀ x ∈ l, ¬ (x.1 ≤ pc ∧ pc < x.2.1)
  | [], b, _, x, hx => absurd hx List.not_mem_nil
  | h :: r, b, hn, x, hx => by
    unfold ka_fh at hn
    by_cases hc : h.1 ≤ pc ∧ pc < h.2.1
    · rw [if_pos hc] at hn
      exfalso
      by_cases hk : w h.2.2.2 = some k
      · rw [if_pos hk] at hn
        cases hn
      · rw [if_neg hk] at hn
        have key : ∀ (l : List (Nat × Nat × Nat × Nat)), ka_fh w pc k true l ≠ none := by
          intro l
          induction l with
          | nil => simp [ka_fh]
          | cons a l ih =>
            unfold ka_fh
            split
            · split
              · simp
              · exact ih
            · exact ih
        exact key _ hn
    · rw [if_neg hc] at hn
      rcases List.mem_cons.mp hx with rfl | hx
      · exact hc
      · exact ka_fh_none r b hn x hx
theorem ka_fh_some {w : Nat → Option Nat} {pc k hp : Nat} (hlt : hp < 65535) : ∀ (l : List (Nat × Nat × Nat × Nat)) (b : Bool), ka_fh w pc k b l = some hp → ∃ (pre : List (Nat × Nat × Nat × Nat)) (x : Nat × Nat × Nat × Nat) (rest : List (Nat × Nat × Nat × Nat)), l = pre ++ x :: rest ∧ (∀ q ∈ pre, ¬ (q.1 ≤ pc ∧ pc < q.2.1) ∨ ((q.1 ≤ pc ∧ pc < q.2.1) ∧ w q.2.2.2 ≠ some k)) ∧ (x.1 ≤ pc ∧ pc < x.2.1) ∧ x.2.2.1 = hp ∧ w x.2.2.2 = some k
  | [], b, hn => by
    unfold ka_fh at hn
    split at hn
    · cases hn
      omega
    · cases hn
  | h :: r, b, hn => by
    unfold ka_fh at hn
    by_cases hc : h.1 ≤ pc ∧ pc < h.2.1
    · rw [if_pos hc] at hn
      by_cases hk : w h.2.2.2 = some k
      · rw [if_pos hk] at hn
        cases hn
        exact ⟨[], h, r, rfl, fun _ hq => absurd hq List.not_mem_nil, hc, rfl, hk⟩
      · rw [if_neg hk] at hn
        obtain ⟨pre, x, rest, e, h1, h2, h3, h4⟩ := ka_fh_some hlt r true hn
        exact ⟨h :: pre, x, rest, by rw [e]; rfl, List.forall_mem_cons.mpr ⟨Or.inr ⟨hc, hk⟩, h1⟩, h2, h3, h4⟩
    · rw [if_neg hc] at hn
      obtain ⟨pre, x, rest, e, h1, h2, h3, h4⟩ := ka_fh_some hlt r b hn
      exact ⟨h :: pre, x, rest, by rw [e]; rfl, List.forall_mem_cons.mpr ⟨Or.inl hc, h1⟩, h2, h3, h4⟩
theorem kcat_ok : ∀ e ∈ kcatx, ((match kxN[e.1.2]? with
  | some nm => kq e.2 (.classLink (kOwn.getD e.1.1.1 "") e.1.1.2 nm)
  | none => false) && decide (e.1.1.2 ≠ 0)) = true := by decide +kernel
theorem kcat_all : ∀ y, y < 194 → ∀ x ∈ kH y, (kcat.lookup (km_O.getD y 99, x.2.2.2)).isSome = true := by decide +kernel
theorem kcat_at {y i j : Nat} (h : kcat.lookup (km_O.getD y 99, i) = some j) : i ≠ 0 ∧ ∃ nm, kxN[j]? = some nm ∧ Cond.classLink (kN y).cls i nm ∈ kTw := by
  obtain ⟨r, hm⟩ := ka_lkx (l := kcatx) h
  have hc := kcat_ok _ hm
  simp only [Bool.and_eq_true, decide_eq_true_eq] at hc
  obtain ⟨h1, h2⟩ := hc
  refine ⟨h2, ?_⟩
  cases hx : kxN[j]? with
  | none => rw [hx] at h1; cases h1
  | some nm =>
    rw [hx] at h1
    exact ⟨nm, rfl, by rw [kOwn_eq]; exact kw r h1⟩
theorem ko_hnd_ok (E : Nat × Nat) : ko_hnd kTw (kp E) kN kH kxN := by
  intro y pc k
  refine ⟨fun h => ka_fh_none _ _ h, fun hp h hlt => ?_⟩
  have hy : y < 194 ∨ kH y = [] := by
    by_cases hy : y < 194
    · exact Or.inl hy
    · right
      have hl : km_H.length = 194 := by decide +kernel
      unfold kH
      rw [List.getD_eq_getElem?_getD, List.getElem?_eq_none (by omega)]
      rfl
  obtain ⟨pre, x, rest, e, h1, h2, h3, h4⟩ := ka_fh_some hlt _ _ h
  have e' : kH y = pre ++ x :: rest := e
  obtain ⟨g1, nm, g2, g3⟩ := kcat_at h4
  refine ⟨pre, x, rest, e', fun w hw => ?_, h2, g1, h3, nm, g2, g3⟩
  rcases h1 w hw with z | ⟨z1, z2⟩
  · exact Or.inl z
  · right
    rcases hy with hy | hy
    · have hs := kcat_all y hy w (by rw [e']; exact List.mem_append_left _ hw)
      cases hl : kcat.lookup (km_O.getD y 99, w.2.2.2) with
      | none => rw [hl] at hs; cases hs
      | some j =>
        obtain ⟨g1, nm, g2, g3⟩ := kcat_at hl
        refine ⟨z1, g1, j, nm, ?_, g2, g3⟩
        rintro rfl
        exact z2 hl
    · rw [e'] at hy
      simp at hy
def kxic : List Nat := [53, 98, 258, 63]
def kxix : List Nat := [7, 7, 13, 7]
def kxrx : List ByteArray := [prog_15_method_2_code, prog_16_method_2_code, prog_30_method_4_code, prog_23_method_2_code]
def ka_four (w : Cond) : Bool := decide (w = .isRef (.static Bundle.tN "UNASSIGNED_STACK" Bundle.steD)) || decide (w = .isRef (.static Bundle.tN "SUPPRESSED_SENTINEL" Bundle.listD)) || decide (w = .laysStatic Bundle.tN "UNASSIGNED_STACK" Bundle.steD) || decide (w = .laysStatic Bundle.tN "SUPPRESSED_SENTINEL" Bundle.listD)
def kc_oat (k : Nat) (nm : String) (rs : List Nat) : Bool := (ka_oat "KitRows" (kxic.getD k 0) nm (kxix.getD k 0) (kxrx.getD k ⟨#[]⟩)).length == rs.length && ((ka_oat "KitRows" (kxic.getD k 0) nm (kxix.getD k 0) (kxrx.getD k ⟨#[]⟩)).zip rs).all (fun q => kq q.2 q.1 || ka_four q.1)
theorem kc_oat_use {k : Nat} {nm : String} {rs : List Nat} (h : kc_oat k nm rs = true) : ∀ w ∈ ka_oat "KitRows" (kxic.getD k 0) nm (kxix.getD k 0) (kxrx.getD k ⟨#[]⟩), w ∈ kTw ∨ w = .isRef (.static Bundle.tN "UNASSIGNED_STACK" Bundle.steD) ∨ w = .isRef (.static Bundle.tN "SUPPRESSED_SENTINEL" Bundle.listD) ∨ w = .laysStatic Bundle.tN "UNASSIGNED_STACK" Bundle.steD ∨ w = .laysStatic Bundle.tN "SUPPRESSED_SENTINEL" Bundle.listD := by
  intro w hw
  unfold kc_oat at h
  simp only [Bool.and_eq_true, beq_iff_eq, List.all_eq_true] at h
  obtain ⟨h1, h2⟩ := h
  obtain ⟨i, hi⟩ := List.mem_iff_getElem?.mp hw
  have hlt := (List.getElem?_eq_some_iff.mp hi).1
  have hr : rs[i]? = some (rs[i]'(by omega)) := List.getElem?_eq_getElem _
  have h3 := h2 (w, rs[i]'(by omega)) (List.mem_of_getElem? (i := i) (by rw [List.getElem?_zip_eq_some]; exact ⟨hi, hr⟩))
  rw [Bool.or_eq_true] at h3
  rcases h3 with z | z
  · exact Or.inl (kw _ z)
  · unfold ka_four at z
    simp only [Bool.or_eq_true, decide_eq_true_eq, or_assoc] at z
    exact Or.inr z
theorem kx_oat0 : kc_oat 0 "java/lang/IllegalArgumentException" [66, 268, 277, 282, 285, 287, 269, 270, 89, 90, 271, 276, 283, 303, 258, 304, 260, 305, 262, 272, 273, 274, 275, 264, 299, 300, 302, 264, 290, 291, 292, 293, 250, 293, 294, 295, 296, 252, 296, 297, 298, 299, 254, 289, 247, 248, 255, 256, 257, 259, 261, 263, 0, 0, 267, 266, 265] = true := by decide +kernel
theorem kx_rx0 : (decide (decode prog_15_method_2_code 0 = .ok (.aload_n 0, 1)) && decide (decode prog_15_method_2_code 1 = .ok (.aload_n 1, 1)) && decide (decode prog_15_method_2_code 2 = .ok (.invokespecial 7, 3)) && decide (decode prog_15_method_2_code 5 = .ok (.return_, 1)) && Bundle.fit "java/lang/IllegalArgumentException" && kq 247 (.instantiable "java/lang/IllegalArgumentException" 6) && kq 69 (.initialized "java/lang/IllegalArgumentException")) = true := by decide +kernel
theorem kx_oat1 : kc_oat 1 "java/lang/IllegalStateException" [66, 268, 277, 282, 285, 287, 269, 270, 89, 90, 271, 276, 283, 303, 258, 304, 260, 305, 262, 272, 273, 274, 275, 264, 299, 300, 302, 264, 600, 601, 602, 293, 250, 293, 294, 295, 296, 252, 296, 297, 298, 299, 254, 599, 590, 591, 592, 279, 593, 594, 595, 596, 0, 0, 267, 266, 597] = true := by decide +kernel
theorem kx_rx1 : (decide (decode prog_16_method_2_code 0 = .ok (.aload_n 0, 1)) && decide (decode prog_16_method_2_code 1 = .ok (.aload_n 1, 1)) && decide (decode prog_16_method_2_code 2 = .ok (.invokespecial 7, 3)) && decide (decode prog_16_method_2_code 5 = .ok (.return_, 1)) && Bundle.fit "java/lang/IllegalStateException" && kq 590 (.instantiable "java/lang/IllegalStateException" 6) && kq 79 (.initialized "java/lang/IllegalStateException")) = true := by decide +kernel
theorem kx_oat2 : kc_oat 2 "java/util/NoSuchElementException" [66, 268, 277, 282, 285, 287, 269, 270, 89, 90, 271, 276, 283, 303, 258, 304, 260, 305, 262, 272, 273, 274, 275, 264, 299, 300, 302, 264, 630, 631, 632, 293, 250, 293, 294, 295, 296, 252, 296, 297, 298, 299, 254, 629, 620, 621, 622, 281, 623, 624, 625, 626, 0, 0, 267, 266, 627] = true := by decide +kernel
theorem kx_rx2 : (decide (decode prog_30_method_4_code 0 = .ok (.aload_n 0, 1)) && decide (decode prog_30_method_4_code 1 = .ok (.aload_n 1, 1)) && decide (decode prog_30_method_4_code 2 = .ok (.invokespecial 13, 3)) && decide (decode prog_30_method_4_code 5 = .ok (.return_, 1)) && Bundle.fit "java/util/NoSuchElementException" && kq 620 (.instantiable "java/util/NoSuchElementException" 6) && kq 80 (.initialized "java/util/NoSuchElementException")) = true := by decide +kernel
theorem kx_oat3 : kc_oat 3 "java/lang/UnsupportedOperationException" [66, 268, 277, 282, 285, 287, 269, 270, 89, 90, 271, 276, 283, 303, 258, 304, 260, 305, 262, 272, 273, 274, 275, 264, 299, 300, 302, 264, 326, 327, 328, 293, 250, 293, 294, 295, 296, 252, 296, 297, 298, 299, 254, 325, 316, 317, 318, 280, 319, 320, 321, 322, 0, 0, 267, 266, 323] = true := by decide +kernel
theorem kx_rx3 : (decide (decode prog_23_method_2_code 0 = .ok (.aload_n 0, 1)) && decide (decode prog_23_method_2_code 1 = .ok (.aload_n 1, 1)) && decide (decode prog_23_method_2_code 2 = .ok (.invokespecial 7, 3)) && decide (decode prog_23_method_2_code 5 = .ok (.return_, 1)) && Bundle.fit "java/lang/UnsupportedOperationException" && kq 316 (.instantiable "java/lang/UnsupportedOperationException" 6) && kq 70 (.initialized "java/lang/UnsupportedOperationException")) = true := by decide +kernel
def kx_P (k : Nat) (nm : String) : Prop := (decode (kxrx.getD k ⟨#[]⟩) 0 = .ok (.aload_n 0, 1) ∧ decode (kxrx.getD k ⟨#[]⟩) 1 = .ok (.aload_n 1, 1) ∧ decode (kxrx.getD k ⟨#[]⟩) 2 = .ok (.invokespecial (kxix.getD k 0), 3) ∧ decode (kxrx.getD k ⟨#[]⟩) 5 = .ok (.return_, 1)) ∧ Bundle.fit nm = true ∧ Cond.instantiable nm 6 ∈ kTw ∧ Cond.initialized nm ∈ kTw ∧
  ∀ w ∈ ka_oat "KitRows" (kxic.getD k 0) nm (kxix.getD k 0) (kxrx.getD k ⟨#[]⟩), w ∈ kTw ∨ w = .isRef (.static Bundle.tN "UNASSIGNED_STACK" Bundle.steD) ∨ w = .isRef (.static Bundle.tN "SUPPRESSED_SENTINEL" Bundle.listD) ∨ w = .laysStatic Bundle.tN "UNASSIGNED_STACK" Bundle.steD ∨ w = .laysStatic Bundle.tN "SUPPRESSED_SENTINEL" Bundle.listD
theorem kx_P0 : kx_P 0 "java/lang/IllegalArgumentException" := by
  have h := kx_rx0
  simp only [Bool.and_eq_true, decide_eq_true_eq] at h
  obtain ⟨⟨⟨⟨⟨⟨h1, h2⟩, h3⟩, h4⟩, h5⟩, h6⟩, h7⟩ := h
  exact ⟨⟨h1, h2, h3, h4⟩, h5, kw _ h6, kw _ h7, kc_oat_use kx_oat0⟩
theorem kx_P1 : kx_P 1 "java/lang/IllegalStateException" := by
  have h := kx_rx1
  simp only [Bool.and_eq_true, decide_eq_true_eq] at h
  obtain ⟨⟨⟨⟨⟨⟨h1, h2⟩, h3⟩, h4⟩, h5⟩, h6⟩, h7⟩ := h
  exact ⟨⟨h1, h2, h3, h4⟩, h5, kw _ h6, kw _ h7, kc_oat_use kx_oat1⟩
theorem kx_P2 : kx_P 2 "java/util/NoSuchElementException" := by
  have h := kx_rx2
  simp only [Bool.and_eq_true, decide_eq_true_eq] at h
  obtain ⟨⟨⟨⟨⟨⟨h1, h2⟩, h3⟩, h4⟩, h5⟩, h6⟩, h7⟩ := h
  exact ⟨⟨h1, h2, h3, h4⟩, h5, kw _ h6, kw _ h7, kc_oat_use kx_oat2⟩
theorem kx_P3 : kx_P 3 "java/lang/UnsupportedOperationException" := by
  have h := kx_rx3
  simp only [Bool.and_eq_true, decide_eq_true_eq] at h
  obtain ⟨⟨⟨⟨⟨⟨h1, h2⟩, h3⟩, h4⟩, h5⟩, h6⟩, h7⟩ := h
  exact ⟨⟨h1, h2, h3, h4⟩, h5, kw _ h6, kw _ h7, kc_oat_use kx_oat3⟩
theorem kx_all {k : Nat} {nm : String} (h : kxN[k]? = some nm) : kx_P k nm := by
  match k, h with
  | 0, h => cases h; exact kx_P0
  | 1, h => cases h; exact kx_P1
  | 2, h => cases h; exact kx_P2
  | 3, h => cases h; exact kx_P3
  | n + 4, h => cases h
def kc_thr (e : ((Nat × Nat) × (Nat × Nat × Nat)) × (Nat × Nat × Nat × Nat) × (Nat × Nat × String)) : Bool := match kxN[e.1.2.1]? with
  | some nm => decide (e.1.2.2 = (1, 6)) && decide (kH e.1.1.1 = []) && decide (decode (kB e.1.1.1) e.1.1.2 = .ok (.new e.2.1.1, 3)) && decide (decode (kB e.1.1.1) (e.1.1.2 + 3) = .ok (.dup, 1)) &&
    ((decide (decode (kB e.1.1.1) (e.1.1.2 + 4) = .ok (.ldc e.2.1.2.1, 2)) && decide (e.2.1.2.2.2 = e.1.1.2 + 6)) || (decide (decode (kB e.1.1.1) (e.1.1.2 + 4) = .ok (.ldc_w e.2.1.2.1, 3)) && decide (e.2.1.2.2.2 = e.1.1.2 + 7))) &&
    decide (decode (kB e.1.1.1) e.2.1.2.2.2 = .ok (.invokespecial e.2.1.2.2.1, 3)) && decide (decode (kB e.1.1.1) (e.2.1.2.2.2 + 3) = .ok (.athrow, 1)) &&
    kq e.2.2.1 (.classLink (kN e.1.1.1).cls e.2.1.1 nm) && kq e.2.2.2.1 (.stringRef (kN e.1.1.1).cls e.2.1.2.1 e.2.2.2.2) && decide ((kN e.1.1.1).cls = "KitRows") && decide (e.2.1.2.2.1 = kxic.getD e.1.2.1 0)
  | none => false
theorem kthr_ok : ∀ e ∈ kthrx, kc_thr e = true := by decide +kernel
theorem ko_thr_ok (E : Nat × Nat) : ko_thr kTw (kp E) kN kB kH kxN := by
  intro y pc k nc ns h
  obtain ⟨⟨⟨ik, is, ic, pc2⟩, r1, r2, tx⟩, hm⟩ := ka_lkx (l := kthrx) h
  have hc := kthr_ok _ hm
  unfold kc_thr at hc
  dsimp only at hc
  cases hx : kxN[k]? with
  | none => rw [hx] at hc; cases hc
  | some nm =>
    rw [hx] at hc
    simp only [Bool.and_eq_true, Bool.or_eq_true, decide_eq_true_eq, Prod.mk.injEq] at hc
    obtain ⟨⟨⟨⟨⟨⟨⟨⟨⟨⟨⟨h1, h2⟩, h3⟩, h4⟩, h5⟩, h6⟩, h7⟩, h8⟩, h9⟩, h10⟩, h11⟩, h12⟩ := hc
    obtain ⟨g1, g2, g3, g4, g5⟩ := kx_all hx
    refine ⟨h1, h2, h3, ik, is, ic, kxix.getD k 0, pc2, kxrx.getD k ⟨#[]⟩, tx, nm, h4, h5, h6, h7, h8, g1, rfl, g2, kw r1 h9, g3, g4, kw r2 h10, ?_⟩
    rw [h11, h12]
    exact g5
