/-! The machine never writes on a cell of the script's kind. Printed by wip/whole/genk.py. -/
section
variable {ls : List (Option Value)} {st : List Value} {s : ka_S} {b : Nat} {e : ka_E}
theorem ka_up_k {h : ka_H} {a t : Nat} {vs : List Value} {e' : ka_E} (he : e.1 = 4000) (hs : h b = some e) (ha : h a = some (t, vs)) (ht : t ≠ 4000) : ka_up h a e' b = some e := by
  unfold ka_up
  rw [if_neg]
  · exact hs
  · intro z
    rw [← z, hs] at ha
    injection ha with ha
    rw [ha] at he
    exact ht he
theorem ka_ast_k {t a : Nat} {j : Int32} {v : Value} {f g : ka_S → Prop} (he : e.1 = 4000) (hs : s.1 b = some e) (ht : t ≠ 4000) (h : ∀ s, s.1 b = some e → f s → g s) (k : ka_ast t s a j v f) : ka_ast t s a j v g := by
  obtain ⟨vs, h1, h2, h3, h4⟩ := k
  exact ⟨vs, h1, h2, h3, h _ (ka_up_k he hs h1 ht) h4⟩
theorem ka_mk_k {e' : ka_E} {f g : Nat → ka_S → Prop} (hs : s.1 b = some e) (h : ∀ a s, s.1 b = some e → f a s → g a s) (k : ka_mk s e' f) : ka_mk s e' g := ⟨k.1, k.2.1, fun a ha => h _ _ (by
  show (if b = a then some e' else s.1 b) = some e
  rw [if_neg]
  · exact hs
  · intro z
    rw [← z, hs] at ha
    cases ha) (k.2.2 a ha)⟩
theorem ka_nwa_k {t : Nat} {v0 : Value} {f g : List Value → ka_S → Prop} (hs : s.1 b = some e) (h : ∀ l s, s.1 b = some e → f l s → g l s) (k : ka_nwa t v0 s st f) : ka_nwa t v0 s st g := by
  unfold ka_nwa at k ⊢
  split at k
  · exact ⟨k.1, k.2.1, ka_mk_k hs (fun _ _ w q => h _ _ w q) k.2.2⟩
  · exact k
theorem ka_prim_k {k d : Nat} {w : Option Value} {f g : List Value → ka_S → Prop} (he : e.1 = 4000) (hs : s.1 b = some e) (h : ∀ l s, s.1 b = some e → f l s → g l s) (q : ka_prim k d w s st f) : ka_prim k d w s st g := by
  unfold ka_prim at q ⊢
  split at q
  · split at q
    · exact ⟨q.1, q.2.1, q.2.2.1, h _ _ hs q.2.2.2⟩
    · exact q
  · split at q
    · obtain ⟨h0, h1, h2, h3, h4, vs, us, h5, h6, h7, h8, h9, h10, h11⟩ := q
      exact ⟨h0, h1, h2, h3, h4, vs, us, h5, h6, h7, h8, h9, h10, h _ _ (ka_up_k he hs h6 (by decide)) h11⟩
    · exact q
  · split at q
    · exact ⟨q.1, q.2.1, h _ _ hs q.2.2⟩
    · exact q
  · split at q
    · exact ⟨q.1, q.2.1, h _ _ hs q.2.2⟩
    · exact q
  · split at q
    · exact ⟨q.1, q.2.1, h _ _ hs q.2.2⟩
    · exact q
  · split at q
    · exact ⟨q.1, q.2.1, h _ _ hs q.2.2⟩
    · exact q
  · exact q
end
section
variable {P : ka_P} {d y pc n b : Nat} {e : ka_E} {ls : List (Option Value)} {s : ka_S} {st : List Value} {Q Q' : ka_Q} {K K' : Nat → List (Option Value) → List Value → ka_S → Prop} {C C' : Nat → Nat → List Value → ka_S → ka_Q → Prop}
theorem ka_inv_k {kd i : Nat} (he : e.1 = 4000) (hF : ∀ y i t k ty, P.fld y i = some (t, k, ty) → t ≠ 4000) (hs : s.1 b = some e) (hK : ∀ pc ls st s, s.1 b = some e → K pc ls st s → K' pc ls st s) (hC : ∀ d z as s P', s.1 b = some e → C d z as s P' → C' d z as s (fun o s => P' o s ∧ s.1 b = some e)) (hQ : ∀ o s, s.1 b = some e → Q o s → Q' o s) (q : ka_inv P kd d y pc n i ls s st Q K C) : ka_inv P kd d y pc n i ls s st Q' K' C' := by
  unfold ka_inv at q ⊢
  split at q
  · exact ⟨q.1, ka_prim_k he hs (fun _ _ w z => hK _ _ _ _ w z) q.2⟩
  · split at q
    · obtain ⟨h1, h2, h3, h3a, h3b, h4, P', h5, h6, h7⟩ := q
      refine ⟨h1, h2, h3, h3a, h3b, h4, _, hC _ _ _ _ _ hs h5, fun v s' z => hK _ _ _ _ z.2 (h6 v s' z.1), fun k s' z => ?_⟩
      have z7 := h7 k s' z.1
      split at z7
      · exact hQ _ _ z.2 z7
      · exact ⟨z7.1, fun a => hK _ _ _ _ z.2 (z7.2 a)⟩
    · exact q
theorem ka_I_k {i : Instr} (he : e.1 = 4000) (hF : ∀ y i t k ty, P.fld y i = some (t, k, ty) → t ≠ 4000) (hs : s.1 b = some e) (hK : ∀ pc ls st s, s.1 b = some e → K pc ls st s → K' pc ls st s) (hC : ∀ d z as s P', s.1 b = some e → C d z as s P' → C' d z as s (fun o s => P' o s ∧ s.1 b = some e)) (hQ : ∀ o s, s.1 b = some e → Q o s → Q' o s) (q : ka_I P d y pc ls s Q n st K C i) : ka_I P d y pc ls s Q' n st K' C' i := by
  cases i with
  | aconst_null => exact hK _ _ _ _ hs q
  | iconst v => exact hK _ _ _ _ hs q
  | bipush v => exact hK _ _ _ _ hs q
  | sipush v => exact hK _ _ _ _ hs q
  | lconst v => exact hK _ _ _ _ hs q
  | ldc i =>
    simp only [ka_I] at q ⊢
    split at q
    · exact ⟨q.1, hK _ _ _ _ hs q.2⟩
    · split at q
      · exact ⟨q.1, hK _ _ _ _ hs q.2⟩
      · exact q
    · exact q
  | ldc2_w i =>
    simp only [ka_I] at q ⊢
    split at q
    · exact hK _ _ _ _ hs q
    · exact q
  | iload i =>
    simp only [ka_I] at q ⊢
    exact ka_ldI_m (fun _ z => hK _ _ _ _ hs z) q
  | iload_n i =>
    simp only [ka_I] at q ⊢
    exact ka_ldI_m (fun _ z => hK _ _ _ _ hs z) q
  | lload i =>
    simp only [ka_I] at q ⊢
    exact ka_ldL_m (fun _ z => hK _ _ _ _ hs z) q
  | lload_n i =>
    simp only [ka_I] at q ⊢
    exact ka_ldL_m (fun _ z => hK _ _ _ _ hs z) q
  | aload i =>
    simp only [ka_I] at q ⊢
    exact ka_ldA_m (fun _ z => hK _ _ _ _ hs z) q
  | aload_n i =>
    simp only [ka_I] at q ⊢
    exact ka_ldA_m (fun _ z => hK _ _ _ _ hs z) q
  | istore i =>
    simp only [ka_I] at q ⊢
    exact ka_stI_m (fun _ _ z => hK _ _ _ _ hs z) q
  | istore_n i =>
    simp only [ka_I] at q ⊢
    exact ka_stI_m (fun _ _ z => hK _ _ _ _ hs z) q
  | lstore i =>
    simp only [ka_I] at q ⊢
    exact ka_stL_m (fun _ _ z => hK _ _ _ _ hs z) q
  | lstore_n i =>
    simp only [ka_I] at q ⊢
    exact ka_stL_m (fun _ _ z => hK _ _ _ _ hs z) q
  | astore i =>
    simp only [ka_I] at q ⊢
    exact ka_stA_m (fun _ _ z => hK _ _ _ _ hs z) q
  | astore_n i =>
    simp only [ka_I] at q ⊢
    exact ka_stA_m (fun _ _ z => hK _ _ _ _ hs z) q
  | iinc i c =>
    simp only [ka_I] at q ⊢
    exact ka_ldI_m (fun _ z => ka_b1_m (fun _ _ z => ⟨z.1, z.2.1, hK _ _ _ _ hs z.2.2⟩) z) q
  | iadd => exact ka_b2_m (fun _ _ _ z => hK _ _ _ _ hs z) q
  | isub => exact ka_b2_m (fun _ _ _ z => hK _ _ _ _ hs z) q
  | imul => exact ka_b2_m (fun _ _ _ z => hK _ _ _ _ hs z) q
  | iand => exact ka_b2_m (fun _ _ _ z => hK _ _ _ _ hs z) q
  | ior => exact ka_b2_m (fun _ _ _ z => hK _ _ _ _ hs z) q
  | ixor => exact ka_b2_m (fun _ _ _ z => hK _ _ _ _ hs z) q
  | idiv => exact ka_b2_m (fun _ _ _ z => ⟨z.1, hK _ _ _ _ hs z.2⟩) q
  | irem => exact ka_b2_m (fun _ _ _ z => ⟨z.1, hK _ _ _ _ hs z.2⟩) q
  | ineg => exact ka_b1_m (fun _ _ z => hK _ _ _ _ hs z) q
  | ishl => exact ka_b2_m (fun _ _ _ z => hK _ _ _ _ hs z) q
  | ishr => exact ka_b2_m (fun _ _ _ z => hK _ _ _ _ hs z) q
  | ladd => exact ka_l2_m (fun _ _ _ z => hK _ _ _ _ hs z) q
  | lsub => exact ka_l2_m (fun _ _ _ z => hK _ _ _ _ hs z) q
  | lmul => exact ka_l2_m (fun _ _ _ z => hK _ _ _ _ hs z) q
  | lcmp => exact ka_l2_m (fun _ _ _ z => hK _ _ _ _ hs z) q
  | i2l => exact ka_b1_m (fun _ _ z => hK _ _ _ _ hs z) q
  | l2i => exact ka_l1_m (fun _ _ z => hK _ _ _ _ hs z) q
  | i2c => exact ka_b1_m (fun _ _ z => hK _ _ _ _ hs z) q
  | dup =>
    simp only [ka_I] at q ⊢
    split at q
    · exact ⟨q.1, hK _ _ _ _ hs q.2⟩
    · exact q
  | dup_x1 =>
    simp only [ka_I] at q ⊢
    split at q
    · exact ⟨q.1, q.2.1, hK _ _ _ _ hs q.2.2⟩
    · exact q
  | dup_x2 =>
    simp only [ka_I] at q ⊢
    split at q
    · exact ⟨q.1, q.2.1, q.2.2.1, hK _ _ _ _ hs q.2.2.2⟩
    · exact q
  | dup2 =>
    simp only [ka_I] at q ⊢
    split at q
    · exact ⟨q.1, q.2.1, hK _ _ _ _ hs q.2.2⟩
    · exact q
  | pop =>
    simp only [ka_I] at q ⊢
    split at q
    · exact ⟨q.1, hK _ _ _ _ hs q.2⟩
    · exact q
  | goto o => exact ka_tgt_m (fun _ z => hK _ _ _ _ hs z) q
  | ifCond c o => exact ka_b1_m (fun _ _ z => ka_tgt_m (fun _ z => ⟨fun w => hK _ _ _ _ hs (z.1 w), fun w => hK _ _ _ _ hs (z.2 w)⟩) z) q
  | if_icmp c o => exact ka_b2_m (fun _ _ _ z => ka_tgt_m (fun _ z => ⟨fun w => hK _ _ _ _ hs (z.1 w), fun w => hK _ _ _ _ hs (z.2 w)⟩) z) q
  | if_acmp c o =>
    simp only [ka_I] at q ⊢
    split at q
    · refine ⟨q.1, q.2.1, ?_⟩
      have z := q.2.2
      cases c with
      | eq => exact ka_tgt_m (fun _ z => ⟨fun w => hK _ _ _ _ hs (z.1 w), fun w => hK _ _ _ _ hs (z.2 w)⟩) z
      | ne => exact ka_tgt_m (fun _ z => ⟨fun w => hK _ _ _ _ hs (z.1 w), fun w => hK _ _ _ _ hs (z.2 w)⟩) z
    · exact q
  | ifnull o =>
    simp only [ka_I] at q ⊢
    split at q
    · exact ⟨q.1, fun w => ka_tgt_m (fun _ z => hK _ _ _ _ hs z) (q.2.1 w), fun w => hK _ _ _ _ hs (q.2.2 w)⟩
    · exact q
  | ifnonnull o =>
    simp only [ka_I] at q ⊢
    split at q
    · exact ⟨q.1, fun w => ka_tgt_m (fun _ z => hK _ _ _ _ hs z) (q.2.1 w), fun w => hK _ _ _ _ hs (q.2.2 w)⟩
    · exact q
  | tableswitch df lo hi os => exact ka_b1_m (fun _ _ z => ⟨fun w => ka_tgt_m (fun _ z => hK _ _ _ _ hs z) (z.1 w), fun a b => (by obtain ⟨o, c, k⟩ := z.2 a b; exact ⟨o, c, ka_tgt_m (fun _ z => hK _ _ _ _ hs z) k⟩)⟩) q
  | lookupswitch df ps => exact ka_b1_m (fun _ _ z => ⟨z.1, ka_tgt_m (fun _ z => hK _ _ _ _ hs z) z.2⟩) q
  | getstatic i =>
    simp only [ka_I] at q ⊢
    split at q
    · exact ⟨q.1, hK _ _ _ _ hs q.2⟩
    · exact q
  | getfield i =>
    simp only [ka_I] at q ⊢
    split at q
    · split at q
      · obtain ⟨vs, v, h1, h2, h3⟩ := q
        exact ⟨vs, v, h1, h2, hK _ _ _ _ hs h3⟩
      · exact q
    · exact q
  | putfield i =>
    simp only [ka_I] at q ⊢
    split at q
    · split at q
      · obtain ⟨vs, h1, h2, h3, h4, h5⟩ := q
        rename_i hf _
        exact ⟨vs, h1, h2, h3, h4, hK _ _ _ _ (ka_up_k he hs h1 (hF _ _ _ _ _ hf)) h5⟩
      · exact q
    · exact q
  | new i =>
    simp only [ka_I] at q ⊢
    split at q
    · exact ka_mk_k hs (fun _ _ w z => hK _ _ _ _ w z) q
    · exact q
  | newarray t =>
    cases t with
    | int => exact ka_nwa_k hs (fun _ _ w z => hK _ _ _ _ w z) q
    | long => exact ka_nwa_k hs (fun _ _ w z => hK _ _ _ _ w z) q
    | char => exact ka_nwa_k hs (fun _ _ w z => hK _ _ _ _ w z) q
    | _ => exact q
  | anewarray i =>
    simp only [ka_I] at q ⊢
    split at q
    · exact ka_nwa_k hs (fun _ _ w z => hK _ _ _ _ w z) q
    · exact q
  | arraylength =>
    simp only [ka_I] at q ⊢
    split at q
    · obtain ⟨t, vs, h1, h2, h3⟩ := q
      exact ⟨t, vs, h1, h2, hK _ _ _ _ hs h3⟩
    · exact q
  | iaload =>
    simp only [ka_I] at q ⊢
    split at q
    · obtain ⟨t, vs, v, h1, h2, h3, h4, h5⟩ := q
      exact ⟨t, vs, v, h1, h2, h3, h4, hK _ _ _ _ hs h5⟩
    · exact q
  | laload => exact ka_ald_m (fun _ _ z => hK _ _ _ _ hs z) q
  | caload => exact ka_ald_m (fun _ _ z => hK _ _ _ _ hs z) q
  | aaload =>
    simp only [ka_I] at q ⊢
    split at q
    · obtain ⟨t, vs, v, h1, h2, h3, h4, h5, h6⟩ := q
      exact ⟨t, vs, v, h1, h2, h3, h4, h5, hK _ _ _ _ hs h6⟩
    · exact q
  | iastore =>
    simp only [ka_I] at q ⊢
    split at q
    · exact ka_ast_k he hs (by decide) (fun _ w z => hK _ _ _ _ w z) q
    · exact q
  | lastore =>
    simp only [ka_I] at q ⊢
    split at q
    · exact ka_ast_k he hs (by decide) (fun _ w z => hK _ _ _ _ w z) q
    · exact q
  | castore =>
    simp only [ka_I] at q ⊢
    split at q
    · exact ⟨q.1, ka_ast_k he hs (by decide) (fun _ w z => hK _ _ _ _ w z) q.2⟩
    · exact q
  | aastore =>
    simp only [ka_I] at q ⊢
    split at q
    · obtain ⟨t, h1, h2, h3⟩ := q
      exact ⟨t, h1, h2, ka_ast_k he hs (by omega) (fun _ w z => hK _ _ _ _ w z) h3⟩
    · obtain ⟨t, u, vs, h1, h2, h3, h4⟩ := q
      exact ⟨t, u, vs, h1, h2, h3, ka_ast_k he hs (by omega) (fun _ w z => hK _ _ _ _ w z) h4⟩
    · exact q
  | checkcast i =>
    simp only [ka_I] at q ⊢
    split at q
    · exact hK _ _ _ _ hs q
    · split at q
      · obtain ⟨vs, h1, h2⟩ := q
        exact ⟨vs, h1, hK _ _ _ _ hs h2⟩
      · exact q
    · exact q
  | invokevirtual i => exact ka_inv_k he hF hs hK hC hQ q
  | invokespecial i => exact ka_inv_k he hF hs hK hC hQ q
  | invokestatic i => exact ka_inv_k he hF hs hK hC hQ q
  | ireturn =>
    simp only [ka_I] at q ⊢
    split at q
    · split at q
      · exact ⟨q.1, hQ _ _ hs q.2⟩
      · exact q
    · exact q
  | lreturn =>
    simp only [ka_I] at q ⊢
    split at q
    · exact ⟨q.1, hQ _ _ hs q.2⟩
    · exact q
  | areturn =>
    simp only [ka_I] at q ⊢
    split at q
    · exact ⟨q.1, q.2.1, hQ _ _ hs q.2.2⟩
    · exact q
  | return_ =>
    simp only [ka_I] at q ⊢
    split at q
    · exact ⟨q.1, hQ _ _ hs q.2⟩
    · exact q
  | _ => exact q
end
theorem ka_keep {P : ka_P} {b : Nat} {e : ka_E} (he : e.1 = 4000) (hF : ∀ y i t k ty, P.fld y i = some (t, k, ty) → t ≠ 4000) {c : ka_C} {Q : ka_Q} (h : ka_W P c Q) : c.2.2.1 b = some e → ka_W P c (fun o s => Q o s ∧ s.1 b = some e) := by
  refine h (fun c Q => c.2.2.1 b = some e → ka_W P c (fun o s => Q o s ∧ s.1 b = some e)) ?_
  intro c Q q hs
  refine ka_go ?_
  obtain ⟨d, ⟨y, pc, ls, st⟩, s⟩ := c
  simp only [ka_step] at q ⊢
  split at q
  · exact ⟨q.1, q.2.1, q.2.2.1, q.2.2.2.1, q.2.2.2.2, hs⟩
  · split at q
    · exact q
    · exact ka_I_k he hF hs (fun _ _ _ _ w z => z w) (fun _ _ _ _ _ w z => z w) (fun _ _ w z => ⟨z, w⟩) q
theorem kf_4 : ∀ p ∈ kf, p.2.1 ≠ 4000 := by decide +kernel
theorem klk_mem {α β : Type} [BEq α] [LawfulBEq α] {a : α} {x : β} : ∀ {l : List (α × β)}, l.lookup a = some x → (a, x) ∈ l
  | [], h => by cases h
  | (b, y) :: r, h => by
    unfold List.lookup at h
    split at h
    · rename_i hb
      have := LawfulBEq.eq_of_beq hb
      injection h with h
      rw [this, h]
      exact List.mem_cons_self
    · exact List.mem_cons_of_mem _ (klk_mem h)
theorem kkeep {E : Nat × Nat} {b d y pc c l : Nat} {e : ka_E} {ls : List (Option Value)} {st : List Value} {h : ka_H} {Q : ka_Q} (he : e.1 = 4000) (hb : h b = some e) (H : ka_W (kp E) (d, (y, pc, ls, st), (h, c, l)) (fun o s => s.1 b = some e → Q o s)) : ka_W (kp E) (d, (y, pc, ls, st), (h, c, l)) Q :=
  ka_wide (ka_keep he (fun y i t k ty z => kf_4 _ (klk_mem z)) H hb) (fun o s z => z.1 z.2)
