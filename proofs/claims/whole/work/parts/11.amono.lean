/-! The transformer grows with its parts; unfolding, folding, a wider end. -/
section
variable {ls : List (Option Value)} {st : List Value} {s : ka_S}
theorem ka_ldI_m {i : Nat} {f g : Value → Prop} (h : ∀ v, f v → g v) (k : ka_ldI ls i f) : ka_ldI ls i g := by
  unfold ka_ldI at k ⊢
  split at k
  · exact h _ k
  · exact k
theorem ka_ldL_m {i : Nat} {f g : Value → Prop} (h : ∀ v, f v → g v) (k : ka_ldL ls i f) : ka_ldL ls i g := by
  unfold ka_ldL at k ⊢
  split at k
  · exact h _ k
  · exact k
theorem ka_ldA_m {i : Nat} {f g : Value → Prop} (h : ∀ v, f v → g v) (k : ka_ldA ls i f) : ka_ldA ls i g := by
  unfold ka_ldA at k ⊢
  split at k
  · exact ⟨k.1, h _ k.2⟩
  · exact k
theorem ka_stI_m {i : Nat} {f g : List (Option Value) → List Value → Prop} (h : ∀ l r, f l r → g l r) (k : ka_stI ls i st f) : ka_stI ls i st g := by
  unfold ka_stI at k ⊢
  split at k
  · exact ⟨k.1, k.2.1, h _ _ k.2.2⟩
  · exact k
theorem ka_stL_m {i : Nat} {f g : List (Option Value) → List Value → Prop} (h : ∀ l r, f l r → g l r) (k : ka_stL ls i st f) : ka_stL ls i st g := by
  unfold ka_stL at k ⊢
  split at k
  · exact ⟨k.1, k.2.1, h _ _ k.2.2⟩
  · exact k
theorem ka_stA_m {i : Nat} {f g : List (Option Value) → List Value → Prop} (h : ∀ l r, f l r → g l r) (k : ka_stA ls i st f) : ka_stA ls i st g := by
  unfold ka_stA at k ⊢
  split at k
  · exact ⟨k.1, k.2.1, k.2.2.1, h _ _ k.2.2.2⟩
  · exact k
theorem ka_b2_m {f g : Int32 → Int32 → List Value → Prop} (h : ∀ x y r, f x y r → g x y r) (k : ka_b2 st f) : ka_b2 st g := by
  unfold ka_b2 at k ⊢
  split at k
  · exact h _ _ _ k
  · exact k
theorem ka_l2_m {f g : Int64 → Int64 → List Value → Prop} (h : ∀ x y r, f x y r → g x y r) (k : ka_l2 st f) : ka_l2 st g := by
  unfold ka_l2 at k ⊢
  split at k
  · exact h _ _ _ k
  · exact k
theorem ka_b1_m {f g : Int32 → List Value → Prop} (h : ∀ x r, f x r → g x r) (k : ka_b1 st f) : ka_b1 st g := by
  unfold ka_b1 at k ⊢
  split at k
  · exact h _ _ k
  · exact k
theorem ka_l1_m {f g : Int64 → List Value → Prop} (h : ∀ x r, f x r → g x r) (k : ka_l1 st f) : ka_l1 st g := by
  unfold ka_l1 at k ⊢
  split at k
  · exact h _ _ k
  · exact k
theorem ka_tgt_m {pc : Nat} {o : Int} {f g : Nat → Prop} (h : ∀ t, f t → g t) (k : ka_tgt pc o f) : ka_tgt pc o g := by
  unfold ka_tgt at k ⊢
  split at k
  · exact h _ k
  · exact k
theorem ka_ald_m {t : Nat} {f g : Value → List Value → Prop} (h : ∀ v r, f v r → g v r) (k : ka_ald t s st f) : ka_ald t s st g := by
  unfold ka_ald at k ⊢
  split at k
  · obtain ⟨vs, v, h1, h2, h3, h4⟩ := k
    exact ⟨vs, v, h1, h2, h3, h _ _ h4⟩
  · exact k
theorem ka_ast_m {t a : Nat} {j : Int32} {v : Value} {f g : ka_S → Prop} (h : ∀ s, f s → g s) (k : ka_ast t s a j v f) : ka_ast t s a j v g := by
  obtain ⟨vs, h1, h2, h3, h4⟩ := k
  exact ⟨vs, h1, h2, h3, h _ h4⟩
theorem ka_mk_m {e : ka_E} {f g : Nat → ka_S → Prop} (h : ∀ a s, f a s → g a s) (k : ka_mk s e f) : ka_mk s e g := ⟨k.1, k.2.1, fun a ha => h _ _ (k.2.2 a ha)⟩
theorem ka_nwa_m {t : Nat} {v0 : Value} {f g : List Value → ka_S → Prop} (h : ∀ l s, f l s → g l s) (k : ka_nwa t v0 s st f) : ka_nwa t v0 s st g := by
  unfold ka_nwa at k ⊢
  split at k
  · exact ⟨k.1, k.2.1, ka_mk_m (fun _ _ q => h _ _ q) k.2.2⟩
  · exact k
theorem ka_prim_m {k d : Nat} {w : Option Value} {f g : List Value → ka_S → Prop} (h : ∀ l s, f l s → g l s) (q : ka_prim k d w s st f) : ka_prim k d w s st g := by
  unfold ka_prim at q ⊢
  split at q
  · split at q
    · exact ⟨q.1, q.2.1, q.2.2.1, h _ _ q.2.2.2⟩
    · exact q
  · split at q
    · obtain ⟨h0, h1, h2, h3, h4, vs, us, h5, h6, h7, h8, h9, h10, h11⟩ := q
      exact ⟨h0, h1, h2, h3, h4, vs, us, h5, h6, h7, h8, h9, h10, h _ _ h11⟩
    · exact q
  · split at q
    · exact ⟨q.1, q.2.1, h _ _ q.2.2⟩
    · exact q
  · split at q
    · exact ⟨q.1, q.2.1, h _ _ q.2.2⟩
    · exact q
  · split at q
    · exact ⟨q.1, q.2.1, h _ _ q.2.2⟩
    · exact q
  · split at q
    · exact ⟨q.1, q.2.1, h _ _ q.2.2⟩
    · exact q
  · exact q
end
section
variable {P : ka_P} {d y pc n : Nat} {ls : List (Option Value)} {s : ka_S} {st : List Value} {Q Q' : ka_Q} {K K' : Nat → List (Option Value) → List Value → ka_S → Prop} {C C' : Nat → Nat → List Value → ka_S → ka_Q → Prop}
theorem ka_inv_m {kd i : Nat} (hK : ∀ pc ls st s, K pc ls st s → K' pc ls st s) (hC : ∀ d z as s P', C d z as s P' → C' d z as s P') (hQ : ∀ o s, Q o s → Q' o s) (q : ka_inv P kd d y pc n i ls s st Q K C) : ka_inv P kd d y pc n i ls s st Q' K' C' := by
  unfold ka_inv at q ⊢
  split at q
  · exact ⟨q.1, ka_prim_m (fun _ _ z => hK _ _ _ _ z) q.2⟩
  · split at q
    · obtain ⟨h1, h2, h3, h3a, h3b, h4, P', h5, h6, h7⟩ := q
      refine ⟨h1, h2, h3, h3a, h3b, h4, P', hC _ _ _ _ _ h5, fun v s' z => hK _ _ _ _ (h6 v s' z), fun k s' z => ?_⟩
      have z7 := h7 k s' z
      split at z7
      · exact hQ _ _ z7
      · exact ⟨z7.1, fun a => hK _ _ _ _ (z7.2 a)⟩
    · exact q
theorem ka_I_m {i : Instr} (hK : ∀ pc ls st s, K pc ls st s → K' pc ls st s) (hC : ∀ d z as s P', C d z as s P' → C' d z as s P') (hQ : ∀ o s, Q o s → Q' o s) (q : ka_I P d y pc ls s Q n st K C i) : ka_I P d y pc ls s Q' n st K' C' i := by
  cases i with
  | aconst_null => exact hK _ _ _ _ q
  | iconst v => exact hK _ _ _ _ q
  | bipush v => exact hK _ _ _ _ q
  | sipush v => exact hK _ _ _ _ q
  | lconst v => exact hK _ _ _ _ q
  | ldc i =>
    simp only [ka_I] at q ⊢
    split at q
    · exact ⟨q.1, hK _ _ _ _ q.2⟩
    · split at q
      · exact ⟨q.1, hK _ _ _ _ q.2⟩
      · exact q
    · exact q
  | ldc2_w i =>
    simp only [ka_I] at q ⊢
    split at q
    · exact hK _ _ _ _ q
    · exact q
  | iload i =>
    simp only [ka_I] at q ⊢
    exact ka_ldI_m (fun _ z => hK _ _ _ _ z) q
  | iload_n i =>
    simp only [ka_I] at q ⊢
    exact ka_ldI_m (fun _ z => hK _ _ _ _ z) q
  | lload i =>
    simp only [ka_I] at q ⊢
    exact ka_ldL_m (fun _ z => hK _ _ _ _ z) q
  | lload_n i =>
    simp only [ka_I] at q ⊢
    exact ka_ldL_m (fun _ z => hK _ _ _ _ z) q
  | aload i =>
    simp only [ka_I] at q ⊢
    exact ka_ldA_m (fun _ z => hK _ _ _ _ z) q
  | aload_n i =>
    simp only [ka_I] at q ⊢
    exact ka_ldA_m (fun _ z => hK _ _ _ _ z) q
  | istore i =>
    simp only [ka_I] at q ⊢
    exact ka_stI_m (fun _ _ z => hK _ _ _ _ z) q
  | istore_n i =>
    simp only [ka_I] at q ⊢
    exact ka_stI_m (fun _ _ z => hK _ _ _ _ z) q
  | lstore i =>
    simp only [ka_I] at q ⊢
    exact ka_stL_m (fun _ _ z => hK _ _ _ _ z) q
  | lstore_n i =>
    simp only [ka_I] at q ⊢
    exact ka_stL_m (fun _ _ z => hK _ _ _ _ z) q
  | astore i =>
    simp only [ka_I] at q ⊢
    exact ka_stA_m (fun _ _ z => hK _ _ _ _ z) q
  | astore_n i =>
    simp only [ka_I] at q ⊢
    exact ka_stA_m (fun _ _ z => hK _ _ _ _ z) q
  | iinc i c =>
    simp only [ka_I] at q ⊢
    exact ka_ldI_m (fun _ z => ka_b1_m (fun _ _ z => ⟨z.1, z.2.1, hK _ _ _ _ z.2.2⟩) z) q
  | iadd => exact ka_b2_m (fun _ _ _ z => hK _ _ _ _ z) q
  | isub => exact ka_b2_m (fun _ _ _ z => hK _ _ _ _ z) q
  | imul => exact ka_b2_m (fun _ _ _ z => hK _ _ _ _ z) q
  | iand => exact ka_b2_m (fun _ _ _ z => hK _ _ _ _ z) q
  | ior => exact ka_b2_m (fun _ _ _ z => hK _ _ _ _ z) q
  | ixor => exact ka_b2_m (fun _ _ _ z => hK _ _ _ _ z) q
  | idiv => exact ka_b2_m (fun _ _ _ z => ⟨z.1, hK _ _ _ _ z.2⟩) q
  | irem => exact ka_b2_m (fun _ _ _ z => ⟨z.1, hK _ _ _ _ z.2⟩) q
  | ineg => exact ka_b1_m (fun _ _ z => hK _ _ _ _ z) q
  | ishl => exact ka_b2_m (fun _ _ _ z => hK _ _ _ _ z) q
  | ishr => exact ka_b2_m (fun _ _ _ z => hK _ _ _ _ z) q
  | ladd => exact ka_l2_m (fun _ _ _ z => hK _ _ _ _ z) q
  | lsub => exact ka_l2_m (fun _ _ _ z => hK _ _ _ _ z) q
  | lmul => exact ka_l2_m (fun _ _ _ z => hK _ _ _ _ z) q
  | lcmp => exact ka_l2_m (fun _ _ _ z => hK _ _ _ _ z) q
  | i2l => exact ka_b1_m (fun _ _ z => hK _ _ _ _ z) q
  | l2i => exact ka_l1_m (fun _ _ z => hK _ _ _ _ z) q
  | i2c => exact ka_b1_m (fun _ _ z => hK _ _ _ _ z) q
  | dup =>
    simp only [ka_I] at q ⊢
    split at q
    · exact ⟨q.1, hK _ _ _ _ q.2⟩
    · exact q
  | dup_x1 =>
    simp only [ka_I] at q ⊢
    split at q
    · exact ⟨q.1, q.2.1, hK _ _ _ _ q.2.2⟩
    · exact q
  | dup_x2 =>
    simp only [ka_I] at q ⊢
    split at q
    · exact ⟨q.1, q.2.1, q.2.2.1, hK _ _ _ _ q.2.2.2⟩
    · exact q
  | dup2 =>
    simp only [ka_I] at q ⊢
    split at q
    · exact ⟨q.1, q.2.1, hK _ _ _ _ q.2.2⟩
    · exact q
  | pop =>
    simp only [ka_I] at q ⊢
    split at q
    · exact ⟨q.1, hK _ _ _ _ q.2⟩
    · exact q
  | goto o => exact ka_tgt_m (fun _ z => hK _ _ _ _ z) q
  | ifCond c o => exact ka_b1_m (fun _ _ z => ka_tgt_m (fun _ z => ⟨fun w => hK _ _ _ _ (z.1 w), fun w => hK _ _ _ _ (z.2 w)⟩) z) q
  | if_icmp c o => exact ka_b2_m (fun _ _ _ z => ka_tgt_m (fun _ z => ⟨fun w => hK _ _ _ _ (z.1 w), fun w => hK _ _ _ _ (z.2 w)⟩) z) q
  | if_acmp c o =>
    simp only [ka_I] at q ⊢
    split at q
    · refine ⟨q.1, q.2.1, ?_⟩
      have z := q.2.2
      cases c with
      | eq => exact ka_tgt_m (fun _ z => ⟨fun w => hK _ _ _ _ (z.1 w), fun w => hK _ _ _ _ (z.2 w)⟩) z
      | ne => exact ka_tgt_m (fun _ z => ⟨fun w => hK _ _ _ _ (z.1 w), fun w => hK _ _ _ _ (z.2 w)⟩) z
    · exact q
  | ifnull o =>
    simp only [ka_I] at q ⊢
    split at q
    · exact ⟨q.1, fun w => ka_tgt_m (fun _ z => hK _ _ _ _ z) (q.2.1 w), fun w => hK _ _ _ _ (q.2.2 w)⟩
    · exact q
  | ifnonnull o =>
    simp only [ka_I] at q ⊢
    split at q
    · exact ⟨q.1, fun w => ka_tgt_m (fun _ z => hK _ _ _ _ z) (q.2.1 w), fun w => hK _ _ _ _ (q.2.2 w)⟩
    · exact q
  | tableswitch df lo hi os => exact ka_b1_m (fun _ _ z => ⟨fun w => ka_tgt_m (fun _ z => hK _ _ _ _ z) (z.1 w), fun a b => (by obtain ⟨o, c, k⟩ := z.2 a b; exact ⟨o, c, ka_tgt_m (fun _ z => hK _ _ _ _ z) k⟩)⟩) q
  | lookupswitch df ps => exact ka_b1_m (fun _ _ z => ⟨z.1, ka_tgt_m (fun _ z => hK _ _ _ _ z) z.2⟩) q
  | getstatic i =>
    simp only [ka_I] at q ⊢
    split at q
    · exact ⟨q.1, hK _ _ _ _ q.2⟩
    · exact q
  | getfield i =>
    simp only [ka_I] at q ⊢
    split at q
    · split at q
      · obtain ⟨vs, v, h1, h2, h3⟩ := q
        exact ⟨vs, v, h1, h2, hK _ _ _ _ h3⟩
      · exact q
    · exact q
  | putfield i =>
    simp only [ka_I] at q ⊢
    split at q
    · split at q
      · obtain ⟨vs, h1, h2, h3, h4, h5⟩ := q
        exact ⟨vs, h1, h2, h3, h4, hK _ _ _ _ h5⟩
      · exact q
    · exact q
  | new i =>
    simp only [ka_I] at q ⊢
    split at q
    · exact ka_mk_m (fun _ _ z => hK _ _ _ _ z) q
    · exact q
  | newarray t =>
    cases t with
    | int => exact ka_nwa_m (fun _ _ z => hK _ _ _ _ z) q
    | long => exact ka_nwa_m (fun _ _ z => hK _ _ _ _ z) q
    | char => exact ka_nwa_m (fun _ _ z => hK _ _ _ _ z) q
    | _ => exact q
  | anewarray i =>
    simp only [ka_I] at q ⊢
    split at q
    · exact ka_nwa_m (fun _ _ z => hK _ _ _ _ z) q
    · exact q
  | arraylength =>
    simp only [ka_I] at q ⊢
    split at q
    · obtain ⟨t, vs, h1, h2, h3⟩ := q
      exact ⟨t, vs, h1, h2, hK _ _ _ _ h3⟩
    · exact q
  | iaload =>
    simp only [ka_I] at q ⊢
    split at q
    · obtain ⟨t, vs, v, h1, h2, h3, h4, h5⟩ := q
      exact ⟨t, vs, v, h1, h2, h3, h4, hK _ _ _ _ h5⟩
    · exact q
  | laload => exact ka_ald_m (fun _ _ z => hK _ _ _ _ z) q
  | caload => exact ka_ald_m (fun _ _ z => hK _ _ _ _ z) q
  | aaload =>
    simp only [ka_I] at q ⊢
    split at q
    · obtain ⟨t, vs, v, h1, h2, h3, h4, h5, h6⟩ := q
      exact ⟨t, vs, v, h1, h2, h3, h4, h5, hK _ _ _ _ h6⟩
    · exact q
  | iastore =>
    simp only [ka_I] at q ⊢
    split at q
    · exact ka_ast_m (fun _ z => hK _ _ _ _ z) q
    · exact q
  | lastore =>
    simp only [ka_I] at q ⊢
    split at q
    · exact ka_ast_m (fun _ z => hK _ _ _ _ z) q
    · exact q
  | castore =>
    simp only [ka_I] at q ⊢
    split at q
    · exact ⟨q.1, ka_ast_m (fun _ z => hK _ _ _ _ z) q.2⟩
    · exact q
  | aastore =>
    simp only [ka_I] at q ⊢
    split at q
    · obtain ⟨t, h1, h2, h3⟩ := q
      exact ⟨t, h1, h2, ka_ast_m (fun _ z => hK _ _ _ _ z) h3⟩
    · obtain ⟨t, u, vs, h1, h2, h3, h4⟩ := q
      exact ⟨t, u, vs, h1, h2, h3, ka_ast_m (fun _ z => hK _ _ _ _ z) h4⟩
    · exact q
  | checkcast i =>
    simp only [ka_I] at q ⊢
    split at q
    · exact hK _ _ _ _ q
    · split at q
      · obtain ⟨vs, h1, h2⟩ := q
        exact ⟨vs, h1, hK _ _ _ _ h2⟩
      · exact q
    · exact q
  | invokevirtual i => exact ka_inv_m hK hC hQ q
  | invokespecial i => exact ka_inv_m hK hC hQ q
  | invokestatic i => exact ka_inv_m hK hC hQ q
  | ireturn =>
    simp only [ka_I] at q ⊢
    split at q
    · split at q
      · exact ⟨q.1, hQ _ _ q.2⟩
      · exact q
    · exact q
  | lreturn =>
    simp only [ka_I] at q ⊢
    split at q
    · exact ⟨q.1, hQ _ _ q.2⟩
    · exact q
  | areturn =>
    simp only [ka_I] at q ⊢
    split at q
    · exact ⟨q.1, q.2.1, hQ _ _ q.2.2⟩
    · exact q
  | return_ =>
    simp only [ka_I] at q ⊢
    split at q
    · exact ⟨q.1, hQ _ _ q.2⟩
    · exact q
  | _ => exact q
end
theorem ka_step_m {P : ka_P} {X Y : ka_X} {c : ka_C} {Q Q' : ka_Q} (h1 : ∀ c R, X c R → Y c R) (h2 : ∀ c, X c Q → Y c Q') (h3 : ∀ o s, Q o s → Q' o s) (q : ka_step P X c Q) : ka_step P Y c Q' := by
  obtain ⟨d, ⟨y, pc, ls, st⟩, s⟩ := c
  simp only [ka_step] at q ⊢
  split at q
  · exact ⟨q.1, q.2.1, q.2.2.1, q.2.2.2.1, h3 _ _ q.2.2.2.2⟩
  · split at q
    · exact q
    · exact ka_I_m (fun _ _ _ _ z => h2 _ z) (fun _ _ _ _ _ z => h1 _ _ z) h3 q
theorem ka_go {P : ka_P} {c : ka_C} {Q : ka_Q} (h : ka_step P (ka_W P) c Q) : ka_W P c Q :=
  fun X hX => hX c Q (ka_step_m (fun c R z => z X hX) (fun c z => z X hX) (fun _ _ z => z) h)
theorem ka_wide {P : ka_P} {c : ka_C} {Q Q' : ka_Q} (h : ka_W P c Q) (h3 : ∀ o s, Q o s → Q' o s) : ka_W P c Q' := by
  refine h (fun c Q => ∀ Q', (∀ o s, Q o s → Q' o s) → ka_W P c Q') ?_ Q' h3
  intro c Q q Q' h3
  exact ka_go (ka_step_m (fun c R z => z R (fun _ _ w => w)) (fun c z => z Q' h3) h3 q)
theorem ka_iff {P : ka_P} {c : ka_C} {Q : ka_Q} : ka_W P c Q ↔ ka_step P (ka_W P) c Q := by
  refine ⟨fun h => ?_, ka_go⟩
  refine h (fun c Q => ka_step P (ka_W P) c Q) ?_
  intro c Q q
  exact ka_step_m (fun c R z => ka_go z) (fun c z => ka_go z) (fun _ _ z => z) q
