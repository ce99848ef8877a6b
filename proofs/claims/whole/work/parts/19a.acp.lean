/-! System.arraycopy from one array of objects into another. -/
section
variable {l : Launch} {p : Program} {e : Env} {R : Room} {s : State} {m : MethodId} {args : Array Value} {below : List Frame} {meth : Method} {c : Code} {H : Heap} {locs : List Loc} {cells slots : Nat} {Q : State → Prop}
variable {cc : ByteArray} {pc : Nat} {ls : Array Slot} {rest : List Value} {a b : Nat}
theorem ka_acp (hexec : p.tables.exec = Jvm.exec) (hb : c.code = cc) (hml : c.maxLocals = ls.size) {own : String} {index : Nat} (hown : s.vm.findClass own = some m.cls) (hlink : (Cond.methodLink own index arraycopyName).before args s = true) (hnat : (Cond.native arraycopyName).before args s = true) (hstat : (Cond.static arraycopyName).before args s = true) (hini : (Cond.initialized "java/lang/System").before args s = true)
    {cA comp : ClassId} {C' : String} {kA kE : Class} {vs us : List Value} (hc0 : H[a]? = some (arrV cA vs.length (fun j => vs.getD j .null))) (hc1 : H[b]? = some (arrV cA us.length (fun j => us.getD j .null))) (z1 : s.vm.classes[cA]? = some kA) (z2 : kA.kind = .array comp (.object C')) (hkE : s.vm.classes[comp]? = some kE)
    {n : Int32} (h3 : ¬ n < 0) (h4 : n.toNatClampNeg ≤ vs.length) (h5 : n.toNatClampNeg ≤ us.length)
    (hel : ∀ i, i < n.toNatClampNeg → vs.getD i .null = .null ∨ ∃ (y : Nat) (cv : Cell) (kC : Class), vs.getD i .null = .ref y ∧ H[y]? = some cv ∧ cv.vm.isStatics = false ∧ s.vm.classes[cv.cls]? = some kC ∧ s.vm.assignable cv.cls comp = true)
    (hframes : 1 ≤ R.frames) (hlocals : (rest.map fun v => v.category).sum + (nativeFrameWords "java/lang/System" "arraycopy" 5 + 11) ≤ R.locals) (hdg : decode cc pc = .ok (.invokestatic index, 3))
    (kk : ∀ (H1 : Heap) (locs1 : List Loc), H1[b]? = some (arrV cA us.length (fun j => (vs.take n.toNatClampNeg ++ us.drop n.toNatClampNeg).getD j .null)) → H1.size = H.size → (∀ q, q ≠ b → H1[q]? = H[q]?) → (∀ q ∈ locs1, q ∈ locs ∨ q.base = b) → W p l e R s m args below meth c H1 locs1 cells slots Q (F0 m (pc + 3) ls rest)) :
    W p l e R s m args below meth c H locs cells slots Q (F0 m pc ls (.int n :: .int 0 :: .ref b :: .int 0 :: .ref a :: rest)) := by
  have nn : n.toInt = (n.toNatClampNeg : Int) := by
    have hz0 : (0 : Int) ≤ n.toInt := by
      have := Int32.not_lt.mp h3
      simpa using Int32.le_iff_toInt_le.mp this
    show n.toInt = ((n.toInt.toNat : Nat) : Int)
    omega
  have e0 : (0 : Int32).toNatClampNeg = 0 := by decide
  have e00 : (0 : Int32).toInt = 0 := by decide
  intro T hT X
  obtain ⟨vm', X', step⟩ := X.arraycopy hexec hown hlink hnat hstat hini (src := a) (dst := b) (cs := arrV cA vs.length (fun j => vs.getD j .null)) (cd := arrV cA us.length (fun j => us.getD j .null)) (srcPos := 0) (destPos := 0) (n := n) (by rw [hT]; exact hc0) (by rw [hT]; exact hc1)
    (fun _ h => by cases h) (fun _ h => by cases h) (fun h => by cases h) (fun h => by cases h) z1 z1 z2 z2 rfl (by decide) (by decide) h3
    (by rw [e00, nn, arrV_size]; omega)
    (by rw [e00, nn, arrV_size]; omega)
    (fun vm₁ hal i hi => by
      have e : (arrV cA vs.length (fun j => vs.getD j .null)).slots.getD ((0 : Int32).toNatClampNeg + i) .null = vs.getD i .null := by
        rw [e0, Nat.zero_add, Array.getD_eq_getD_getElem?, arrV_read _ _ (by omega)]
        rfl
      rw [e]
      rcases hel i hi with hy | ⟨y, cv, kC, hy, g1, g2, hkC, hasg⟩
      · rw [hy]
        exact ⟨rfl, trivial⟩
      · rw [hy]
        obtain ⟨kC', hkC', -⟩ := hal.2.2 _ _ hkC
        obtain ⟨kE', hkE', -⟩ := hal.2.2 _ _ hkE
        refine ⟨rfl, cv, (show T.heap[y]? = some cv by rw [hT]; exact g1), (fun q h => by rw [h] at g2; cases g2), ⟨kC', hkC'⟩, ⟨kE', hkE'⟩, ?_⟩
        show vm₁.assignable _ _ = true
        rw [hal.assignable]
        exact hasg)
    (g := F0 m pc ls (.int n :: .int 0 :: .ref b :: .int 0 :: .ref a :: rest)) rfl (by rw [hml]) (rest := rest) rfl (by rw [hb]; exact hdg) hframes (by show 2 * 0 + _ + _ ≤ _; omega)
  have ef : (fun j => va_cpy (fun j => vs.getD j Value.null) (fun j => us.getD j Value.null) 0 0 n.toNatClampNeg j) = fun j => (vs.take n.toNatClampNeg ++ us.drop n.toNatClampNeg).getD j .null := by
    funext j
    unfold va_cpy
    by_cases hj : j < n.toNatClampNeg
    · rw [if_pos ⟨Nat.zero_le _, by omega⟩]
      simp only [List.getD_eq_getElem?_getD]
      rw [List.getElem?_append_left (by simp; omega), List.getElem?_take_of_lt hj]
      simp
    · rw [if_neg (by omega)]
      simp only [List.getD_eq_getElem?_getD]
      rw [List.getElem?_append_right (by simp; omega), List.getElem?_drop]
      congr 2
      simp
      omega
  have e1 : copied (arrV cA vs.length (fun j => vs.getD j .null)) (arrV cA us.length (fun j => us.getD j .null)) 0 0 n = arrV cA us.length (fun j => (vs.take n.toNatClampNeg ++ us.drop n.toNatClampNeg).getD j .null) := by
    rw [← ef]
    unfold copied
    rw [e0]
    exact va_copied (fun z => z) cA cA (fun j => vs.getD j Value.null) (fun j => us.getD j Value.null) (by omega)
  rw [e1] at X' step
  have hl : b < H.size := (Array.getElem?_eq_some_iff.mp hc1).1
  have hheap : ((T.setVm vm').setCell b (arrV cA us.length (fun j => (vs.take n.toNatClampNeg ++ us.drop n.toNatClampNeg).getD j .null))).heap = H.setIfInBounds b (arrV cA us.length (fun j => (vs.take n.toNatClampNeg ++ us.drop n.toNatClampNeg).getD j .null)) := by rw [← hT]; rfl
  obtain ⟨t, a1, b1⟩ := kk _ _ (show (H.setIfInBounds b _)[b]? = some _ by simp [Array.getElem?_setIfInBounds, hl]) (by simp) (fun q hq => by simp [Array.getElem?_setIfInBounds, Ne.symm hq]) (fun q hq => by
      rcases List.mem_append.mp hq with h | h
      · exact Or.inl h
      · obtain ⟨z, -, hz⟩ := List.mem_map.mp h
        rw [← hz]
        exact Or.inr rfl) _ hheap X'
  exact ⟨t, step t a1, b1⟩
end
