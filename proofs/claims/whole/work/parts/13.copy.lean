/-! System.arraycopy between int rows -/
theorem r_copy {l : Launch} {G : Gt} {d : Nat} {md : Md} {pc : Nat} {ls : List (Option Vl)} {rest : List Vl} {M : Mem} {r : Option Vl} {M' : Mem} {ix f k g j : Nat} {x y : Option Nm} {sp dp n : Int} (q : Nat) (hd : decode (mB md) pc = .ok (.invokestatic ix, 3)) (hq : pc + 3 = q) (hx : x = some (f, k)) (hy : y = some (g, j)) (hw : Cond.methodLink (mY md).cls ix arraycopyName ∈ wT ∧ Cond.native arraycopyName ∈ wT ∧ Cond.static arraycopyName ∈ wT ∧ Cond.initialized "java/lang/System" ∈ wT) (h2 : Nat.ble 2 g = true) (hf : fK f = 1) (hg : fK g = 1) (ho : 0 ≤ sp ∧ 0 ≤ dp ∧ 0 ≤ n ∧ sp + n ≤ aLen M.2.2 f k ∧ dp + n ≤ aLen M.2.2 g j) (hr : Nat.ble rest.length 4 = true)
    (kx : Ex l G (d + 1) md q ls rest (seI M.1 g j (va_cpy (M.1 f k) (M.1 g j) sp.toNat dp.toNat n.toNat), M.2.1, M.2.2) r M') : Ex l G (d + 1) md pc ls (vI n :: vI dp :: vR y :: vI sp :: vR x :: rest) M r M' := by
  subst hx; subst hy; subst hq
  refine ⟨kx.1, fun p e R s m args below meth c H locs cells slots nc0 ns0 mc ms A h1 hR h3 hS h5 h6 h7 => ?_⟩
  have F := h1
  obtain ⟨hx, hb, hml, hown, hts, hret, hlk, hnm, hK⟩ := h1
  have hin : InR n := hS.top
  have hidp : InR dp := hS.pop.top
  have hisp : InR sp := hS.pop.pop.pop.top
  have hj : j < cCnt M.2.2 g := hS.pop.pop.top
  have hk : k < cCnt M.2.2 f := hS.pop.pop.pop.pop.top
  have hc0 := (hR.2.2.2.1 f k hk).2.2.2.1 (.inl hf)
  have hc1 := (hR.2.2.2.1 g j hj).2.2.2.1 (.inl hg)
  rw [hf] at hc0
  rw [hg] at hc1
  have hg2 : 2 ≤ g := by simpa using h2
  obtain ⟨-, k0, hk0, cm0, hkk0⟩ := arr_ok hK (k := 1) (.inl rfl) (aLen M.2.2 f k) (fun j => cv M.2.2 (vI (M.1 f k j)))
  have hroom : ((rest.map (cv M.2.2)).map fun v => v.category).sum ≤ 8 := by
    have h1 := cat_le (c := M.2.2) (st := rest)
    have h2 : rest.length ≤ 4 := by simpa using hr
    omega
  intro T hT X
  obtain ⟨vm', X', step⟩ := X.arraycopy hx hown (hts _ hw.1) (hts _ hw.2.1) (hts _ hw.2.2.1) (hts _ hw.2.2.2) (src := cAd M.2.2 f k) (dst := cAd M.2.2 g j) (cs := arrV (gA G 1) (aLen M.2.2 f k) (fun i => cv M.2.2 (vI (M.1 f k i)))) (cd := arrV (gA G 1) (aLen M.2.2 g j) (fun i => cv M.2.2 (vI (M.1 g j i)))) (srcPos := Int32.ofInt sp) (destPos := Int32.ofInt dp) (n := Int32.ofInt n) (by rw [hT]; exact hc0) (by rw [hT]; exact hc1)
    (fun _ h => by cases h) (fun _ h => by cases h) (fun h => by cases h) (fun h => by cases h) hk0 hk0 hkk0 hkk0 (by simp [kTy, refKind]) (by rw [← i32_0, i32_lt hisp InR0]; omega) (by rw [← i32_0, i32_lt hidp InR0]; omega) (by rw [← i32_0, i32_lt hin InR0]; omega)
    (by rw [i32_to hisp, i32_to hin, arrV_size]; omega)
    (by rw [i32_to hidp, i32_to hin, arrV_size]; omega)
    (fun vm₁ _ i hi => by
      rw [i32_cl hin] at hi
      have e : (arrV (gA G 1) (aLen M.2.2 f k) (fun i => cv M.2.2 (vI (M.1 f k i)))).slots.getD ((Int32.ofInt sp).toNatClampNeg + i) .null = cv M.2.2 (vI (M.1 f k (sp.toNat + i))) := by
        rw [i32_cl hisp, Array.getD_eq_getD_getElem?, arrV_read _ _ (by omega)]
        rfl
      refine ⟨?_, ?_⟩
      · rw [e]
        rfl
      · rw [e]
        exact trivial)
    (g := F0 m pc A ((vI n :: vI dp :: vR (some (g, j)) :: vI sp :: vR (some (f, k)) :: rest).map (cv M.2.2))) rfl (h5.1.trans hml.symm) (rest := rest.map (cv M.2.2)) rfl (by rw [hb]; exact hd) (by omega) (by
      have h8 := h7.2.1
      have h9 : nativeFrameWords "java/lang/System" "arraycopy" 5 + 11 ≤ 64 := by decide +kernel
      show 2 * 0 + _ + _ ≤ _
      omega)
  have e1 : copied (arrV (gA G 1) (aLen M.2.2 f k) (fun i => cv M.2.2 (vI (M.1 f k i)))) (arrV (gA G 1) (aLen M.2.2 g j) (fun i => cv M.2.2 (vI (M.1 g j i)))) (Int32.ofInt sp) (Int32.ofInt dp) (Int32.ofInt n) = arrV (gA G 1) (aLen M.2.2 g j) (fun i => cv M.2.2 (vI (va_cpy (M.1 f k) (M.1 g j) sp.toNat dp.toNat n.toNat i))) := by
    have := va_copied (fun z => cv M.2.2 (vI z)) (gA G 1) (gA G 1) (n0 := aLen M.2.2 f k) (n1 := aLen M.2.2 g j) (sp := sp.toNat) (dp := dp.toNat) (n := n.toNat) (M.1 f k) (M.1 g j) (by omega)
    unfold copied
    rw [i32_cl hisp, i32_cl hidp, i32_cl hin]
    exact this
  rw [e1] at X' step
  have hl : cAd M.2.2 g j < H.size := (Array.getElem?_eq_some_iff.mp hc1).1
  have hheap : ((T.setVm vm').setCell (cAd M.2.2 g j) (arrV (gA G 1) (aLen M.2.2 g j) (fun i => cv M.2.2 (vI (va_cpy (M.1 f k) (M.1 g j) sp.toNat dp.toNat n.toNat i))))).heap = H.setIfInBounds (cAd M.2.2 g j) (arrV (gA G 1) (aLen M.2.2 g j) (fun i => cv M.2.2 (vI (va_cpy (M.1 f k) (M.1 g j) sp.toNat dp.toNat n.toNat i)))) := by rw [← hT]; rfl
  have hR1 : Rep G (seI M.1 g j (va_cpy (M.1 f k) (M.1 g j) sp.toNat dp.toNat n.toNat), M.2.1, M.2.2) (H.setIfInBounds (cAd M.2.2 g j) (arrV (gA G 1) (aLen M.2.2 g j) (fun i => cv M.2.2 (vI (va_cpy (M.1 f k) (M.1 g j) sp.toNat dp.toNat n.toNat i))))) := by
    refine hR.put hg2 hj rfl (fun f' k' hne => ⟨seI_o hne, rfl⟩) (fun i => ?_) (fun i w hw' => hR.2.2.2.2.2.1 g j i w.1 w.2 hj hw') (by simp) (fun q hq => by simp [Array.getElem?_setIfInBounds, Ne.symm hq]) (kind_arr (.inl hg) ?_)
    · dsimp only
      rw [seI_s]
      unfold va_cpy
      split
      · exact hR.2.2.2.2.2.2.1 f k _ hk
      · exact hR.2.2.2.2.2.2.1 g j _ hj
    · dsimp only
      rw [seI_s, hg]
      simp [Array.getElem?_setIfInBounds, hl]
  obtain ⟨t, a1, b1⟩ := kx.2 p e R s m args below meth c _ _ cells slots nc0 ns0 mc ms A F hR1 (fun q hq => by
      rcases List.mem_append.mp hq with h | h
      · exact h3 q h
      · obtain ⟨z, -, hz⟩ := List.mem_map.mp h
        rw [← hz]
        exact (hR.2.2.2.1 g j hj).2.1 hg2) hS.pop.pop.pop.pop.pop h5 h6 h7 _ hheap X'
  exact ⟨t, step t a1, b1⟩
