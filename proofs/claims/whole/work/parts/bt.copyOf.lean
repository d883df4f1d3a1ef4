/-! an int row's clone, its cast, and Arrays.copyOf -/
section CLN
variable {l : Launch} {G : Gt} {d : Nat} {md : Md} {pc : Nat} {ls : List (Option Vl)} {rest : List Vl} {M : Mem} {r : Option Vl} {M' : Mem}
theorem r_clone {ix f k g n : Nat} {x : Option Nm} (q : Nat) (hd : decode (mB md) pc = .ok (.invokevirtual ix, 3)) (hq : pc + 3 = q) (hx : x = some (f, k))
    (hw : Cond.methodLink (mY md).cls ix ⟨"[I", "clone", "()Ljava/lang/Object;"⟩ ∈ wT ∧ Cond.sameMethod "[I" "java/lang/Object" "clone" "()Ljava/lang/Object;" ∈ wT ∧ Cond.native ⟨"java/lang/Object", "clone", "()Ljava/lang/Object;"⟩ ∈ wT ∧ Cond.instanceMethod ⟨"java/lang/Object", "clone", "()Ljava/lang/Object;"⟩ ∈ wT ∧ Cond.selects "[I" ⟨"[I", "clone", "()Ljava/lang/Object;"⟩ ⟨"java/lang/Object", "clone", "()Ljava/lang/Object;"⟩ ∈ wT ∧ Cond.castable "[I" "java/lang/Cloneable" ∈ wT)
    (h2 : Nat.ble 2 g = true) (hf : fK f = 1) (hg : fK g = 1) (hl : fL g = none) (hn : aLen M.2.2 f k = n) (hr : Nat.ble rest.length 4 = true)
    (kx : Ex l G d md q ls (vR (some (g, cCnt M.2.2 g)) :: rest) (seI M.1 g (cCnt M.2.2 g) (M.1 f k), (newM M g n n).2.1, (newM M g n n).2.2) r M') : Ex l G d md pc ls (vR x :: rest) M r M' := by
  subst hx; subst hq
  have hg2 : 2 ≤ g := by simpa using h2
  have hle := newC_le M.2.2 g n n
  refine ⟨hle.tr kx.1, fun p e R s m args below meth c H locs cells slots nc0 ns0 mc ms A h1 hR h3 hS h5 h6 h7 => ?_⟩
  have F := h1
  obtain ⟨hx, hb, hml, hown, hts, hret, hlk, hnm, hK⟩ := h1
  have k1 := kx.1.1
  have k2 := kx.1.2.1
  have e1 : cNc (newM M g n n).2.2 = cNc M.2.2 + 1 := rfl
  have e2 : cNs (newM M g n n).2.2 = cNs M.2.2 + n := rfl
  dsimp only at k1 k2
  rw [e1] at k1
  rw [e2] at k2
  have hk : k < cCnt M.2.2 f := hS.top
  have hc0 := (hR.2.2.2.1 f k hk).2.2.2.1 (.inl hf)
  rw [hf, hn] at hc0
  have hroom : ((rest.map (cv M.2.2)).map fun v => v.category).sum ≤ 8 := by
    have h1 := cat_le (c := M.2.2) (st := rest)
    have h2 : rest.length ≤ 4 := by simpa using hr
    omega
  have hnmA : s.vm.findClass "[I" = some (gA G 1) := va_nm_int (hK.2.1 1 (.inl rfl)).2.1
  obtain ⟨c0, t0', f1, f2, f3⟩ := Cond.castable_spec (hts _ hw.2.2.2.2.2)
  cases hnmA.symm.trans f1
  generalize hcell : arrV (gA G 1) n (fun j => cv M.2.2 (vI (M.1 f k j))) = cell at hc0
  have hsz : cell.slots.size = n := by rw [← hcell]; exact arrV_size _ _ _
  have hvm0 : cell.vm = .none := by rw [← hcell]; rfl
  have hcl0 : cell.cls = gA G 1 := by rw [← hcell]; rfl
  have hcellE : ({ cls := cell.cls, slots := cell.slots } : Cell) = cell := by rw [← hcell]; rfl
  -- the memory behind
  have hR1 : Rep G (seI M.1 g (cCnt M.2.2 g) (M.1 f k), (newM M g n n).2.1, (newM M g n n).2.2) (H.push cell) := by
    have had : cAd (newM M g n n).2.2 g (cCnt M.2.2 g) = H.size := by
      show (if g = g ∧ cCnt M.2.2 g = cCnt M.2.2 g then cHs M.2.2 else _) = _
      rw [if_pos ⟨rfl, rfl⟩]; exact hR.1
    have hln : aLen (newM M g n n).2.2 g (cCnt M.2.2 g) = n := aLen_new (.inr hl)
    have hR0 : Rep G (newM M g n n) (H.push (arrV (gA G 1) n (fun _ => .int 0))) := by
      refine hR.new hg2 (by rw [Array.size_push]) (fun q hq => by rw [Array.getElem?_push, if_neg (Nat.ne_of_lt hq)]) (kind_arr (.inl hg) ?_)
      rw [had, Array.getElem?_push_size, hg, hln]
      congr 2
      funext j
      show _ = cv _ (vI (seI M.1 g (cCnt M.2.2 g) (fun _ => 0) g (cCnt M.2.2 g) j))
      rw [seI_s]
      rfl
    have hkn : cCnt M.2.2 g < cCnt (newM M g n n).2.2 g := by
      show cCnt M.2.2 g < cCnt (newC M.2.2 g n n) g
      rw [newC_cnt, if_pos rfl]; omega
    refine hR0.put hg2 hkn rfl (fun f' k' hne => ⟨?_, rfl⟩) (fun i => ?_) (fun i w hw' => hR0.2.2.2.2.2.1 g _ i w.1 w.2 hkn hw') (by rw [Array.size_push, Array.size_push]) (fun q hq => ?_) (kind_arr (.inl hg) ?_)
    · show seI M.1 g (cCnt M.2.2 g) (M.1 f k) f' k' = seI M.1 g (cCnt M.2.2 g) (fun _ => 0) f' k'
      rw [seI_o hne, seI_o hne]
    · dsimp only
      rw [seI_s]
      exact hR.2.2.2.2.2.2.1 f k _ hk
    · rw [had] at hq
      rw [Array.getElem?_push, Array.getElem?_push, if_neg hq, if_neg hq]
    · dsimp only
      rw [had, Array.getElem?_push_size, hg, hln, ← hcell, seI_s]
      rfl
  intro T hT X
  have hcellT : T.heap[cAd M.2.2 f k]? = some cell := by rw [hT]; exact hc0
  obtain ⟨-, kA, hkA, comp, hkind⟩ := State.isArrayOf_alike X.warmed.alike (arr_ok hK (k := 1) (.inl rfl) 0 (fun _ => .null))
  obtain ⟨-, kS, hkS, compS, hkindS⟩ := arr_ok hK (k := 1) (.inl rfl) 0 (fun _ => .null)
  obtain ⟨vm', X', st⟩ := X.cloneArray hx hown (hts _ hw.1) (hts _ hw.2.1) (hts _ hw.2.2.1) (hts _ hw.2.2.2.1) (hts _ hw.2.2.2.2.1) (a := cAd M.2.2 f k) (cell := cell) hcellT (fun k h => by rw [hvm0] at h; cases h) (by rw [hvm0]; exact fun h => by cases h) (by rw [hcl0]; exact hnmA) f2 (by rw [hcl0]; exact f3)
    (fun i v hv => by
      rw [hcl0]
      have hk' : T.vm.classes[gA G 1]? = some kA := hkA
      have hfit : fits (kTy 1) v = true := by
        rw [← hcell] at hv
        exact va_fit (ty := kTy 1) (fun i hi => rfl) i v hv
      simpa [State.fitsSlot, State.slotType?, hk', hkind] using hfit)
    (g := F0 m pc A ((vR (some (f, k)) :: rest).map (cv M.2.2))) rfl (h5.1.trans hml.symm) (rest := rest.map (cv M.2.2)) rfl (by rw [hb]; exact hd) (by omega) (by
      have h8 := h7.2.1
      show 2 * 0 + _ + 14 ≤ _
      omega) (by omega) (by rw [hsz]; omega) (hloader := by rw [hcl0]; exact Vm.clonesLoader_of_array hkS hkindS)
  rw [hcellE, hsz] at X'
  have hs := hS.pop
  have hsm := hs.mono hle
  have hv : VOK (newM M g n n).2.2 (vR (some (g, cCnt M.2.2 g))) := by
    show cCnt M.2.2 g < cCnt (newC M.2.2 g n n) g
    rw [newC_cnt, if_pos rfl]; omega
  have had : cv (newM M g n n).2.2 (vR (some (g, cCnt M.2.2 g))) = .ref H.size := by
    show Value.ref (if g = g ∧ cCnt M.2.2 g = cCnt M.2.2 g then cHs M.2.2 else _) = _
    rw [if_pos ⟨rfl, rfl⟩, hR.1]
  have kk := kx.2 p e R s m args below meth c (H.push cell) locs (cells + 1) (slots + n) nc0 ns0 mc ms A F hR1 h3 (hsm.push hv) (by dsimp only; rw [show lvl (newM M g n n).2.2 0 ls = lvl M.2.2 0 ls from lvl_mono hle hS.1]; exact h5) ⟨by dsimp only; rw [e1]; omega, by dsimp only; rw [e2]; omega, h6.2.2⟩ h7
  dsimp only at kk
  rw [List.map_cons, had, show rest.map (cv (newM M g n n).2.2) = rest.map (cv M.2.2) from map_mono hle hs.2] at kk
  obtain ⟨t, b1, b2⟩ := kk ((T.setVm vm').pushCell cell) (by rw [← hT]; rfl) X'
  refine ⟨t, st t ?_, b2⟩
  rw [hcellE, hT]
  exact b1
theorem r_castI {ix f k : Nat} {x : Option Nm} (q : Nat) (hd : decode (mB md) pc = .ok (.checkcast ix, 3)) (hq : pc + 3 = q) (hx : x = some (f, k)) (hw : Cond.classLink (mY md).cls ix "[I" ∈ wT) (hf : fK f = 1) (kx : Ex l G d md q ls (vR x :: rest) M r M') : Ex l G d md pc ls (vR x :: rest) M r M' := by
  subst hx; subst hq
  refine Ex.pure kx fun p e R s m args below meth c H locs cells slots A Q F hR hS hl kk => ?_
  obtain ⟨hx, hb, hml, hown, hts, hret, hlk, hnm, hK⟩ := F
  have hk : k < cCnt M.2.2 f := hS.top
  have hc0 := (hR.2.2.2.1 f k hk).2.2.2.1 (.inl hf)
  rw [hf] at hc0
  have hnmA : s.vm.findClass "[I" = some (gA G 1) := va_nm_int (hK.2.1 1 (.inl rfl)).2.1
  intro T hT X
  obtain ⟨vm', X', st⟩ := X.checkcastYes hx hown (hts _ hw) (by rw [hT]; exact hc0) (by rfl) hnmA (va_asg _ _) (g := F0 m pc A ((vR (some (f, k)) :: rest).map (cv M.2.2))) rfl rfl (by rw [hb]; exact hd)
  obtain ⟨t, a1, b1⟩ := kk A hS hl (T.setVm vm') hT X'
  exact ⟨t, st t a1, b1⟩
end CLN
section CPO
variable {l : Launch} {G : Gt} {d : Nat} {M : Mem}
/-- the signs in a row of their own -/
theorem KJ7_copyOf {n : Nat} (hn : n ≤ 400) : ∃ g : Nat → Int, Cl l G (d + 1) mJ7_copyOf_59c91 [vR (some (22, 0)), vI (n : Int)] M (some (vR (some (47, cCnt M.2.2 47)))) (seI M.1 47 (cCnt M.2.2 47) g, (newM M 47 n n).2.1, (newM M 47 n n).2.2) ∧ ∀ i, i < n → g i = M.1 22 0 i := by
  by_cases e : n = 400
  · subst e
    refine ⟨M.1 22 0, ?_, fun i _ => rfl⟩
    show Ex l G (d + 1) mJ7_copyOf_59c91 0 [some (vR (some (22, 0))), some (vI ((400 : Nat) : Int)), none] [] M _ _
    refine r_iload_n 1 dJ7_copyOf_59c91_0 rfl rfl ?_
    refine r_aload_n 2 dJ7_copyOf_59c91_1 rfl rfl ?_
    refine r_alen (v := 400) 3 dJ7_copyOf_59c91_2 rfl rfl (.inl rfl) rfl (InR_of rfl) ?_
    refine r_icmp_ne 6 14 dJ7_copyOf_59c91_3 rfl rfl (fun c => absurd rfl c) (fun _ => ?_)
    refine r_aload_n 7 dJ7_copyOf_59c91_6 rfl rfl ?_
    refine r_clone (g := 47) (n := 400) 10 dJ7_copyOf_59c91_7 rfl rfl ⟨(inT3 (List.mem_of_getElem? (i := 161) rfl) rfl), (inT3 (List.mem_of_getElem? (i := 162) rfl) rfl), (inT3 (List.mem_of_getElem? (i := 163) rfl) rfl), (inT3 (List.mem_of_getElem? (i := 164) rfl) rfl), (inT3 (List.mem_of_getElem? (i := 165) rfl) rfl), (inT3 (List.mem_of_getElem? (i := 166) rfl) rfl)⟩ rfl rfl rfl rfl rfl rfl ?_
    refine r_castI 13 dJ7_copyOf_59c91_10 rfl rfl (inT3 (List.mem_of_getElem? (i := 167) rfl) rfl) rfl ?_
    exact r_aret dJ7_copyOf_59c91_13 rfl rfl rfl rfl
  · have o4 : (if (n : Int) < 400 then (n : Int) else 400) = (n : Int) := by rw [if_pos (by omega)]
    refine ⟨va_cpy ((newM M 47 n n).1 22 0) ((newM M 47 n n).1 47 (cCnt M.2.2 47)) 0 0 n, ?_, fun i hi => ?_⟩
    · show Ex l G (d + 1) mJ7_copyOf_59c91 0 [some (vR (some (22, 0))), some (vI (n : Int)), none] [] M _ _
      refine r_iload_n 1 dJ7_copyOf_59c91_0 rfl rfl ?_
      refine r_aload_n 2 dJ7_copyOf_59c91_1 rfl rfl ?_
      refine r_alen (v := 400) 3 dJ7_copyOf_59c91_2 rfl rfl (.inl rfl) rfl (InR_of rfl) ?_
      refine r_icmp_ne 6 14 dJ7_copyOf_59c91_3 rfl rfl (fun _ => ?_) (fun c => absurd (Decidable.not_not.mp c) (by omega))
      refine r_iload_n 15 dJ7_copyOf_59c91_14 rfl rfl ?_
      refine r_newa (f := 47) (k := 1) (n := n) 17 dJ7_copyOf_59c91_15 rfl rfl rfl (by decide) (inT1 (List.mem_of_getElem? (i := 104) rfl) rfl) rfl (by omega) (.inr rfl) ?_
      refine r_astore_n (ls' := [some (vR (some (22, 0))), some (vI (n : Int)), some (vR (some (47, cCnt M.2.2 47)))]) 18 dJ7_copyOf_59c91_17 rfl rfl rfl rfl ?_
      refine r_aload_n 19 dJ7_copyOf_59c91_18 rfl rfl ?_
      refine r_iconst 20 dJ7_copyOf_59c91_19 rfl (InR_of rfl) ?_
      refine r_aload_n 21 dJ7_copyOf_59c91_20 rfl rfl ?_
      refine r_iconst 22 dJ7_copyOf_59c91_21 rfl (InR_of rfl) ?_
      refine r_aload_n 23 dJ7_copyOf_59c91_22 rfl rfl ?_
      refine r_alen (v := 400) 24 dJ7_copyOf_59c91_23 rfl rfl (.inl rfl) rfl (InR_of rfl) ?_
      refine r_iload_n 25 dJ7_copyOf_59c91_24 rfl rfl ?_
      refine r_min 28 dJ7_copyOf_59c91_25 rfl (inT3 (List.mem_of_getElem? (i := 168) rfl) rfl) rfl ?_
      rw [o4]
      have hln : aLen (newM M 47 n n).2.2 47 (cCnt M.2.2 47) = n := aLen_new (.inr rfl)
      refine r_copy 31 dJ7_copyOf_59c91_28 rfl rfl rfl ⟨(inT3 (List.mem_of_getElem? (i := 169) rfl) rfl), (inT3 (List.mem_of_getElem? (i := 171) rfl) rfl), (inT3 (List.mem_of_getElem? (i := 170) rfl) rfl), (inT1 (List.mem_of_getElem? (i := 19) rfl) rfl)⟩ rfl rfl rfl ⟨by decide, by decide, by omega, by show (0 : Int) + n ≤ ((400 : Nat) : Int); omega, by rw [hln]; omega⟩ rfl ?_
      refine r_aload_n 32 dJ7_copyOf_59c91_31 rfl rfl ?_
      refine r_aret dJ7_copyOf_59c91_32 rfl rfl rfl ?_
      show (seI M.1 47 _ _, _, _) = (seI (seI M.1 47 _ _) 47 _ _, _, _)
      rw [seI_seI]
      rfl
    · unfold va_cpy
      rw [if_pos (by omega), show (newM M 47 n n).1 22 0 = M.1 22 0 from seI_o (I := M.1) (f := 47) (k := cCnt M.2.2 47) (g := fun _ => 0) (f' := 22) (k' := 0) (fun e => absurd e.1 (by decide)), Nat.sub_zero, Nat.zero_add]
end CPO
