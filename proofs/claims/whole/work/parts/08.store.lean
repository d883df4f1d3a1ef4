/-! STORES into fields and arrays -/
theorem cv_nar {c : Ct} {ty : FieldType} {v : Vl} (h : (ty = .int ∧ ∃ x, v = vI x) ∨ (ty = .boolean ∧ (v = vI 0 ∨ v = vI 1)) ∨ (isR ty = true ∧ ∃ q, v = vR q)) : narrow ty (cv c v) = cv c v ∧ fits ty (cv c v) = true := by
  rcases h with ⟨rfl, x, rfl⟩ | ⟨rfl, rfl | rfl⟩ | ⟨h, q, rfl⟩
  · exact ⟨rfl, rfl⟩
  · exact ⟨show narrow .boolean (.int (Int32.ofInt 0)) = .int (Int32.ofInt 0) by decide, show fits .boolean (.int (Int32.ofInt 0)) = true by decide⟩
  · exact ⟨show narrow .boolean (.int (Int32.ofInt 1)) = .int (Int32.ofInt 1) by decide, show fits .boolean (.int (Int32.ofInt 1)) = true by decide⟩
  · cases q with
    | none => cases ty <;> first | exact ⟨rfl, rfl⟩ | cases h
    | some q => cases ty <;> first | exact ⟨rfl, rfl⟩ | cases h
section ES
variable {l : Launch} {G : Gt} {d : Nat} {md : Md} {pc : Nat} {ls : List (Option Vl)} {st : List Vl} {M : Mem} {r : Option Vl} {M' : Mem}
/-- what is written goes on: the heap holds M1 -/
theorem Ex.wr {pc' : Nat} {st' : List Vl} {M1 : Mem} (k : Ex l G d md pc' ls st' M1 r M') (hc : M1.2.2 = M.2.2) 
    (step : ∀ (p : Program) (e : Env) (R : Room) (s : State) (m : MethodId) (args : Array Value) (below : List Frame) (meth : Method) (c : Code) (H : Heap) (locs : List Loc) (cells slots : Nat) (A : Array Slot) (Q : State → Prop),
      Fx G md p s m args meth c → Rep G M H → SOK M.2.2 ls st → lv_has A (mL md) (lvl M.2.2 0 ls) →
      (∀ (H1 : Heap) (L : List Loc), Rep G M1 H1 → (∀ q ∈ L, gB G ≤ q.base) → SOK M.2.2 ls st' → W p l e R s m args below meth c H1 (locs ++ L) cells slots Q (F0 m pc' A (st'.map (cv M.2.2)))) →
      W p l e R s m args below meth c H locs cells slots Q (F0 m pc A (st.map (cv M.2.2)))) : Ex l G d md pc ls st M r M' := by
  obtain ⟨I1, R1, c1⟩ := M1
  dsimp only at hc
  subst hc
  exact ⟨k.1, fun p e R s m args below meth c H locs cells slots nc0 ns0 mc ms A h1 h2 h3 h4 h5 h6 h7 =>
    step p e R s m args below meth c H locs cells slots A _ h1 h2 h4 h5 (fun H1 L hr hL hs => k.2 p e R s m args below meth c H1 (locs ++ L) cells slots nc0 ns0 mc ms A h1 hr
      (fun q hq => (List.mem_append.mp hq).elim (h3 q) (hL q)) hs h5 h6 h7)⟩
theorem w_putf {p : Program} {e : Env} {R : Room} {s : State} {m : MethodId} {args : Array Value} {below : List Frame} {meth : Method} {c : Code} {H : Heap} {locs : List Loc} {cells slots : Nat} {A : Array Slot} {Q : State → Prop} {rest : List Value} {f k ix j ci : Nat} {C : vw_C} {v : Value} (F : Fx G md p s m args meth c) (hR : Rep G M H) (hk : k < cCnt M.2.2 f) (hd : decode (mB md) pc = .ok (.putfield ix, 3)) (hf : fK f = 100 + ci) (hC : classes[ci]? = some C) (hj : j < C.2.2) (hw : Cond.fieldLink (mY md).cls ix (C.2.1 j).1 (C.2.1 j).2.1 (C.2.1 j).2.2.1 ∈ wT)
    (hfin : (C.2.1 j).2.2.2 = false ∨ ((mY md).name = "<init>" ∧ (C.2.1 j).1 = (mY md).cls)) (hn : narrow (tyOf ci j) v = v) (hfit : fits (tyOf ci j) v = true)
    (kk : ∀ H1 : Heap, H1.size = H.size → (∀ q, q ≠ cAd M.2.2 f k → H1[q]? = H[q]?) → t_OB (cAd M.2.2 f k) (gC G ci) C.2.2 (gI G ci) H1 (updV (fun i => sV M f k (tyOf ci i) i) j v) → W p l e R s m args below meth c H1 (locs ++ [⟨cAd M.2.2 f k, gI G ci j⟩]) cells slots Q (F0 m (pc + 3) A rest)) : W p l e R s m args below meth c H locs cells slots Q (F0 m pc A (v :: .ref (cAd M.2.2 f k) :: rest)) := by
  obtain ⟨hx, hb, hm, hown, hts, hret, hlk, hnm, hK⟩ := F
  have hap := slots_apart hts hK hC
  obtain ⟨-, -, -, a4, -⟩ := hR
  obtain ⟨-, -, -, hcell⟩ := a4 f k hk
  obtain ⟨cell, q1, q2, q3, q4⟩ := hcell.2.2 ci C hf hC
  obtain ⟨hS, hfc, kC, hkC, hkind⟩ := hK.1 ci C hC
  obtain ⟨cf, kf, fi, fd, hi, hsl⟩ := hS j hj
  have hlays := u_lays hts (inX ci C hC) hj
  have hst := (u_facts hfc hkC hlays hi).1
  have hlay := hts _ (inX ci C hC _ (u_in_lay hj))
  have hty := tyX_all ci C hC j hj
  have hend : ∀ H' : Heap, H'[cAd M.2.2 f k]? = some (cell.setSlot fd.slot v) → H'.size = H.size → (∀ q, q ≠ cAd M.2.2 f k → H'[q]? = H[q]?) → W p l e R s m args below meth c H' (locs ++ [⟨cAd M.2.2 f k, fd.slot⟩]) cells slots Q (F0 m (pc + 3) A rest) := by
    intro H' e1 e2 e3
    rw [hsl] at e1 ⊢
    exact kk H' e2 e3 ⟨_, e1, q2, q3, t_set q4 hap hj v⟩
  by_cases hF : (C.2.1 j).2.2.2 = false
  · unfold u_lay at hlay
    rw [if_neg (by rw [hF]; decide)] at hlay
    have h6 := u_store hfc hkC hkind hlay hi hty hn hfit
    exact W.putK hx hb (f := fd) ⟨hown, hts _ hw, ⟨_, _, _, hi⟩, hst⟩ (by rw [q2]; exact h6) q1 q3 (by rw [hsl]; exact k2_hasslot (q4 j hj)) rfl rfl hd hend
  · obtain ⟨hin, hdecl⟩ := hfin.resolve_left hF
    unfold u_lay at hlay
    rw [if_pos (by simpa using hF)] at hlay
    have hcf : m.cls = cf := by
      obtain ⟨_, _, c', _, _, _, -, -, hf', -, -, -, hown2, -⟩ := Cond.laysFinal_spec hlay
      have e1 : c' = cf := by have := hi.symm.trans hf'; simp at this; exact this.1.symm
      rw [hdecl] at hown2
      rw [← e1]; exact Option.some.inj (hown.symm.trans hown2)
    have h6 := u_fits hfc hkC hkind (Or.inr hlay) hi hty hn hfit
    exact W.putFinK hx hb hown (hts _ hw) hi hst hcf (hnm.trans hin) (by rw [q2]; exact h6) q1 q3 (by rw [hsl]; exact k2_hasslot (q4 j hj)) rfl rfl hd hend
theorem kind_obj {G : Gt} {M1 : Mem} {f k ci : Nat} {C : vw_C} {H1 : Heap} (hci : ci < 13) (hf : fK f = 100 + ci) (hC : classes[ci]? = some C) (h : t_OB (cAd M1.2.2 f k) (gC G ci) C.2.2 (gI G ci) H1 (fun i => sV M1 f k (tyOf ci i) i)) : CellOk G M1 f k H1 := by
  refine ⟨fun h0 => by omega, fun cj h1 h0 => by omega, fun cj q h0 h1 => ?_⟩
  have e : cj = ci := by omega
  subst e
  have e : q = C := Option.some.inj (h1.symm.trans hC)
  subst e
  exact h
theorem r_putI {x : Option Nm} {f k ix j ci : Nat} {C : vw_C} {v : Int} (q : Nat) (hd : decode (mB md) pc = .ok (.putfield ix, 3)) (hq : pc + 3 = q) (hx : x = some (f, k)) (h2 : Nat.ble 2 f = true) (hf : fK f = 100 + ci) (hC : classes[ci]? = some C) (hj : Nat.blt j C.2.2 = true) (hw : Cond.fieldLink (mY md).cls ix (C.2.1 j).1 (C.2.1 j).2.1 (C.2.1 j).2.2.1 ∈ wT)
    (hfin : (C.2.1 j).2.2.2 = false ∨ ((mY md).name = "<init>" ∧ (C.2.1 j).1 = (mY md).cls)) (ht : tyOf ci j = .int ∨ tyOf ci j = .boolean ∧ (v = 0 ∨ v = 1)) (kx : Ex l G d md q ls st (upI M.1 f k j v, M.2.1, M.2.2) r M') : Ex l G d md pc ls (vI v :: vR x :: st) M r M' := by
  subst hx; subst hq
  have hjj : j < C.2.2 := by simpa using hj
  have hci : ci < 13 := (List.getElem?_eq_some_iff.mp hC).1
  refine Ex.wr kx rfl fun p e R s m args below meth c H locs cells slots A Q F hR hS hl kk => ?_
  have hk : k < cCnt M.2.2 f := hS.pop.top
  have hnar : narrow (tyOf ci j) (cv M.2.2 (vI v)) = cv M.2.2 (vI v) ∧ fits (tyOf ci j) (cv M.2.2 (vI v)) = true := by
    refine cv_nar ?_
    rcases ht with h | ⟨h, h3⟩
    · exact .inl ⟨h, v, rfl⟩
    · refine .inr (.inl ⟨h, ?_⟩)
      rcases h3 with rfl | rfl
      · exact .inl rfl
      · exact .inr rfl
  have hnr : isR (tyOf ci j) = false := by
    rcases ht with h | ⟨h, -⟩ <;> rw [h] <;> rfl
  refine w_putf F hR hk hd hf hC hjj hw hfin hnar.1 hnar.2 fun H1 z o ob => ?_
  refine kk H1 _ (hR.put (by simpa using h2) hk rfl (fun f' k' hne => ⟨upI_o hne, rfl⟩) (fun i => ?_) (fun i w hw' => hR.2.2.2.2.2.1 f k i w.1 w.2 hk hw') z o (kind_obj hci hf hC (ob.to fun i hi => ?_))) (fun w hw' => ?_) hS.pop.pop
  · dsimp only
    rw [upI_c]
    split
    · exact hS.top
    · exact hR.2.2.2.2.2.2.1 f k i hk
  · unfold updV sV
    dsimp only
    rw [upI_c]
    by_cases e : i = j
    · subst e
      simp [hnr]
    · simp [e]
  · rw [List.mem_singleton.mp hw']
    exact ((hR.2.2.2.1 f k hk).2.1 (by simpa using h2))
theorem r_putR {x : Option Nm} {f k ix j ci : Nat} {C : vw_C} {v : Option Nm} (q : Nat) (hd : decode (mB md) pc = .ok (.putfield ix, 3)) (hq : pc + 3 = q) (hx : x = some (f, k)) (h2 : Nat.ble 2 f = true) (hf : fK f = 100 + ci) (hC : classes[ci]? = some C) (hj : Nat.blt j C.2.2 = true) (hw : Cond.fieldLink (mY md).cls ix (C.2.1 j).1 (C.2.1 j).2.1 (C.2.1 j).2.2.1 ∈ wT)
    (hfin : (C.2.1 j).2.2.2 = false ∨ ((mY md).name = "<init>" ∧ (C.2.1 j).1 = (mY md).cls)) (ht : isR (tyOf ci j) = true) (kx : Ex l G d md q ls st (M.1, upR M.2.1 f k j v, M.2.2) r M') : Ex l G d md pc ls (vR v :: vR x :: st) M r M' := by
  subst hx; subst hq
  have hjj : j < C.2.2 := by simpa using hj
  have hci : ci < 13 := (List.getElem?_eq_some_iff.mp hC).1
  refine Ex.wr kx rfl fun p e R s m args below meth c H locs cells slots A Q F hR hS hl kk => ?_
  have hk : k < cCnt M.2.2 f := hS.pop.top
  have hnar := cv_nar (c := M.2.2) (ty := tyOf ci j) (v := vR v) (.inr (.inr ⟨ht, v, rfl⟩))
  refine w_putf F hR hk hd hf hC hjj hw hfin hnar.1 hnar.2 fun H1 z o ob => ?_
  refine kk H1 _ (hR.put (by simpa using h2) hk rfl (fun f' k' hne => ⟨rfl, upR_o hne⟩) (fun i => hR.2.2.2.2.2.2.1 f k i hk) (fun i w hw' => ?_) z o (kind_obj hci hf hC (ob.to fun i hi => ?_))) (fun w hw' => ?_) hS.pop.pop
  · dsimp only at hw'
    rw [upR_c] at hw'
    split at hw'
    · subst hw'; exact hS.top
    · exact hR.2.2.2.2.2.1 f k i w.1 w.2 hk hw'
  · unfold updV sV
    dsimp only
    rw [upR_c]
    by_cases e : i = j
    · subst e
      simp [ht]
    · simp [e]
  · rw [List.mem_singleton.mp hw']
    exact ((hR.2.2.2.1 f k hk).2.1 (by simpa using h2))
end ES
