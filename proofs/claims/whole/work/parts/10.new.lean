/-! NEW cells -/
def newC (c : Ct) (f n sl : Nat) : Ct := (fun f' => if f' = f then cCnt c f' + 1 else cCnt c f', cNc c + 1, cNs c + sl, cHs c + 1, fun f' k' => if f' = f ∧ k' = cCnt c f then cHs c else cAd c f' k', fun f' k' => if f' = f ∧ k' = cCnt c f then n else cLn c f' k')
def newM (M : Mem) (f n sl : Nat) : Mem := (seI M.1 f (cCnt M.2.2 f) (fun _ => 0), seR M.2.1 f (cCnt M.2.2 f) (fun _ => none), newC M.2.2 f n sl)
theorem seI_o {I : IM} {f k : Nat} {g : Nat → Int} {f' k' : Nat} (h : ¬ (f' = f ∧ k' = k)) : seI I f k g f' k' = I f' k' := by
  unfold seI
  by_cases e : f' = f
  · subst e
    rw [if_pos rfl, if_neg fun e2 => h ⟨rfl, e2⟩]
  · rw [if_neg e]
theorem seI_s {I : IM} {f k : Nat} {g : Nat → Int} : seI I f k g f k = g := by
  unfold seI
  rw [if_pos rfl, if_pos rfl]
theorem seR_o {I : RM} {f k : Nat} {g : Nat → Option Nm} {f' k' : Nat} (h : ¬ (f' = f ∧ k' = k)) : seR I f k g f' k' = I f' k' := by
  unfold seR
  by_cases e : f' = f
  · subst e
    rw [if_pos rfl, if_neg fun e2 => h ⟨rfl, e2⟩]
  · rw [if_neg e]
theorem seR_s {I : RM} {f k : Nat} {g : Nat → Option Nm} : seR I f k g f k = g := by
  unfold seR
  rw [if_pos rfl, if_pos rfl]
theorem newC_cnt {c : Ct} {f n sl f' : Nat} : cCnt (newC c f n sl) f' = if f' = f then cCnt c f' + 1 else cCnt c f' := rfl
theorem newC_le (c : Ct) (f n sl : Nat) : CLe c (newC c f n sl) := by
  refine ⟨Nat.le_succ _, Nat.le_add_right _ _, fun f' => ?_, fun f' k hk => ?_, fun f' k hk => ?_⟩
  · rw [newC_cnt]; split <;> omega
  · show (if f' = f ∧ k = cCnt c f then cHs c else cAd c f' k) = cAd c f' k
    rw [if_neg]
    rintro ⟨rfl, rfl⟩; omega
  · show (if f' = f ∧ k = cCnt c f then n else cLn c f' k) = cLn c f' k
    rw [if_neg]
    rintro ⟨rfl, rfl⟩; omega
theorem aLen_mono {c c' : Ct} (h : CLe c c') {f k : Nat} (hk : k < cCnt c f) : aLen c' f k = aLen c f k := by
  unfold aLen
  split
  · rfl
  · exact h.2.2.2.2 f k hk
theorem CellOk.mono {G : Gt} {M M1 : Mem} {f k : Nat} {H H1 : Heap} (h : CellOk G M f k H) (hk : k < cCnt M.2.2 f) (hI : M1.1 f k = M.1 f k) (hR : M1.2.1 f k = M.2.1 f k) (hc : CLe M.2.2 M1.2.2) (hcl : ∀ i q, M.2.1 f k i = some q → q.2 < cCnt M.2.2 q.1) (hH : H1[cAd M.2.2 f k]? = H[cAd M.2.2 f k]?) : CellOk G M1 f k H1 := by
  have ead : cAd M1.2.2 f k = cAd M.2.2 f k := hc.2.2.2.1 f k hk
  have eln : aLen M1.2.2 f k = aLen M.2.2 f k := aLen_mono hc hk
  have ecv : ∀ i, cv M1.2.2 (vR (M.2.1 f k i)) = cv M.2.2 (vR (M.2.1 f k i)) := fun i => cv_mono hc (by
    cases e : M.2.1 f k i with
    | none => trivial
    | some q => exact hcl i q e)
  refine ⟨fun h0 => ?_, fun ci h1 h0 => ?_, fun ci q h0 h1 => ?_⟩
  · rw [ead, eln, hH, h.1 h0, hI]; rfl
  · rw [ead, eln, hH, h.2.1 ci h1 h0, hR]
    congr 2
    funext j
    exact (ecv j).symm
  · rw [ead]
    refine ((h.2.2 ci q h0 h1).kept hH).to fun j hj => ?_
    unfold sV
    rw [hI, hR, ecv]
    rfl
theorem Rep.new {G : Gt} {M : Mem} {f n sl : Nat} {H H1 : Heap} (h : Rep G M H) (hf : 2 ≤ f) (hz : H1.size = H.size + 1) (hH : ∀ q, q < H.size → H1[q]? = H[q]?) (hcell : CellOk G (newM M f n sl) f (cCnt M.2.2 f) H1) : Rep G (newM M f n sl) H1 := by
  obtain ⟨a1, a2, a3, a4, a5, a6, a7, a8, a9⟩ := h
  have hle := newC_le M.2.2 f n sl
  have had : cAd (newM M f n sl).2.2 f (cCnt M.2.2 f) = H.size := by
    show (if f = f ∧ cCnt M.2.2 f = cCnt M.2.2 f then cHs M.2.2 else _) = _
    rw [if_pos ⟨rfl, rfl⟩]; exact a1
  have hold : ∀ f' k', k' < cCnt (newM M f n sl).2.2 f' → ¬ (f' = f ∧ k' = cCnt M.2.2 f) → k' < cCnt M.2.2 f' := by
    intro f' k' hk' hne
    have hk2 : k' < if f' = f then cCnt M.2.2 f' + 1 else cCnt M.2.2 f' := hk'
    split at hk2
    · rename_i e
      subst e
      have : k' ≠ cCnt M.2.2 f' := fun e => hne ⟨rfl, e⟩
      omega
    · exact hk2
  refine ⟨by show cHs M.2.2 + 1 = _; rw [hz, a1], by omega, fun q hq => ?_, fun f' k' hk' => ?_, fun f1 k1 f2 k2 g1 g2 h1 h2 e => ?_, fun f' k' i f2 k2 hk' e => ?_, fun f' k' i hk' => ?_, fun k hk => ?_, fun hk => ?_⟩
  · rw [hH q (by omega)]; exact a3 q hq
  · by_cases e : f' = f ∧ k' = cCnt M.2.2 f
    · obtain ⟨rfl, rfl⟩ := e
      refine ⟨by rw [had]; omega, fun _ => by rw [had]; exact a2, fun hlt => by omega, hcell⟩
    · have hk := hold f' k' hk' e
      obtain ⟨b1, b2, b3, b5⟩ := a4 f' k' hk
      have ead : cAd (newM M f n sl).2.2 f' k' = cAd M.2.2 f' k' := hle.2.2.2.1 f' k' hk
      rw [ead]
      exact ⟨by omega, b2, b3, b5.mono hk (seI_o e) (seR_o e) hle (fun i q hq => a6 f' k' i q.1 q.2 hk hq) (hH _ b1)⟩
  · by_cases e1 : f1 = f ∧ k1 = cCnt M.2.2 f
    · by_cases e2 : f2 = f ∧ k2 = cCnt M.2.2 f
      · exact ⟨e1.1.trans e2.1.symm, e1.2.trans e2.2.symm⟩
      · have hk := hold f2 k2 h2 e2
        obtain ⟨rfl, rfl⟩ := e1
        rw [had, show cAd (newM M f1 n sl).2.2 f2 k2 = cAd M.2.2 f2 k2 from hle.2.2.2.1 f2 k2 hk] at e
        have := (a4 f2 k2 hk).1
        omega
    · have hk1 := hold f1 k1 h1 e1
      by_cases e2 : f2 = f ∧ k2 = cCnt M.2.2 f
      · obtain ⟨rfl, rfl⟩ := e2
        rw [had, show cAd (newM M f2 n sl).2.2 f1 k1 = cAd M.2.2 f1 k1 from hle.2.2.2.1 f1 k1 hk1] at e
        have := (a4 f1 k1 hk1).1
        omega
      · have hk2 := hold f2 k2 h2 e2
        rw [show cAd (newM M f n sl).2.2 f1 k1 = cAd M.2.2 f1 k1 from hle.2.2.2.1 f1 k1 hk1, show cAd (newM M f n sl).2.2 f2 k2 = cAd M.2.2 f2 k2 from hle.2.2.2.1 f2 k2 hk2] at e
        exact a5 f1 k1 f2 k2 g1 g2 hk1 hk2 e
  · by_cases e1 : f' = f ∧ k' = cCnt M.2.2 f
    · obtain ⟨rfl, rfl⟩ := e1
      have : seR M.2.1 f' (cCnt M.2.2 f') (fun _ => none) f' (cCnt M.2.2 f') i = some (f2, k2) := e
      rw [seR_s] at this
      cases this
    · have hk := hold f' k' hk' e1
      have : seR M.2.1 f (cCnt M.2.2 f) (fun _ => none) f' k' i = some (f2, k2) := e
      rw [seR_o e1] at this
      exact Nat.lt_of_lt_of_le (a6 f' k' i f2 k2 hk this) (hle.2.2.1 f2)
  · by_cases e1 : f' = f ∧ k' = cCnt M.2.2 f
    · obtain ⟨rfl, rfl⟩ := e1
      show InR (seI M.1 f' (cCnt M.2.2 f') (fun _ => 0) f' (cCnt M.2.2 f') i)
      rw [seI_s]
      exact InR0
    · have hk := hold f' k' hk' e1
      show InR (seI M.1 f (cCnt M.2.2 f) (fun _ => 0) f' k' i)
      rw [seI_o e1]
      exact a7 f' k' i hk
  · have e1 : ¬ (1 = f ∧ k = cCnt M.2.2 f) := fun e => by omega
    have hk1 := hold 1 k hk e1
    rw [show cAd (newM M f n sl).2.2 1 k = cAd M.2.2 1 k from hle.2.2.2.1 1 k hk1]
    exact a8 k hk1
  · have e1 : ¬ (0 = f ∧ 0 = cCnt M.2.2 f) := fun e => by omega
    have hk1 := hold 0 0 hk e1
    rw [show cAd (newM M f n sl).2.2 0 0 = cAd M.2.2 0 0 from hle.2.2.2.1 0 0 hk1]
    exact a9 hk1
theorem SOK.mono {c c' : Ct} (h : CLe c c') {ls : List (Option Vl)} {st : List Vl} (hs : SOK c ls st) : SOK c' ls st := ⟨fun v hv => (hs.1 v hv).mono h, fun v hv => (hs.2 v hv).mono h⟩
theorem map_mono {c c' : Ct} (h : CLe c c') {st : List Vl} (hs : ∀ v ∈ st, VOK c v) : st.map (cv c') = st.map (cv c) := List.map_congr_left fun v hv => cv_mono h (hs v hv)
section EN
variable {l : Launch} {G : Gt} {d : Nat} {md : Md} {pc : Nat} {ls : List (Option Vl)} {st : List Vl} {M : Mem} {r : Option Vl} {M' : Mem}
/-- a cell is made -/
theorem Ex.nw {pc' f n sl : Nat} {st0 : List Vl} (hf : 2 ≤ f) (k : Ex l G d md pc' ls (vR (some (f, cCnt M.2.2 f)) :: st) (newM M f n sl) r M')
    (hst : ∀ c, SOK c ls st0 → SOK c ls st)
    (step : ∀ (p : Program) (e : Env) (R : Room) (s : State) (m : MethodId) (args : Array Value) (below : List Frame) (meth : Method) (c : Code) (H : Heap) (locs : List Loc) (cells slots : Nat) (A : Array Slot) (Q : State → Prop),
      Fx G md p s m args meth c → Rep G M H → SOK M.2.2 ls st0 → lv_has A (mL md) (lvl M.2.2 0 ls) → cells + 1 ≤ R.cells → slots + sl ≤ R.slots →
      (∀ H1 : Heap, H1.size = H.size + 1 → (∀ q, q < H.size → H1[q]? = H[q]?) → CellOk G (newM M f n sl) f (cCnt M.2.2 f) H1 → W p l e R s m args below meth c H1 locs (cells + 1) (slots + sl) Q (F0 m pc' A (.ref H.size :: st.map (cv M.2.2)))) →
      W p l e R s m args below meth c H locs cells slots Q (F0 m pc A (st0.map (cv M.2.2)))) : Ex l G d md pc ls st0 M r M' := by
  have hle := newC_le M.2.2 f n sl
  refine ⟨hle.tr k.1, fun p e R s m args below meth c H locs cells slots nc0 ns0 mc ms A h1 h2 h3 h4 h5 h6 h7 => ?_⟩
  have k1 := k.1.1
  have k2 := k.1.2.1
  have e1 : cNc (newM M f n sl).2.2 = cNc M.2.2 + 1 := rfl
  have e2 : cNs (newM M f n sl).2.2 = cNs M.2.2 + sl := rfl
  rw [e1] at k1
  rw [e2] at k2
  refine step p e R s m args below meth c H locs cells slots A _ h1 h2 h4 h5 (by omega) (by omega) fun H1 hz hH hc => ?_
  have hs := hst _ h4
  have hsm := hs.mono hle
  have hv : VOK (newM M f n sl).2.2 (vR (some (f, cCnt M.2.2 f))) := by
    show cCnt M.2.2 f < cCnt (newC M.2.2 f n sl) f
    rw [newC_cnt, if_pos rfl]; omega
  have had : cv (newM M f n sl).2.2 (vR (some (f, cCnt M.2.2 f))) = .ref H.size := by
    show Value.ref (if f = f ∧ cCnt M.2.2 f = cCnt M.2.2 f then cHs M.2.2 else _) = _
    rw [if_pos ⟨rfl, rfl⟩, h2.1]
  have := k.2 p e R s m args below meth c H1 locs (cells + 1) (slots + sl) nc0 ns0 mc ms A h1 (h2.new hf hz hH hc) h3 (hsm.push hv) (by rw [show lvl (newM M f n sl).2.2 0 ls = lvl M.2.2 0 ls from lvl_mono hle h4.1]; exact h5) ⟨by rw [e1]; omega, by rw [e2]; omega, h6.2.2⟩ h7
  rw [List.map_cons, had, show st.map (cv (newM M f n sl).2.2) = st.map (cv M.2.2) from map_mono hle hs.2] at this
  exact this
theorem r_new {f ix ci : Nat} {C : vw_C} (q : Nat) (hd : decode (mB md) pc = .ok (.new ix, 3)) (hq : pc + 3 = q) (h2 : Nat.ble 2 f = true) (hf : fK f = 100 + ci) (hC : classes[ci]? = some C) (hw1 : Cond.classLink (mY md).cls ix C.1 ∈ wT) (hw2 : Cond.instantiable C.1 C.2.2 ∈ wT) (hw3 : Cond.initialized C.1 ∈ wT)
    (k : Ex l G d md q ls (vR (some (f, cCnt M.2.2 f)) :: st) (newM M f 0 C.2.2) r M') : Ex l G d md pc ls st M r M' := by
  subst hq
  have hf2 : 2 ≤ f := by simpa using h2
  have hci : ci < 13 := (List.getElem?_eq_some_iff.mp hC).1
  refine Ex.nw hf2 k (fun _ h => h) fun p e R s m args below meth c H locs cells slots A Q F hR hS hl hc1 hc2 kk => ?_
  obtain ⟨hx, hb, hm, hown, hts, hret, hlk, hnm, hK⟩ := F
  have hKn := hK.1 ci C hC
  refine W.newcK hx hb hown (hts _ hw1) (hts _ hw2) (hts _ hw3) rfl hd hc1 hc2 hKn.2.1 rfl fun H1 kC hkC e1 z1 o1 => ?_
  refine kk H1 z1 o1 (kind_obj hci hf hC ?_)
  have had : cAd (newM M f 0 C.2.2).2.2 f (cCnt M.2.2 f) = H.size := by
    show (if f = f ∧ cCnt M.2.2 f = cCnt M.2.2 f then cHs M.2.2 else _) = _
    rw [if_pos ⟨rfl, rfl⟩]; exact hR.1
  rw [had]
  refine (u_born (tyOf ci) hts (inX ci C hC) hKn hkC e1 (tyX_all ci C hC)).to fun j hj => ?_
  unfold sV newM
  dsimp only
  rw [seI_s, seR_s]
  have hall : ∀ ci : Fin 13, ∀ k, k < (classes[ci.val]).2.2 → tyOf ci.val k = .int ∨ tyOf ci.val k = .boolean ∨ (isR (tyOf ci.val k) = true) := by decide +kernel
  have e : classes[ci] = C := Option.some.inj ((List.getElem?_eq_getElem hci).symm.trans hC)
  rcases hall ⟨ci, hci⟩ j (by simpa [e] using hj) with h | h | h
  · rw [show tyOf ci j = .int from h]; rfl
  · rw [show tyOf ci j = .boolean from h]; rfl
  · rw [if_pos h]
    cases h' : tyOf ci j <;> rw [show tyOf ci j = _ from h'] at h <;> first | rfl | cases h
theorem aLen_new {c : Ct} {f n sl : Nat} (h : fL f = some n ∨ fL f = none) : aLen (newC c f n sl) f (cCnt c f) = n := by
  unfold aLen
  rcases h with h | h
  · rw [h]
  · rw [h]
    show (if f = f ∧ cCnt c f = cCnt c f then n else _) = n
    rw [if_pos ⟨rfl, rfl⟩]
theorem r_newa {f k n : Nat} {x : Int} {at' : ArrayType} (q : Nat) (hd : decode (mB md) pc = .ok (.newarray at', 2)) (hq : pc + 2 = q) (h2 : Nat.ble 2 f = true) (hf : fK f = k) (hk : (k = 1 ∧ newarray.typeOf at' = .int) ∨ (k = 2 ∧ newarray.typeOf at' = .byte) ∨ (k = 3 ∧ newarray.typeOf at' = .boolean)) (hw : Cond.arrayClass (kTy k) ∈ wT) (hx : x = (n : Int)) (hn : n ≤ 100000) (hl : fL f = some n ∨ fL f = none)
    (kx : Ex l G d md q ls (vR (some (f, cCnt M.2.2 f)) :: st) (newM M f n n) r M') : Ex l G d md pc ls (vI x :: st) M r M' := by
  subst hq; subst hx
  have hf2 : 2 ≤ f := by simpa using h2
  refine Ex.nw hf2 kx (fun _ h => h.pop) fun p e R s m args below meth c H locs cells slots A Q F hR hS hl2 hc1 hc2 kk => ?_
  obtain ⟨hx, hb, hm, hown, hts, hret, hlk, hnm, hK⟩ := F
  have ety : newarray.typeOf at' = kTy k := by rcases hk with ⟨rfl, h⟩ | ⟨rfl, h⟩ | ⟨rfl, h⟩ <;> rw [h] <;> rfl
  have hin : InR (n : Int) := hS.top
  refine va_newaK (N := n) (atype := at') hx hb (by rw [ety]; exact hts _ hw) rfl hd rfl (by rw [← i32_0, i32_lt hin InR0]; omega) (by rw [i32_cl hin]; omega) ?_ hc1 hc2 rfl fun H1 cA e1 z1 o1 hAr hNm => ?_
  · rw [ety]
    rcases hk with ⟨rfl, h⟩ | ⟨rfl, h⟩ | ⟨rfl, h⟩
    · show n * 4 ≤ _; omega
    · show n * 1 ≤ _; omega
    · show n * 1 ≤ _; omega
  · refine kk H1 z1 o1 (kind_arr (by omega) ?_)
    have had : cAd (newM M f n n).2.2 f (cCnt M.2.2 f) = H.size := by
      show (if f = f ∧ cCnt M.2.2 f = cCnt M.2.2 f then cHs M.2.2 else _) = _
      rw [if_pos ⟨rfl, rfl⟩]; exact hR.1
    have ecA : cA = gA G k := by
      have h3 := (hK.2.1 k (by omega)).2.2
      rw [ety] at hNm
      exact Option.some.inj (hNm.symm.trans h3)
    rw [had, e1, hf, ecA, show aLen (newM M f n n).2.2 f (cCnt M.2.2 f) = n from aLen_new hl]
    congr 2
    funext j
    show _ = cv _ (vI (seI M.1 f (cCnt M.2.2 f) (fun _ => 0) f (cCnt M.2.2 f) j))
    rw [seI_s, ety]
    rcases hk with ⟨rfl, h⟩ | ⟨rfl, h⟩ | ⟨rfl, h⟩ <;> rfl
theorem r_anewa {f ci n ix : Nat} {x : Int} {C : vw_C} (q : Nat) (hd : decode (mB md) pc = .ok (.anewarray ix, 3)) (hq : pc + 3 = q) (h2 : Nat.ble 2 f = true) (hf : fK f = 10 + ci) (hci : ci = 1 ∨ ci = 5 ∨ ci = 7 ∨ ci = 8) (hC : classes[ci]? = some C) (hw1 : Cond.classLink (mY md).cls ix C.1 ∈ wT) (hw2 : Cond.arrayOver (.object C.1) ∈ wT) (hx : x = (n : Int)) (hn : n ≤ 100000) (hl : fL f = some n ∨ fL f = none)
    (kx : Ex l G d md q ls (vR (some (f, cCnt M.2.2 f)) :: st) (newM M f n n) r M') : Ex l G d md pc ls (vI x :: st) M r M' := by
  subst hq; subst hx
  have hf2 : 2 ≤ f := by simpa using h2
  refine Ex.nw hf2 kx (fun _ h => h.pop) fun p e R s m args below meth c H locs cells slots A Q F hR hS hl2 hc1 hc2 kk => ?_
  obtain ⟨hx, hb, hm, hown, hts, hret, hlk, hnm, hK⟩ := F
  have hin : InR (n : Int) := hS.top
  have eN : (Int32.ofInt (n : Int)).toNatClampNeg = n := by rw [i32_cl hin]; omega
  refine W.anew hx hb hown (hts _ hw1) (hts _ hw2) rfl hd rfl (by rw [← i32_0, i32_lt hin InR0]; omega) (by rw [eN]; omega) hc1 (by rw [eN]; exact hc2) fun cA kA comp f1 f2 f3 f4 => ?_
  rw [eN]
  refine kk _ (by rw [Array.size_push]) (fun q hq => by rw [Array.getElem?_push, if_neg (Nat.ne_of_lt hq)]) (kind_arrR hf (by omega) ?_)
  have had : cAd (newM M f n n).2.2 f (cCnt M.2.2 f) = H.size := by
    show (if f = f ∧ cCnt M.2.2 f = cCnt M.2.2 f then cHs M.2.2 else _) = _
    rw [if_pos ⟨rfl, rfl⟩]; exact hR.1
  have hkt : kTy (10 + ci) = .object C.1 := by
    rcases hci with rfl | rfl | rfl | rfl <;> (cases hC; rfl)
  have ecA : cA = gA G (10 + ci) := by
    have h3 := (hK.2.1 (10 + ci) (by omega)).2.2
    rw [hkt] at h3
    exact Option.some.inj (f1.symm.trans h3)
  have ev : (fun j => cv (newM M f n n).2.2 (vR ((newM M f n n).2.1 f (cCnt M.2.2 f) j))) = fun _ => Value.null := by
    funext j
    show cv _ (vR (seR M.2.1 f (cCnt M.2.2 f) (fun _ => none) f (cCnt M.2.2 f) j)) = _
    rw [seR_s]
    rfl
  rw [had, Array.getElem?_push_size, show aLen (newM M f n n).2.2 f (cCnt M.2.2 f) = n from aLen_new hl, ← ecA, ev, ← arrV_new]
end EN
