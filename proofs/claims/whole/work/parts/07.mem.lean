/-! MEMORY: how a heap goes on holding a memory -/
theorem CellOk.kept {G : Gt} {M M1 : Mem} {f k : Nat} {H H1 : Heap} (h : CellOk G M f k H) (hI : M1.1 f k = M.1 f k) (hR : M1.2.1 f k = M.2.1 f k) (hc : M1.2.2 = M.2.2) (hH : H1[cAd M.2.2 f k]? = H[cAd M.2.2 f k]?) : CellOk G M1 f k H1 := by
  obtain ⟨I, R, c⟩ := M
  obtain ⟨I1, R1, c1⟩ := M1
  dsimp only at *
  subst hc
  refine ⟨fun h0 => ?_, fun ci h1 h0 => ?_, fun ci q h0 h1 => ?_⟩
  · dsimp only
    rw [hH, h.1 h0, hI]
  · dsimp only
    rw [hH, h.2.1 ci h1 h0, hR]
  · refine ((h.2.2 ci q h0 h1).kept hH).to fun j hj => ?_
    unfold sV
    dsimp only
    rw [hI, hR]
theorem Rep.put {G : Gt} {M M1 : Mem} {f k : Nat} {H H1 : Heap} (h : Rep G M H) (hf : 2 ≤ f) (hk : k < cCnt M.2.2 f) (hc : M1.2.2 = M.2.2) (ho : ∀ f' k', ¬ (f' = f ∧ k' = k) → M1.1 f' k' = M.1 f' k' ∧ M1.2.1 f' k' = M.2.1 f' k') (hI : ∀ i, InR (M1.1 f k i)) (hR : ∀ i q, M1.2.1 f k i = some q → q.2 < cCnt M.2.2 q.1) (hz : H1.size = H.size) (hH : ∀ q, q ≠ cAd M.2.2 f k → H1[q]? = H[q]?) (hcell : CellOk G M1 f k H1) : Rep G M1 H1 := by
  obtain ⟨a1, a2, a3, a4, a5, a6, a7, a8, a9⟩ := h
  have b4 := a4 f k hk
  refine ⟨by rw [hc, hz]; exact a1, by rw [hz]; exact a2, fun q hq => ?_, fun f' k' hk' => ?_, ?_, fun f' k' i f2 k2 hk' e => ?_, fun f' k' i hk' => ?_, by rw [hc]; exact a8, by rw [hc]; exact a9⟩
  · rw [hH q (by have := b4.2.1 hf; omega)]; exact a3 q hq
  · rw [hc] at hk' ⊢
    obtain ⟨b1, b2, b3, b5⟩ := a4 f' k' hk'
    refine ⟨by rw [hz]; exact b1, b2, b3, ?_⟩
    by_cases e : f' = f ∧ k' = k
    · obtain ⟨rfl, rfl⟩ := e; exact hcell
    · refine b5.kept (ho f' k' e).1 (ho f' k' e).2 hc (hH _ fun e2 => ?_)
      by_cases hf' : 2 ≤ f'
      · exact e (a5 f' k' f k hf' hf hk' hk e2)
      · have h1 := b3 (by omega)
        have h2 := b4.2.1 hf
        omega
  · rw [hc]; exact a5
  · rw [hc] at hk' ⊢
    by_cases e1 : f' = f ∧ k' = k
    · obtain ⟨rfl, rfl⟩ := e1; exact hR i (f2, k2) e
    · rw [(ho f' k' e1).2] at e; exact a6 f' k' i f2 k2 hk' e
  · rw [hc] at hk'
    by_cases e1 : f' = f ∧ k' = k
    · obtain ⟨rfl, rfl⟩ := e1; exact hI i
    · rw [(ho f' k' e1).1]; exact a7 f' k' i hk'
theorem upI_o {I : IM} {f k i : Nat} {v : Int} {f' k' : Nat} (h : ¬ (f' = f ∧ k' = k)) : upI I f k i v f' k' = I f' k' := by
  unfold upI
  by_cases e : f' = f
  · subst e
    rw [if_pos rfl, if_neg fun e2 => h ⟨rfl, e2⟩]
  · rw [if_neg e]
theorem upR_o {I : RM} {f k i : Nat} {v : Option Nm} {f' k' : Nat} (h : ¬ (f' = f ∧ k' = k)) : upR I f k i v f' k' = I f' k' := by
  unfold upR
  by_cases e : f' = f
  · subst e
    rw [if_pos rfl, if_neg fun e2 => h ⟨rfl, e2⟩]
  · rw [if_neg e]
theorem upI_c {I : IM} {f k i : Nat} {v : Int} {i' : Nat} : upI I f k i v f k i' = if i' = i then v else I f k i' := by
  unfold upI
  rw [if_pos rfl, if_pos rfl]
theorem upR_c {I : RM} {f k i : Nat} {v : Option Nm} {i' : Nat} : upR I f k i v f k i' = if i' = i then v else I f k i' := by
  unfold upR
  rw [if_pos rfl, if_pos rfl]
theorem upI_s {I : IM} {f k i : Nat} {v : Int} : upI I f k i v f k i = v := by rw [upI_c, if_pos rfl]
theorem upI_i {I : IM} {f k i : Nat} {v : Int} {i' : Nat} (h : i' ≠ i) : upI I f k i v f k i' = I f k i' := by rw [upI_c, if_neg h]
theorem upI_f {I : IM} {f k i : Nat} {v : Int} {f' k' i' : Nat} (h : Nat.beq f' f = false) : upI I f k i v f' k' i' = I f' k' i' := by
  rw [upI_o (fun e => by rw [e.1] at h; simp at h)]
theorem upI_k {I : IM} {f k i : Nat} {v : Int} {f' k' i' : Nat} (h : k' ≠ k) : upI I f k i v f' k' i' = I f' k' i' := by
  rw [upI_o (fun e => h e.2)]
theorem upR_s {I : RM} {f k i : Nat} {v : Option Nm} : upR I f k i v f k i = v := by rw [upR_c, if_pos rfl]
theorem upR_i {I : RM} {f k i : Nat} {v : Option Nm} {i' : Nat} (h : i' ≠ i) : upR I f k i v f k i' = I f k i' := by rw [upR_c, if_neg h]
theorem upR_f {I : RM} {f k i : Nat} {v : Option Nm} {f' k' i' : Nat} (h : Nat.beq f' f = false) : upR I f k i v f' k' i' = I f' k' i' := by
  rw [upR_o (fun e => by rw [e.1] at h; simp at h)]
theorem upR_k {I : RM} {f k i : Nat} {v : Option Nm} {f' k' i' : Nat} (h : k' ≠ k) : upR I f k i v f' k' i' = I f' k' i' := by
  rw [upR_o (fun e => h e.2)]
theorem slots_apart {G : Gt} {s : State} {args : Array Value} (hts : ∀ w ∈ wT, w.before args s = true) (hK : KS G s) {ci : Nat} {q : vw_C} (hq : classes[ci]? = some q) : ∀ x y, x < q.2.2 → y < q.2.2 → x ≠ y → gI G ci x ≠ gI G ci y := by
  intro x y hx hy hne
  obtain ⟨hS, -⟩ := hK.1 ci q hq
  obtain ⟨_, _, _, fa, hia, ea⟩ := hS x hx
  obtain ⟨_, _, _, fb, hib, eb⟩ := hS y hy
  rw [← ea, ← eb]
  refine u_apart (u_lays hts (inX ci q hq) hx) (u_lays hts (inX ci q hq) hy) hia hib ?_
  rw [(State.fieldFound?_type hia (tyX_all ci q hq x hx)).1, (State.fieldFound?_type hib (tyX_all ci q hq y hy)).1]
  exact nmX_all ci q hq x hx y hy hne
section EM
variable {l : Launch} {G : Gt} {d : Nat} {md : Md} {pc : Nat} {ls : List (Option Vl)} {st : List Vl} {M : Mem} {r : Option Vl} {M' : Mem}
/-- a field is read: ci the object's class, j the field -/
theorem w_getf {p : Program} {e : Env} {R : Room} {s : State} {m : MethodId} {args : Array Value} {below : List Frame} {meth : Method} {c : Code} {H : Heap} {locs : List Loc} {cells slots : Nat} {A : Array Slot} {Q : State → Prop} {rest : List Value} {f k ix j ci : Nat} {C : vw_C} (F : Fx G md p s m args meth c) (hR : Rep G M H) (hk : k < cCnt M.2.2 f) (hd : decode (mB md) pc = .ok (.getfield ix, 3)) (hf : fK f = 100 + ci) (hC : classes[ci]? = some C) (hj : j < C.2.2) (hw : Cond.fieldLink (mY md).cls ix (C.2.1 j).1 (C.2.1 j).2.1 (C.2.1 j).2.2.1 ∈ wT)
    (kk : W p l e R s m args below meth c H locs cells slots Q (F0 m (pc + 3) A (sV M f k (tyOf ci j) j :: rest))) : W p l e R s m args below meth c H locs cells slots Q (F0 m pc A (.ref (cAd M.2.2 f k) :: rest)) := by
  obtain ⟨hx, hb, hm, hown, hts, hret, hlk, hnm, hK⟩ := F
  obtain ⟨-, -, -, a4, -⟩ := hR
  obtain ⟨-, -, -, hcell⟩ := a4 f k hk
  obtain ⟨cell, q1, q2, q3, q4⟩ := hcell.2.2 ci C hf hC
  obtain ⟨hS, hfc, kC, hkC, hkind⟩ := hK.1 ci C hC
  obtain ⟨cf, kf, fi, fd, hi, hsl⟩ := hS j hj
  refine W.getf hx hb hown (hts _ hw) hi (u_facts hfc hkC (u_lays hts (inX ci C hC) hj) hi).1 q1 (by rw [q3]; exact fun h => by cases h) (v := sV M f k (tyOf ci j) j) ?_ rfl rfl hd kk
  rw [hsl, q4 j hj]
theorem r_getI {x : Option Nm} {f k ix j ci : Nat} {C : vw_C} {v : Int} (q : Nat) (hd : decode (mB md) pc = .ok (.getfield ix, 3)) (hq : pc + 3 = q) (hx : x = some (f, k)) (hf : fK f = 100 + ci) (hC : classes[ci]? = some C) (hj : Nat.blt j C.2.2 = true) (hw : Cond.fieldLink (mY md).cls ix (C.2.1 j).1 (C.2.1 j).2.1 (C.2.1 j).2.2.1 ∈ wT) (ht : isR (tyOf ci j) = false) (hv : M.1 f k j = v) (kx : Ex l G d md q ls (vI v :: st) M r M') : Ex l G d md pc ls (vR x :: st) M r M' := by
  subst hx; subst hq; subst hv
  refine Ex.pure kx fun p e R s m args below meth c H locs cells slots A Q F hR hS hl kk => ?_
  have hk : k < cCnt M.2.2 f := hS.top
  refine w_getf F hR hk hd hf hC (by simpa using hj) hw ?_
  have := kk A (hS.pop.push (v := vI (M.1 f k j)) (hR.2.2.2.2.2.2.1 f k j hk)) hl
  unfold sV
  rw [ht]
  exact this
theorem r_getR {x : Option Nm} {f k ix j ci : Nat} {C : vw_C} {v : Option Nm} (q : Nat) (hd : decode (mB md) pc = .ok (.getfield ix, 3)) (hq : pc + 3 = q) (hx : x = some (f, k)) (hf : fK f = 100 + ci) (hC : classes[ci]? = some C) (hj : Nat.blt j C.2.2 = true) (hw : Cond.fieldLink (mY md).cls ix (C.2.1 j).1 (C.2.1 j).2.1 (C.2.1 j).2.2.1 ∈ wT) (ht : isR (tyOf ci j) = true) (hv : M.2.1 f k j = v) (kx : Ex l G d md q ls (vR v :: st) M r M') : Ex l G d md pc ls (vR x :: st) M r M' := by
  subst hx; subst hq; subst hv
  refine Ex.pure kx fun p e R s m args below meth c H locs cells slots A Q F hR hS hl kk => ?_
  have hk : k < cCnt M.2.2 f := hS.top
  refine w_getf F hR hk hd hf hC (by simpa using hj) hw ?_
  have hvk : VOK M.2.2 (vR (M.2.1 f k j)) := by
    cases e : M.2.1 f k j with
    | none => trivial
    | some w => exact hR.2.2.2.2.2.1 f k j w.1 w.2 hk e
  have := kk A (hS.pop.push hvk) hl
  unfold sV
  rw [ht]
  exact this
end EM
