/-! ARRAYS -/
section EA
variable {l : Launch} {G : Gt} {d : Nat} {md : Md} {pc : Nat} {ls : List (Option Vl)} {st : List Vl} {M : Mem} {r : Option Vl} {M' : Mem}
theorem arr_ok {s : State} {G : Gt} (hK : KS G s) {k : Nat} (hk : k = 1 ∨ k = 2 ∨ k = 3 ∨ k = 11 ∨ k = 15 ∨ k = 17 ∨ k = 18) (n : Nat) (z : Nat → Value) : s.isArrayOf (arrV (gA G k) n z) (kTy k) := (hK.2.1 k hk).1 n z
theorem r_iald {x : Option Nm} {f k : Nat} {a v : Int} (q : Nat) (hd : decode (mB md) pc = .ok (.iaload, 1)) (hq : pc + 1 = q) (hx : x = some (f, k)) (hf : fK f = 1) (ho : 0 ≤ a ∧ a < aLen M.2.2 f k) (hv : M.1 f k a.toNat = v) (kx : Ex l G d md q ls (vI v :: st) M r M') : Ex l G d md pc ls (vI a :: vR x :: st) M r M' := by
  subst hx; subst hq; subst hv
  refine Ex.pure kx fun p e R s m args below meth c H locs cells slots A Q F hR hS hl kk => ?_
  have hk : k < cCnt M.2.2 f := hS.pop.top
  have ha : InR a := hS.top
  have hc := (hR.2.2.2.1 f k hk).2.2.2.1 (.inl hf)
  rw [hf] at hc
  refine W.iald (v := cv M.2.2 (vI (M.1 f k a.toNat))) F.1 F.2.1 hc (arr_ok F.2.2.2.2.2.2.2.2 (k := 1) (.inl rfl) _ _) (fun h => by cases h) ?_ ?_ rfl rfl hd (kk A (hS.pop.pop.push (hR.2.2.2.2.2.2.1 f k _ hk)) hl)
  · rw [arrV_size]; exact i32_ix ha _ ho.1 ho.2
  · rw [i32_cl ha, arrV_read _ _ (by omega)]
theorem r_bald {x : Option Nm} {f k : Nat} {a v : Int} (q : Nat) (hd : decode (mB md) pc = .ok (.baload, 1)) (hq : pc + 1 = q) (hx : x = some (f, k)) (hf : fK f = 2) (ho : 0 ≤ a ∧ a < aLen M.2.2 f k) (hv : M.1 f k a.toNat = v) (kx : Ex l G d md q ls (vI v :: st) M r M') : Ex l G d md pc ls (vI a :: vR x :: st) M r M' := by
  subst hx; subst hq; subst hv
  refine Ex.pure kx fun p e R s m args below meth c H locs cells slots A Q F hR hS hl kk => ?_
  have hk : k < cCnt M.2.2 f := hS.pop.top
  have ha : InR a := hS.top
  have hc := (hR.2.2.2.1 f k hk).2.2.2.1 (.inr (.inl hf))
  rw [hf] at hc
  refine W.bald (v := cv M.2.2 (vI (M.1 f k a.toNat))) F.1 F.2.1 hc (arr_ok F.2.2.2.2.2.2.2.2 (k := 2) (.inr (.inl rfl)) _ _) (fun h => by cases h) ?_ ?_ rfl rfl hd (kk A (hS.pop.pop.push (hR.2.2.2.2.2.2.1 f k _ hk)) hl)
  · rw [arrV_size]; exact i32_ix ha _ ho.1 ho.2
  · rw [i32_cl ha, arrV_read _ _ (by omega)]
theorem r_zald {x : Option Nm} {f k : Nat} {a v : Int} (q : Nat) (hd : decode (mB md) pc = .ok (.baload, 1)) (hq : pc + 1 = q) (hx : x = some (f, k)) (hf : fK f = 3) (ho : 0 ≤ a ∧ a < aLen M.2.2 f k) (hv : M.1 f k a.toNat = v) (kx : Ex l G d md q ls (vI v :: st) M r M') : Ex l G d md pc ls (vI a :: vR x :: st) M r M' := by
  subst hx; subst hq; subst hv
  refine Ex.pure kx fun p e R s m args below meth c H locs cells slots A Q F hR hS hl kk => ?_
  have hk : k < cCnt M.2.2 f := hS.pop.top
  have ha : InR a := hS.top
  have hc := (hR.2.2.2.1 f k hk).2.2.2.1 (.inr (.inr hf))
  rw [hf] at hc
  refine W.zald (v := cv M.2.2 (vI (M.1 f k a.toNat))) F.1 F.2.1 hc (arr_ok F.2.2.2.2.2.2.2.2 (k := 3) (.inr (.inr (.inl rfl))) _ _) (fun h => by cases h) ?_ ?_ rfl rfl hd (kk A (hS.pop.pop.push (hR.2.2.2.2.2.2.1 f k _ hk)) hl)
  · rw [arrV_size]; exact i32_ix ha _ ho.1 ho.2
  · rw [i32_cl ha, arrV_read _ _ (by omega)]
theorem r_aald {x : Option Nm} {f k ci : Nat} {a : Int} {v : Option Nm} (q : Nat) (hd : decode (mB md) pc = .ok (.aaload, 1)) (hq : pc + 1 = q) (hx : x = some (f, k)) (hf : fK f = 10 + ci) (hci : ci = 1 ∨ ci = 5 ∨ ci = 7 ∨ ci = 8) (ho : 0 ≤ a ∧ a < aLen M.2.2 f k) (hv : M.2.1 f k a.toNat = v) (kx : Ex l G d md q ls (vR v :: st) M r M') : Ex l G d md pc ls (vI a :: vR x :: st) M r M' := by
  subst hx; subst hq; subst hv
  refine Ex.pure kx fun p e R s m args below meth c H locs cells slots A Q F hR hS hl kk => ?_
  have hk : k < cCnt M.2.2 f := hS.pop.top
  have ha : InR a := hS.top
  have hc := (hR.2.2.2.1 f k hk).2.2.2.2.1 ci (by omega) hf
  have hvk : VOK M.2.2 (vR (M.2.1 f k a.toNat)) := by
    cases e : M.2.1 f k a.toNat with
    | none => trivial
    | some w => exact hR.2.2.2.2.2.1 f k _ w.1 w.2 hk e
  have hty : (kTy (10 + ci)).isReference = true := by rcases hci with rfl | rfl | rfl | rfl <;> rfl
  refine W.aald (v := cv M.2.2 (vR (M.2.1 f k a.toNat))) F.1 F.2.1 hc (arr_ok F.2.2.2.2.2.2.2.2 (k := 10 + ci) (by omega) _ _) hty (fun h => by cases h) ?_ ?_ rfl rfl hd (kk A (hS.pop.pop.push hvk) hl)
  · rw [arrV_size]; exact i32_ix ha _ ho.1 ho.2
  · rw [i32_cl ha, arrV_read _ _ (by omega)]
theorem r_alen {x : Option Nm} {f k : Nat} {v : Int} (q : Nat) (hd : decode (mB md) pc = .ok (.arraylength, 1)) (hq : pc + 1 = q) (hx : x = some (f, k)) (hf : fK f = 1 ∨ fK f = 2) (hv : (aLen M.2.2 f k : Int) = v) (ho : InR v) (kx : Ex l G d md q ls (vI v :: st) M r M') : Ex l G d md pc ls (vR x :: st) M r M' := by
  subst hx; subst hq; subst hv
  refine Ex.pure kx fun p e R s m args below meth c H locs cells slots A Q F hR hS hl kk => ?_
  have hk : k < cCnt M.2.2 f := hS.top
  have hc := (hR.2.2.2.1 f k hk).2.2.2.1 (by omega)
  refine W.alen (n := Int32.ofInt (aLen M.2.2 f k : Int)) F.1 F.2.1 hc (arr_ok F.2.2.2.2.2.2.2.2 (k := fK f) (by omega) _ _) ?_ rfl rfl hd (kk A (hS.pop.push ho) hl)
  rw [arrV_size, Int32.ofInt_eq_ofNat]
theorem kind_arr {G : Gt} {M1 : Mem} {f k : Nat} {H1 : Heap} (hf : fK f = 1 ∨ fK f = 2 ∨ fK f = 3) (h : H1[cAd M1.2.2 f k]? = some (arrV (gA G (fK f)) (aLen M1.2.2 f k) (fun j => cv M1.2.2 (vI (M1.1 f k j))))) : CellOk G M1 f k H1 :=
  ⟨fun _ => h, fun cj h1 h0 => by omega, fun cj q h0 h1 => by omega⟩
theorem kind_arrR {G : Gt} {M1 : Mem} {f k ci : Nat} {H1 : Heap} (hf : fK f = 10 + ci) (hci : ci < 13) (h : H1[cAd M1.2.2 f k]? = some (arrV (gA G (10 + ci)) (aLen M1.2.2 f k) (fun j => cv M1.2.2 (vR (M1.2.1 f k j))))) : CellOk G M1 f k H1 :=
  ⟨fun h0 => by omega, fun cj h1 h0 => by rw [show cj = ci by omega]; exact h, fun cj q h0 h1 => by omega⟩
theorem upd_arr {I : IM} {c : Ct} {f k i : Nat} {v : Int} : updV (fun j => cv c (vI (I f k j))) i (cv c (vI v)) = fun j => cv c (vI (upI I f k i v f k j)) := by
  funext j
  unfold updV
  rw [upI_c]
  by_cases e : j = i
  · simp [e]
  · simp [e]
theorem upd_arrR {I : RM} {c : Ct} {f k i : Nat} {v : Option Nm} : updV (fun j => cv c (vR (I f k j))) i (cv c (vR v)) = fun j => cv c (vR (upR I f k i v f k j)) := by
  funext j
  unfold updV
  rw [upR_c]
  by_cases e : j = i
  · simp [e]
  · simp [e]
theorem Rep.putA {G : Gt} {M : Mem} {f k i : Nat} {v : Int} {H H1 : Heap} (h : Rep G M H) (hf2 : 2 ≤ f) (hk : k < cCnt M.2.2 f) (hf : fK f = 1 ∨ fK f = 2 ∨ fK f = 3) (hv : InR v) (z : H1.size = H.size) (o : ∀ q, q ≠ cAd M.2.2 f k → H1[q]? = H[q]?) (e : H1[cAd M.2.2 f k]? = some ((arrV (gA G (fK f)) (aLen M.2.2 f k) (fun j => cv M.2.2 (vI (M.1 f k j)))).setSlot i (cv M.2.2 (vI v)))) : Rep G (upI M.1 f k i v, M.2.1, M.2.2) H1 := by
  refine h.put hf2 hk rfl (fun f' k' hne => ⟨upI_o hne, rfl⟩) (fun j => ?_) (fun j w hw' => h.2.2.2.2.2.1 f k j w.1 w.2 hk hw') z o (kind_arr hf ?_)
  · dsimp only
    rw [upI_c]
    split
    · exact hv
    · exact h.2.2.2.2.2.2.1 f k j hk
  · rw [e, arrV_store, upd_arr]
theorem r_iast {x : Option Nm} {f k : Nat} {a v : Int} (q : Nat) (hd : decode (mB md) pc = .ok (.iastore, 1)) (hq : pc + 1 = q) (hx : x = some (f, k)) (h2 : 2 ≤ f) (hf : fK f = 1) (ho : 0 ≤ a ∧ a < aLen M.2.2 f k) (kx : Ex l G d md q ls st (upI M.1 f k a.toNat v, M.2.1, M.2.2) r M') : Ex l G d md pc ls (vI v :: vI a :: vR x :: st) M r M' := by
  subst hx; subst hq
  refine Ex.wr kx rfl fun p e R s m args below meth c H locs cells slots A Q F hR hS hl kk => ?_
  have hk : k < cCnt M.2.2 f := hS.pop.pop.top
  have ha : InR a := hS.pop.top
  have hc := (hR.2.2.2.1 f k hk).2.2.2.1 (.inl hf)
  have hc1 := hc
  rw [hf] at hc
  refine W.iast F.1 F.2.1 hc (arr_ok F.2.2.2.2.2.2.2.2 (k := 1) (.inl rfl) _ _) (fun h => by cases h) ?_ rfl rfl hd fun H1 e1 z o => ?_
  · rw [arrV_size]; exact i32_ix ha _ ho.1 ho.2
  · refine kk H1 _ (hR.putA h2 hk (.inl hf) hS.top z o ?_) (fun w hw' => ?_) hS.pop.pop.pop
    · rw [e1, i32_cl ha, hf]; rfl
    · rw [List.mem_singleton.mp hw']
      exact ((hR.2.2.2.1 f k hk).2.1 h2)
def InB (v : Int) : Prop := -128 ≤ v ∧ v ≤ 127
theorem nar_byte {v : Int} (h : InB v) : narrow .byte (.int (Int32.ofInt v)) = .int (Int32.ofInt v) := by
  have e : Int32.ofInt v = (Int32.ofInt v).toInt8.toInt32 := by
    unfold InB at h
    rw [aI2b_eq (by unfold InR; omega)]
    unfold aI2b
    rw [Int.bmod_eq_of_le (by omega) (by omega)]
  rw [e]; exact pk_nb _
theorem r_bast {x : Option Nm} {f k : Nat} {a v : Int} (q : Nat) (hd : decode (mB md) pc = .ok (.bastore, 1)) (hq : pc + 1 = q) (hx : x = some (f, k)) (h2 : 2 ≤ f) (hf : fK f = 2) (ho : 0 ≤ a ∧ a < aLen M.2.2 f k) (hb : InB v) (kx : Ex l G d md q ls st (upI M.1 f k a.toNat v, M.2.1, M.2.2) r M') : Ex l G d md pc ls (vI v :: vI a :: vR x :: st) M r M' := by
  subst hx; subst hq
  refine Ex.wr kx rfl fun p e R s m args below meth c H locs cells slots A Q F hR hS hl kk => ?_
  have hk : k < cCnt M.2.2 f := hS.pop.pop.top
  have ha : InR a := hS.pop.top
  have hc := (hR.2.2.2.1 f k hk).2.2.2.1 (.inr (.inl hf))
  rw [hf] at hc
  refine W.bast F.1 F.2.1 hc (arr_ok F.2.2.2.2.2.2.2.2 (k := 2) (.inr (.inl rfl)) _ _) (fun h => by cases h) ?_ rfl rfl hd fun H1 e1 z o => ?_
  · rw [arrV_size]; exact i32_ix ha _ ho.1 ho.2
  · refine kk H1 _ (hR.putA h2 hk (.inr (.inl hf)) hS.top z o ?_) (fun w hw' => ?_) hS.pop.pop.pop
    · rw [e1, i32_cl ha, hf, nar_byte hb]; rfl
    · rw [List.mem_singleton.mp hw']
      exact ((hR.2.2.2.1 f k hk).2.1 h2)
theorem r_zast {x : Option Nm} {f k : Nat} {a v : Int} (q : Nat) (hd : decode (mB md) pc = .ok (.bastore, 1)) (hq : pc + 1 = q) (hx : x = some (f, k)) (h2 : 2 ≤ f) (hf : fK f = 3) (ho : 0 ≤ a ∧ a < aLen M.2.2 f k) (hb : v = 0 ∨ v = 1) (kx : Ex l G d md q ls st (upI M.1 f k a.toNat v, M.2.1, M.2.2) r M') : Ex l G d md pc ls (vI v :: vI a :: vR x :: st) M r M' := by
  subst hx; subst hq
  refine Ex.wr kx rfl fun p e R s m args below meth c H locs cells slots A Q F hR hS hl kk => ?_
  have hk : k < cCnt M.2.2 f := hS.pop.pop.top
  have ha : InR a := hS.pop.top
  have hc := (hR.2.2.2.1 f k hk).2.2.2.1 (.inr (.inr hf))
  rw [hf] at hc
  refine W.zast F.1 F.2.1 hc (arr_ok F.2.2.2.2.2.2.2.2 (k := 3) (.inr (.inr (.inl rfl))) _ _) (fun h => by cases h) ?_ rfl rfl hd fun H1 e1 z o => ?_
  · rw [arrV_size]; exact i32_ix ha _ ho.1 ho.2
  · refine kk H1 _ (hR.putA h2 hk (.inr (.inr hf)) hS.top z o ?_) (fun w hw' => ?_) hS.pop.pop.pop
    · rw [e1, i32_cl ha, hf]
      rcases hb with rfl | rfl <;> rfl
    · rw [List.mem_singleton.mp hw']
      exact ((hR.2.2.2.1 f k hk).2.1 h2)
theorem r_aast {x : Option Nm} {f k ci g j : Nat} {C : vw_C} {a : Int} (q : Nat) (hd : decode (mB md) pc = .ok (.aastore, 1)) (hq : pc + 1 = q) (hx : x = some (f, k)) (h2 : 2 ≤ f) (hf : fK f = 10 + ci) (hci : ci = 1 ∨ ci = 5 ∨ ci = 7 ∨ ci = 8) (hC : classes[ci]? = some C) (hg : fK g = 100 + ci) (ho : 0 ≤ a ∧ a < aLen M.2.2 f k) (kx : Ex l G d md q ls st (M.1, upR M.2.1 f k a.toNat (some (g, j)), M.2.2) r M') : Ex l G d md pc ls (vR (some (g, j)) :: vI a :: vR x :: st) M r M' := by
  subst hx; subst hq
  refine Ex.wr kx rfl fun p e R s m args below meth c H locs cells slots A Q F hR hS hl kk => ?_
  have hk : k < cCnt M.2.2 f := hS.pop.pop.top
  have hj : j < cCnt M.2.2 g := hS.top
  have ha : InR a := hS.pop.top
  have hK := F.2.2.2.2.2.2.2.2
  have hc := (hR.2.2.2.1 f k hk).2.2.2.2.1 ci (by omega) hf
  obtain ⟨cellV, g1, g2, g3, -⟩ := (hR.2.2.2.1 g j hj).2.2.2.2.2 ci C hg hC
  have hcls := (hK.1 ci C hC).2
  have hRA := (hK.2.1 (10 + ci) (by omega)).2.1
  have hkt : kTy (10 + ci) = .object C.1 := by
    rcases hci with rfl | rfl | rfl | rfl <;> (cases hC; rfl)
  rw [hkt] at hRA
  obtain ⟨kA, comp, k1, k2, k3, -⟩ := hRA
  have hcomp : comp = gC G ci := Option.some.inj (k3.symm.trans hcls.1)
  subst hcomp
  obtain ⟨kC, hkC, -⟩ := hcls.2
  have hix := i32_ix ha (aLen M.2.2 f k) ho.1 ho.2
  refine W.aast F.1 F.2.1 hc (fun q h => by cases h) (fun h => by cases h) k1 k2 rfl hkC ⟨fun h => hix (Or.inl h), by rw [arrV_size]; exact Nat.not_le.mp fun h => hix (Or.inr h)⟩ g1 (fun q h => by rw [g3] at h; cases h) (by rw [g2]; exact hkC) (by rw [g2]; exact va_assign hcls) rfl rfl hd fun H1 e1 z o => ?_
  refine kk H1 _ (hR.put h2 hk rfl (fun f' k' hne => ⟨rfl, upR_o hne⟩) (fun i => hR.2.2.2.2.2.2.1 f k i hk) (fun i w hw' => ?_) z o (kind_arrR hf (by omega) ?_)) (fun w hw' => ?_) hS.pop.pop.pop
  · dsimp only at hw'
    rw [upR_c] at hw'
    split at hw'
    · cases hw'; exact hj
    · exact hR.2.2.2.2.2.1 f k i w.1 w.2 hk hw'
  · rw [e1, i32_cl ha, show Value.ref (cAd M.2.2 g j) = cv M.2.2 (vR (some (g, j))) from rfl, arrV_store, upd_arrR]
  · rw [List.mem_singleton.mp hw']
    exact ((hR.2.2.2.1 f k hk).2.1 h2)
end EA
