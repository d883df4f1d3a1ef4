/-! ROWS: one an instruction, over Ex -/
theorem SOK.push {c : Ct} {ls : List (Option Vl)} {st : List Vl} {v : Vl} (h : SOK c ls st) (hv : VOK c v) : SOK c ls (v :: st) :=
  ⟨h.1, fun w hw => by exact (List.mem_cons.mp hw).elim (fun e => e ▸ hv) (fun e => h.2 w e)⟩
theorem SOK.pop {c : Ct} {ls : List (Option Vl)} {st : List Vl} {v : Vl} (h : SOK c ls (v :: st)) : SOK c ls st := ⟨h.1, fun w hw => h.2 w (List.mem_cons_of_mem _ hw)⟩
theorem SOK.top {c : Ct} {ls : List (Option Vl)} {st : List Vl} {v : Vl} (h : SOK c ls (v :: st)) : VOK c v := h.2 v List.mem_cons_self
theorem SOK.loc {c : Ct} {ls : List (Option Vl)} {st : List Vl} {v : Vl} {i : Nat} (h : SOK c ls st) (hi : ls[i]? = some (some v)) : VOK c v := h.1 v (List.mem_of_getElem? hi)
theorem SOK.set {c : Ct} {ls : List (Option Vl)} {st : List Vl} {v : Vl} {i : Nat} (h : SOK c ls st) (hv : VOK c v) : SOK c (ls.set i (some v)) st :=
  ⟨fun w hw => by
    rcases List.mem_or_eq_of_mem_set hw with hw | hw
    · exact h.1 w hw
    · cases hw; exact hv, h.2⟩
def InRb (n : Int) : Bool := decide (-2147483648 ≤ n) && decide (n ≤ 2147483647)
theorem InR_of {n : Int} (h : InRb n = true) : InR n := by
  simp [InRb] at h
  exact h
theorem i8_of {n : Int} (h : (decide (-128 ≤ n) && decide (n ≤ 127)) = true) : (Int8.ofInt n).toInt32 = Int32.ofInt n := by
  simp at h
  apply Int32.toInt_inj.mp
  rw [Int8.toInt_toInt32, Int8.toInt_ofInt_of_le (by omega) (by omega), i32_to (by unfold InR; omega)]
theorem i16_of {n : Int} (h : (decide (-32768 ≤ n) && decide (n ≤ 32767)) = true) : (Int16.ofInt n).toInt32 = Int32.ofInt n := by
  simp at h
  apply Int32.toInt_inj.mp
  rw [Int16.toInt_toInt32, Int16.toInt_ofInt_of_le (by omega) (by omega), i32_to (by unfold InR; omega)]
def noL (ls : List (Option Vl)) : Bool := ls.all (fun o => match o with
  | some (.inr (.inl _)) => false
  | _ => true)
theorem noL_at {ls : List (Option Vl)} (h : noL ls = true) {j : Nat} {w : Vl} (hj : ls[j]? = some (some w)) (c : Ct) : (cv c w).category = 1 := by
  have := List.all_eq_true.mp h _ (List.mem_of_getElem? hj)
  rcases w with x | x | _ | q
  · rfl
  · cases this
  · rfl
  · rfl
theorem lv_upd {A : Array Slot} {n i : Nat} {c : Ct} {ls : List (Option Vl)} {v : Vl} (hn : noL ls = true) (h : lv_has A n ((i, cv c v) :: (lvl c 0 ls).filter (fun q => !(q.1 == i) && !(q.1 + 1 == i && q.2.category == 2)))) : lv_has A n (lvl c 0 (ls.set i (some v))) := by
  refine ⟨h.1, h.2.1, fun q hq => h.2.2 q ?_⟩
  obtain ⟨j, w, rfl, hj⟩ := lvl_of hq
  by_cases e : i = j
  · subst e
    rw [List.getElem?_set_self' ] at hj
    cases hx : ls[i]? with
    | none => rw [hx] at hj; simp at hj
    | some z =>
      rw [hx] at hj
      simp at hj
      subst hj
      simp
  · rw [List.getElem?_set_ne e] at hj
    refine List.mem_cons_of_mem _ (List.mem_filter.mpr ⟨lvl_mem hj, ?_⟩)
    have hc := noL_at hn hj c
    simp only [Nat.zero_add]
    rw [hc]
    simp [Ne.symm e]
section EX
variable {l : Launch} {G : Gt} {d : Nat} {md : Md} {pc : Nat} {ls ls' : List (Option Vl)} {st : List Vl} {M : Mem} {r : Option Vl} {M' : Mem}
theorem Ex.pure {pc' : Nat} {st' : List Vl} (k : Ex l G d md pc' ls' st' M r M')
    (step : ∀ (p : Program) (e : Env) (R : Room) (s : State) (m : MethodId) (args : Array Value) (below : List Frame) (meth : Method) (c : Code) (H : Heap) (locs : List Loc) (cells slots : Nat) (A : Array Slot) (Q : State → Prop),
      Fx G md p s m args meth c → Rep G M H → SOK M.2.2 ls st → lv_has A (mL md) (lvl M.2.2 0 ls) →
      (∀ A', SOK M.2.2 ls' st' → lv_has A' (mL md) (lvl M.2.2 0 ls') → W p l e R s m args below meth c H locs cells slots Q (F0 m pc' A' (st'.map (cv M.2.2)))) →
      W p l e R s m args below meth c H locs cells slots Q (F0 m pc A (st.map (cv M.2.2)))) : Ex l G d md pc ls st M r M' :=
  ⟨k.1, fun p e R s m args below meth c H locs cells slots nc0 ns0 mc ms A h1 h2 h3 h4 h5 h6 h7 =>
    step p e R s m args below meth c H locs cells slots A _ h1 h2 h4 h5 (fun A' hs hl => k.2 p e R s m args below meth c H locs cells slots nc0 ns0 mc ms A' h1 h2 h3 hs hl h6 h7)⟩
theorem Ex.at {ls2 : List (Option Vl)} {st2 : List Vl} {M2 : Mem} (k : Ex l G d md pc ls2 st2 M2 r M') (h1 : ls = ls2) (h2 : st = st2) (h3 : M = M2) : Ex l G d md pc ls st M r M' := by
  subst h1; subst h2; subst h3; exact k
theorem r_iconst {n : Int} (q : Nat) (hd : decode (mB md) pc = .ok (.iconst n, 1)) (hq : pc + 1 = q) (hn : InR n) (k : Ex l G d md q ls (vI n :: st) M r M') : Ex l G d md pc ls st M r M' :=
  Ex.pure k fun p e R s m args below meth c H locs cells slots A Q F hR hS hl kk => by subst hq; exact lv_iconst F.1 F.2.1 hd rfl (kk A (hS.push hn) hl)
theorem r_bipush {n : Int} (q : Nat) (hd : decode (mB md) pc = .ok (.bipush n, 2)) (hq : pc + 2 = q) (hn : (decide (-128 ≤ n) && decide (n ≤ 127)) = true) (k : Ex l G d md q ls (vI n :: st) M r M') : Ex l G d md pc ls st M r M' :=
  Ex.pure k fun p e R s m args below meth c H locs cells slots A Q F hR hS hl kk => by subst hq; exact lv_bipush F.1 F.2.1 hd (i8_of hn) (kk A (hS.push (by simp at hn; show InR n; unfold InR; omega)) hl)
theorem r_sipush {n : Int} (q : Nat) (hd : decode (mB md) pc = .ok (.sipush n, 3)) (hq : pc + 3 = q) (hn : (decide (-32768 ≤ n) && decide (n ≤ 32767)) = true) (k : Ex l G d md q ls (vI n :: st) M r M') : Ex l G d md pc ls st M r M' :=
  Ex.pure k fun p e R s m args below meth c H locs cells slots A Q F hR hS hl kk => by subst hq; exact lv_sipush F.1 F.2.1 hd (i16_of hn) (kk A (hS.push (by simp at hn; show InR n; unfold InR; omega)) hl)
theorem r_lconst {n : Fin 2} {x : Int} (q : Nat) (hd : decode (mB md) pc = .ok (.lconst n, 1)) (hq : pc + 1 = q) (hx : Int64.ofNat (n : Nat) = Int64.ofInt x) (hn : InR x) (k : Ex l G d md q ls (vL x :: st) M r M') : Ex l G d md pc ls st M r M' :=
  Ex.pure k fun p e R s m args below meth c H locs cells slots A Q F hR hS hl kk => by subst hq; exact lv_lconst F.1 F.2.1 hd hx (kk A (hS.push hn) hl)
theorem r_ldc {ix : Nat} {v : Int32} {n : Int} (q : Nat) (hd : decode (mB md) pc = .ok (.ldc ix, 2)) (hq : pc + 2 = q) (hw : Jvm.Cond.constant (mY md).cls ix v ∈ wT) (hv : v = Int32.ofInt n) (hn : InR n) (k : Ex l G d md q ls (vI n :: st) M r M') : Ex l G d md pc ls st M r M' :=
  Ex.pure k fun p e R s m args below meth c H locs cells slots A Q F hR hS hl kk => by subst hq; subst hv; exact lv_ldc F.1 F.2.1 F.2.2.2.1 (F.2.2.2.2.1 _ hw) hd (kk A (hS.push hn) hl)
theorem r_ldcw {ix : Nat} {v : Int32} {n : Int} (q : Nat) (hd : decode (mB md) pc = .ok (.ldc_w ix, 3)) (hq : pc + 3 = q) (hw : Jvm.Cond.constant (mY md).cls ix v ∈ wT) (hv : v = Int32.ofInt n) (hn : InR n) (k : Ex l G d md q ls (vI n :: st) M r M') : Ex l G d md pc ls st M r M' :=
  Ex.pure k fun p e R s m args below meth c H locs cells slots A Q F hR hS hl kk => by subst hq; subst hv; exact lv_ldcw F.1 F.2.1 F.2.2.2.1 (F.2.2.2.2.1 _ hw) hd (kk A (hS.push hn) hl)
theorem r_ldc2 {ix : Nat} {v : Int64} {n : Int} (q : Nat) (hd : decode (mB md) pc = .ok (.ldc2_w ix, 3)) (hq : pc + 3 = q) (hw : Jvm.Cond.constantLong (mY md).cls ix v ∈ wT) (hv : v = Int64.ofInt n) (hn : InR n) (k : Ex l G d md q ls (vL n :: st) M r M') : Ex l G d md pc ls st M r M' :=
  Ex.pure k fun p e R s m args below meth c H locs cells slots A Q F hR hS hl kk => by subst hq; subst hv; exact lv_ldc2 F.1 F.2.1 F.2.2.2.1 (F.2.2.2.2.1 _ hw) hd (kk A (hS.push hn) hl)
theorem r_null (q : Nat) (hd : decode (mB md) pc = .ok (.aconst_null, 1)) (hq : pc + 1 = q) (k : Ex l G d md q ls (vR none :: st) M r M') : Ex l G d md pc ls st M r M' :=
  Ex.pure k fun p e R s m args below meth c H locs cells slots A Q F hR hS hl kk => by subst hq; exact lv_null F.1 F.2.1 hd (kk A (hS.push trivial) hl)
theorem lv_of {A : Array Slot} {n i : Nat} {c : Ct} {ls : List (Option Vl)} {v : Vl} (h : lv_has A n (lvl c 0 ls)) (hi : ls[i]? = some (some v)) : A[i]? = some (.val (cv c v)) := by
  have := h.2.2 _ (lvl_mem (i := 0) hi)
  simpa using this
theorem r_iload_n {i : Fin 4} {x : Int} (q : Nat) (hd : decode (mB md) pc = .ok (.iload_n i, 1)) (hq : pc + 1 = q) (hi : ls[(i : Nat)]? = some (some (vI x))) (k : Ex l G d md q ls (vI x :: st) M r M') : Ex l G d md pc ls st M r M' :=
  Ex.pure k fun p e R s m args below meth c H locs cells slots A Q F hR hS hl kk => by subst hq; exact lv_iload_n F.1 F.2.1 hd rfl (lv_of hl hi) (kk A (hS.push (hS.loc hi)) hl)
theorem r_iload {i : Nat} {x : Int} (q : Nat) (hd : decode (mB md) pc = .ok (.iload i, 2)) (hq : pc + 2 = q) (hi : ls[i]? = some (some (vI x))) (k : Ex l G d md q ls (vI x :: st) M r M') : Ex l G d md pc ls st M r M' :=
  Ex.pure k fun p e R s m args below meth c H locs cells slots A Q F hR hS hl kk => by subst hq; exact lv_iload F.1 F.2.1 hd (lv_of hl hi) (kk A (hS.push (hS.loc hi)) hl)
theorem r_lload_n {i : Fin 4} {x : Int} (q : Nat) (hd : decode (mB md) pc = .ok (.lload_n i, 1)) (hq : pc + 1 = q) (hi : ls[(i : Nat)]? = some (some (vL x))) (k : Ex l G d md q ls (vL x :: st) M r M') : Ex l G d md pc ls st M r M' :=
  Ex.pure k fun p e R s m args below meth c H locs cells slots A Q F hR hS hl kk => by subst hq; exact lv_lload_n F.1 F.2.1 hd rfl (lv_of hl hi) (kk A (hS.push (hS.loc hi)) hl)
theorem r_lload {i : Nat} {x : Int} (q : Nat) (hd : decode (mB md) pc = .ok (.lload i, 2)) (hq : pc + 2 = q) (hi : ls[i]? = some (some (vL x))) (k : Ex l G d md q ls (vL x :: st) M r M') : Ex l G d md pc ls st M r M' :=
  Ex.pure k fun p e R s m args below meth c H locs cells slots A Q F hR hS hl kk => by subst hq; exact lv_lload F.1 F.2.1 hd (lv_of hl hi) (kk A (hS.push (hS.loc hi)) hl)
theorem r_aload_n {i : Fin 4} {x : Option Nm} (q : Nat) (hd : decode (mB md) pc = .ok (.aload_n i, 1)) (hq : pc + 1 = q) (hi : ls[(i : Nat)]? = some (some (vR x))) (k : Ex l G d md q ls (vR x :: st) M r M') : Ex l G d md pc ls st M r M' :=
  Ex.pure k fun p e R s m args below meth c H locs cells slots A Q F hR hS hl kk => by
    subst hq
    cases x with
    | none => exact lv_aload_nN F.1 F.2.1 hd rfl (lv_of hl hi) (kk A (hS.push (hS.loc hi)) hl)
    | some x => exact lv_aload_n F.1 F.2.1 hd rfl (lv_of hl hi) (kk A (hS.push (hS.loc hi)) hl)
theorem r_aload {i : Nat} {x : Option Nm} (q : Nat) (hd : decode (mB md) pc = .ok (.aload i, 2)) (hq : pc + 2 = q) (hi : ls[i]? = some (some (vR x))) (k : Ex l G d md q ls (vR x :: st) M r M') : Ex l G d md pc ls st M r M' :=
  Ex.pure k fun p e R s m args below meth c H locs cells slots A Q F hR hS hl kk => by
    subst hq
    cases x with
    | none => exact lv_aloadN F.1 F.2.1 hd (lv_of hl hi) (kk A (hS.push (hS.loc hi)) hl)
    | some x => exact lv_aload F.1 F.2.1 hd (lv_of hl hi) (kk A (hS.push (hS.loc hi)) hl)
theorem r_istore_n {i : Fin 4} {x : Int} (q : Nat) (hd : decode (mB md) pc = .ok (.istore_n i, 1)) (hq : pc + 1 = q) (hn : Nat.blt i (mL md) = true) (hw : noL ls = true) (hs : ls.set (i : Nat) (some (vI x)) = ls') (k : Ex l G d md q ls' st M r M') : Ex l G d md pc ls (vI x :: st) M r M' :=
  Ex.pure k fun p e R s m args below meth c H locs cells slots A Q F hR hS hl kk => by subst hq; subst hs; exact lv_istore_n F.1 F.2.1 hd rfl hl (by simpa using hn) rfl fun A' hA => kk A' (hS.pop.set hS.top) (lv_upd (v := vI x) hw hA)
theorem r_istore {i : Nat} {x : Int} (q : Nat) (hd : decode (mB md) pc = .ok (.istore i, 2)) (hq : pc + 2 = q) (hn : Nat.blt i (mL md) = true) (hw : noL ls = true) (hs : ls.set i (some (vI x)) = ls') (k : Ex l G d md q ls' st M r M') : Ex l G d md pc ls (vI x :: st) M r M' :=
  Ex.pure k fun p e R s m args below meth c H locs cells slots A Q F hR hS hl kk => by subst hq; subst hs; exact lv_istore F.1 F.2.1 hd hl (by simpa using hn) rfl fun A' hA => kk A' (hS.pop.set hS.top) (lv_upd (v := vI x) hw hA)
theorem r_astore_n {i : Fin 4} {x : Option Nm} (q : Nat) (hd : decode (mB md) pc = .ok (.astore_n i, 1)) (hq : pc + 1 = q) (hn : Nat.blt i (mL md) = true) (hw : noL ls = true) (hs : ls.set (i : Nat) (some (vR x)) = ls') (k : Ex l G d md q ls' st M r M') : Ex l G d md pc ls (vR x :: st) M r M' :=
  Ex.pure k fun p e R s m args below meth c H locs cells slots A Q F hR hS hl kk => by
    subst hq; subst hs
    cases x with
    | none => exact lv_astore_nN F.1 F.2.1 hd rfl hl (by simpa using hn) rfl fun A' hA => kk A' (hS.pop.set hS.top) (lv_upd (v := vR none) hw hA)
    | some x => exact lv_astore_n F.1 F.2.1 hd rfl hl (by simpa using hn) rfl fun A' hA => kk A' (hS.pop.set hS.top) (lv_upd (v := vR (some x)) hw hA)
theorem r_astore {i : Nat} {x : Option Nm} (q : Nat) (hd : decode (mB md) pc = .ok (.astore i, 2)) (hq : pc + 2 = q) (hn : Nat.blt i (mL md) = true) (hw : noL ls = true) (hs : ls.set i (some (vR x)) = ls') (k : Ex l G d md q ls' st M r M') : Ex l G d md pc ls (vR x :: st) M r M' :=
  Ex.pure k fun p e R s m args below meth c H locs cells slots A Q F hR hS hl kk => by
    subst hq; subst hs
    cases x with
    | none => exact lv_astoreN F.1 F.2.1 hd hl (by simpa using hn) rfl fun A' hA => kk A' (hS.pop.set hS.top) (lv_upd (v := vR none) hw hA)
    | some x => exact lv_astore F.1 F.2.1 hd hl (by simpa using hn) rfl fun A' hA => kk A' (hS.pop.set hS.top) (lv_upd (v := vR (some x)) hw hA)
theorem lv_more {A : Array Slot} {n i : Nat} {c : Ct} {ls : List (Option Vl)} {v : Vl} (h : lv_has A n (lvl c 0 ls)) (hi : ls[i]? = some (some v)) : lv_has A n ((i, cv c v) :: lvl c 0 ls) :=
  ⟨h.1, h.2.1, fun q hq => (List.mem_cons.mp hq).elim (fun e => e ▸ lv_of h hi) (fun e => h.2.2 q e)⟩
theorem r_iinc {i : Nat} {x n : Int} (q : Nat) (hd : decode (mB md) pc = .ok (.iinc i n, 3)) (hq : pc + 3 = q) (hn : Nat.blt i (mL md) = true) (hi : ls[i]? = some (some (vI x))) (hw : noL ls = true) (ho : InR (x + n)) (hs : ls.set i (some (vI (x + n))) = ls') (k : Ex l G d md q ls' st M r M') : Ex l G d md pc ls st M r M' :=
  Ex.pure k fun p e R s m args below meth c H locs cells slots A Q F hR hS hl kk => by
    subst hq; subst hs
    refine lv_iinc (k := 0) (x := Int32.ofInt x) (v := Int32.ofInt (x + n)) F.1 F.2.1 hd (lv_more hl hi) rfl (by rw [Int32.ofInt_add]) (by simpa using hn) rfl fun A' hA => kk A' (hS.set ho) (lv_upd (v := vI (x + n)) hw ?_)
    refine ⟨hA.1, hA.2.1, fun w hw => hA.2.2 w ?_⟩
    rcases List.mem_cons.mp hw with rfl | hw
    · exact List.mem_cons_self
    · refine List.mem_cons_of_mem _ ?_
      obtain ⟨h1, h2⟩ := List.mem_filter.mp hw
      exact List.mem_filter.mpr ⟨List.mem_cons_of_mem _ h1, h2⟩
theorem r_dup {v : Vl} (q : Nat) (hd : decode (mB md) pc = .ok (.dup, 1)) (hq : pc + 1 = q) (hv : noL [some v] = true) (k : Ex l G d md q ls (v :: v :: st) M r M') : Ex l G d md pc ls (v :: st) M r M' :=
  Ex.pure k fun p e R s m args below meth c H locs cells slots A Q F hR hS hl kk => by subst hq; exact lv_dup F.1 F.2.1 hd (noL_at (j := 0) hv rfl _) (kk A (hS.push hS.top) hl)
theorem r_pop {v : Vl} (q : Nat) (hd : decode (mB md) pc = .ok (.pop, 1)) (hq : pc + 1 = q) (hv : noL [some v] = true) (k : Ex l G d md q ls st M r M') : Ex l G d md pc ls (v :: st) M r M' :=
  Ex.pure k fun p e R s m args below meth c H locs cells slots A Q F hR hS hl kk => by subst hq; exact lv_pop F.1 F.2.1 hd (noL_at (j := 0) hv rfl _) (kk A hS.pop hl)
theorem r_dup_x1 {v w : Vl} (q : Nat) (hd : decode (mB md) pc = .ok (.dup_x1, 1)) (hq : pc + 1 = q) (hv : noL [some v, some w] = true) (k : Ex l G d md q ls (v :: w :: v :: st) M r M') : Ex l G d md pc ls (v :: w :: st) M r M' :=
  Ex.pure k fun p e R s m args below meth c H locs cells slots A Q F hR hS hl kk => by subst hq; exact lv_dup_x1 F.1 F.2.1 hd (noL_at (j := 0) hv rfl _) (noL_at (j := 1) hv rfl _) (kk A (((hS.pop.pop.push hS.top).push hS.pop.top).push hS.top) hl)
theorem r_dup2 {v w : Vl} (q : Nat) (hd : decode (mB md) pc = .ok (.dup2, 1)) (hq : pc + 1 = q) (hv : noL [some v, some w] = true) (k : Ex l G d md q ls (v :: w :: v :: w :: st) M r M') : Ex l G d md pc ls (v :: w :: st) M r M' :=
  Ex.pure k fun p e R s m args below meth c H locs cells slots A Q F hR hS hl kk => by subst hq; exact lv_dup2_11 F.1 F.2.1 hd (noL_at (j := 0) hv rfl _) (noL_at (j := 1) hv rfl _) (kk A ((hS.push hS.pop.top).push hS.top) hl)
theorem r_iadd {x y : Int} (q : Nat) (hd : decode (mB md) pc = .ok (.iadd, 1)) (hq : pc + 1 = q) (ho : InR (x + y)) (k : Ex l G d md q ls (vI (x + y) :: st) M r M') : Ex l G d md pc ls (vI y :: vI x :: st) M r M' :=
  Ex.pure k fun p e R s m args below meth c H locs cells slots A Q F hR hS hl kk => by
    subst hq; have h2 := kk A (hS.pop.pop.push ho) hl
    refine lv_iadd F.1 F.2.1 hd ?_
    rw [← Int32.ofInt_add]; exact h2
theorem r_isub {x y : Int} (q : Nat) (hd : decode (mB md) pc = .ok (.isub, 1)) (hq : pc + 1 = q) (ho : InR (x - y)) (k : Ex l G d md q ls (vI (x - y) :: st) M r M') : Ex l G d md pc ls (vI y :: vI x :: st) M r M' :=
  Ex.pure k fun p e R s m args below meth c H locs cells slots A Q F hR hS hl kk => by
    subst hq; have h2 := kk A (hS.pop.pop.push ho) hl
    refine lv_isub F.1 F.2.1 hd ?_
    rw [← Int32.ofInt_sub]; exact h2
theorem r_imul {x y : Int} (q : Nat) (hd : decode (mB md) pc = .ok (.imul, 1)) (hq : pc + 1 = q) (ho : InR (x * y)) (k : Ex l G d md q ls (vI (x * y) :: st) M r M') : Ex l G d md pc ls (vI y :: vI x :: st) M r M' :=
  Ex.pure k fun p e R s m args below meth c H locs cells slots A Q F hR hS hl kk => by
    subst hq; have h2 := kk A (hS.pop.pop.push ho) hl
    refine lv_imul F.1 F.2.1 hd ?_
    rw [← Int32.ofInt_mul]; exact h2
theorem r_imulw {x y : Int} (q : Nat) (hd : decode (mB md) pc = .ok (.imul, 1)) (hq : pc + 1 = q) (k : Ex l G d md q ls (vI (aMul x y) :: st) M r M') : Ex l G d md pc ls (vI y :: vI x :: st) M r M' :=
  Ex.pure k fun p e R s m args below meth c H locs cells slots A Q F hR hS hl kk => by
    subst hq; have h2 := kk A (hS.pop.pop.push (aMul_in x y)) hl
    refine lv_imul F.1 F.2.1 hd ?_
    rw [← aMul_eq]; exact h2
theorem r_ineg {x : Int} (q : Nat) (hd : decode (mB md) pc = .ok (.ineg, 1)) (hq : pc + 1 = q) (ho : InR (-x)) (k : Ex l G d md q ls (vI (-x) :: st) M r M') : Ex l G d md pc ls (vI x :: st) M r M' :=
  Ex.pure k fun p e R s m args below meth c H locs cells slots A Q F hR hS hl kk => by
    subst hq; have h2 := kk A (hS.pop.push ho) hl
    refine lv_ineg F.1 F.2.1 hd ?_
    rw [← Int32.ofInt_neg]; exact h2
theorem r_iand {x y : Int} (q : Nat) (hd : decode (mB md) pc = .ok (.iand, 1)) (hq : pc + 1 = q) (k : Ex l G d md q ls (vI (aAnd x y) :: st) M r M') : Ex l G d md pc ls (vI y :: vI x :: st) M r M' :=
  Ex.pure k fun p e R s m args below meth c H locs cells slots A Q F hR hS hl kk => by
    subst hq; have h2 := kk A (hS.pop.pop.push (aAnd_in x y)) hl
    refine lv_iand F.1 F.2.1 hd ?_
    rw [← aAnd_eq]; exact h2
theorem r_ior {x y : Int} (q : Nat) (hd : decode (mB md) pc = .ok (.ior, 1)) (hq : pc + 1 = q) (k : Ex l G d md q ls (vI (aOr x y) :: st) M r M') : Ex l G d md pc ls (vI y :: vI x :: st) M r M' :=
  Ex.pure k fun p e R s m args below meth c H locs cells slots A Q F hR hS hl kk => by
    subst hq; have h2 := kk A (hS.pop.pop.push (aOr_in x y)) hl
    refine lv_ior F.1 F.2.1 hd ?_
    rw [← aOr_eq]; exact h2
theorem r_ixor {x y : Int} (q : Nat) (hd : decode (mB md) pc = .ok (.ixor, 1)) (hq : pc + 1 = q) (k : Ex l G d md q ls (vI (aXor x y) :: st) M r M') : Ex l G d md pc ls (vI y :: vI x :: st) M r M' :=
  Ex.pure k fun p e R s m args below meth c H locs cells slots A Q F hR hS hl kk => by
    subst hq; have h2 := kk A (hS.pop.pop.push (aXor_in x y)) hl
    refine lv_ixor F.1 F.2.1 hd ?_
    rw [← aXor_eq]; exact h2
theorem r_ishl {x y : Int} (q : Nat) (hd : decode (mB md) pc = .ok (.ishl, 1)) (hq : pc + 1 = q) (ho : 0 ≤ y ∧ y < 32) (k : Ex l G d md q ls (vI (aShl x y) :: st) M r M') : Ex l G d md pc ls (vI y :: vI x :: st) M r M' :=
  Ex.pure k fun p e R s m args below meth c H locs cells slots A Q F hR hS hl kk => by
    subst hq; have h2 := kk A (hS.pop.pop.push (aShl_in x y)) hl
    refine lv_ishl F.1 F.2.1 hd ?_
    rw [← aShl_eq ho.1 ho.2]; exact h2
theorem r_ishr {x y : Int} (q : Nat) (hd : decode (mB md) pc = .ok (.ishr, 1)) (hq : pc + 1 = q) (ho : 0 ≤ y ∧ y < 32) (k : Ex l G d md q ls (vI (aShr x y) :: st) M r M') : Ex l G d md pc ls (vI y :: vI x :: st) M r M' :=
  Ex.pure k fun p e R s m args below meth c H locs cells slots A Q F hR hS hl kk => by
    subst hq; have h2 := kk A (hS.pop.pop.push (aShr_in hS.pop.top)) hl
    refine lv_ishr F.1 F.2.1 hd ?_
    rw [← aShr_eq hS.pop.top ho.1 ho.2]; exact h2
theorem r_iushr {x y : Int} (q : Nat) (hd : decode (mB md) pc = .ok (.iushr, 1)) (hq : pc + 1 = q) (ho : 0 ≤ y ∧ y < 32) (k : Ex l G d md q ls (vI (aUshr x y) :: st) M r M') : Ex l G d md pc ls (vI y :: vI x :: st) M r M' :=
  Ex.pure k fun p e R s m args below meth c H locs cells slots A Q F hR hS hl kk => by
    subst hq; exact lv_iushr F.1 F.2.1 hd (aUshr_eq ho.1 ho.2) (kk A (hS.pop.pop.push (aUshr_in x y)) hl)
theorem r_idiv {x y : Int} (q : Nat) (hd : decode (mB md) pc = .ok (.idiv, 1)) (hq : pc + 1 = q) (ho : 0 ≤ x ∧ 0 < y) (k : Ex l G d md q ls (vI (x / y) :: st) M r M') : Ex l G d md pc ls (vI y :: vI x :: st) M r M' :=
  Ex.pure k fun p e R s m args below meth c H locs cells slots A Q F hR hS hl kk => by
    subst hq
    have hx : InR x := hS.pop.top
    have hy : InR y := hS.top
    have h3 : 0 ≤ x / y := Int.ediv_nonneg ho.1 (by omega)
    have h4 : x / y ≤ x := Int.ediv_le_self y ho.1
    have h2 := kk A (hS.pop.pop.push (show InR (x / y) by unfold InR at *; omega)) hl
    refine lv_idiv F.1 F.2.1 hd (by rw [← i32_0, i32_e hy InR0]; omega) ?_
    rw [← aDiv_eq hx hy ho.1 ho.2]; exact h2
theorem r_irem {x y : Int} (q : Nat) (hd : decode (mB md) pc = .ok (.irem, 1)) (hq : pc + 1 = q) (ho : 0 ≤ x ∧ 0 < y) (k : Ex l G d md q ls (vI (x % y) :: st) M r M') : Ex l G d md pc ls (vI y :: vI x :: st) M r M' :=
  Ex.pure k fun p e R s m args below meth c H locs cells slots A Q F hR hS hl kk => by
    subst hq
    have hx : InR x := hS.pop.top
    have hy : InR y := hS.top
    have h3 : 0 ≤ x % y := Int.emod_nonneg x (by omega)
    have h4 : x % y < y := Int.emod_lt_of_pos x ho.2
    have h2 := kk A (hS.pop.pop.push (show InR (x % y) by unfold InR at *; omega)) hl
    refine lv_irem F.1 F.2.1 hd (by rw [← i32_0, i32_e hy InR0]; omega) ?_
    rw [← aRem_eq hx hy ho.1 ho.2]; exact h2
theorem r_i2l {x : Int} (q : Nat) (hd : decode (mB md) pc = .ok (.i2l, 1)) (hq : pc + 1 = q) (k : Ex l G d md q ls (vL x :: st) M r M') : Ex l G d md pc ls (vI x :: st) M r M' :=
  Ex.pure k fun p e R s m args below meth c H locs cells slots A Q F hR hS hl kk => by subst hq; exact lv_i2l F.1 F.2.1 hd (i64_of hS.top) (kk A (hS.pop.push hS.top) hl)
theorem r_i2b {x : Int} (q : Nat) (hd : decode (mB md) pc = .ok (.i2b, 1)) (hq : pc + 1 = q) (k : Ex l G d md q ls (vI (aI2b x) :: st) M r M') : Ex l G d md pc ls (vI x :: st) M r M' :=
  Ex.pure k fun p e R s m args below meth c H locs cells slots A Q F hR hS hl kk => by subst hq; exact lv_i2b F.1 F.2.1 hd (aI2b_eq hS.top) (kk A (hS.pop.push (aI2b_in x)) hl)
theorem r_lcmp {x y : Int} (q : Nat) (hd : decode (mB md) pc = .ok (.lcmp, 1)) (hq : pc + 1 = q) (k : Ex l G d md q ls (vI (if y < x then 1 else if x = y then 0 else -1) :: st) M r M') : Ex l G d md pc ls (vL y :: vL x :: st) M r M' :=
  Ex.pure k fun p e R s m args below meth c H locs cells slots A Q F hR hS hl kk => by
    subst hq
    have hx : InR x := hS.pop.top
    have hy : InR y := hS.top
    have h2 := kk A (hS.pop.pop.push (show InR (if y < x then 1 else if x = y then 0 else -1) by unfold InR; split <;> (try split) <;> omega)) hl
    refine W.lcmp F.1 F.2.1 hd ?_
    have e : lg_cmp (Int64.ofInt x) (Int64.ofInt y) = Int32.ofInt (if y < x then 1 else if x = y then 0 else -1) := by
      unfold lg_cmp
      have e1 : (Int64.ofInt y < Int64.ofInt x) ↔ y < x := by rw [Int64.lt_iff_toInt_lt, i64_to hx, i64_to hy]
      have e2 : (Int64.ofInt x < Int64.ofInt y) ↔ x < y := by rw [Int64.lt_iff_toInt_lt, i64_to hx, i64_to hy]
      have e3 : (Int64.ofInt x = Int64.ofInt y) ↔ x = y := by rw [← Int64.toInt_inj, i64_to hx, i64_to hy]
      simp only [e1, e2, e3]
      rcases Int.lt_trichotomy x y with h | h | h
      · simp [h, show ¬ y < x by omega, show ¬ x = y by omega, show ¬ y = x by omega] <;> rfl
      · simp [h] <;> rfl
      · simp [h, show ¬ x < y by omega, show ¬ x = y by omega, show ¬ y = x by omega] <;> rfl
    rw [e]; exact h2

/-! branches -/
theorem r_if_eq {x : Int} {off : Int} (q tg : Nat) (hd : decode (mB md) pc = .ok (.ifCond .eq off, 3)) (hq : pc + 3 = q) (ht : (pc : Int) + off = (tg : Int)) (kt : x = 0 → Ex l G d md tg ls st M r M') (kf : ¬ (x = 0) → Ex l G d md q ls st M r M') : Ex l G d md pc ls (vI x :: st) M r M' := by
  subst hq
  by_cases hc : x = 0
  · refine Ex.pure (kt hc) fun p e R s m args below meth c H locs cells slots A Q F hR hS hl kk => ?_
    have hx : InR x := hS.top
    have e : (Int32.ofInt x) = (0 : Int32) := by rw [← i32_0]; rw [i32_e hx InR0]; (try simp only [Int.not_lt, Int.not_le]); omega
    exact lv_if_eq F.1 F.2.1 hd ht (fun _ => kk A hS.pop hl) (fun n => by first | exact absurd e n | exact absurd n e)
  · refine Ex.pure (kf hc) fun p e R s m args below meth c H locs cells slots A Q F hR hS hl kk => ?_
    have hx : InR x := hS.top
    have e : ¬ ((Int32.ofInt x) = (0 : Int32)) := by rw [← i32_0]; rw [i32_e hx InR0]; (try simp only [Int.not_lt, Int.not_le]); omega
    exact lv_if_eq F.1 F.2.1 hd ht (fun n => by first | exact absurd n e | exact absurd e n) (fun _ => kk A hS.pop hl)
theorem r_icmp_eq {x y : Int} {off : Int} (q tg : Nat) (hd : decode (mB md) pc = .ok (.if_icmp .eq off, 3)) (hq : pc + 3 = q) (ht : (pc : Int) + off = (tg : Int)) (kt : x = y → Ex l G d md tg ls st M r M') (kf : ¬ (x = y) → Ex l G d md q ls st M r M') : Ex l G d md pc ls (vI y :: vI x :: st) M r M' := by
  subst hq
  by_cases hc : x = y
  · refine Ex.pure (kt hc) fun p e R s m args below meth c H locs cells slots A Q F hR hS hl kk => ?_
    have hx : InR x := hS.pop.top
    have hy : InR y := hS.top
    have e : (Int32.ofInt x) = (Int32.ofInt y) := by rw [i32_e hx hy]; (try simp only [Int.not_lt, Int.not_le]); omega
    exact lv_icmp_eq F.1 F.2.1 hd ht (fun _ => kk A hS.pop.pop hl) (fun n => by first | exact absurd e n | exact absurd n e)
  · refine Ex.pure (kf hc) fun p e R s m args below meth c H locs cells slots A Q F hR hS hl kk => ?_
    have hx : InR x := hS.pop.top
    have hy : InR y := hS.top
    have e : ¬ ((Int32.ofInt x) = (Int32.ofInt y)) := by rw [i32_e hx hy]; (try simp only [Int.not_lt, Int.not_le]); omega
    exact lv_icmp_eq F.1 F.2.1 hd ht (fun n => by first | exact absurd n e | exact absurd e n) (fun _ => kk A hS.pop.pop hl)
theorem r_if_ne {x : Int} {off : Int} (q tg : Nat) (hd : decode (mB md) pc = .ok (.ifCond .ne off, 3)) (hq : pc + 3 = q) (ht : (pc : Int) + off = (tg : Int)) (kt : ¬ x = 0 → Ex l G d md tg ls st M r M') (kf : ¬ (¬ x = 0) → Ex l G d md q ls st M r M') : Ex l G d md pc ls (vI x :: st) M r M' := by
  subst hq
  by_cases hc : ¬ x = 0
  · refine Ex.pure (kt hc) fun p e R s m args below meth c H locs cells slots A Q F hR hS hl kk => ?_
    have hx : InR x := hS.top
    have e : ¬ (Int32.ofInt x) = (0 : Int32) := by rw [← i32_0]; rw [i32_e hx InR0]; (try simp only [Int.not_lt, Int.not_le]); omega
    exact lv_if_ne F.1 F.2.1 hd ht (fun _ => kk A hS.pop hl) (fun n => by first | exact absurd e n | exact absurd n e)
  · refine Ex.pure (kf hc) fun p e R s m args below meth c H locs cells slots A Q F hR hS hl kk => ?_
    have hx : InR x := hS.top
    have e : ¬ (¬ (Int32.ofInt x) = (0 : Int32)) := by rw [← i32_0]; rw [i32_e hx InR0]; (try simp only [Int.not_lt, Int.not_le]); omega
    exact lv_if_ne F.1 F.2.1 hd ht (fun n => by first | exact absurd n e | exact absurd e n) (fun _ => kk A hS.pop hl)
theorem r_icmp_ne {x y : Int} {off : Int} (q tg : Nat) (hd : decode (mB md) pc = .ok (.if_icmp .ne off, 3)) (hq : pc + 3 = q) (ht : (pc : Int) + off = (tg : Int)) (kt : ¬ x = y → Ex l G d md tg ls st M r M') (kf : ¬ (¬ x = y) → Ex l G d md q ls st M r M') : Ex l G d md pc ls (vI y :: vI x :: st) M r M' := by
  subst hq
  by_cases hc : ¬ x = y
  · refine Ex.pure (kt hc) fun p e R s m args below meth c H locs cells slots A Q F hR hS hl kk => ?_
    have hx : InR x := hS.pop.top
    have hy : InR y := hS.top
    have e : ¬ (Int32.ofInt x) = (Int32.ofInt y) := by rw [i32_e hx hy]; (try simp only [Int.not_lt, Int.not_le]); omega
    exact lv_icmp_ne F.1 F.2.1 hd ht (fun _ => kk A hS.pop.pop hl) (fun n => by first | exact absurd e n | exact absurd n e)
  · refine Ex.pure (kf hc) fun p e R s m args below meth c H locs cells slots A Q F hR hS hl kk => ?_
    have hx : InR x := hS.pop.top
    have hy : InR y := hS.top
    have e : ¬ (¬ (Int32.ofInt x) = (Int32.ofInt y)) := by rw [i32_e hx hy]; (try simp only [Int.not_lt, Int.not_le]); omega
    exact lv_icmp_ne F.1 F.2.1 hd ht (fun n => by first | exact absurd n e | exact absurd e n) (fun _ => kk A hS.pop.pop hl)
theorem r_if_lt {x : Int} {off : Int} (q tg : Nat) (hd : decode (mB md) pc = .ok (.ifCond .lt off, 3)) (hq : pc + 3 = q) (ht : (pc : Int) + off = (tg : Int)) (kt : x < 0 → Ex l G d md tg ls st M r M') (kf : ¬ (x < 0) → Ex l G d md q ls st M r M') : Ex l G d md pc ls (vI x :: st) M r M' := by
  subst hq
  by_cases hc : x < 0
  · refine Ex.pure (kt hc) fun p e R s m args below meth c H locs cells slots A Q F hR hS hl kk => ?_
    have hx : InR x := hS.top
    have e : (Int32.ofInt x) < (0 : Int32) := by rw [← i32_0]; rw [i32_lt hx InR0]; (try simp only [Int.not_lt, Int.not_le]); omega
    exact lv_if_lt F.1 F.2.1 hd ht (fun _ => kk A hS.pop hl) (fun n => by first | exact absurd e n | exact absurd n e)
  · refine Ex.pure (kf hc) fun p e R s m args below meth c H locs cells slots A Q F hR hS hl kk => ?_
    have hx : InR x := hS.top
    have e : ¬ ((Int32.ofInt x) < (0 : Int32)) := by rw [← i32_0]; rw [i32_lt hx InR0]; (try simp only [Int.not_lt, Int.not_le]); omega
    exact lv_if_lt F.1 F.2.1 hd ht (fun n => by first | exact absurd n e | exact absurd e n) (fun _ => kk A hS.pop hl)
theorem r_icmp_lt {x y : Int} {off : Int} (q tg : Nat) (hd : decode (mB md) pc = .ok (.if_icmp .lt off, 3)) (hq : pc + 3 = q) (ht : (pc : Int) + off = (tg : Int)) (kt : x < y → Ex l G d md tg ls st M r M') (kf : ¬ (x < y) → Ex l G d md q ls st M r M') : Ex l G d md pc ls (vI y :: vI x :: st) M r M' := by
  subst hq
  by_cases hc : x < y
  · refine Ex.pure (kt hc) fun p e R s m args below meth c H locs cells slots A Q F hR hS hl kk => ?_
    have hx : InR x := hS.pop.top
    have hy : InR y := hS.top
    have e : (Int32.ofInt x) < (Int32.ofInt y) := by rw [i32_lt hx hy]; (try simp only [Int.not_lt, Int.not_le]); omega
    exact lv_icmp_lt F.1 F.2.1 hd ht (fun _ => kk A hS.pop.pop hl) (fun n => by first | exact absurd e n | exact absurd n e)
  · refine Ex.pure (kf hc) fun p e R s m args below meth c H locs cells slots A Q F hR hS hl kk => ?_
    have hx : InR x := hS.pop.top
    have hy : InR y := hS.top
    have e : ¬ ((Int32.ofInt x) < (Int32.ofInt y)) := by rw [i32_lt hx hy]; (try simp only [Int.not_lt, Int.not_le]); omega
    exact lv_icmp_lt F.1 F.2.1 hd ht (fun n => by first | exact absurd n e | exact absurd e n) (fun _ => kk A hS.pop.pop hl)
theorem r_if_ge {x : Int} {off : Int} (q tg : Nat) (hd : decode (mB md) pc = .ok (.ifCond .ge off, 3)) (hq : pc + 3 = q) (ht : (pc : Int) + off = (tg : Int)) (kt : 0 ≤ x → Ex l G d md tg ls st M r M') (kf : ¬ (0 ≤ x) → Ex l G d md q ls st M r M') : Ex l G d md pc ls (vI x :: st) M r M' := by
  subst hq
  by_cases hc : 0 ≤ x
  · refine Ex.pure (kt hc) fun p e R s m args below meth c H locs cells slots A Q F hR hS hl kk => ?_
    have hx : InR x := hS.top
    have e : (0 : Int32) ≤ (Int32.ofInt x) := by rw [← i32_0]; rw [i32_le InR0 hx]; (try simp only [Int.not_lt, Int.not_le]); omega
    exact lv_if_ge F.1 F.2.1 hd ht (fun _ => kk A hS.pop hl) (fun n => by first | exact absurd e n | exact absurd n e)
  · refine Ex.pure (kf hc) fun p e R s m args below meth c H locs cells slots A Q F hR hS hl kk => ?_
    have hx : InR x := hS.top
    have e : ¬ ((0 : Int32) ≤ (Int32.ofInt x)) := by rw [← i32_0]; rw [i32_le InR0 hx]; (try simp only [Int.not_lt, Int.not_le]); omega
    exact lv_if_ge F.1 F.2.1 hd ht (fun n => by first | exact absurd n e | exact absurd e n) (fun _ => kk A hS.pop hl)
theorem r_icmp_ge {x y : Int} {off : Int} (q tg : Nat) (hd : decode (mB md) pc = .ok (.if_icmp .ge off, 3)) (hq : pc + 3 = q) (ht : (pc : Int) + off = (tg : Int)) (kt : y ≤ x → Ex l G d md tg ls st M r M') (kf : ¬ (y ≤ x) → Ex l G d md q ls st M r M') : Ex l G d md pc ls (vI y :: vI x :: st) M r M' := by
  subst hq
  by_cases hc : y ≤ x
  · refine Ex.pure (kt hc) fun p e R s m args below meth c H locs cells slots A Q F hR hS hl kk => ?_
    have hx : InR x := hS.pop.top
    have hy : InR y := hS.top
    have e : (Int32.ofInt y) ≤ (Int32.ofInt x) := by rw [i32_le hy hx]; (try simp only [Int.not_lt, Int.not_le]); omega
    exact lv_icmp_ge F.1 F.2.1 hd ht (fun _ => kk A hS.pop.pop hl) (fun n => by first | exact absurd e n | exact absurd n e)
  · refine Ex.pure (kf hc) fun p e R s m args below meth c H locs cells slots A Q F hR hS hl kk => ?_
    have hx : InR x := hS.pop.top
    have hy : InR y := hS.top
    have e : ¬ ((Int32.ofInt y) ≤ (Int32.ofInt x)) := by rw [i32_le hy hx]; (try simp only [Int.not_lt, Int.not_le]); omega
    exact lv_icmp_ge F.1 F.2.1 hd ht (fun n => by first | exact absurd n e | exact absurd e n) (fun _ => kk A hS.pop.pop hl)
theorem r_if_gt {x : Int} {off : Int} (q tg : Nat) (hd : decode (mB md) pc = .ok (.ifCond .gt off, 3)) (hq : pc + 3 = q) (ht : (pc : Int) + off = (tg : Int)) (kt : 0 < x → Ex l G d md tg ls st M r M') (kf : ¬ (0 < x) → Ex l G d md q ls st M r M') : Ex l G d md pc ls (vI x :: st) M r M' := by
  subst hq
  by_cases hc : 0 < x
  · refine Ex.pure (kt hc) fun p e R s m args below meth c H locs cells slots A Q F hR hS hl kk => ?_
    have hx : InR x := hS.top
    have e : (0 : Int32) < (Int32.ofInt x) := by rw [← i32_0]; rw [i32_lt InR0 hx]; (try simp only [Int.not_lt, Int.not_le]); omega
    exact lv_if_gt F.1 F.2.1 hd ht (fun _ => kk A hS.pop hl) (fun n => by first | exact absurd e n | exact absurd n e)
  · refine Ex.pure (kf hc) fun p e R s m args below meth c H locs cells slots A Q F hR hS hl kk => ?_
    have hx : InR x := hS.top
    have e : ¬ ((0 : Int32) < (Int32.ofInt x)) := by rw [← i32_0]; rw [i32_lt InR0 hx]; (try simp only [Int.not_lt, Int.not_le]); omega
    exact lv_if_gt F.1 F.2.1 hd ht (fun n => by first | exact absurd n e | exact absurd e n) (fun _ => kk A hS.pop hl)
theorem r_icmp_gt {x y : Int} {off : Int} (q tg : Nat) (hd : decode (mB md) pc = .ok (.if_icmp .gt off, 3)) (hq : pc + 3 = q) (ht : (pc : Int) + off = (tg : Int)) (kt : y < x → Ex l G d md tg ls st M r M') (kf : ¬ (y < x) → Ex l G d md q ls st M r M') : Ex l G d md pc ls (vI y :: vI x :: st) M r M' := by
  subst hq
  by_cases hc : y < x
  · refine Ex.pure (kt hc) fun p e R s m args below meth c H locs cells slots A Q F hR hS hl kk => ?_
    have hx : InR x := hS.pop.top
    have hy : InR y := hS.top
    have e : (Int32.ofInt y) < (Int32.ofInt x) := by rw [i32_lt hy hx]; (try simp only [Int.not_lt, Int.not_le]); omega
    exact lv_icmp_gt F.1 F.2.1 hd ht (fun _ => kk A hS.pop.pop hl) (fun n => by first | exact absurd e n | exact absurd n e)
  · refine Ex.pure (kf hc) fun p e R s m args below meth c H locs cells slots A Q F hR hS hl kk => ?_
    have hx : InR x := hS.pop.top
    have hy : InR y := hS.top
    have e : ¬ ((Int32.ofInt y) < (Int32.ofInt x)) := by rw [i32_lt hy hx]; (try simp only [Int.not_lt, Int.not_le]); omega
    exact lv_icmp_gt F.1 F.2.1 hd ht (fun n => by first | exact absurd n e | exact absurd e n) (fun _ => kk A hS.pop.pop hl)
theorem r_if_le {x : Int} {off : Int} (q tg : Nat) (hd : decode (mB md) pc = .ok (.ifCond .le off, 3)) (hq : pc + 3 = q) (ht : (pc : Int) + off = (tg : Int)) (kt : x ≤ 0 → Ex l G d md tg ls st M r M') (kf : ¬ (x ≤ 0) → Ex l G d md q ls st M r M') : Ex l G d md pc ls (vI x :: st) M r M' := by
  subst hq
  by_cases hc : x ≤ 0
  · refine Ex.pure (kt hc) fun p e R s m args below meth c H locs cells slots A Q F hR hS hl kk => ?_
    have hx : InR x := hS.top
    have e : (Int32.ofInt x) ≤ (0 : Int32) := by rw [← i32_0]; rw [i32_le hx InR0]; (try simp only [Int.not_lt, Int.not_le]); omega
    exact lv_if_le F.1 F.2.1 hd ht (fun _ => kk A hS.pop hl) (fun n => by first | exact absurd e n | exact absurd n e)
  · refine Ex.pure (kf hc) fun p e R s m args below meth c H locs cells slots A Q F hR hS hl kk => ?_
    have hx : InR x := hS.top
    have e : ¬ ((Int32.ofInt x) ≤ (0 : Int32)) := by rw [← i32_0]; rw [i32_le hx InR0]; (try simp only [Int.not_lt, Int.not_le]); omega
    exact lv_if_le F.1 F.2.1 hd ht (fun n => by first | exact absurd n e | exact absurd e n) (fun _ => kk A hS.pop hl)
theorem r_icmp_le {x y : Int} {off : Int} (q tg : Nat) (hd : decode (mB md) pc = .ok (.if_icmp .le off, 3)) (hq : pc + 3 = q) (ht : (pc : Int) + off = (tg : Int)) (kt : x ≤ y → Ex l G d md tg ls st M r M') (kf : ¬ (x ≤ y) → Ex l G d md q ls st M r M') : Ex l G d md pc ls (vI y :: vI x :: st) M r M' := by
  subst hq
  by_cases hc : x ≤ y
  · refine Ex.pure (kt hc) fun p e R s m args below meth c H locs cells slots A Q F hR hS hl kk => ?_
    have hx : InR x := hS.pop.top
    have hy : InR y := hS.top
    have e : (Int32.ofInt x) ≤ (Int32.ofInt y) := by rw [i32_le hx hy]; (try simp only [Int.not_lt, Int.not_le]); omega
    exact lv_icmp_le F.1 F.2.1 hd ht (fun _ => kk A hS.pop.pop hl) (fun n => by first | exact absurd e n | exact absurd n e)
  · refine Ex.pure (kf hc) fun p e R s m args below meth c H locs cells slots A Q F hR hS hl kk => ?_
    have hx : InR x := hS.pop.top
    have hy : InR y := hS.top
    have e : ¬ ((Int32.ofInt x) ≤ (Int32.ofInt y)) := by rw [i32_le hx hy]; (try simp only [Int.not_lt, Int.not_le]); omega
    exact lv_icmp_le F.1 F.2.1 hd ht (fun n => by first | exact absurd n e | exact absurd e n) (fun _ => kk A hS.pop.pop hl)
theorem r_goto {off : Int} (tg : Nat) (hd : decode (mB md) pc = .ok (.goto off, 3)) (ht : (pc : Int) + off = (tg : Int)) (k : Ex l G d md tg ls st M r M') : Ex l G d md pc ls st M r M' :=
  Ex.pure k fun p e R s m args below meth c H locs cells slots A Q F hR hS hl kk => lv_goto F.1 F.2.1 hd ht (kk A hS hl)
theorem r_ifnull {x : Option Nm} {off : Int} (q tg : Nat) (hd : decode (mB md) pc = .ok (.ifnull off, 3)) (hq : pc + 3 = q) (ht : (pc : Int) + off = (tg : Int)) (kt : x = none → Ex l G d md tg ls st M r M') (kf : ¬ x = none → Ex l G d md q ls st M r M') : Ex l G d md pc ls (vR x :: st) M r M' := by
  subst hq
  cases x with
  | none => exact Ex.pure (kt rfl) fun p e R s m args below meth c H locs cells slots A Q F hR hS hl kk => lv_ifnullN F.1 F.2.1 hd ht (kk A hS.pop hl)
  | some x => exact Ex.pure (kf (by simp)) fun p e R s m args below meth c H locs cells slots A Q F hR hS hl kk => lv_ifnull F.1 F.2.1 hd (kk A hS.pop hl)
theorem r_ifnonnull {x : Option Nm} {off : Int} (q tg : Nat) (hd : decode (mB md) pc = .ok (.ifnonnull off, 3)) (hq : pc + 3 = q) (ht : (pc : Int) + off = (tg : Int)) (kt : ¬ x = none → Ex l G d md tg ls st M r M') (kf : x = none → Ex l G d md q ls st M r M') : Ex l G d md pc ls (vR x :: st) M r M' := by
  subst hq
  cases x with
  | none => exact Ex.pure (kf rfl) fun p e R s m args below meth c H locs cells slots A Q F hR hS hl kk => lv_ifnonnullN F.1 F.2.1 hd (kk A hS.pop hl)
  | some x => exact Ex.pure (kt (by simp)) fun p e R s m args below meth c H locs cells slots A Q F hR hS hl kk => lv_ifnonnull F.1 F.2.1 hd ht (kk A hS.pop hl)
theorem r_tswOut {dflt lo hi x : Int} {offs : Array Int} {len : Nat} (tg : Nat) (hd : decode (mB md) pc = .ok (.tableswitch dflt lo hi offs, len)) (h : x < lo ∨ hi < x) (ht : (pc : Int) + dflt = (tg : Int)) (k : Ex l G d md tg ls st M r M') : Ex l G d md pc ls (vI x :: st) M r M' :=
  Ex.pure k fun p e R s m args below meth c H locs cells slots A Q F hR hS hl kk => lv_tableOut F.1 F.2.1 hd (by rw [i32_to hS.top]; exact h) ht (kk A hS.pop hl)
theorem r_tswIn {dflt lo hi x off : Int} {offs : Array Int} {len : Nat} (tg : Nat) (hd : decode (mB md) pc = .ok (.tableswitch dflt lo hi offs, len)) (v : Int) (hx : x = v) (h : (decide (lo ≤ v) && decide (v ≤ hi)) = true) (ho : offs[(v - lo).toNat]? = some off) (ht : (pc : Int) + off = (tg : Int)) (k : Ex l G d md tg ls st M r M') : Ex l G d md pc ls (vI x :: st) M r M' :=
  Ex.pure k fun p e R s m args below meth c H locs cells slots A Q F hR hS hl kk => by
    subst hx
    simp at h
    exact lv_tableIn F.1 F.2.1 hd (by rw [i32_to hS.top]; omega) (by rw [i32_to hS.top]; omega) (by rw [i32_to hS.top]; exact ho) ht (kk A hS.pop hl)
end EX
