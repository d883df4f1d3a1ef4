/-! the rows as the printed walks use them -/
def FI (own : String) (ix ci j : Nat) : Prop := ∃ C, classes[ci]? = some C ∧ Nat.blt j C.2.2 = true ∧ Cond.fieldLink own ix (C.2.1 j).1 (C.2.1 j).2.1 (C.2.1 j).2.2.1 ∈ wT ∧ isR (tyOf ci j) = false
def FR (own : String) (ix ci j : Nat) : Prop := ∃ C, classes[ci]? = some C ∧ Nat.blt j C.2.2 = true ∧ Cond.fieldLink own ix (C.2.1 j).1 (C.2.1 j).2.1 (C.2.1 j).2.2.1 ∈ wT ∧ isR (tyOf ci j) = true
/-- fin: a final field -/
def PF (own : String) (ix ci j : Nat) (fin : Bool) : Prop := ∃ C, classes[ci]? = some C ∧ Nat.blt j C.2.2 = true ∧ Cond.fieldLink own ix (C.2.1 j).1 (C.2.1 j).2.1 (C.2.1 j).2.2.1 ∈ wT ∧ (C.2.1 j).2.2.2 = fin ∧ (fin = true → (C.2.1 j).1 = own)
def subL : List (Option Vl) → List (Option Vl) → Prop
  | [], _ => True
  | none :: t, _ :: t' => subL t t'
  | some v :: t, some w :: t' => v = w ∧ subL t t'
  | none :: t, [] => subL t []
  | some _ :: _, [] => False
  | some _ :: _, none :: _ => False
theorem subL_at : ∀ {a b : List (Option Vl)}, subL a b → ∀ {j : Nat} {v : Vl}, a[j]? = some (some v) → b[j]? = some (some v) := by
  intro a
  induction a with
  | nil => intro b _ j v h; simp at h
  | cons x t ih =>
    intro b hs j v h
    cases x with
    | none =>
      cases j with
      | zero => simp at h
      | succ j =>
        cases b with
        | nil => exact absurd (ih hs (j := j) (by simpa using h)) (by simp)
        | cons y t' => simpa using ih hs (j := j) (by simpa using h)
    | some w =>
      cases b with
      | nil => exact hs.elim
      | cons y t' =>
        cases y with
        | none => exact hs.elim
        | some y =>
          obtain ⟨e, hs⟩ := hs
          subst e
          cases j with
          | zero => simpa using h
          | succ j => simpa using ih hs (j := j) (by simpa using h)
section EW
variable {l : Launch} {G : Gt} {d : Nat} {md md2 : Md} {pc : Nat} {ls ls' : List (Option Vl)} {st : List Vl} {M M1 : Mem} {r r1 : Option Vl} {M' : Mem}
theorem Ex.weak (k : Ex l G d md pc ls' st M r M') (h : subL ls' ls) : Ex l G d md pc ls st M r M' := by
  refine Ex.pure k fun p e R s m args below meth c H locs cells slots A Q F hR hS hl kk => kk A ⟨fun v hv => ?_, hS.2⟩ ⟨hl.1, hl.2.1, fun q hq => ?_⟩
  · obtain ⟨j, hj⟩ := List.getElem?_of_mem hv
    exact hS.1 v (List.mem_of_getElem? (subL_at h hj))
  · obtain ⟨j, v, rfl, hj⟩ := lvl_of hq
    exact hl.2.2 _ (lvl_mem (subL_at h hj))
theorem g_I {x : Option Nm} {f k ix j ci : Nat} {v : Int} (q : Nat) (hd : decode (mB md) pc = .ok (.getfield ix, 3)) (hq : pc + 3 = q) (hx : x = some (f, k)) (hf : fK f = 100 + ci) (fo : FI (mY md).cls ix ci j) (hv : M.1 f k j = v) (kx : Ex l G d md q ls (vI v :: st) M r M') : Ex l G d md pc ls (vR x :: st) M r M' := by
  obtain ⟨C, h1, h2, h3, h4⟩ := fo
  exact r_getI q hd hq hx hf h1 h2 h3 h4 hv kx
theorem g_R {x : Option Nm} {f k ix j ci : Nat} {v : Option Nm} (q : Nat) (hd : decode (mB md) pc = .ok (.getfield ix, 3)) (hq : pc + 3 = q) (hx : x = some (f, k)) (hf : fK f = 100 + ci) (fo : FR (mY md).cls ix ci j) (hv : M.2.1 f k j = v) (kx : Ex l G d md q ls (vR v :: st) M r M') : Ex l G d md pc ls (vR x :: st) M r M' := by
  obtain ⟨C, h1, h2, h3, h4⟩ := fo
  exact r_getR q hd hq hx hf h1 h2 h3 h4 hv kx
theorem p_I {I : IM} {R : RM} {c : Ct} {x : Option Nm} {f k ix j ci : Nat} {v : Int} {fin : Bool} (q : Nat) (hd : decode (mB md) pc = .ok (.putfield ix, 3)) (hq : pc + 3 = q) (hx : x = some (f, k)) (h2 : Nat.ble 2 f = true) (hf : fK f = 100 + ci) (fo : PF (mY md).cls ix ci j fin) (hn : fin = false ∨ (mY md).name = "<init>") (ht : tyOf ci j = .int) (kx : Ex l G d md q ls st (upI I f k j v, R, c) r M') : Ex l G d md pc ls (vI v :: vR x :: st) (I, R, c) r M' := by
  obtain ⟨C, h1, h3, h4, h5, h6⟩ := fo
  refine r_putI q hd hq hx h2 hf h1 h3 h4 ?_ (.inl ht) kx
  cases fin with
  | false => exact .inl h5
  | true => exact .inr ⟨hn.resolve_left (by decide), h6 rfl⟩
theorem p_Z {I : IM} {R : RM} {c : Ct} {x : Option Nm} {f k ix j ci : Nat} {v : Int} {fin : Bool} (q : Nat) (hd : decode (mB md) pc = .ok (.putfield ix, 3)) (hq : pc + 3 = q) (hx : x = some (f, k)) (h2 : Nat.ble 2 f = true) (hf : fK f = 100 + ci) (fo : PF (mY md).cls ix ci j fin) (hn : fin = false ∨ (mY md).name = "<init>") (ht : tyOf ci j = .boolean) (ho : v = 0 ∨ v = 1) (kx : Ex l G d md q ls st (upI I f k j v, R, c) r M') : Ex l G d md pc ls (vI v :: vR x :: st) (I, R, c) r M' := by
  obtain ⟨C, h1, h3, h4, h5, h6⟩ := fo
  refine r_putI q hd hq hx h2 hf h1 h3 h4 ?_ (.inr ⟨ht, ho⟩) kx
  cases fin with
  | false => exact .inl h5
  | true => exact .inr ⟨hn.resolve_left (by decide), h6 rfl⟩
theorem p_R {I : IM} {R : RM} {c : Ct} {x : Option Nm} {f k ix j ci : Nat} {v : Option Nm} {fin : Bool} (q : Nat) (hd : decode (mB md) pc = .ok (.putfield ix, 3)) (hq : pc + 3 = q) (hx : x = some (f, k)) (h2 : Nat.ble 2 f = true) (hf : fK f = 100 + ci) (fo : PF (mY md).cls ix ci j fin) (hn : fin = false ∨ (mY md).name = "<init>") (ht : isR (tyOf ci j) = true) (kx : Ex l G d md q ls st (I, upR R f k j v, c) r M') : Ex l G d md pc ls (vR v :: vR x :: st) (I, R, c) r M' := by
  obtain ⟨C, h1, h3, h4, h5, h6⟩ := fo
  refine r_putR q hd hq hx h2 hf h1 h3 h4 ?_ ht kx
  cases fin with
  | false => exact .inl h5
  | true => exact .inr ⟨hn.resolve_left (by decide), h6 rfl⟩
theorem a_I {x : Option Nm} {f k : Nat} {a v : Int} (N : Int) (q : Nat) (hd : decode (mB md) pc = .ok (.iaload, 1)) (hq : pc + 1 = q) (hx : x = some (f, k)) (hf : fK f = 1) (hN : (aLen M.2.2 f k : Int) = N) (ho : 0 ≤ a ∧ a < N) (hv : M.1 f k a.toNat = v) (kx : Ex l G d md q ls (vI v :: st) M r M') : Ex l G d md pc ls (vI a :: vR x :: st) M r M' := by
  subst hN; exact r_iald q hd hq hx hf ho hv kx
theorem a_B {x : Option Nm} {f k : Nat} {a v : Int} (N : Int) (q : Nat) (hd : decode (mB md) pc = .ok (.baload, 1)) (hq : pc + 1 = q) (hx : x = some (f, k)) (hf : fK f = 2) (hN : (aLen M.2.2 f k : Int) = N) (ho : 0 ≤ a ∧ a < N) (hv : M.1 f k a.toNat = v) (kx : Ex l G d md q ls (vI v :: st) M r M') : Ex l G d md pc ls (vI a :: vR x :: st) M r M' := by
  subst hN; exact r_bald q hd hq hx hf ho hv kx
theorem a_Z {x : Option Nm} {f k : Nat} {a v : Int} (N : Int) (q : Nat) (hd : decode (mB md) pc = .ok (.baload, 1)) (hq : pc + 1 = q) (hx : x = some (f, k)) (hf : fK f = 3) (hN : (aLen M.2.2 f k : Int) = N) (ho : 0 ≤ a ∧ a < N) (hv : M.1 f k a.toNat = v) (kx : Ex l G d md q ls (vI v :: st) M r M') : Ex l G d md pc ls (vI a :: vR x :: st) M r M' := by
  subst hN; exact r_zald q hd hq hx hf ho hv kx
theorem a_R {x : Option Nm} {f k ci : Nat} {a : Int} {v : Option Nm} (N : Int) (q : Nat) (hd : decode (mB md) pc = .ok (.aaload, 1)) (hq : pc + 1 = q) (hx : x = some (f, k)) (hf : fK f = 10 + ci) (hci : (ci == 1 || ci == 5 || ci == 7 || ci == 8) = true) (hN : (aLen M.2.2 f k : Int) = N) (ho : 0 ≤ a ∧ a < N) (hv : M.2.1 f k a.toNat = v) (kx : Ex l G d md q ls (vR v :: st) M r M') : Ex l G d md pc ls (vI a :: vR x :: st) M r M' := by
  subst hN; exact r_aald q hd hq hx hf (by simp at hci; omega) ho hv kx
theorem s_I {I : IM} {R : RM} {c : Ct} {x : Option Nm} {f k : Nat} {a v : Int} (N : Int) (q : Nat) (hd : decode (mB md) pc = .ok (.iastore, 1)) (hq : pc + 1 = q) (hx : x = some (f, k)) (h2 : 2 ≤ f) (hf : fK f = 1) (hN : (aLen c f k : Int) = N) (ho : 0 ≤ a ∧ a < N) (kx : Ex l G d md q ls st (upI I f k a.toNat v, R, c) r M') : Ex l G d md pc ls (vI v :: vI a :: vR x :: st) (I, R, c) r M' := by
  subst hN; exact r_iast q hd hq hx h2 hf ho kx
theorem s_B {I : IM} {R : RM} {c : Ct} {x : Option Nm} {f k : Nat} {a v : Int} (N : Int) (q : Nat) (hd : decode (mB md) pc = .ok (.bastore, 1)) (hq : pc + 1 = q) (hx : x = some (f, k)) (h2 : 2 ≤ f) (hf : fK f = 2) (hN : (aLen c f k : Int) = N) (ho : 0 ≤ a ∧ a < N) (hb : InB v) (kx : Ex l G d md q ls st (upI I f k a.toNat v, R, c) r M') : Ex l G d md pc ls (vI v :: vI a :: vR x :: st) (I, R, c) r M' := by
  subst hN; exact r_bast q hd hq hx h2 hf ho hb kx
theorem s_Z {I : IM} {R : RM} {c : Ct} {x : Option Nm} {f k : Nat} {a v : Int} (N : Int) (q : Nat) (hd : decode (mB md) pc = .ok (.bastore, 1)) (hq : pc + 1 = q) (hx : x = some (f, k)) (h2 : 2 ≤ f) (hf : fK f = 3) (hN : (aLen c f k : Int) = N) (ho : 0 ≤ a ∧ a < N) (hb : v = 0 ∨ v = 1) (kx : Ex l G d md q ls st (upI I f k a.toNat v, R, c) r M') : Ex l G d md pc ls (vI v :: vI a :: vR x :: st) (I, R, c) r M' := by
  subst hN; exact r_zast q hd hq hx h2 hf ho hb kx
theorem s_R {I : IM} {R : RM} {c : Ct} {x : Option Nm} {f k ci g j : Nat} {C : vw_C} {a : Int} (N : Int) (q : Nat) (hd : decode (mB md) pc = .ok (.aastore, 1)) (hq : pc + 1 = q) (hx : x = some (f, k)) (h2 : Nat.ble 2 f = true) (hf : fK f = 10 + ci) (hci : (ci == 1 || ci == 5 || ci == 7 || ci == 8) = true) (hC : classes[ci]? = some C) (hg : fK g = 100 + ci) (hN : (aLen c f k : Int) = N) (ho : 0 ≤ a ∧ a < N) (kx : Ex l G d md q ls st (I, upR R f k a.toNat (some (g, j)), c) r M') : Ex l G d md pc ls (vR (some (g, j)) :: vI a :: vR x :: st) (I, R, c) r M' := by
  subst hN; exact r_aast q hd hq hx (by simpa using h2) hf (by simp at hci; omega) hC hg ho kx
theorem v_1 {ix f k ci : Nat} {C : vw_C} {x : Option Nm} {st0 : List Vl} {v : Vl} (args rest : List Vl) (q : Nat) (hd : decode (mB md) pc = .ok (.invokevirtual ix, 3)) (hq : pc + 3 = q) (hx : x = some (f, k)) (hst : st0 = args.reverse ++ vR x :: rest) (hf : fK f = 100 + ci) (hC : classes[ci]? = some C) (hm : MdOk md2 args.length) (hw : Cond.methodLink (mY md).cls ix (mY md2) ∈ wT ∧ Cond.instanceMethod (mY md2) ∈ wT ∧ Cond.selects C.1 (mY md2) (mY md2) ∈ wT) (hn : Nat.ble ((vR (some (f, k)) :: args).flatMap sl2).length (mL md2) = true) (hr : Nat.ble rest.length 4 = true)
    (hcl : Cl l G d md2 (vR (some (f, k)) :: args) M (some v) M1) (kx : Ex l G (d + 1) md q ls (v :: rest) M1 r M') : Ex l G (d + 1) md pc ls st0 M r M' := r_callV args rest q hd hq hx hst hf hC hm hw hn hr hcl kx
theorem v_0 {ix f k ci : Nat} {C : vw_C} {x : Option Nm} {st0 : List Vl} (args rest : List Vl) (q : Nat) (hd : decode (mB md) pc = .ok (.invokevirtual ix, 3)) (hq : pc + 3 = q) (hx : x = some (f, k)) (hst : st0 = args.reverse ++ vR x :: rest) (hf : fK f = 100 + ci) (hC : classes[ci]? = some C) (hm : MdOk md2 args.length) (hw : Cond.methodLink (mY md).cls ix (mY md2) ∈ wT ∧ Cond.instanceMethod (mY md2) ∈ wT ∧ Cond.selects C.1 (mY md2) (mY md2) ∈ wT) (hn : Nat.ble ((vR (some (f, k)) :: args).flatMap sl2).length (mL md2) = true) (hr : Nat.ble rest.length 4 = true)
    (hcl : Cl l G d md2 (vR (some (f, k)) :: args) M none M1) (kx : Ex l G (d + 1) md q ls rest M1 r M') : Ex l G (d + 1) md pc ls st0 M r M' := r_callV args rest q hd hq hx hst hf hC hm hw hn hr hcl kx
theorem c_1 {ix : Nat} {st0 : List Vl} {v : Vl} (args rest : List Vl) (q : Nat) (hd : decode (mB md) pc = .ok (.invokestatic ix, 3)) (hq : pc + 3 = q) (hst : st0 = args.reverse ++ rest) (hm : MdOk md2 args.length) (hw : Cond.methodLink (mY md).cls ix (mY md2) ∈ wT ∧ Cond.static (mY md2) ∈ wT) (hn : Nat.ble (args.flatMap sl2).length (mL md2) = true) (hr : Nat.ble rest.length 4 = true)
    (hcl : Cl l G d md2 args M (some v) M1) (kx : Ex l G (d + 1) md q ls (v :: rest) M1 r M') : Ex l G (d + 1) md pc ls st0 M r M' := r_callS args rest q hd hq hst hm hw hn hr hcl kx
theorem c_0 {ix : Nat} {st0 : List Vl} (args rest : List Vl) (q : Nat) (hd : decode (mB md) pc = .ok (.invokestatic ix, 3)) (hq : pc + 3 = q) (hst : st0 = args.reverse ++ rest) (hm : MdOk md2 args.length) (hw : Cond.methodLink (mY md).cls ix (mY md2) ∈ wT ∧ Cond.static (mY md2) ∈ wT) (hn : Nat.ble (args.flatMap sl2).length (mL md2) = true) (hr : Nat.ble rest.length 4 = true)
    (hcl : Cl l G d md2 args M none M1) (kx : Ex l G (d + 1) md q ls rest M1 r M') : Ex l G (d + 1) md pc ls st0 M r M' := r_callS args rest q hd hq hst hm hw hn hr hcl kx
theorem n_1 {ix : Nat} {host : String} {st0 : List Vl} {v : Vl} (args rest : List Vl) (q : Nat) (hd : decode (mB md) pc = .ok (.invokestatic ix, 3)) (hq : pc + 3 = q) (hst : st0 = args.reverse ++ rest) (hm : MdOk md2 args.length) (hw : Cond.methodLinkNest (mY md).cls ix (mY md2) host ∈ wT ∧ Cond.static (mY md2) ∈ wT) (hn : Nat.ble (args.flatMap sl2).length (mL md2) = true) (hr : Nat.ble rest.length 4 = true)
    (hcl : Cl l G d md2 args M (some v) M1) (kx : Ex l G (d + 1) md q ls (v :: rest) M1 r M') : Ex l G (d + 1) md pc ls st0 M r M' := r_callSN args rest q hd hq hst hm hw hn hr hcl kx
end EW
theorem b2_0 {P : Prop} [Decidable P] : (if P then (1 : Int) else 0) = 0 ↔ ¬ P := by
  by_cases h : P <;> simp [h]
theorem b2_1 {P : Prop} [Decidable P] : ¬ (if P then (1 : Int) else 0) = 0 ↔ P := by
  by_cases h : P <;> simp [h]
theorem b2_z {P : Prop} [Decidable P] : (if P then (1 : Int) else 0) = 0 ∨ (if P then (1 : Int) else 0) = 1 := by
  by_cases h : P <;> simp [h]
/-- n ints of a row laid into another -/
def cpI (I : IM) (f k g j sp dp n : Nat) : IM := seI I g j (va_cpy (I f k) (I g j) sp dp n)
theorem cpI_f {I : IM} {f k g j sp dp n f' k' i' : Nat} (h : Nat.beq f' g = false) : cpI I f k g j sp dp n f' k' i' = I f' k' i' := by
  unfold cpI
  rw [seI_o (fun e => by rw [e.1] at h; simp at h)]
theorem cp_y {l : Launch} {G : Gt} {d : Nat} {md : Md} {pc : Nat} {ls : List (Option Vl)} {rest : List Vl} {I : IM} {R : RM} {c : Ct} {r : Option Vl} {M' : Mem} {ix f k g j : Nat} {x y : Option Nm} {sp dp n : Int} (N1 N2 : Int) (q : Nat) (hd : decode (mB md) pc = .ok (.invokestatic ix, 3)) (hq : pc + 3 = q) (hx : x = some (f, k)) (hy : y = some (g, j)) (hw : Cond.methodLink (mY md).cls ix arraycopyName ∈ wT ∧ Cond.native arraycopyName ∈ wT ∧ Cond.static arraycopyName ∈ wT ∧ Cond.initialized "java/lang/System" ∈ wT) (h2 : Nat.ble 2 g = true) (hf : fK f = 1) (hg : fK g = 1) (hN1 : (aLen c f k : Int) = N1) (hN2 : (aLen c g j : Int) = N2) (ho : 0 ≤ sp ∧ 0 ≤ dp ∧ 0 ≤ n ∧ sp + n ≤ N1 ∧ dp + n ≤ N2) (hr : Nat.ble rest.length 4 = true)
    (kx : Ex l G (d + 1) md q ls rest (cpI I f k g j sp.toNat dp.toNat n.toNat, R, c) r M') : Ex l G (d + 1) md pc ls (vI n :: vI dp :: vR y :: vI sp :: vR x :: rest) (I, R, c) r M' := by
  subst hN1; subst hN2
  exact r_copy q hd hq hx hy hw h2 hf hg ho hr kx
theorem mI_0 {I : IM} {R : RM} {c : Ct} {f k j : Nat} {v : Int} (h : I f k j = v) : ((I, R, c) : Mem).1 f k j = v := h
theorem mR_0 {I : IM} {R : RM} {c : Ct} {f k j : Nat} {v : Option Nm} (h : R f k j = v) : ((I, R, c) : Mem).2.1 f k j = v := h
theorem seI_f {I : IM} {f k : Nat} {g : Nat → Int} {f' k' i' : Nat} (h : Nat.beq f' f = false) : seI I f k g f' k' i' = I f' k' i' := by
  rw [seI_o (fun e => by rw [e.1] at h; simp at h)]
theorem r_min {l : Launch} {G : Gt} {d : Nat} {md : Md} {pc : Nat} {ls : List (Option Vl)} {rest : List Vl} {M : Mem} {r : Option Vl} {M' : Mem} {ix : Nat} {x y : Int} (q : Nat) (hd : decode (mB md) pc = .ok (.invokestatic ix, 3)) (hq : pc + 3 = q) (hw : Cond.methodLink (mY md).cls ix Lib.Math.min.name ∈ wT) (hr : Nat.ble rest.length 4 = true)
    (kx : Ex l G (d + 1) md q ls (vI (if y < x then y else x) :: rest) M r M') : Ex l G (d + 1) md pc ls (vI y :: vI x :: rest) M r M' := by
  subst hq
  refine ⟨kx.1, fun p e R s m args below meth c H locs cells slots nc0 ns0 mc ms A h1 hR h3 hS h5 h6 h7 => ?_⟩
  have F := h1
  have hw2 : Cond.static Lib.Math.min.name ∈ wT := by
    exact (inT2 (List.mem_of_getElem? (i := 194) rfl) rfl)
  have hw3 : Cond.initialized "java/lang/Math" ∈ wT := (inT1 (List.mem_of_getElem? (i := 13) rfl) rfl)
  have hw4 : Cond.code Lib.Math.min.name Lib.Math.min.code 2 (some .int) ∈ wT := (inT2 (List.mem_of_getElem? (i := 195) rfl) rfl)
  obtain ⟨hx, hb, hml, hown, hts, hret, hlk, hnm, hK⟩ := h1
  have hroom : ((rest.map (cv M.2.2)).map fun v => v.category).sum ≤ 8 := by
    have h1 := cat_le (c := M.2.2) (st := rest)
    have h2 : rest.length ≤ 4 := by simpa using hr
    omega
  have hix : InR x := hS.pop.top
  have hiy : InR y := hS.top
  have k1 := kx.1.1
  have k2 := kx.1.2.1
  refine va_mmin (x := Int32.ofInt x) (y := Int32.ofInt y) hx hb (hml.trans h5.1.symm) hown (hts _ hw) (hts _ hw2) (hts _ hw3) (hts _ hw4) (by omega) (by have := h7.2.1; omega) (by omega) (by omega) hd ?_
  have e1 : (if Int32.ofInt y < Int32.ofInt x then Int32.ofInt y else Int32.ofInt x) = Int32.ofInt (if y < x then y else x) := by
    by_cases h : y < x
    · rw [if_pos h, if_pos ((i32_lt hiy hix).mpr h)]
    · rw [if_neg h, if_neg (fun h' => h ((i32_lt hiy hix).mp h'))]
  rw [e1]
  have hin : InR (if y < x then y else x) := by split <;> assumption
  exact kx.2 p e R s m args below meth c H locs cells slots nc0 ns0 mc ms A F hR h3 (hS.pop.pop.push hin) h5 h6 h7
theorem cpI_k {I : IM} {f k g j sp dp n f' k' i' : Nat} (h : k' ≠ j) : cpI I f k g j sp dp n f' k' i' = I f' k' i' := by
  unfold cpI
  rw [seI_o (fun e => h e.2)]
theorem cpI_s {I : IM} {f k g j sp dp n i' : Nat} : cpI I f k g j sp dp n g j i' = va_cpy (I f k) (I g j) sp dp n i' := by
  unfold cpI
  rw [seI_s]
theorem newM_I {M M1 : Mem} {f n sl f' k' i' : Nat} (h : newM M f n sl = M1) (hf : Nat.beq f' f = false) : M1.1 f' k' i' = M.1 f' k' i' := by
  subst h
  show seI M.1 f _ _ f' k' i' = _
  rw [seI_o (fun e => by rw [e.1] at hf; simp at hf)]
theorem newM_R {M M1 : Mem} {f n sl f' k' i' : Nat} (h : newM M f n sl = M1) (hf : Nat.beq f' f = false) : M1.2.1 f' k' i' = M.2.1 f' k' i' := by
  subst h
  show seR M.2.1 f _ _ f' k' i' = _
  rw [seR_o (fun e => by rw [e.1] at hf; simp at hf)]
theorem newM_Is {M M1 : Mem} {f n sl i' : Nat} (h : newM M f n sl = M1) : M1.1 f (cCnt M.2.2 f) i' = 0 := by
  subst h
  show seI M.1 f _ _ f _ i' = _
  rw [seI_s]
theorem newM_Rs {M M1 : Mem} {f n sl i' : Nat} (h : newM M f n sl = M1) : M1.2.1 f (cCnt M.2.2 f) i' = none := by
  subst h
  show seR M.2.1 f _ _ f _ i' = _
  rw [seR_s]
section STR
variable {l : Launch} {G : Gt} {d : Nat} {md : Md} {pc : Nat} {ls : List (Option Vl)} {st : List Vl} {M : Mem} {r : Option Vl} {M' : Mem}
theorem r_ldcS {ix j : Nat} (q : Nat) (hd : decode (mB md) pc = .ok (.ldc ix, 2)) (hq : pc + 2 = q) (hs : (strT j).1 = (mY md).cls ∧ (strT j).2.1 = ix) (hj : Nat.blt j 14 = true) (hStr : cCnt M.2.2 1 = 28) (k : Ex l G d md q ls (vR (some (1, j)) :: st) M r M') : Ex l G d md pc ls st M r M' := by
  subst hq
  have hj' : j < 14 := by simpa using hj
  refine Ex.pure k fun p e R s m args below meth c H locs cells slots A Q F hR hS hl kk => ?_
  have hv : VOK M.2.2 (vR (some (1, j))) := by show j < cCnt M.2.2 1; omega
  have ea : cAd M.2.2 1 j = gS G j := hR.2.2.2.2.2.2.2.1 j (by omega)
  have hZ := F.2.2.2.2.2.2.2.2.2.2.1.1 j hj'
  rw [hs.1, hs.2, ← ea] at hZ
  exact va_ldcS F.1 F.2.1 F.2.2.2.1 hZ hd (kk A (hS.push hv) hl)
theorem ldcwString {p : Program} {e : Env} {R : Room} {s : State} {m : MethodId} {args : Array Value} {below : List Frame} {meth : Method} {c : Code} {T : State} {locs : List Loc} {cells slots : Nat}
    (X : Stand p l e R s m args below meth c T locs cells slots) (hexec : p.tables.exec = Jvm.exec) {own text : String} {index : Nat} {a : Addr} (hown : s.vm.findClass own = some m.cls)
    (hconst : (Cond.stringRef own index text).before args s = true) (hev : (Term.string own index).eval args s none [] s = some (.ref a)) {g : JFrame} (hg : g.method = m) (hdg : decode c.code g.pc = .ok (.ldc_w index, 3)) :
    ∀ target, Steps p.tables e below (T.setTop { g with pc := g.pc + 3, stack := .ref a :: g.stack }) target → Steps p.tables e below (T.setTop g) target := by
  obtain ⟨k, cf, i, a', hk, hcf, hcp, -, hr, hev'⟩ := Cond.stringRef_spec hown hconst
  cases hev.symm.trans hev'
  obtain ⟨k', hk', he⟩ := X.warmed.alike.2.2 _ _ hk
  have hr' : k'.resolved[index]? = some (some (.string a)) := by
    rcases X.warmed.entry hk hk' index with h | ⟨h, -⟩
    · rw [h]; exact hr
    · rw [hr] at h; cases h
  intro target hrest
  subst hg
  jvm_step X.here [hexec, hdg, ldc_w.wp_string (e := e) (s := T) (f := g) X.here.top hk' (by rw [he]; exact hcf) hcp hr']
  exact hrest
theorem r_ldcwS {ix j : Nat} (q : Nat) (hd : decode (mB md) pc = .ok (.ldc_w ix, 3)) (hq : pc + 3 = q) (hs : (strT j).1 = (mY md).cls ∧ (strT j).2.1 = ix) (hj : Nat.blt j 14 = true) (hStr : cCnt M.2.2 1 = 28) (k : Ex l G d md q ls (vR (some (1, j)) :: st) M r M') : Ex l G d md pc ls st M r M' := by
  subst hq
  have hj' : j < 14 := by simpa using hj
  refine Ex.pure k fun p e R s m args below meth c H locs cells slots A Q F hR hS hl kk => ?_
  have hv : VOK M.2.2 (vR (some (1, j))) := by show j < cCnt M.2.2 1; omega
  have ea : cAd M.2.2 1 j = gS G j := hR.2.2.2.2.2.2.2.1 j (by omega)
  have hZ := F.2.2.2.2.2.2.2.2.2.2.1.1 j hj'
  rw [hs.1, hs.2, ← ea] at hZ
  intro T hT X
  obtain ⟨t, a1, b1⟩ := kk A (hS.push hv) hl T hT X
  exact ⟨t, ldcwString X F.1 F.2.2.2.1 (text := (strT j).2.2) (a := cAd M.2.2 1 j) hZ.1 hZ.2 (g := F0 m pc A (st.map (cv M.2.2))) rfl (by rw [F.2.1]; exact hd) t a1, b1⟩
/-- the script is read -/
theorem r_sald {x : Option Nm} {a : Int} (q : Nat) (hd : decode (mB md) pc = .ok (.iaload, 1)) (hq : pc + 1 = q) (hx : x = some (0, 0)) (ho : 0 ≤ a ∧ a < gXL G) (kx : Ex l G d md q ls (vI (gXS G a.toNat) :: st) M r M') : Ex l G d md pc ls (vI a :: vR x :: st) M r M' := by
  subst hx; subst hq
  refine Ex.pure kx fun p e R s m args below meth c H locs cells slots A Q F hR hS hl kk => ?_
  have hk : 0 < cCnt M.2.2 0 := hS.pop.top
  have ha : InR a := hS.top
  obtain ⟨⟨scr, h1, h2, h3, h4, h5⟩, hb, -, hin⟩ := F.2.2.2.2.2.2.2.2.2.2.2
  have ead : cAd M.2.2 0 0 = gX G := hR.2.2.2.2.2.2.2.2 hk
  have hH := hR.2.2.1 (gX G) hb
  show W p l e R s m args below meth c H locs cells slots Q (F0 m pc A (.int (Int32.ofInt a) :: .ref (cAd M.2.2 0 0) :: st.map (cv M.2.2)))
  rw [ead]
  refine W.iald (v := .int (Int32.ofInt (gXS G a.toNat))) F.1 F.2.1 (by rw [hH]; exact h1) h2 h3 ?_ ?_ rfl rfl hd (kk A (hS.pop.pop.push (hin _)) hl)
  · rw [h4]; exact i32_ix ha _ ho.1 ho.2
  · rw [i32_cl ha, h5 _ (by omega)]
theorem r_slen {x : Option Nm} (q : Nat) (hd : decode (mB md) pc = .ok (.arraylength, 1)) (hq : pc + 1 = q) (hx : x = some (0, 0)) (kx : Ex l G d md q ls (vI (gXL G : Int) :: st) M r M') : Ex l G d md pc ls (vR x :: st) M r M' := by
  subst hx; subst hq
  refine Ex.pure kx fun p e R s m args below meth c H locs cells slots A Q F hR hS hl kk => ?_
  have hk : 0 < cCnt M.2.2 0 := hS.top
  obtain ⟨⟨scr, h1, h2, h3, h4, h5⟩, hb, hL, hin⟩ := F.2.2.2.2.2.2.2.2.2.2.2
  have ead : cAd M.2.2 0 0 = gX G := hR.2.2.2.2.2.2.2.2 hk
  have hH := hR.2.2.1 (gX G) hb
  show W p l e R s m args below meth c H locs cells slots Q (F0 m pc A (.ref (cAd M.2.2 0 0) :: st.map (cv M.2.2)))
  rw [ead]
  refine W.alen (n := Int32.ofInt (gXL G : Int)) F.1 F.2.1 (by rw [hH]; exact h1) h2 ?_ rfl rfl hd (kk A (hS.pop.push (show InR (gXL G : Int) by unfold InR; omega)) hl)
  rw [h4, Int32.ofInt_eq_ofNat]
end STR
