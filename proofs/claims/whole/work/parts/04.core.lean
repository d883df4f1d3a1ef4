/-! THE ABSTRACT MEMORY: names, values, counters, memory; how a heap holds it; the judgement Ex over the kit's W -/
abbrev Nm : Type := Nat × Nat
abbrev Vl : Type := Int ⊕ (Int ⊕ Option Nm)
abbrev vI (x : Int) : Vl := .inl x
abbrev vL (x : Int) : Vl := .inr (.inl x)
abbrev vR (r : Option Nm) : Vl := .inr (.inr r)
/-- how many of each family, cells, slots, the heap's size, addresses, lengths -/
abbrev Ct : Type := (Nat → Nat) × Nat × Nat × Nat × (Nat → Nat → Nat) × (Nat → Nat → Nat)
abbrev cCnt (c : Ct) : Nat → Nat := c.1
abbrev cNc (c : Ct) : Nat := c.2.1
abbrev cNs (c : Ct) : Nat := c.2.2.1
abbrev cHs (c : Ct) : Nat := c.2.2.2.1
abbrev cAd (c : Ct) : Nat → Nat → Nat := c.2.2.2.2.1
abbrev cLn (c : Ct) : Nat → Nat → Nat := c.2.2.2.2.2
abbrev IM : Type := Nat → Nat → Nat → Int
abbrev RM : Type := Nat → Nat → Nat → Option Nm
abbrev Mem : Type := IM × RM × Ct
def InR (x : Int) : Prop := -2147483648 ≤ x ∧ x ≤ 2147483647
def aLen (c : Ct) (f k : Nat) : Nat := match fL f with
  | some n => n
  | none => cLn c f k
def cv (c : Ct) (v : Vl) : Value := match v with
  | .inl x => .int (Int32.ofInt x)
  | .inr (.inl x) => .long (Int64.ofInt x)
  | .inr (.inr none) => .null
  | .inr (.inr (some q)) => .ref (cAd c q.1 q.2)
def VOK (c : Ct) (v : Vl) : Prop := match v with
  | .inl x => InR x
  | .inr (.inl x) => InR x
  | .inr (.inr none) => True
  | .inr (.inr (some q)) => q.2 < cCnt c q.1
def isR (t : FieldType) : Bool := match t with
  | .object _ => true
  | .array _ => true
  | _ => false
def sV (M : Mem) (f k : Nat) (t : FieldType) (i : Nat) : Value := if isR t = true then cv M.2.2 (vR (M.2.1 f k i)) else cv M.2.2 (vI (M.1 f k i))
def upI (I : IM) (f k i : Nat) (v : Int) : IM := fun f' => if f' = f then fun k' => if k' = k then fun i' => if i' = i then v else I f' k' i' else I f' k' else I f'
def upR (I : RM) (f k i : Nat) (v : Option Nm) : RM := fun f' => if f' = f then fun k' => if k' = k then fun i' => if i' = i then v else I f' k' i' else I f' k' else I f'
/-- a cell's contents as a whole -/
def seI (I : IM) (f k : Nat) (g : Nat → Int) : IM := fun f' => if f' = f then fun k' => if k' = k then g else I f' k' else I f'
def seR (I : RM) (f k : Nat) (g : Nat → Option Nm) : RM := fun f' => if f' = f then fun k' => if k' = k then g else I f' k' else I f'
/-- the base (the heap's size at the start), the heap at the start, class numbers, slots, array classes -/
abbrev Gt : Type := Nat × Heap × (Nat → ClassId) × (Nat → Nat → Nat) × (Nat → ClassId) × (Nat → Nat) × Nat × Nat × (Nat → Int)
abbrev gB (G : Gt) : Nat := G.1
abbrev gH (G : Gt) : Heap := G.2.1
abbrev gC (G : Gt) : Nat → ClassId := G.2.2.1
abbrev gI (G : Gt) : Nat → Nat → Nat := G.2.2.2.1
abbrev gA (G : Gt) : Nat → ClassId := G.2.2.2.2.1
abbrev gS (G : Gt) : Nat → Nat := G.2.2.2.2.2.1
/-- the script: its address, length, contents -/
abbrev gX (G : Gt) : Nat := G.2.2.2.2.2.2.1
abbrev gXL (G : Gt) : Nat := G.2.2.2.2.2.2.2.1
abbrev gXS (G : Gt) : Nat → Int := G.2.2.2.2.2.2.2.2
def CellOk (G : Gt) (M : Mem) (f k : Nat) (H : Heap) : Prop :=
  ((fK f = 1 ∨ fK f = 2 ∨ fK f = 3) → H[cAd M.2.2 f k]? = some (arrV (gA G (fK f)) (aLen M.2.2 f k) (fun j => cv M.2.2 (vI (M.1 f k j))))) ∧
  (∀ ci, ci < 13 → fK f = 10 + ci → H[cAd M.2.2 f k]? = some (arrV (gA G (10 + ci)) (aLen M.2.2 f k) (fun j => cv M.2.2 (vR (M.2.1 f k j))))) ∧
  (∀ ci q, fK f = 100 + ci → classes[ci]? = some q → t_OB (cAd M.2.2 f k) (gC G ci) q.2.2 (gI G ci) H (fun i => sV M f k (tyOf ci i) i))
def Rep (G : Gt) (M : Mem) (H : Heap) : Prop :=
  cHs M.2.2 = H.size ∧ gB G ≤ H.size ∧ (∀ q, q < gB G → H[q]? = (gH G)[q]?) ∧
  (∀ f k, k < cCnt M.2.2 f → cAd M.2.2 f k < H.size ∧ (2 ≤ f → gB G ≤ cAd M.2.2 f k) ∧ (f < 2 → cAd M.2.2 f k < gB G) ∧ CellOk G M f k H) ∧
  (∀ f k f' k', 2 ≤ f → 2 ≤ f' → k < cCnt M.2.2 f → k' < cCnt M.2.2 f' → cAd M.2.2 f k = cAd M.2.2 f' k' → f = f' ∧ k = k') ∧
  (∀ f k i f' k', k < cCnt M.2.2 f → M.2.1 f k i = some (f', k') → k' < cCnt M.2.2 f') ∧
  (∀ f k i, k < cCnt M.2.2 f → InR (M.1 f k i)) ∧
  (∀ k, k < cCnt M.2.2 1 → cAd M.2.2 1 k = gS G k) ∧ (0 < cCnt M.2.2 0 → cAd M.2.2 0 0 = gX G)
def CLe (c c' : Ct) : Prop := cNc c ≤ cNc c' ∧ cNs c ≤ cNs c' ∧ (∀ f, cCnt c f ≤ cCnt c' f) ∧ (∀ f k, k < cCnt c f → cAd c' f k = cAd c f k) ∧ (∀ f k, k < cCnt c f → cLn c' f k = cLn c f k)
theorem CLe.rf (c : Ct) : CLe c c := ⟨Nat.le_refl _, Nat.le_refl _, fun _ => Nat.le_refl _, fun _ _ _ => rfl, fun _ _ _ => rfl⟩
theorem CLe.tr {a b c : Ct} (h : CLe a b) (h' : CLe b c) : CLe a c :=
  ⟨Nat.le_trans h.1 h'.1, Nat.le_trans h.2.1 h'.2.1, fun f => Nat.le_trans (h.2.2.1 f) (h'.2.2.1 f), fun f k hk => (h'.2.2.2.1 f k (Nat.lt_of_lt_of_le hk (h.2.2.1 f))).trans (h.2.2.2.1 f k hk), fun f k hk => (h'.2.2.2.2 f k (Nat.lt_of_lt_of_le hk (h.2.2.1 f))).trans (h.2.2.2.2 f k hk)⟩
theorem VOK.mono {c c' : Ct} (h : CLe c c') {v : Vl} (hv : VOK c v) : VOK c' v := by
  rcases v with x | x | _ | ⟨f, k⟩
  · exact hv
  · exact hv
  · trivial
  · exact Nat.lt_of_lt_of_le hv (h.2.2.1 f)
theorem cv_mono {c c' : Ct} (h : CLe c c') {v : Vl} (hv : VOK c v) : cv c' v = cv c v := by
  rcases v with x | x | _ | ⟨f, k⟩
  · rfl
  · rfl
  · rfl
  · show Value.ref _ = Value.ref _
    rw [h.2.2.2.1 f k hv]
/-- the locals of a frame that are said -/
def lvl (c : Ct) : Nat → List (Option Vl) → List (Nat × Value)
  | _, [] => []
  | i, none :: t => lvl c (i + 1) t
  | i, some v :: t => (i, cv c v) :: lvl c (i + 1) t
theorem lvl_mem {c : Ct} {ls : List (Option Vl)} : ∀ {i j : Nat} {v : Vl}, ls[j]? = some (some v) → (i + j, cv c v) ∈ lvl c i ls := by
  induction ls with
  | nil => intro i j v h; simp at h
  | cons a t ih =>
    intro i j v h
    cases j with
    | zero =>
      simp at h
      subst h
      simp [lvl]
    | succ j =>
      simp at h
      have := ih (i := i + 1) h
      rw [show i + 1 + j = i + (j + 1) by omega] at this
      cases a with
      | none => exact this
      | some w => exact List.mem_cons_of_mem _ this
theorem lvl_of {c : Ct} {ls : List (Option Vl)} : ∀ {i : Nat} {q : Nat × Value}, q ∈ lvl c i ls → ∃ j v, q = (i + j, cv c v) ∧ ls[j]? = some (some v) := by
  induction ls with
  | nil => intro i q h; simp [lvl] at h
  | cons a t ih =>
    intro i q h
    cases a with
    | none =>
      obtain ⟨j, v, e1, e2⟩ := ih (show q ∈ lvl c (i + 1) t from h)
      exact ⟨j + 1, v, by rw [e1]; congr 1; omega, by simpa using e2⟩
    | some w =>
      rcases List.mem_cons.mp (show q ∈ (i, cv c w) :: lvl c (i + 1) t from h) with rfl | h
      · exact ⟨0, w, rfl, rfl⟩
      · obtain ⟨j, v, e1, e2⟩ := ih h
        exact ⟨j + 1, v, by rw [e1]; congr 1; omega, by simpa using e2⟩
theorem lvl_mono {c c' : Ct} (h : CLe c c') : ∀ {ls : List (Option Vl)} {i : Nat}, (∀ v, some v ∈ ls → VOK c v) → lvl c' i ls = lvl c i ls := by
  intro ls
  induction ls with
  | nil => intros; rfl
  | cons a t ih =>
    intro i hv
    have h2 := ih (i := i + 1) (fun v hm => hv v (List.mem_cons_of_mem _ hm))
    cases a with
    | none => exact h2
    | some w => show (i, cv c' w) :: lvl c' (i + 1) t = _; rw [h2, cv_mono h (hv w List.mem_cons_self)]; rfl
/-- a method: its name, bytes, most locals, what it returns -/
abbrev Md : Type := MethodName × ByteArray × Nat × Option FieldType
abbrev mY (m : Md) : MethodName := m.1
abbrev mB (m : Md) : ByteArray := m.2.1
abbrev mL (m : Md) : Nat := m.2.2.1
abbrev mR (m : Md) : Option FieldType := m.2.2.2
/-- array kinds and their types -/
def kTy (k : Nat) : FieldType := match k with
  | 1 => .int
  | 2 => .byte
  | 3 => .boolean
  | 11 => .object RX1
  | 15 => .object RX5
  | 17 => .object RX7
  | _ => .object RX8
/-- the String constants at the start: lengths and letters -/
def strL : List Nat := [2, 2, 3, 3, 2, 4, 4, 4, 4, 3, 2, 2, 3, 2]
def strB : List (List Int32) := [[97, 116], [109, 101], [110, 111, 116], [97, 110, 100], [111, 114], [111, 110, 108, 121], [116, 104, 101, 110], [111, 110, 108, 121], [116, 104, 101, 110], [110, 111, 116], [109, 101], [97, 116], [97, 110, 100], [111, 114]]
def StrK (G : Gt) (s : State) : Prop :=
  (∀ i, i < 14 → va_O "java/lang/String" (gS G i) (fun q => gB G ≤ q) s (gH G) ∧ va_OF "java/lang/String" "coder" "B" (.int 0) (gS G i) (fun q => gB G ≤ q) s (gH G) ∧ va_OF "java/lang/String" "value" "[B" (.ref (gS G (14 + i))) (gS G i) (fun q => gB G ≤ q) s (gH G) ∧ va_T .byte (gS G (14 + i)) (strL.getD i 0) (fun j => .int ((strB.getD i []).getD j 0)) (fun q => gB G ≤ q) s (gH G)) ∧
  va_Z "java/lang/String" "COMPACT_STRINGS" "Z" (.int 1) (fun q => gB G ≤ q) s (gH G) ∧ va_Zq "jdk/internal/util/Preconditions" "SIOOBE_FORMATTER" "Ljava/util/function/BiFunction;" (fun q => gB G ≤ q) s (gH G)
theorem StrK.moved {G : Gt} {s U : State} (hvm : s.vm.Alike U.vm) (h : StrK G s) : StrK G U :=
  ⟨fun i hi => ⟨(h.1 i hi).1.moved hvm, (h.1 i hi).2.1.moved hvm, (h.1 i hi).2.2.1.moved hvm, (h.1 i hi).2.2.2.moved hvm⟩, h.2.1.moved hvm, h.2.2.moved hvm⟩
def KS (G : Gt) (s : State) : Prop :=
  (∀ (ci : Nat) (q : vw_C), classes[ci]? = some q → u_Kn s q.1 q.2.1 q.2.2 (gC G ci) (gI G ci)) ∧
  (∀ k, (k = 1 ∨ k = 2 ∨ k = 3 ∨ k = 11 ∨ k = 15 ∨ k = 17 ∨ k = 18) → ArrOfT s (gA G k) (kTy k) ∧ va_RA s (gA G k) (kTy k) ∧ s.vm.findClass ("[" ++ (kTy k).toString) = some (gA G k)) ∧
  ((∀ j, j < 14 → vk_R (strT j).1 (strT j).2.1 (strT j).2.2 (gS G j) s) ∧ StrK G s) ∧ (va_X (gX G) (gXL G) (fun j => Int32.ofInt (gXS G j)) s (gH G) ∧ gX G < gB G ∧ gXL G ≤ 4096 ∧ ∀ j, InR (gXS G j))
def Fx (G : Gt) (md : Md) (p : Program) (s : State) (m : MethodId) (args : Array Value) (meth : Method) (c : Code) : Prop :=
  p.tables.exec = Jvm.exec ∧ c.code = mB md ∧ c.maxLocals = mL md ∧ s.vm.findClass (mY md).cls = some m.cls ∧ (∀ w ∈ wT, w.before args s = true) ∧ meth.sig.returnType = mR md ∧ meth.locks = false ∧ meth.name = (mY md).name ∧ KS G s
def QR (G : Gt) (r : Option Vl) (M' : Mem) : Array Value → State → Outcome → State → Prop := fun _ _ o t => o = .returned (r.map (cv M'.2.2)) ∧ Rep G M' t.heap ∧ ∀ v, r = some v → VOK M'.2.2 v
def SOK (c : Ct) (ls : List (Option Vl)) (st : List Vl) : Prop := (∀ v, some v ∈ ls → VOK c v) ∧ ∀ v ∈ st, VOK c v
/-- from here the method returns r and leaves the memory M' -/
def Ex (l : Launch) (G : Gt) (d : Nat) (md : Md) (pc : Nat) (ls : List (Option Vl)) (st : List Vl) (M : Mem) (r : Option Vl) (M' : Mem) : Prop :=
  CLe M.2.2 M'.2.2 ∧
  ∀ (p : Program) (e : Env) (R : Room) (s : State) (m : MethodId) (args : Array Value) (below : List Frame) (meth : Method) (c : Code) (H : Heap) (locs : List Loc) (cells slots nc0 ns0 mc ms : Nat) (A : Array Slot),
    Fx G md p s m args meth c → Rep G M H → (∀ q ∈ locs, gB G ≤ q.base) → SOK M.2.2 ls st → lv_has A (mL md) (lvl M.2.2 0 ls) →
    (cells + nc0 = cNc M.2.2 ∧ slots + ns0 = cNs M.2.2 ∧ mc + nc0 = cNc M'.2.2 ∧ ms + ns0 = cNs M'.2.2) →
    (d + 1 ≤ R.frames ∧ 64 * d + 64 ≤ R.locals ∧ mc ≤ R.cells ∧ ms ≤ R.slots) →
    W p l e R s m args below meth c H locs cells slots (MQ below (QR G r M') args s mc ms (fun q => gB G ≤ q)) (F0 m pc A (st.map (cv M.2.2)))
/-- the locals at a method's entry -/
def sl2 (v : Vl) : List (Option Vl) := match v with
  | .inl x => [some (.inl x)]
  | .inr (.inl x) => [some (.inr (.inl x)), none]
  | .inr (.inr x) => [some (.inr (.inr x))]
def eL (as : List Vl) (n : Nat) : List (Option Vl) := as.flatMap sl2 ++ List.replicate (n - (as.flatMap sl2).length) none
def Cl (l : Launch) (G : Gt) (d : Nat) (md : Md) (as : List Vl) (M : Mem) (r : Option Vl) (M' : Mem) : Prop := Ex l G d md 0 (eL as (mL md)) [] M r M'
theorem Ex.deeper {l : Launch} {G : Gt} {d d' : Nat} {md : Md} {pc : Nat} {ls : List (Option Vl)} {st : List Vl} {M : Mem} {r : Option Vl} {M' : Mem} (h : Ex l G d md pc ls st M r M') (hd : d ≤ d') : Ex l G d' md pc ls st M r M' :=
  ⟨h.1, fun p e R s m args below meth c H locs cells slots nc0 ns0 mc ms A h1 h2 h3 h4 h5 h6 h7 => h.2 p e R s m args below meth c H locs cells slots nc0 ns0 mc ms A h1 h2 h3 h4 h5 h6 ⟨by omega, by omega, h7.2.2⟩⟩
