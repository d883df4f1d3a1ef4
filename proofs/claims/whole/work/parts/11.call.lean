/-! CALLS and RETURNS -/
theorem KS.moved {G : Gt} {s U : State} (hW : s.WarmedH U.vm) (h : KS G s) : KS G U :=
  ⟨fun ci q hq => u_Kn_moved hW.alike (h.1 ci q hq), fun k hk => ⟨arrOfT_moved hW.alike (h.2.1 k hk).1, (h.2.1 k hk).2.1.moved hW.alike, by rw [hW.alike.findClass]; exact (h.2.1 k hk).2.2⟩, ⟨fun j hj => (h.2.2.1.1 j hj).warm hW, h.2.2.1.2.moved hW.alike⟩, h.2.2.2.1.moved hW.alike, h.2.2.2.2⟩
theorem KS.same {G : Gt} {s U : State} (e : U.vm = s.vm) (h : KS G s) : KS G U := by
  have ha : s.vm.Alike U.vm := by rw [e]; exact Vm.Alike.refl _
  exact ⟨fun ci q hq => u_Kn_moved ha (h.1 ci q hq), fun k hk => ⟨arrOfT_moved ha (h.2.1 k hk).1, (h.2.1 k hk).2.1.moved ha, by rw [e]; exact (h.2.1 k hk).2.2⟩, ⟨fun j hj => vk_R.same e (h.2.2.1.1 j hj), h.2.2.1.2.moved ha⟩, h.2.2.2.1.moved ha, h.2.2.2.2⟩
/-- the words that the call rows do not carry themselves -/
def nW (s : State) : Prop := ∀ w ∈ wT, goodB w = false → va_Nw w s
theorem okW_ch {w : Cond} (h : okW w = true) (hg : goodB w = false) : w.onTables = true ∨ ∃ C, w = .arrayOver (.object C) := by
  unfold okW at h
  rw [hg] at h
  cases w <;> first | exact .inl rfl | (cases h; done) | skip
  rename_i ty
  cases ty <;> first | exact .inr ⟨_, rfl⟩ | cases h
theorem nw_same {w : Cond} (h : okW w = true) (hg : goodB w = false) {u U : State} (e : U.vm = u.vm) {A A' : Array Value} (hb : w.before A u = true) : w.before A' U = true := by
  rcases okW_ch h hg with h | ⟨C, rfl⟩
  · exact va_tabs h e.symm hb
  · exact va_AO.use (va_AO.moved (by rw [e]; exact Vm.Alike.refl _) (va_AO.of hb))
theorem nW.of {s : State} {args : Array Value} (h : ∀ w ∈ wT, w.before args s = true) : nW s := fun w hw hg => nw_same (List.mem_filter.mp hw).2 hg rfl (h w hw)
theorem nW.moved {s U : State} (hW : s.WarmedH U.vm) (h : nW s) : nW U := fun w hw hg => by
  have h1 := (List.mem_filter.mp hw).2
  have h2 := h w hw hg
  unfold okW at h1
  rw [hg] at h1
  cases w <;> first | (cases h1; done) | exact va_Nw.warmM hW h2 | exact va_Nw.warmC hW h2 | skip
  rename_i ty
  cases ty <;> first | (cases h1; done) | exact va_AO.moved hW.alike h2
theorem nW.same {s U : State} (e : U.vm = s.vm) (h : nW s) : nW U := fun w hw hg => nw_same (List.mem_filter.mp hw).2 hg e (h w hw hg)
theorem nW.all {s : State} {args : Array Value} (h : nW s) (h2 : ∀ w ∈ gW, w.before args s = true) : ∀ w ∈ wT, w.before args s = true := fun w hw => by
  by_cases hg : goodB w = true
  · exact h2 w (List.mem_filter.mpr ⟨(List.mem_filter.mp hw).1, hg⟩)
  · have hg : goodB w = false := by simpa using hg
    exact nw_same (List.mem_filter.mp hw).2 hg rfl (h w hw hg)
theorem lv_args_e {c : Ct} : ∀ {as : List Vl} {i : Nat} {j : Nat} {v : Vl}, (as.flatMap sl2)[j]? = some (some v) → (i + j, cv c v) ∈ lv_args i (as.map (cv c)) := by
  intro as
  induction as with
  | nil => intro i j v h; simp at h
  | cons a t ih =>
    intro i j v h
    rw [List.flatMap_cons] at h
    rcases a with x | x | x
    · cases j with
      | zero =>
        simp [sl2] at h; subst h
        exact List.mem_cons_self
      | succ j =>
        have h2 : (t.flatMap sl2)[j]? = some (some v) := h
        refine List.mem_cons_of_mem _ ?_
        have := ih (i := i + 1) h2
        rw [show i + (j + 1) = i + 1 + j by omega]
        exact this
    · rcases j with _ | _ | j
      · simp [sl2] at h; subst h
        exact List.mem_cons_self
      · simp [sl2] at h
      · have h2 : (t.flatMap sl2)[j]? = some (some v) := h
        refine List.mem_cons_of_mem _ ?_
        have := ih (i := i + 2) h2
        rw [show i + (j + 1 + 1) = i + 2 + j by omega]
        exact this
    · have hcat : (cv c (.inr (.inr x))).category = 1 := by cases x <;> rfl
      cases j with
      | zero =>
        simp [sl2] at h; subst h
        exact List.mem_cons_self
      | succ j =>
        have h2 : (t.flatMap sl2)[j]? = some (some v) := h
        refine List.mem_cons_of_mem _ ?_
        have := ih (i := i + 1) h2
        rw [show i + (j + 1) = i + 1 + j by omega, hcat]
        exact this
theorem eL_has {c : Ct} {as : List Vl} {n : Nat} {A : Array Slot} (h : lv_has A n (lv_args 0 (as.map (cv c)))) : lv_has A n (lvl c 0 (eL as n)) := by
  refine ⟨h.1, h.2.1, fun q hq => h.2.2 q ?_⟩
  obtain ⟨j, v, rfl, hj⟩ := lvl_of hq
  unfold eL at hj
  by_cases hlt : j < (as.flatMap sl2).length
  · rw [List.getElem?_append_left hlt] at hj
    exact lv_args_e hj
  · rw [List.getElem?_append_right (by omega)] at hj
    have := List.mem_of_getElem? hj
    have := List.eq_of_mem_replicate this
    cases this
/-- the words of a method's contract -/
def mW (md : Md) : List Cond := Cond.code (mY md) (mB md) (mL md) (mR md) :: gW
def mP (G : Gt) (as : List Vl) (M : Mem) : Array Value → State → Prop := fun a s => a = (as.map (cv M.2.2)).toArray ∧ Rep G M s.heap ∧ KS G s ∧ nW s
theorem mP_blind {G : Gt} {as : List Vl} {M : Mem} : FrameBlind (mP G as M) := fun a U g mk h => ⟨h.1, h.2.1, KS.same (s := U) (U := U.calling g mk a) rfl h.2.2.1, nW.same (s := U) (U := U.calling g mk a) rfl h.2.2.2⟩
theorem SOK_eL {c : Ct} {as : List Vl} {n : Nat} (h : ∀ v ∈ as, VOK c v) : SOK c (eL as n) [] := by
  refine ⟨fun v hv => ?_, fun v hv => by cases hv⟩
  unfold eL at hv
  rcases List.mem_append.mp hv with hv | hv
  · obtain ⟨a, ha, hv⟩ := List.mem_flatMap.mp hv
    rcases a with x | x | x
    · rcases List.mem_singleton.mp hv with e; cases e; exact h _ ha
    · rcases List.mem_cons.mp hv with e | hv
      · cases e; exact h _ ha
      · rcases List.mem_singleton.mp hv with e; cases e
    · rcases List.mem_singleton.mp hv with e; cases e; exact h _ ha
  · have := List.eq_of_mem_replicate hv
    cases this
theorem Cl.met {l : Launch} {G : Gt} {d : Nat} {md : Md} {as : List Vl} {M M' : Mem} {r : Option Vl} (h : Cl l G d md as M r M') (hp : plainName (mY md).cls = true) (hl : (lg_sl (as.map (cv M.2.2))).length ≤ mL md) (hv : ∀ v ∈ as, VOK M.2.2 v) :
    Met l (mY md) (mW md) { frames := d + 1, cells := cNc M'.2.2 - cNc M.2.2, slots := cNs M'.2.2 - cNs M.2.2, locals := 64 * d + 64 } (mP G as M) (QR G r M') (cNc M'.2.2 - cNc M.2.2) (cNs M'.2.2 - cNs M.2.2) (fun q => gB G ≤ q) := by
  have hc1 := h.1.1
  have hc2 := h.1.2.1
  refine Met.ofW (cc := mB md) (maxL := mL md) (ret := mR md) hp rfl ?_
  intro p e s m args below meth c s₁ B hml hP
  obtain ⟨rfl, hR, hK, hN⟩ := hP
  have hts := atoms_spec (ws := mW md) B.pre
  have hall : ∀ w ∈ wT, w.before (as.map (cv M.2.2)).toArray s = true := hN.all fun w hw => hts w (List.mem_cons_of_mem _ hw)
  have hent := lv_entry (as.map (cv M.2.2)) (n := mL md) hl
  rw [lg_entry_eq]
  refine h.2 p e _ s m _ below meth c s.heap [] 0 0 (cNc M.2.2) (cNs M.2.2) _ _ _ ⟨B.exec, B.bytes, hml, findClass_of_methodNamed B.named, hall, B.returns, B.notSynchronized, (name_of_methodNamed B.named B.method).1, hK⟩ hR (fun q hq => by cases hq) (SOK_eL hv) (eL_has hent) ⟨by omega, by omega, by omega, by omega⟩ ?_
  exact ⟨Nat.le_refl _, Nat.le_refl _, Nat.le_refl _, Nat.le_refl _⟩
