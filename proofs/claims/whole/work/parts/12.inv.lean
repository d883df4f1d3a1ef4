/-! INVOKE and RETURN rows -/
theorem sl2_len {c : Ct} : ∀ {as : List Vl}, (lg_sl (as.map (cv c))).length = (as.flatMap sl2).length := by
  intro as
  induction as with
  | nil => rfl
  | cons a t ih =>
    have e : lg_sl ((a :: t).map (cv c)) = (if (cv c a).category = 2 then [.val (cv c a), .second] else [.val (cv c a)]) ++ lg_sl (t.map (cv c)) := by
      unfold lg_sl
      rw [List.map_cons, List.flatMap_cons]
    rw [e, List.length_append, List.flatMap_cons, List.length_append, ih]
    congr 1
    rcases a with x | x | _ | x <;> rfl
theorem cat_le {c : Ct} : ∀ {st : List Vl}, ((st.map (cv c)).map fun v => v.category).sum ≤ 2 * st.length := by
  intro st
  induction st with
  | nil => exact Nat.le_refl _
  | cons a t ih =>
    rw [List.map_cons, List.map_cons, List.sum_cons, List.length_cons]
    have : (cv c a).category ≤ 2 := by rcases lv_cat (cv c a) with h | h <;> omega
    omega
/-- what the tables say of a method -/
def MdOk (md2 : Md) (n : Nat) : Prop := Cond.code (mY md2) (mB md2) (mL md2) (mR md2) ∈ lw_tbl ∧ Cond.initialized (mY md2).cls ∈ wT ∧ plainName (mY md2).cls = true ∧ ((mY md2).cls ≠ "java/lang/invoke/MethodHandle" ∧ (mY md2).cls ≠ "java/lang/invoke/VarHandle") ∧ (parseMethodDescriptor (mY md2).desc).map (fun d => d.parameters.length) = some n ∧ mL md2 ≤ 45
theorem MdOk.good {md2 : Md} {n : Nat} (h : MdOk md2 n) : GoodIn wT (mW md2) := by
  intro w hw
  have hg : Cond.code (mY md2) (mB md2) (mL md2) (mR md2) ∈ gW := List.mem_filter.mpr ⟨h.1, rfl⟩
  rcases List.mem_cons.mp hw with rfl | hw
  · exact gW_good _ hg
  · exact gW_good _ hw
section EC
variable {l : Launch} {G : Gt} {d : Nat} {md md2 : Md} {pc : Nat} {ls : List (Option Vl)} {st : List Vl} {M M1 : Mem} {r r1 : Option Vl} {M' : Mem}
theorem Ex.call {as rest st0 : List Vl} {q : Nat} (hq : pc + 3 = q) (hC : Cl l G d md2 as M r1 M1) (k : Ex l G (d + 1) md q ls (r1.toList ++ rest) M1 r M') (sok : ∀ c, SOK c ls st0 → SOK c ls rest)
    (run : ∀ (p : Program) (e : Env) (R : Room) (s : State) (m : MethodId) (args : Array Value) (below : List Frame) (meth : Method) (c : Code) (H : Heap) (locs : List Loc) (cells slots : Nat) (A : Array Slot),
      Fx G md p s m args meth c → Rep G M H → SOK M.2.2 ls st0 → A.size = mL md → (d + 2 ≤ R.frames ∧ 64 * (d + 1) + 64 ≤ R.locals) → (cells + (cNc M1.2.2 - cNc M.2.2) ≤ R.cells ∧ slots + (cNs M1.2.2 - cNs M.2.2) ≤ R.slots) →
      ∃ a, va_Run p l e R s m args below meth c H locs cells slots (cNc M1.2.2 - cNc M.2.2) (cNs M1.2.2 - cNs M.2.2) (F0 m pc A (st0.map (cv M.2.2))) (rest.map (cv M.2.2)) (QR G r1 M1 a) (fun q => gB G ≤ q)) : Ex l G (d + 1) md pc ls st0 M r M' := by
  subst hq
  have hle := hC.1
  have hc1 := hle.1
  have hc2 := hle.2.1
  have hk1 := k.1.1
  have hk2 := k.1.2.1
  refine ⟨hle.tr k.1, fun p e R s m args below meth c H locs cells slots nc0 ns0 mc ms A h1 h2 h3 h4 h5 h6 h7 => ?_⟩
  intro T hT X
  obtain ⟨a, hrun⟩ := run p e R s m args below meth c H locs cells slots A h1 h2 h4 h5.1 ⟨h7.1, h7.2.1⟩ (by omega)
  obtain ⟨v, st₀, t, T', L, g0, X', hL, e1, e2, ⟨hv, hR1, hVO⟩, st⟩ := hrun T hT X
  have hv : v = r1.map (cv M1.2.2) := Outcome.returned.inj hv
  have hsr := (sok _ h4)
  have hsr1 : SOK M1.2.2 ls (r1.toList ++ rest) := ⟨fun w hw => (hsr.1 w hw).mono hle, fun w hw => by
    rcases List.mem_append.mp hw with hw | hw
    · exact hVO w (by simpa using hw)
    · exact (hsr.2 w hw).mono hle⟩
  have kk := k.2 p e R s m args below meth c t.heap (locs ++ L) (cells + (cNc M1.2.2 - cNc M.2.2)) (slots + (cNs M1.2.2 - cNs M.2.2)) nc0 ns0 mc ms A h1 hR1 (fun q hq => (List.mem_append.mp hq).elim (h3 q) (hL q)) hsr1 (by rw [show lvl M1.2.2 0 ls = lvl M.2.2 0 ls from lvl_mono hle h4.1]; exact h5) ⟨by omega, by omega, h6.2.2⟩ h7 T' e1 X'
  obtain ⟨t2, a1, b1⟩ := kk
  refine ⟨t2, st t2 ?_, b1⟩
  have e3 : v.toList ++ rest.map (cv M.2.2) = (r1.toList ++ rest).map (cv M1.2.2) := by
    rw [List.map_append, hv, show rest.map (cv M1.2.2) = rest.map (cv M.2.2) from map_mono hle hsr.2]
    cases r1 <;> rfl
  show Steps p.tables e below (T'.setTop { (F0 m pc A (st0.map (cv M.2.2))) with pc := pc + 3, stack := v.toList ++ rest.map (cv M.2.2) }) t2
  rw [e3]
  exact a1
theorem SOK.app {c : Ct} {ls : List (Option Vl)} {a b : List Vl} (h : SOK c ls (a ++ b)) : SOK c ls b ∧ ∀ v ∈ a, VOK c v := ⟨⟨h.1, fun v hv => h.2 v (List.mem_append_right _ hv)⟩, fun v hv => h.2 v (List.mem_append_left _ hv)⟩
theorem r_callV {ix f k ci : Nat} {C : vw_C} {x : Option Nm} {st0 : List Vl} (args rest : List Vl) (q : Nat) (hd : decode (mB md) pc = .ok (.invokevirtual ix, 3)) (hq : pc + 3 = q) (hx : x = some (f, k)) (hst : st0 = args.reverse ++ vR x :: rest) (hf : fK f = 100 + ci) (hC : classes[ci]? = some C) (hm : MdOk md2 args.length) (hw : Cond.methodLink (mY md).cls ix (mY md2) ∈ wT ∧ Cond.instanceMethod (mY md2) ∈ wT ∧ Cond.selects C.1 (mY md2) (mY md2) ∈ wT) (hn : Nat.ble ((vR (some (f, k)) :: args).flatMap sl2).length (mL md2) = true) (hr : Nat.ble rest.length 4 = true)
    (hcl : Cl l G d md2 (vR (some (f, k)) :: args) M r1 M1) (kx : Ex l G (d + 1) md q ls (r1.toList ++ rest) M1 r M') : Ex l G (d + 1) md pc ls st0 M r M' := by
  subst hst; subst hx
  have hsp : ∀ c, SOK c ls (args.reverse ++ vR (some (f, k)) :: rest) → SOK c ls rest ∧ ∀ v ∈ vR (some (f, k)) :: args, VOK c v := fun c h => by
    obtain ⟨h1, h2⟩ := h.app
    refine ⟨h1.pop, fun v hv => ?_⟩
    rcases List.mem_cons.mp hv with rfl | hv
    · exact h1.top
    · exact h2 v (List.mem_reverse.mpr hv)
  refine Ex.call hq hcl kx (fun c h => (hsp c h).1) fun p e R s m as0 below meth c H locs cells slots A F hR hS hA hfr hcs => ?_
  obtain ⟨hx, hb, hml, hown, hts, hret, hlk, hnm, hK⟩ := F
  obtain ⟨hv1, hv2⟩ := hsp _ hS
  have hk : k < cCnt M.2.2 f := hv2 _ List.mem_cons_self
  obtain ⟨cell, q1, q2, q3, q4⟩ := (hR.2.2.2.1 f k hk).2.2.2.2.2 ci C hf hC
  have hroom : ((rest.map (cv M.2.2)).map fun v => v.category).sum ≤ 8 := by
    have h1 := cat_le (c := M.2.2) (st := rest)
    have h2 : rest.length ≤ 4 := by simpa using hr
    omega
  have hM := hcl.met hm.2.2.1 (by rw [sl2_len]; simpa using hn) hv2
  have hcb := callB_of args.length hts hm.good rfl (rm := { frames := d + 1, cells := cNc M1.2.2 - cNc M.2.2, slots := cNs M1.2.2 - cNs M.2.2, locals := 64 * d + 64 }) rfl rfl (hts _ hm.2.1) (hts _ hw.1) ⟨hm.2.2.2.1.1, hm.2.2.2.1.2, hm.2.2.2.2.1⟩ (R := R) ⟨hfr.1, by have := hm.2.2.2.2.2; have h2 := hfr.2; show 8 + (mL md2 + 11) + (64 * d + 64) ≤ _; omega⟩
  exact ⟨_, va_runV (As := args.map (cv M.2.2)) (b := cAd M.2.2 f k) (C := C.1) ⟨hx, hb, hml, hown, hts⟩ hM ⟨hcb, hts _ hw.2.1, hts _ hw.2.2⟩ ⟨mP_blind, ⟨cell, q1, by rw [q3]; rfl, by rw [q2]; exact (hK.1 ci C hC).2.1⟩, fun U hU hW => ⟨rfl, by rw [hU]; exact hR, hK.moved hW, (nW.of hts).moved hW⟩⟩ rfl (by rw [List.length_map]) hA (by show ((args.reverse ++ vR (some (f, k)) :: rest).map _) = _; rw [List.map_append, List.map_reverse]; rfl) (lv_room hroom) hd hcs⟩
theorem r_callS {ix : Nat} {st0 : List Vl} (args rest : List Vl) (q : Nat) (hd : decode (mB md) pc = .ok (.invokestatic ix, 3)) (hq : pc + 3 = q) (hst : st0 = args.reverse ++ rest) (hm : MdOk md2 args.length) (hw : Cond.methodLink (mY md).cls ix (mY md2) ∈ wT ∧ Cond.static (mY md2) ∈ wT) (hn : Nat.ble (args.flatMap sl2).length (mL md2) = true) (hr : Nat.ble rest.length 4 = true)
    (hcl : Cl l G d md2 args M r1 M1) (kx : Ex l G (d + 1) md q ls (r1.toList ++ rest) M1 r M') : Ex l G (d + 1) md pc ls st0 M r M' := by
  subst hst
  have hsp : ∀ c, SOK c ls (args.reverse ++ rest) → SOK c ls rest ∧ ∀ v ∈ args, VOK c v := fun c h => by
    obtain ⟨h1, h2⟩ := h.app
    exact ⟨h1, fun v hv => h2 v (List.mem_reverse.mpr hv)⟩
  refine Ex.call hq hcl kx (fun c h => (hsp c h).1) fun p e R s m as0 below meth c H locs cells slots A F hR hS hA hfr hcs => ?_
  obtain ⟨hx, hb, hml, hown, hts, hret, hlk, hnm, hK⟩ := F
  obtain ⟨hv1, hv2⟩ := hsp _ hS
  have hroom : ((rest.map (cv M.2.2)).map fun v => v.category).sum ≤ 8 := by
    have h1 := cat_le (c := M.2.2) (st := rest)
    have h2 : rest.length ≤ 4 := by simpa using hr
    omega
  have hM := hcl.met hm.2.2.1 (by rw [sl2_len]; simpa using hn) hv2
  have hcb := callB_of args.length hts hm.good rfl (rm := { frames := d + 1, cells := cNc M1.2.2 - cNc M.2.2, slots := cNs M1.2.2 - cNs M.2.2, locals := 64 * d + 64 }) rfl rfl (hts _ hm.2.1) (hts _ hw.1) ⟨hm.2.2.2.1.1, hm.2.2.2.1.2, hm.2.2.2.2.1⟩ (R := R) ⟨hfr.1, by have := hm.2.2.2.2.2; have h2 := hfr.2; show 8 + (mL md2 + 11) + (64 * d + 64) ≤ _; omega⟩
  exact ⟨_, va_runS (As := args.map (cv M.2.2)) ⟨hx, hb, hml, hown, hts⟩ hM ⟨hcb, hts _ hw.2⟩ ⟨mP_blind, fun U hU hW => ⟨rfl, by rw [hU]; exact hR, hK.moved hW, (nW.of hts).moved hW⟩⟩ rfl (by rw [List.length_map]) hA (by show ((args.reverse ++ rest).map _) = _; rw [List.map_append, List.map_reverse]) (lv_room hroom) hd hcs⟩
theorem r_callSN {ix : Nat} {host : String} {st0 : List Vl} (args rest : List Vl) (q : Nat) (hd : decode (mB md) pc = .ok (.invokestatic ix, 3)) (hq : pc + 3 = q) (hst : st0 = args.reverse ++ rest) (hm : MdOk md2 args.length) (hw : Cond.methodLinkNest (mY md).cls ix (mY md2) host ∈ wT ∧ Cond.static (mY md2) ∈ wT) (hn : Nat.ble (args.flatMap sl2).length (mL md2) = true) (hr : Nat.ble rest.length 4 = true)
    (hcl : Cl l G d md2 args M r1 M1) (kx : Ex l G (d + 1) md q ls (r1.toList ++ rest) M1 r M') : Ex l G (d + 1) md pc ls st0 M r M' := by
  subst hst
  have hsp : ∀ c, SOK c ls (args.reverse ++ rest) → SOK c ls rest ∧ ∀ v ∈ args, VOK c v := fun c h => by
    obtain ⟨h1, h2⟩ := h.app
    exact ⟨h1, fun v hv => h2 v (List.mem_reverse.mpr hv)⟩
  refine Ex.call hq hcl kx (fun c h => (hsp c h).1) fun p e R s m as0 below meth c H locs cells slots A F hR hS hA hfr hcs => ?_
  obtain ⟨hx, hb, hml, hown, hts, hret, hlk, hnm, hK⟩ := F
  obtain ⟨hv1, hv2⟩ := hsp _ hS
  have hroom : ((rest.map (cv M.2.2)).map fun v => v.category).sum ≤ 8 := by
    have h1 := cat_le (c := M.2.2) (st := rest)
    have h2 : rest.length ≤ 4 := by simpa using hr
    omega
  have hM := hcl.met hm.2.2.1 (by rw [sl2_len]; simpa using hn) hv2
  have hcb := va_cnB args.length hts hm.good rfl (rm := { frames := d + 1, cells := cNc M1.2.2 - cNc M.2.2, slots := cNs M1.2.2 - cNs M.2.2, locals := 64 * d + 64 }) rfl rfl (va_Nw.of rfl (hts _ hw.1)) (hts _ hm.2.1) ⟨hm.2.2.2.1.1, hm.2.2.2.1.2, hm.2.2.2.2.1⟩ (R := R) ⟨hfr.1, by have := hm.2.2.2.2.2; have h2 := hfr.2; show 8 + (mL md2 + 11) + (64 * d + 64) ≤ _; omega⟩
  exact ⟨_, va_runSN (As := args.map (cv M.2.2)) ⟨hx, hb, hml, hown, hts⟩ hM ⟨hcb, hts _ hw.2, trivial⟩ ⟨mP_blind, fun U hU hW => ⟨rfl, by rw [hU]; exact hR, hK.moved hW, (nW.of hts).moved hW⟩⟩ rfl (by rw [List.length_map]) hA (by show ((args.reverse ++ rest).map _) = _; rw [List.map_append, List.map_reverse]) (lv_room hroom) hd hcs⟩
theorem r_callI {ix f k : Nat} {x : Option Nm} {st0 : List Vl} (args rest : List Vl) (q : Nat) (hd : decode (mB md) pc = .ok (.invokespecial ix, 3)) (hq : pc + 3 = q) (hx : x = some (f, k)) (hst : st0 = args.reverse ++ vR x :: rest) (hm : MdOk md2 args.length) (hi : (mY md2).name = "<init>" ∧ mR md2 = none) (hw : Cond.methodLink (mY md).cls ix (mY md2) ∈ wT ∧ Cond.instanceMethod (mY md2) ∈ wT) (hn : Nat.ble ((vR (some (f, k)) :: args).flatMap sl2).length (mL md2) = true) (hr : Nat.ble rest.length 4 = true)
    (hcl : Cl l G d md2 (vR (some (f, k)) :: args) M r1 M1) (kx : Ex l G (d + 1) md q ls (r1.toList ++ rest) M1 r M') : Ex l G (d + 1) md pc ls st0 M r M' := by
  subst hst; subst hx
  have hsp : ∀ c, SOK c ls (args.reverse ++ vR (some (f, k)) :: rest) → SOK c ls rest ∧ ∀ v ∈ vR (some (f, k)) :: args, VOK c v := fun c h => by
    obtain ⟨h1, h2⟩ := h.app
    refine ⟨h1.pop, fun v hv => ?_⟩
    rcases List.mem_cons.mp hv with rfl | hv
    · exact h1.top
    · exact h2 v (List.mem_reverse.mpr hv)
  refine Ex.call hq hcl kx (fun c h => (hsp c h).1) fun p e R s m as0 below meth c H locs cells slots A F hR hS hA hfr hcs => ?_
  obtain ⟨hx, hb, hml, hown, hts, hret, hlk, hnm, hK⟩ := F
  obtain ⟨hv1, hv2⟩ := hsp _ hS
  have hroom : ((rest.map (cv M.2.2)).map fun v => v.category).sum ≤ 8 := by
    have h1 := cat_le (c := M.2.2) (st := rest)
    have h2 : rest.length ≤ 4 := by simpa using hr
    omega
  have hM := hcl.met hm.2.2.1 (by rw [sl2_len]; simpa using hn) hv2
  have hgood := hm.good
  have hcb := callB_of args.length hts hgood rfl (rm := { frames := d + 1, cells := cNc M1.2.2 - cNc M.2.2, slots := cNs M1.2.2 - cNs M.2.2, locals := 64 * d + 64 }) rfl rfl (hts _ hm.2.1) (hts _ hw.1) ⟨hm.2.2.2.1.1, hm.2.2.2.1.2, hm.2.2.2.2.1⟩ (R := R) ⟨hfr.1, by have := hm.2.2.2.2.2; have h2 := hfr.2; show 8 + (mL md2 + 11) + (64 * d + 64) ≤ _; omega⟩
  rw [hi.2] at hcb
  exact ⟨_, va_runI (As := args.map (cv M.2.2)) (b := cAd M.2.2 f k) ⟨hx, hb, hml, hown, hts⟩ hM ⟨hcb, hi.1, hts _ hw.2⟩ ⟨mP_blind, fun U hU hW => ⟨rfl, by rw [hU]; exact hR, hK.moved hW, (nW.of hts).moved hW⟩⟩ rfl (by rw [List.length_map]) hA (by show ((args.reverse ++ vR (some (f, k)) :: rest).map _) = _; rw [List.map_append, List.map_reverse]; rfl) (lv_room hroom) hd hcs⟩
theorem r_callIN {ix f k : Nat} {host : String} {x : Option Nm} {st0 : List Vl} (args rest : List Vl) (q : Nat) (hd : decode (mB md) pc = .ok (.invokespecial ix, 3)) (hq : pc + 3 = q) (hx : x = some (f, k)) (hst : st0 = args.reverse ++ vR x :: rest) (hm : MdOk md2 args.length) (hi : (mY md2).name = "<init>" ∧ mR md2 = none) (hw : Cond.methodLinkNest (mY md).cls ix (mY md2) host ∈ wT ∧ Cond.instanceMethod (mY md2) ∈ wT) (hn : Nat.ble ((vR (some (f, k)) :: args).flatMap sl2).length (mL md2) = true) (hr : Nat.ble rest.length 4 = true)
    (hcl : Cl l G d md2 (vR (some (f, k)) :: args) M r1 M1) (kx : Ex l G (d + 1) md q ls (r1.toList ++ rest) M1 r M') : Ex l G (d + 1) md pc ls st0 M r M' := by
  subst hst; subst hx
  have hsp : ∀ c, SOK c ls (args.reverse ++ vR (some (f, k)) :: rest) → SOK c ls rest ∧ ∀ v ∈ vR (some (f, k)) :: args, VOK c v := fun c h => by
    obtain ⟨h1, h2⟩ := h.app
    refine ⟨h1.pop, fun v hv => ?_⟩
    rcases List.mem_cons.mp hv with rfl | hv
    · exact h1.top
    · exact h2 v (List.mem_reverse.mpr hv)
  refine Ex.call hq hcl kx (fun c h => (hsp c h).1) fun p e R s m as0 below meth c H locs cells slots A F hR hS hA hfr hcs => ?_
  obtain ⟨hx, hb, hml, hown, hts, hret, hlk, hnm, hK⟩ := F
  obtain ⟨hv1, hv2⟩ := hsp _ hS
  have hroom : ((rest.map (cv M.2.2)).map fun v => v.category).sum ≤ 8 := by
    have h1 := cat_le (c := M.2.2) (st := rest)
    have h2 : rest.length ≤ 4 := by simpa using hr
    omega
  have hM := hcl.met hm.2.2.1 (by rw [sl2_len]; simpa using hn) hv2
  have hcb := va_cnB args.length hts hm.good rfl (rm := { frames := d + 1, cells := cNc M1.2.2 - cNc M.2.2, slots := cNs M1.2.2 - cNs M.2.2, locals := 64 * d + 64 }) rfl rfl (va_Nw.of rfl (hts _ hw.1)) (hts _ hm.2.1) ⟨hm.2.2.2.1.1, hm.2.2.2.1.2, hm.2.2.2.2.1⟩ (R := R) ⟨hfr.1, by have := hm.2.2.2.2.2; have h2 := hfr.2; show 8 + (mL md2 + 11) + (64 * d + 64) ≤ _; omega⟩
  rw [hi.2] at hcb
  exact ⟨_, va_runIN (As := args.map (cv M.2.2)) (b := cAd M.2.2 f k) ⟨hx, hb, hml, hown, hts⟩ hM ⟨hcb, hi.1, hts _ hw.2⟩ ⟨mP_blind, fun U hU hW => ⟨rfl, by rw [hU]; exact hR, hK.moved hW, (nW.of hts).moved hW⟩⟩ rfl (by rw [List.length_map]) hA (by show ((args.reverse ++ vR (some (f, k)) :: rest).map _) = _; rw [List.map_append, List.map_reverse]; rfl) (lv_room hroom) hd hcs⟩
theorem r_objInit {ix f k : Nat} {x : Option Nm} {rest : List Vl} (q : Nat) (hd : decode (mB md) pc = .ok (.invokespecial ix, 3)) (hq : pc + 3 = q) (hx : x = some (f, k)) (hw : Cond.methodLink (mY md).cls ix Lib.objectInit ∈ wT ∧ Cond.instanceMethod Lib.objectInit ∈ wT ∧ Cond.code Lib.objectInit ⟨#[0xb1]⟩ 1 none ∈ wT) (hr : Nat.ble rest.length 4 = true)
    (kx : Ex l G (d + 1) md q ls rest M r M') : Ex l G (d + 1) md pc ls (vR x :: rest) M r M' := by
  subst hx; subst hq
  refine ⟨kx.1, fun p e R s m args below meth c H locs cells slots nc0 ns0 mc ms A h1 h2 h3 h4 h5 h6 h7 => ?_⟩
  obtain ⟨hx, hb, hml, hown, hts, hret, hlk, hnm, hK⟩ := h1
  refine W.objInit hx hb hown (hts _ hw.1) (hts _ hw.2.1) (hts _ hw.2.2) rfl (h5.1.trans hml.symm) rfl hd (by omega) ?_ (kx.2 p e R s m args below meth c H locs cells slots nc0 ns0 mc ms A ⟨hx, hb, hml, hown, hts, hret, hlk, hnm, hK⟩ h2 h3 h4.pop h5 h6 h7)
  have := cat_le (c := M.2.2) (st := rest)
  have h2 : rest.length ≤ 4 := by simpa using hr
  have h9 := lv_room (m := m) (pc := pc) (ls := A) (rest := (vR (some (f, k)) :: rest).map (cv M.2.2)) (st := rest.map (cv M.2.2)) (by omega)
  have := h7.2.1
  exact Nat.le_trans (Nat.add_le_add_right h9 12) (by omega)
theorem r_iret {x : Int} {ty : FieldType} (hd : decode (mB md) pc = .ok (.ireturn, 1)) (hr : mR md = some ty) (hty : ty = .int ∨ ty = .boolean ∧ (x = 0 ∨ x = 1)) (h1 : r = some (vI x)) (h2 : M' = M) : Ex l G d md pc ls [vI x] M r M' := by
  subst h1; subst h2
  refine ⟨CLe.rf _, fun p e R s m args below meth c H locs cells slots nc0 ns0 mc ms A h1 h2 h3 h4 h5 h6 h7 => ?_⟩
  have e1 : mc = cells := by omega
  have e2 : ms = slots := by omega
  subst e1; subst e2
  obtain ⟨hx, hb, hml, hown, hts, hret, hlk, hnm, hK⟩ := h1
  refine W.zret (v := Int32.ofInt x) (ty := ty) hx hb (hret.trans hr) ?_ (fun t ht _ => ⟨rfl, by rw [ht]; exact h2, fun v hv => by cases hv; exact h4.top⟩) h3 hd hlk
  exact (cv_nar (c := M'.2.2) (v := vI x) (by
    rcases hty with h | ⟨h, h'⟩
    · exact .inl ⟨h, x, rfl⟩
    · refine .inr (.inl ⟨h, ?_⟩)
      rcases h' with rfl | rfl
      · exact .inl rfl
      · exact .inr rfl)).1
theorem r_aret {x : Option Nm} {ty : FieldType} (hd : decode (mB md) pc = .ok (.areturn, 1)) (hr : mR md = some ty) (hty : isR ty = true) (h1 : r = some (vR x)) (h2 : M' = M) : Ex l G d md pc ls [vR x] M r M' := by
  subst h1; subst h2
  refine ⟨CLe.rf _, fun p e R s m args below meth c H locs cells slots nc0 ns0 mc ms A h1 h2 h3 h4 h5 h6 h7 => ?_⟩
  have e1 : mc = cells := by omega
  have e2 : ms = slots := by omega
  subst e1; subst e2
  obtain ⟨hx, hb, hml, hown, hts, hret, hlk, hnm, hK⟩ := h1
  refine W.aret (v := cv M'.2.2 (vR x)) (rt := ty) hx hb (hret.trans hr) ?_ ?_ (fun t ht _ => ⟨rfl, by rw [ht]; exact h2, fun v hv => by cases hv; exact h4.top⟩) h3 hd hlk
  · cases ty <;> first | exact .inl ⟨_, rfl⟩ | exact .inr ⟨_, rfl⟩ | cases hty
  · cases x with
    | none => exact .inl rfl
    | some w => exact .inr ⟨_, rfl⟩
theorem r_vret (hd : decode (mB md) pc = .ok (.return_, 1)) (hr : mR md = none) (h1 : r = none) (h2 : M' = M) : Ex l G d md pc ls [] M r M' := by
  subst h1; subst h2
  refine ⟨CLe.rf _, fun p e R s m args below meth c H locs cells slots nc0 ns0 mc ms A h1 h2 h3 h4 h5 h6 h7 => ?_⟩
  have e1 : mc = cells := by omega
  have e2 : ms = slots := by omega
  subst e1; subst e2
  obtain ⟨hx, hb, hml, hown, hts, hret, hlk, hnm, hK⟩ := h1
  exact W.vret hx hb (hret.trans hr) (fun t ht _ => ⟨rfl, by rw [ht]; exact h2, fun v hv => by cases hv⟩) h3 hd hlk
theorem r_acmp_eq {x y : Option Nm} {off : Int} (q tg : Nat) (hd : decode (mB md) pc = .ok (.if_acmp .eq off, 3)) (hq : pc + 3 = q) (ht : (pc : Int) + off = (tg : Int)) (hx : ∀ w, x = some w → 2 ≤ w.1) (hy : ∀ w, y = some w → 2 ≤ w.1) (kt : x = y → Ex l G d md tg ls st M r M') (kf : ¬ x = y → Ex l G d md q ls st M r M') : Ex l G d md pc ls (vR y :: vR x :: st) M r M' := by
  subst hq
  have key : ∀ (H : Heap), Rep G M H → SOK M.2.2 ls (vR y :: vR x :: st) → (x.map (fun w => cAd M.2.2 w.1 w.2) = y.map (fun w => cAd M.2.2 w.1 w.2) ↔ x = y) := by
    intro H hR hS
    refine ⟨fun e => ?_, fun e => by rw [e]⟩
    have h1 : VOK M.2.2 (vR x) := hS.pop.top
    have h2 : VOK M.2.2 (vR y) := hS.top
    rcases x with _ | ⟨f, k⟩ <;> rcases y with _ | ⟨g, j⟩
    · rfl
    · cases e
    · cases e
    · have e := Option.some.inj e
      obtain ⟨rfl, rfl⟩ := hR.2.2.2.2.1 f k g j (hx _ rfl) (hy _ rfl) h1 h2 e
      rfl
  have ecv : ∀ z : Option Nm, cv M.2.2 (vR z) = va_rf (z.map (fun w => cAd M.2.2 w.1 w.2)) := fun z => by cases z <;> rfl
  by_cases hc : x = y
  · refine Ex.pure (kt hc) fun p e R s m args below meth c H locs cells slots A Q F hR hS hl kk => ?_
    rw [List.map_cons, List.map_cons, ecv, ecv]
    exact lv_acmp_eq F.1 F.2.1 hd ht (fun _ => kk A hS.pop.pop hl) (fun n => absurd ((key H hR hS).mpr hc) n)
  · refine Ex.pure (kf hc) fun p e R s m args below meth c H locs cells slots A Q F hR hS hl kk => ?_
    rw [List.map_cons, List.map_cons, ecv, ecv]
    exact lv_acmp_eq F.1 F.2.1 hd ht (fun n => absurd ((key H hR hS).mp n) hc) (fun _ => kk A hS.pop.pop hl)
end EC
