/-! entry: what the Statement gives of the start -/
theorem inI : ∀ (ci : Nat) (q : vw_C), classes[ci]? = some q → Cond.instantiable q.1 q.2.2 ∈ wT := by
  intro ci q hq
  have h : ∀ q ∈ classes, Cond.instantiable q.1 q.2.2 ∈ lw_tbl ∧ okW (Cond.instantiable q.1 q.2.2) = true := by decide +kernel
  exact List.mem_filter.mpr (h q (List.mem_of_getElem? hq))
section EN0
variable {s : State} {args : Array Value}
theorem ks_cls (hts : ∀ w ∈ wT, w.before args s = true) : ∃ (dC : Nat → ClassId) (dI : Nat → Nat → Nat), ∀ (ci : Nat) (q : vw_C), classes[ci]? = some q → u_Kn s q.1 q.2.1 q.2.2 (dC ci) (dI ci) := by
  have h0 : ∀ ci : Nat, ∃ x : ClassId × (Nat → Nat), ∀ q : vw_C, classes[ci]? = some q → u_Kn s q.1 q.2.1 q.2.2 x.1 x.2 := by
    intro ci
    cases hq : classes[ci]? with
    | none => exact ⟨((0 : Nat), fun _ => 0), fun q h => by cases h⟩
    | some q =>
      obtain ⟨cC, iS, hK⟩ := u_known (C := q.1) (T := q.2.1) (N := q.2.2) (n := q.2.2) hts (inX ci q hq) (hts _ (inI ci q hq))
      exact ⟨(cC, iS), fun q' h => by cases h; exact hK⟩
  obtain ⟨x, hx⟩ := Classical.axiomOfChoice h0
  exact ⟨fun ci => (x ci).1, fun ci => (x ci).2, fun ci q h => hx ci q h⟩
theorem ks_prim {ty : FieldType} (h : (Cond.arrayClass ty).before args s = true) : ∃ cA : ClassId, ArrOfT s cA ty ∧ s.vm.findClass ("[" ++ ty.toString) = some cA := by
  obtain ⟨c, k, comp, h1, h2, h3⟩ := Cond.arrayClass_spec h
  exact ⟨c, fun n z => ⟨fun k h => (by cases h), k, h2, comp, h3⟩, h1⟩
theorem ks_over {C : String} (h : (Cond.arrayOver (.object C)).before args s = true) : ∃ cA : ClassId, ArrOfT s cA (.object C) ∧ va_RA s cA (.object C) ∧ s.vm.findClass ("[" ++ (FieldType.object C).toString) = some cA := by
  obtain ⟨comp, c, k, h1, -, h2, h3, h4⟩ := Cond.arrayOver_spec h
  exact ⟨c, fun n z => ⟨fun k h => (by cases h), k, h2, comp, h3⟩, ⟨k, comp, h2, h3, h1, h4⟩, h4⟩
theorem ks_arr (hts : ∀ w ∈ wT, w.before args s = true) : ∃ gA : Nat → ClassId, ∀ k, (k = 1 ∨ k = 2 ∨ k = 3 ∨ k = 11 ∨ k = 15 ∨ k = 17 ∨ k = 18) → ArrOfT s (gA k) (kTy k) ∧ va_RA s (gA k) (kTy k) ∧ s.vm.findClass ("[" ++ (kTy k).toString) = some (gA k) := by
  have h0 : ∀ k : Nat, ∃ cA : ClassId, (k = 1 ∨ k = 2 ∨ k = 3 ∨ k = 11 ∨ k = 15 ∨ k = 17 ∨ k = 18) → ArrOfT s cA (kTy k) ∧ va_RA s cA (kTy k) ∧ s.vm.findClass ("[" ++ (kTy k).toString) = some cA := by
    intro k
    by_cases hk : k = 1 ∨ k = 2 ∨ k = 3 ∨ k = 11 ∨ k = 15 ∨ k = 17 ∨ k = 18
    · rcases hk with rfl | rfl | rfl | rfl | rfl | rfl | rfl
      · obtain ⟨c, a, b⟩ := ks_prim (ty := .int) (hts _ (inT1 (List.mem_of_getElem? (i := 104) rfl) rfl)); exact ⟨c, fun _ => ⟨a, b, b⟩⟩
      · obtain ⟨c, a, b⟩ := ks_prim (ty := .byte) (hts _ (inT3 (List.mem_of_getElem? (i := 194) rfl) rfl)); exact ⟨c, fun _ => ⟨a, b, b⟩⟩
      · obtain ⟨c, a, b⟩ := ks_prim (ty := .boolean) (hts _ (inT6 (List.mem_of_getElem? (i := 74) rfl) rfl)); exact ⟨c, fun _ => ⟨a, b, b⟩⟩
      · obtain ⟨c, a⟩ := ks_over (C := RX1) (hts _ (inT2 (List.mem_of_getElem? (i := 131) rfl) rfl)); exact ⟨c, fun _ => a⟩
      · obtain ⟨c, a⟩ := ks_over (C := RX5) (hts _ (inT1 (List.mem_of_getElem? (i := 37) rfl) rfl)); exact ⟨c, fun _ => a⟩
      · obtain ⟨c, a⟩ := ks_over (C := RX7) (hts _ (inT1 (List.mem_of_getElem? (i := 174) rfl) rfl)); exact ⟨c, fun _ => a⟩
      · obtain ⟨c, a⟩ := ks_over (C := RX8) (hts _ (inT2 (List.mem_of_getElem? (i := 132) rfl) rfl)); exact ⟨c, fun _ => a⟩
    · exact ⟨(0 : Nat), fun h => absurd h hk⟩
  exact Classical.axiomOfChoice h0
/-- a String constant as a term -/
def sTm (i : Nat) : Term := .string (strT i).1 (strT i).2.1
theorem fl_ex : ∀ i : Fin 14, Cond.exactly (sTm i) "java/lang/String" ∈ flatC (Cond.and given_1 narrow_1) := by decide +kernel
theorem fl_co : ∀ i : Fin 14, Cond.eq (.field (sTm i) "java/lang/String" "coder" "B") (.int 0) ∈ flatC (Cond.and given_1 narrow_1) := by decide +kernel
theorem fl_ar : ∀ i : Fin 14, Cond.arrayOf (.field (sTm i) "java/lang/String" "value" "[B") .byte ∈ flatC (Cond.and given_1 narrow_1) := by decide +kernel
theorem fl_le : ∀ i : Fin 14, Cond.eq (.length (.field (sTm i) "java/lang/String" "value" "[B")) (.int (Int32.ofNat (strL.getD i 0))) ∈ flatC (Cond.and given_1 narrow_1) := by decide +kernel
theorem fl_el : ∀ i : Fin 14, ∀ j, j < strL.getD i 0 → Cond.eq (.elem (.field (sTm i) "java/lang/String" "value" "[B") (.int (Int32.ofNat j))) (.int ((strB.getD i []).getD j 0)) ∈ flatC (Cond.and given_1 narrow_1) := by decide +kernel
theorem fl_st : ∀ i : Fin 14, Cond.stringRef (strT i).1 (strT i).2.1 (strT i).2.2 ∈ lw_tbl := by decide +kernel
theorem strL_lt : ∀ i : Fin 14, strL.getD i 0 < 2 ^ 31 := by decide +kernel
theorem ks_str (hg : (Cond.and given_1 narrow_1).before args s = true) : ∃ ad : Nat → Nat × Nat, ∀ i, i < 14 → (sTm i).eval args s none [] s = some (.ref (ad i).1) ∧ va_O "java/lang/String" (ad i).1 (fun q => s.heap.size ≤ q) s s.heap ∧ va_OF "java/lang/String" "coder" "B" (.int 0) (ad i).1 (fun q => s.heap.size ≤ q) s s.heap ∧ va_OF "java/lang/String" "value" "[B" (.ref (ad i).2) (ad i).1 (fun q => s.heap.size ≤ q) s s.heap ∧ va_T .byte (ad i).2 (strL.getD i 0) (fun j => .int ((strB.getD i []).getD j 0)) (fun q => s.heap.size ≤ q) s s.heap := by
  have hs := flat_of_before _ hg
  have h0 : ∀ i : Nat, ∃ q : Nat × Nat, i < 14 → (sTm i).eval args s none [] s = some (.ref q.1) ∧ va_O "java/lang/String" q.1 (fun q => s.heap.size ≤ q) s s.heap ∧ va_OF "java/lang/String" "coder" "B" (.int 0) q.1 (fun q => s.heap.size ≤ q) s s.heap ∧ va_OF "java/lang/String" "value" "[B" (.ref q.2) q.1 (fun q => s.heap.size ≤ q) s s.heap ∧ va_T .byte q.2 (strL.getD i 0) (fun j => .int ((strB.getD i []).getD j 0)) (fun q => s.heap.size ≤ q) s s.heap := by
    intro i
    by_cases hi : i < 14
    · obtain ⟨aK, aV, hS, hE⟩ := vk_Sof (args := args) (s := s) (N := 1) (tm := fun _ => sTm i) (len := [strL.getD i 0]) (byt := [strB.getD i []]) (A := fun q => s.heap.size ≤ q)
        (fun j hj => by rw [show j = 0 by omega]; exact strL_lt ⟨i, hi⟩) (fun _ _ => hs _ (fl_ex ⟨i, hi⟩)) (fun _ _ => hs _ (fl_co ⟨i, hi⟩)) (fun _ _ => hs _ (fl_ar ⟨i, hi⟩)) (fun j hj => by rw [show j = 0 by omega]; exact hs _ (fl_le ⟨i, hi⟩))
        (fun j hj k hk => by rw [show j = 0 by omega] at hk ⊢; exact hs _ (fl_el ⟨i, hi⟩ k hk)) (fun a b ha hb hne => by omega) (fun a ha => Nat.not_le.mpr ha)
      have h1 := hS.1 0 (by omega)
      exact ⟨(aK 0, aV 0), fun _ => ⟨hE 0 (by omega), h1.1, h1.2.1, h1.2.2.1, h1.2.2.2⟩⟩
    · exact ⟨(0, 0), fun h => absurd h hi⟩
  exact Classical.axiomOfChoice h0
end EN0
/-- the memory at the law's entry -/
def ctA (b L hs : Nat) (gS : Nat → Nat) : Ct := (cnA, 0, 0, hs, fun f k => if f = 0 then b else gS k, fun _ _ => L)
theorem Rep_0 {G : Gt} {b L : Nat} {gS0 : Nat → Nat} {H : Heap} (hB : gB G = H.size) (hH : gH G = H) (hS : ∀ k, gS G k = gS0 k) (hX : gX G = b) (hb : b < H.size) (hs : ∀ k, k < 28 → gS0 k < H.size) : Rep G (J0, R00, ctA b L H.size gS0) H := by
  have hc : ∀ f, cCnt (ctA b L H.size gS0) f = cnA f := fun _ => rfl
  have hz : ∀ f k, k < cCnt (ctA b L H.size gS0) f → (f = 0 ∧ k = 0) ∨ (f = 1 ∧ k < 28) := fun f k hk => by
    rw [hc] at hk
    unfold cnA at hk
    split at hk
    · omega
    · split at hk
      · omega
      · omega
  have ad0 : cAd (ctA b L H.size gS0) 0 0 = b := rfl
  have ad1 : ∀ k, cAd (ctA b L H.size gS0) 1 k = gS0 k := fun _ => rfl
  refine ⟨rfl, by omega, fun q _ => by rw [hH], fun f k hk => ?_, fun f k f' k' h1 h2 hk hk' e => ?_, fun f k i f' k' hk e => ?_, fun f k i hk => ?_, fun k hk => ?_, fun _ => ?_⟩
  · rcases hz f k hk with ⟨rfl, rfl⟩ | ⟨rfl, hk'⟩
    · refine ⟨by dsimp only; rw [ad0]; exact hb, fun h => by omega, fun _ => by dsimp only; rw [ad0, hB]; exact hb, fun h => ?_, fun ci _ h => ?_, fun ci q h => ?_⟩
      · have : fK 0 = 4 := rfl
        omega
      · have : fK 0 = 4 := rfl
        omega
      · have : fK 0 = 4 := rfl
        omega
    · refine ⟨by dsimp only; rw [ad1]; exact hs k hk', fun h => by omega, fun _ => by dsimp only; rw [ad1, hB]; exact hs k hk', fun h => ?_, fun ci _ h => ?_, fun ci q h => ?_⟩
      · have : fK 1 = 5 := rfl
        omega
      · have : fK 1 = 5 := rfl
        omega
      · have : fK 1 = 5 := rfl
        omega
  · have := hz f k hk
    omega
  · rcases hz f k hk with ⟨rfl, rfl⟩ | ⟨rfl, hk'⟩
    · cases e
    · cases e
  · rcases hz f k hk with ⟨rfl, rfl⟩ | ⟨rfl, hk'⟩
    · exact InR0
    · exact InR0
  · dsimp only
    rw [ad1, hS]
  · dsimp only
    rw [ad0, hX]
section EN1
variable {l : Launch} {G : Gt}
/-- the law from its entry -/
theorem law_all {M0 : Mem} (hXL : gXL G ≤ 4096) (hI : ∀ f k i, M0.1 f k i = J0 f k i) (hR : ∀ f k i, M0.2.1 f k i = R00 f k i) (hc : ∀ f, cCnt M0.2.2 f = cnA f) (hn : cNc M0.2.2 = 0 ∧ cNs M0.2.2 = 0) : ∃ M', Cl l G 1001 mL_law [vR (some (0, 0))] M0 (some (vI 1)) M' ∧ cNc M'.2.2 ≤ 600000 ∧ cNs M'.2.2 ≤ 7302249 := by
  have b0 : Bu (fun f _ _ => f < 0) (fun f _ _ => f < 0) cnA 0 0 M0 := ⟨fun f k i _ => hI f k i, fun f k i _ => hR f k i, hc, hn.1, hn.2⟩
  obtain ⟨N1, e1⟩ : ∃ N, newM M0 2 0 16 = N := ⟨_, rfl⟩
  have b1 := (b0.new e1 (c := 0) rfl (fun i => i < 0) (fun i => i ≤ 9 ∨ i = 11 ∨ 13 ≤ i ∧ i ≤ 15) (fun _ _ => rfl) pr_2).mo (W' := fun f _ _ => f < 0) (U' := fun f k i => f = 2 ∧ k = 0 ∧ (i ≤ 9 ∨ i = 11 ∨ 13 ≤ i ∧ i ≤ 15)) (fun f k i h => by omega) (fun f k i h => by omega)
  obtain ⟨M1, cn1, nc1, ns1, x1, c1, ⟨d0, d1, d3, d4, d5, d13, d14⟩, dB, dC, dZ, dn, ds⟩ := BX11_init (l := l) (G := G) (d := 997) b1
  obtain ⟨N2, e2⟩ : ∃ N, newM M1 3 0 68 = N := ⟨_, rfl⟩
  have b2 := (c1.new e2 (c := 0) d3 (fun i => i < 0) (fun i => (1 ≤ i ∧ i ≤ 28) ∨ (39 ≤ i ∧ i ≤ 47) ∨ (51 ≤ i ∧ i ≤ 55) ∨ (64 ≤ i ∧ i ≤ 65)) (fun _ _ => rfl) pr_3).mo (W' := fun f _ _ => f < 0) (U' := fun f k i => f = 3 ∧ k = 0 ∧ ((1 ≤ i ∧ i ≤ 28) ∨ (39 ≤ i ∧ i ≤ 47) ∨ (51 ≤ i ∧ i ≤ 55) ∨ (64 ≤ i ∧ i ≤ 65))) (fun f k i h => by omega) (fun f k i h => by omega)
  obtain ⟨M2, cn2, nc2, ns2, x2, c2, l2, en, es⟩ := BX12_init (l := l) (G := G) (d := 999) b2 (fun f hf => by rw [inc_n (by omega)]; exact dZ f hf)
  have k2 : cCnt M0.2.2 2 = 0 := hc 2
  have k3 : cCnt M1.2.2 3 = 0 := (c1.2.2.1 3).trans d3
  have g : ∀ f, f < 48 → f ≠ 3 → cn2 f = cn1 f := fun f h1 h2 => by rw [l2 f h1, inc_n h2]
  have hI2 : ∀ f k i, M2.1 f k i = J0 f k i := fun f k i => c2.1 f k i (by omega)
  have hR2 : ∀ f k i, M2.2.1 f k i = R00 f k i := fun f k i => c2.2.1 f k i (by omega)
  have hL : LwS Q0 M2 := ⟨RelC_0 hI2 hR2 c2.2.2.1 ⟨by rw [g _ (by decide) (by decide)]; exact d4, by rw [g _ (by decide) (by decide)]; exact d5, by rw [g _ (by decide) (by decide)]; exact d13, by rw [g _ (by decide) (by decide)]; exact d14⟩ ⟨by rw [g _ (by decide) (by decide)]; exact dB.1, by rw [g _ (by decide) (by decide)]; exact dB.2.1, by rw [g _ (by decide) (by decide)]; exact dB.2.2.1, by rw [g _ (by decide) (by decide)]; exact dB.2.2.2.1, by rw [g _ (by decide) (by decide)]; exact dB.2.2.2.2⟩ ⟨by rw [g _ (by decide) (by decide)]; exact dC.1, by rw [g _ (by decide) (by decide)]; exact dC.2.1, by rw [g _ (by decide) (by decide)]; exact dC.2.2.1, by rw [g _ (by decide) (by decide)]; exact dC.2.2.2.1, by rw [g _ (by decide) (by decide)]; exact dC.2.2.2.2.1, by rw [g _ (by decide) (by decide)]; exact dC.2.2.2.2.2.1, by rw [g _ (by decide) (by decide)]; exact dC.2.2.2.2.2.2⟩, Holds_0 hI2, WFA_0, by rw [c2.2.2.1, g _ (by decide) (by decide)]; exact d0, by rw [c2.2.2.1, g _ (by decide) (by decide)]; exact d1⟩
  have n2 := c2.2.2.2.1
  have s2 := c2.2.2.2.2
  obtain ⟨M', y1, y2, y3⟩ := law_loop (l := l) (G := G) hXL 512 0 M2 Q0 rfl hL (by omega) (by omega)
  refine ⟨M', xL_law_0 (fun Z1 g1 => ?_), y2, y3⟩
  rw [e1] at g1; subst g1
  refine ⟨M1, by rw [k2]; exact x1, fun Z2 g2 => ?_⟩
  rw [e2] at g2; subst g2
  refine ⟨M2, by rw [k3]; exact x2, ?_⟩
  rw [k2, k3]
  exact y1
end EN1
