/-! forgetFacts; person -/
set_option maxRecDepth 4000 in
theorem xX6_keepUpTo_0 {l : Launch} {G : Gt} {d : Nat} {M M' : Mem} {r : Option Vl} {x1 : Int} (h : 
    r = none ∧ M' = ((upI M.1 6 0 2 (if x1 < (M.1 6 0 2) then x1 else (M.1 6 0 2) : Int)), M.2.1, M.2.2)) : Cl l G (d + 1) mX6_keepUpTo [vR (some (6, 0)), vI x1] M r M' := by
  show Ex l G (d + 1) mX6_keepUpTo 0 [some (vR (some (6, 0))), some (vI x1)] [] M r M'
  refine r_aload_n 1 dX6_keepUpTo_0 rfl rfl ?_
  refine r_aload_n 2 dX6_keepUpTo_1 rfl rfl ?_
  refine g_I 5 dX6_keepUpTo_2 rfl rfl rfl fi_6_17 rfl ?_
  refine r_iload_n 6 dX6_keepUpTo_5 rfl rfl ?_
  refine r_min 9 dX6_keepUpTo_6 rfl (inT2 (List.mem_of_getElem? (i := 212) rfl) rfl) rfl ?_
  refine p_I 12 dX6_keepUpTo_9 rfl rfl rfl rfl pf_6_17 (.inl rfl) rfl ?_
  exact r_vret dX6_keepUpTo_12 rfl h.1 h.2

set_option maxRecDepth 4000 in
theorem xX3_forget_0 {l : Launch} {G : Gt} {d : Nat} {M M' : Mem} {r : Option Vl}  (hS : Sh M.2.1) (h : 
    ((M.1 8 0 3) = 0 → r = none ∧ M' = M) ∧ (¬ ((M.1 8 0 3) = 0) → r = none ∧ M' = ((upI (flI M.1 24 0 1024 0) 8 0 3 0), M.2.1, M.2.2))) : Cl l G (d + 1) mX3_forget [vR (some (8, 0))] M r M' := by
  show Ex l G (d + 1) mX3_forget 0 [some (vR (some (8, 0)))] [] M r M'
  refine r_aload_n 1 dX3_forget_0 rfl rfl ?_
  refine g_I 4 dX3_forget_1 rfl rfl rfl fi_3_21 rfl ?_
  refine r_if_eq 7 20 dX3_forget_4 rfl rfl (fun c => ?_) (fun c => ?_)
  · have h := h.1 (c)
    exact r_vret dX3_forget_20 rfl h.1 h.2
  · have h := h.2 (c)
    refine r_aload_n 8 dX3_forget_7 rfl rfl ?_
    refine g_R 11 dX3_forget_8 rfl rfl rfl fr_3_15 (sh_3_1 hS) ?_
    refine r_iconst 12 dX3_forget_11 rfl (InR_of rfl) ?_
    refine c_0 [vR (some (24, 0)), vI 0] [] 15 dX3_forget_12 rfl rfl mo_J7_fill_53178 ml_3_25 rfl rfl (KJ7_fl (n := 1024) rfl (by decide) rfl (by decide)) ?_
    refine r_aload_n 16 dX3_forget_15 rfl rfl ?_
    refine r_iconst 17 dX3_forget_16 rfl (InR_of rfl) ?_
    refine p_Z 20 dX3_forget_17 rfl rfl rfl rfl pf_3_21 (.inl rfl) rfl (.inl rfl) ?_
    exact r_vret dX3_forget_20 rfl h.1 h.2

set_option maxRecDepth 4000 in
theorem xX11_forgetFacts_0 {l : Launch} {G : Gt} {d : Nat} {M M' : Mem} {r : Option Vl} {x1 : Int} (hS : Sh M.2.1) (h : 
    ∃ (M_1 : Mem), Cl l G d mX6_keepUpTo [vR (some (6, 0)), vI x1] M none M_1 ∧ Sh M_1.2.1 ∧ (∃ (M_3 : Mem), Cl l G d mX3_forget [vR (some (8, 0))] M_1 none M_3 ∧ r = none ∧ M' = M_3)) : Cl l G (d + 1) mX11_forgetFacts [vR (some (2, 0)), vI x1] M r M' := by
  show Ex l G (d + 1) mX11_forgetFacts 0 [some (vR (some (2, 0))), some (vI x1)] [] M r M'
  refine r_aload_n 1 dX11_forgetFacts_0 rfl rfl ?_
  refine g_R 4 dX11_forgetFacts_1 rfl rfl rfl fr_11_21 (sh_11_1 hS) ?_
  refine r_iload_n 5 dX11_forgetFacts_4 rfl rfl ?_
  obtain ⟨M_1, hc_2, hS, h⟩ := h
  refine v_0 (ci := 6) (C := (RX6, TX6, 3)) [vI x1] [] 8 dX11_forgetFacts_5 rfl rfl rfl rfl rfl mo_X6_keepUpTo ml_11_376 rfl rfl hc_2 ?_
  refine r_aload_n 9 dX11_forgetFacts_8 rfl rfl ?_
  refine g_R 12 dX11_forgetFacts_9 rfl rfl rfl fr_11_35 (sh_11_3 hS) ?_
  obtain ⟨M_3, hc_4, h⟩ := h
  refine v_0 (ci := 3) (C := (RX3, TX3, 4)) [] [] 15 dX11_forgetFacts_12 rfl rfl rfl rfl rfl mo_X3_forget ml_11_379 rfl rfl hc_4 ?_
  exact r_vret dX11_forgetFacts_15 rfl h.1 h.2

set_option maxRecDepth 4000 in
theorem xX12_person_0 {l : Launch} {G : Gt} {d : Nat} {M M' : Mem} {r : Option Vl} {x1 : Int} (hS : Sh M.2.1) (h : 
    ((M.1 48 0 0) = 12 → r = some (vI (-1)) ∧ M' = M) ∧ (¬ ((M.1 48 0 0) = 12) → (0 ≤ x1 ∧ x1 < 8 → ((0 ≤ (M.1 48 0 0) ∧ (M.1 48 0 0) < 12) ∧ InR ((M.1 48 0 0) + 1)) ∧ r = some (vI (M.1 48 0 0)) ∧ M' = ((upI (upI (upI M.1 49 0 (M.1 48 0 0).toNat x1) 50 0 (M.1 48 0 0).toNat 0) 48 0 0 ((M.1 48 0 0) + 1)), M.2.1, M.2.2)) ∧ (¬ (0 ≤ x1 ∧ x1 < 8) → r = some (vI (-1)) ∧ M' = M))) : Cl l G (d + 2) mX12_person [vR (some (3, 0)), vI x1] M r M' := by
  show Ex l G (d + 2) mX12_person 0 [some (vR (some (3, 0))), some (vI x1), none] [] M r M'
  refine r_aload_n 1 dX12_person_0 rfl rfl ?_
  refine g_R 4 dX12_person_1 rfl rfl rfl fr_12_7 (sh_12_1 hS) ?_
  refine r_iconst 5 dX12_person_4 rfl (InR_of rfl) ?_
  refine a_I 6 6 dX12_person_5 rfl rfl rfl rfl ⟨by decide, by decide⟩ rfl ?_
  refine r_istore_n (ls' := [some (vR (some (3, 0))), some (vI x1), some (vI (M.1 48 0 0))]) 7 dX12_person_6 rfl rfl rfl rfl ?_
  refine r_iload_n 8 dX12_person_7 rfl rfl ?_
  refine r_bipush 10 dX12_person_8 rfl rfl ?_
  refine r_icmp_eq 13 20 dX12_person_10 rfl rfl (fun c => ?_) (fun c => ?_)
  · have h := h.1 (c)
    refine r_iconst 21 dX12_person_20 rfl (InR_of rfl) ?_
    exact r_iret dX12_person_21 rfl (.inl rfl) h.1 h.2
  · have h := h.2 (c)
    refine r_iload_n 14 dX12_person_13 rfl rfl ?_
    refine c_1 [vI x1] [] 17 dX12_person_14 rfl rfl mo_X12_isPlace ml_12_160 rfl rfl (KX12_isPlace) ?_
    refine r_if_ne 20 22 dX12_person_17 rfl rfl (fun c => ?_) (fun c => ?_)
    · have h := h.1 (b2_1.mp c)
      obtain ⟨⟨o_1, o_2⟩, h⟩ := h
      refine r_aload_n 23 dX12_person_22 rfl rfl ?_
      refine g_R 26 dX12_person_23 rfl rfl rfl fr_12_13 (sh_12_2 hS) ?_
      refine r_iload_n 27 dX12_person_26 rfl rfl ?_
      refine r_iload_n 28 dX12_person_27 rfl rfl ?_
      refine s_I 12 29 dX12_person_28 rfl rfl (by decide) rfl rfl o_1 ?_
      refine r_aload_n 30 dX12_person_29 rfl rfl ?_
      refine g_R 33 dX12_person_30 rfl rfl rfl fr_12_16 (mR_0 (sh_12_3 hS)) ?_
      refine r_iload_n 34 dX12_person_33 rfl rfl ?_
      refine r_iconst 35 dX12_person_34 rfl (InR_of rfl) ?_
      refine s_I 12 36 dX12_person_35 rfl rfl (by decide) rfl rfl o_1 ?_
      refine r_aload_n 37 dX12_person_36 rfl rfl ?_
      refine g_R 40 dX12_person_37 rfl rfl rfl fr_12_7 (mR_0 (sh_12_1 hS)) ?_
      refine r_iconst 41 dX12_person_40 rfl (InR_of rfl) ?_
      refine r_dup2 42 dX12_person_41 rfl rfl ?_
      refine a_I 6 43 dX12_person_42 rfl rfl rfl rfl ⟨by decide, by decide⟩ (mI_0 ((upI_f rfl).trans (upI_f rfl))) ?_
      refine r_iconst 44 dX12_person_43 rfl (InR_of rfl) ?_
      refine r_iadd 45 dX12_person_44 rfl o_2 ?_
      refine s_I 6 46 dX12_person_45 rfl rfl (by decide) rfl rfl ⟨by decide, by decide⟩ ?_
      refine r_iload_n 47 dX12_person_46 rfl rfl ?_
      exact r_iret dX12_person_47 rfl (.inl rfl) h.1 h.2
    · have h := h.2 (b2_0.mp (Decidable.not_not.mp c))
      refine r_iconst 21 dX12_person_20 rfl (InR_of rfl) ?_
      exact r_iret dX12_person_21 rfl (.inl rfl) h.1 h.2

set_option maxRecDepth 4000 in
theorem xX11_person_0 {l : Launch} {G : Gt} {d : Nat} {M M' : Mem} {r : Option Vl} {x1 : Int} (hS : Sh M.2.1) (h : 
    (12 ≤ (M.1 4 0 0) → r = some (vI (-1)) ∧ M' = M) ∧ (¬ (12 ≤ (M.1 4 0 0)) → (0 ≤ x1 ∧ x1 < 8 → ((0 ≤ (M.1 4 0 0) ∧ (M.1 4 0 0) < 12)) ∧ (∃ (M_2 : Mem), Cl l G d mX11_forgetFacts [vR (some (2, 0)), vI (-1)] ((upI M.1 33 0 (M.1 4 0 0).toNat x1), M.2.1, M.2.2) none M_2 ∧ Sh M_2.2.1 ∧ (InR ((M_2.1 4 0 0) + 1)) ∧ r = some (vI (M_2.1 4 0 0)) ∧ M' = ((upI M_2.1 4 0 0 ((M_2.1 4 0 0) + 1)), M_2.2.1, M_2.2.2))) ∧ (¬ (0 ≤ x1 ∧ x1 < 8) → r = some (vI (-1)) ∧ M' = M))) : Cl l G (d + 1) mX11_person [vR (some (2, 0)), vI x1] M r M' := by
  show Ex l G (d + 1) mX11_person 0 [some (vR (some (2, 0))), some (vI x1)] [] M r M'
  refine r_aload_n 1 dX11_person_0 rfl rfl ?_
  refine g_R 4 dX11_person_1 rfl rfl rfl fr_11_12 (sh_11_0 hS) ?_
  refine g_I 7 dX11_person_4 rfl rfl rfl fi_11_111 rfl ?_
  refine r_bipush 9 dX11_person_7 rfl rfl ?_
  refine r_icmp_ge 12 19 dX11_person_9 rfl rfl (fun c => ?_) (fun c => ?_)
  · have h := h.1 (c)
    refine r_iconst 20 dX11_person_19 rfl (InR_of rfl) ?_
    exact r_iret dX11_person_20 rfl (.inl rfl) h.1 h.2
  · have h := h.2 (c)
    refine r_iload_n 13 dX11_person_12 rfl rfl ?_
    refine c_1 [vI x1] [] 16 dX11_person_13 rfl rfl mo_X11_isPlace ml_11_96 rfl rfl (KX11_isPlace) ?_
    refine r_if_ne 19 21 dX11_person_16 rfl rfl (fun c => ?_) (fun c => ?_)
    · have h := h.1 (b2_1.mp c)
      obtain ⟨o_1, h⟩ := h
      refine r_aload_n 22 dX11_person_21 rfl rfl ?_
      refine g_R 25 dX11_person_22 rfl rfl rfl fr_11_12 (sh_11_0 hS) ?_
      refine g_R 28 dX11_person_25 rfl rfl rfl fr_11_114 (sh_8_1 hS _) ?_
      refine r_aload_n 29 dX11_person_28 rfl rfl ?_
      refine g_R 32 dX11_person_29 rfl rfl rfl fr_11_12 (sh_11_0 hS) ?_
      refine g_I 35 dX11_person_32 rfl rfl rfl fi_11_111 rfl ?_
      refine r_iload_n 36 dX11_person_35 rfl rfl ?_
      refine s_I 12 37 dX11_person_36 rfl rfl (by decide) rfl rfl o_1 ?_
      refine r_aload_n 38 dX11_person_37 rfl rfl ?_
      refine r_iconst 39 dX11_person_38 rfl (InR_of rfl) ?_
      obtain ⟨M_2, hc_3, hS, h⟩ := h
      refine v_0 (ci := 11) (C := (RX11, TX11, 16)) [vI (-1)] [] 42 dX11_person_39 rfl rfl rfl rfl rfl mo_X11_forgetFacts ml_11_117 rfl rfl hc_3 ?_
      obtain ⟨o_4, h⟩ := h
      refine r_aload_n 43 dX11_person_42 rfl rfl ?_
      refine g_R 46 dX11_person_43 rfl rfl rfl fr_11_12 (sh_11_0 hS) ?_
      refine r_dup 47 dX11_person_46 rfl rfl ?_
      refine g_I 50 dX11_person_47 rfl rfl rfl fi_11_111 rfl ?_
      refine r_dup_x1 51 dX11_person_50 rfl rfl ?_
      refine r_iconst 52 dX11_person_51 rfl (InR_of rfl) ?_
      refine r_iadd 53 dX11_person_52 rfl o_4 ?_
      refine p_I 56 dX11_person_53 rfl rfl rfl rfl pf_11_111 (.inl rfl) rfl ?_
      exact r_iret dX11_person_56 rfl (.inl rfl) h.1 h.2
    · have h := h.2 (b2_0.mp (Decidable.not_not.mp c))
      refine r_iconst 20 dX11_person_19 rfl (InR_of rfl) ?_
      exact r_iret dX11_person_20 rfl (.inl rfl) h.1 h.2

def frO (I I' : IM) : Prop := ∀ f k i, ¬ (((f = 6 ∧ i = 2) ∨ f = 24 ∨ (f = 8 ∧ i = 3)) ∧ k = 0) → I' f k i = I f k i
section PE
variable {l : Launch} {G : Gt} {d : Nat} {Q Q' : QT} {M : Mem}
theorem KX11_forgetFacts {x : Int} (hS : Sh M.2.1) (h0 : M.1 8 0 3 = 0 → ∀ j, j < 1024 → M.1 24 0 j = 0) : ∃ I', Cl l G (d + 2) mX11_forgetFacts [vR (some (2, 0)), vI x] M none (I', M.2.1, M.2.2) ∧ frO M.1 I' ∧ I' 6 0 2 = (if x < M.1 6 0 2 then x else M.1 6 0 2) ∧ I' 8 0 3 = 0 ∧ ∀ j, j < 1024 → I' 24 0 j = 0 := by
  have k1 := xX6_keepUpTo_0 (l := l) (G := G) (d := d) (M := M) (x1 := x) (r := none) (M' := ((upI M.1 6 0 2 (if x < (M.1 6 0 2) then x else (M.1 6 0 2) : Int)), M.2.1, M.2.2)) ⟨rfl, rfl⟩
  by_cases c : M.1 8 0 3 = 0
  · have k2 := xX3_forget_0 (l := l) (G := G) (d := d) (M := ((upI M.1 6 0 2 (if x < (M.1 6 0 2) then x else (M.1 6 0 2) : Int)), M.2.1, M.2.2)) (r := none) (M' := ((upI M.1 6 0 2 (if x < (M.1 6 0 2) then x else (M.1 6 0 2) : Int)), M.2.1, M.2.2)) hS (by
      dsimp only
      rw [upI_o (by omega)]
      exact ⟨fun _ => ⟨rfl, rfl⟩, fun n => absurd c n⟩)
    refine ⟨_, xX11_forgetFacts_0 hS ⟨_, k1, hS, _, k2, rfl, rfl⟩, fun f k i hn => ?_, upI_s, by rw [upI_o (by omega)]; exact c, fun j hj => by rw [upI_o (by omega)]; exact h0 c j hj⟩
    by_cases e : f = 6 ∧ k = 0
    · obtain ⟨rfl, rfl⟩ := e
      rw [upI_i (by omega)]
    · rw [upI_o e]
  · have k2 := xX3_forget_0 (l := l) (G := G) (d := d) (M := ((upI M.1 6 0 2 (if x < (M.1 6 0 2) then x else (M.1 6 0 2) : Int)), M.2.1, M.2.2)) (r := none) (M' := (upI (flI (upI M.1 6 0 2 (if x < (M.1 6 0 2) then x else (M.1 6 0 2) : Int)) 24 0 1024 0) 8 0 3 0, M.2.1, M.2.2)) hS (by
      dsimp only
      rw [upI_o (by omega)]
      exact ⟨fun n => absurd n c, fun _ => ⟨rfl, rfl⟩⟩)
    refine ⟨_, xX11_forgetFacts_0 hS ⟨_, k1, hS, _, k2, rfl, rfl⟩, fun f k i hn => ?_, ?_, upI_s, fun j hj => ?_⟩
    · by_cases e : f = 8 ∧ k = 0
      · obtain ⟨rfl, rfl⟩ := e
        rw [upI_i (by omega)]
        unfold flI
        rw [seI_o (by omega), upI_o (by omega)]
      · rw [upI_o e]
        unfold flI
        rw [seI_o (by omega)]
        by_cases e2 : f = 6 ∧ k = 0
        · obtain ⟨rfl, rfl⟩ := e2
          rw [upI_i (by omega)]
        · rw [upI_o e2]
    · rw [upI_o (by omega)]
      unfold flI
      rw [seI_o (by omega), upI_s]
    · rw [upI_o (by omega)]
      unfold flI
      rw [seI_s, if_pos hj]
theorem FitC.no {nc : Nat} {I : IM} (h1 : I 8 0 3 = 0) (h2 : ∀ j, j < 1024 → I 24 0 j = 0) : FitC Q nc I := ⟨fun _ => h2, fun j cv s n seen hj _ _ _ e => by
  rw [h2 j hj] at e
  have := bI_nn (n := 12) (p := seen)
  unfold keyI at e
  exfalso
  omega⟩
/-! person -/
def psQ (Q : QT) (pl : Int) : QT := upQ (upQ (upQ Q 49 (nPp Q) pl) 50 (nPp Q) 0) 48 0 (Q 48 0 + 1)
def personV (Q : QT) (pl : Int) : Int := if ¬ Q 48 0 = 12 ∧ (0 ≤ pl ∧ pl < 8) then Q 48 0 else -1
def personQ (Q : QT) (pl : Int) : QT := if ¬ Q 48 0 = 12 ∧ (0 ≤ pl ∧ pl < 8) then psQ Q pl else Q
theorem psQ_f {pl : Int} {f : Nat} (h : ¬ (f = 49 ∨ f = 50 ∨ f = 48)) : psQ Q pl f = Q f := by
  unfold psQ
  rw [upQ_f (by omega), upQ_f (by omega), upQ_f (by omega)]
theorem psQ_s {pl : Int} {i : Nat} (h : ¬ i = 0) : psQ Q pl 48 i = Q 48 i := by
  unfold psQ
  rw [upQ_i h, upQ_f (by omega), upQ_f (by omega)]
theorem psQ_0 {pl : Int} : psQ Q pl 48 0 = Q 48 0 + 1 := upQ_s
theorem psQ_49 {pl : Int} {i : Nat} : psQ Q pl 49 i = if i = nPp Q then pl else Q 49 i := by
  unfold psQ
  rw [upQ_f (by omega), upQ_f (by omega), upQ_c]
theorem psQ_50 {pl : Int} (hz : ∀ r, nPp Q ≤ r → r < 12 → Q 50 r = 0) (h12 : nPp Q < 12) : psQ Q pl 50 = Q 50 := by
  funext i
  unfold psQ
  rw [upQ_f (by omega), upQ_c]
  by_cases e : i = nPp Q
  · rw [if_pos e, e, hz _ (Nat.le_refl _) h12]
  · rw [if_neg e, upQ_f (by omega)]
theorem psQ_v {pl : Int} : eqV Q (psQ Q pl) := ⟨by rw [psQ_f (by omega)], psQ_f (by omega), psQ_f (by omega), psQ_f (by omega), psQ_f (by omega), psQ_f (by omega)⟩
theorem psQ_r {pl : Int} : eqR Q (psQ Q pl) := ⟨psQ_s (by omega), psQ_f (by omega), psQ_f (by omega), psQ_f (by omega)⟩
theorem psQ_M {pl : Int} : eqM Q (psQ Q pl) := ⟨psQ_f (by omega), by rw [psQ_f (by omega)], psQ_f (by omega)⟩
theorem psQ_n {pl : Int} (h : WFc Q) : nPp (psQ Q pl) = nPp Q + 1 := by
  unfold nPp
  rw [psQ_0]
  have := h.1
  omega
theorem psQ_ch {pl : Int} : nCh (psQ Q pl) = nCh Q := by unfold nCh; rw [psQ_s (by omega)]
theorem psQ_srt {pl : Int} : srt (psQ Q pl) = srt Q := by funext i; unfold srt; rw [psQ_f (by omega), psQ_ch]
theorem psQ_pk {pl : Int} : pk (psQ Q pl) = pk Q := by funext j; unfold pk; rw [psQ_f (by omega), psQ_f (by omega), psQ_f (by omega), psQ_f (by omega), psQ_f (by omega), psQ_f (by omega)]
theorem personQ_W {pl : Int} (h : WFA Q) : WFA (personQ Q pl) := by
  unfold personQ
  split
  · rename_i g
    have h0 := h.1.1.1
    have hn : nPp Q < 12 := by unfold nPp; omega
    have ek := psQ_50 (pl := pl) h.1.2.2.2.2.2.1 hn
    have en := psQ_n (pl := pl) h.1.1
    refine h.mk2 ⟨⟨by rw [psQ_0]; omega, by rw [psQ_s (by omega)]; exact h.1.1.2.1, fun p hp => ?_, fun j hj => ?_⟩, WFr_q psQ_r h.1.2.1, ?_, ?_, ?_, ?_, ?_, ?_⟩ (WFV_q psQ_v h.2.1) ?_ ?_ psQ_M ⟨psQ_f (by omega), psQ_f (by omega)⟩
    · rw [psQ_49]
      split
      · exact g.2
      · exact h.1.1.2.2.1 p hp
    · rw [psQ_ch] at hj
      obtain ⟨q1, q2, q3, q4, q5, q6, q7, q8⟩ := h.1.1.2.2.2 j hj
      rw [psQ_0, psQ_f (by omega), psQ_f (by omega), psQ_f (by omega), psQ_f (by omega), psQ_f (by omega), psQ_f (by omega)]
      exact ⟨q1, q2, by omega, q4, q5, fun e => by have := q6 e; omega, q7, q8⟩
    · unfold WFk; rw [ek]; exact h.1.2.2.1
    · unfold WFp; rw [ek, en]; exact fun r p hr hp ht => by have := h.1.2.2.2.1 r p hr hp ht; omega
    · obtain ⟨l1, l2, l3⟩ := h.l
      refine ⟨by rw [psQ_s (by omega)]; exact l1, by rw [psQ_s (by omega)]; exact l2, fun i hi => ?_⟩
      have hi' : i < nLt Q := by unfold nLt at hi ⊢; rw [psQ_s (by omega)] at hi; exact hi
      obtain ⟨m1, m2, m3, m4, m5, m6⟩ := l3 i hi'
      rw [en, nCv_q psQ_v, psQ_f (by omega), psQ_f (by omega), psQ_f (by omega), psQ_f (by omega), psQ_f (by omega), psQ_f (by omega), psQ_f (by omega)]
      exact ⟨by omega, m2, m3, m4, m5, by omega⟩
    · rw [ek, en]; exact fun r hr hr2 => h.1.2.2.2.2.2.1 r (by omega) hr2
    · rw [psQ_f (by omega)]; exact h.1.2.2.2.2.2.2.1
    · rw [psQ_f (show ¬ (52 = 49 ∨ 52 = 50 ∨ 52 = 48) by omega), psQ_s (by omega)]; exact h.1.2.2.2.2.2.2.2
    · rw [psQ_f (by omega), psQ_f (by omega)]; exact h.2.2.1
    · unfold psQ
      exact ((h.2.2.2.1.up (fun _ _ => by unfold lenF; rw [if_neg (by omega), if_pos (by omega)]; omega)).up (fun _ _ => by unfold lenF; rw [if_neg (by omega), if_pos (by omega)]; omega)).up (fun _ _ => by unfold lenF; rw [if_pos (by omega)]; omega)
  · exact h
theorem KX12_person {pl : Int} (hS : Sh M.2.1) (hw : WFA Q) (hH : HoldsQ Q M.1) : ∃ I', Cl l G (d + 2) mX12_person [vR (some (3, 0)), vI pl] M (some (vI (personV Q pl))) (I', M.2.1, M.2.2) ∧ HoldsQ (personQ Q pl) I' ∧ frR M.1 I' := by
  have e1 : M.1 48 0 0 = Q 48 0 := hH.1 _ _ (by unfold perF; omega)
  have h0 := hw.1.1.1
  unfold personV personQ
  by_cases g : ¬ Q 48 0 = 12 ∧ (0 ≤ pl ∧ pl < 8)
  · rw [if_pos g, if_pos g]
    have hk : (Q 48 0).toNat = nPp Q := rfl
    refine ⟨upI (upI (upI M.1 49 0 (nPp Q) pl) 50 0 (nPp Q) 0) 48 0 0 (Q 48 0 + 1), xX12_person_0 hS ?_, ((hH.up (by unfold perF; omega) (by omega)).up (by unfold perF; omega) (by omega)).up (by unfold perF; omega) (by omega), ((frR.up (by omega)).tr (frR.up (by omega))).tr (frR.up (by omega))⟩
    rw [e1, hk]
    exact ⟨fun c => absurd c g.1, fun _ => ⟨fun _ => ⟨⟨by omega, by unfold InR; omega⟩, rfl, rfl⟩, fun c => absurd g.2 c⟩⟩
  · rw [if_neg g, if_neg g]
    refine ⟨M.1, xX12_person_0 hS ?_, hH, frR.rf⟩
    rw [e1]
    exact ⟨fun _ => ⟨rfl, rfl⟩, fun c => ⟨fun c2 => absurd ⟨c, c2⟩ g, fun _ => ⟨rfl, rfl⟩⟩⟩
theorem KX11_person {pl : Int} (hR : RelC Q M) (hw : WFA Q) : ∃ M', Cl l G (d + 3) mX11_person [vR (some (2, 0)), vI pl] M (some (vI (personV Q pl))) M' ∧ RelC (personQ Q pl) M' ∧ frK M M' := by
  have hS := hR.1.1.1
  have e1 : M.1 4 0 0 = Q 48 0 := hR.2.1.1.1
  have h0 := hw.1.1.1
  unfold personV personQ
  by_cases g : ¬ Q 48 0 = 12 ∧ (0 ≤ pl ∧ pl < 8)
  · rw [if_pos g, if_pos g]
    have hk : (Q 48 0).toNat = nPp Q := rfl
    have hn : nPp Q < 12 := by unfold nPp; omega
    have ek := psQ_50 (pl := pl) hw.1.2.2.2.2.2.1 hn
    obtain ⟨I2, k1, k2, k3, k4, k5⟩ := KX11_forgetFacts (l := l) (G := G) (d := d) (M := (upI M.1 33 0 (nPp Q) pl, M.2.1, M.2.2)) (x := -1) hS (by dsimp only; intro c j hj; rw [upI_o (by omega)] at c ⊢; exact hR.1.1.2.2.2.1.1 c j hj)
    dsimp only at k2 k3
    have e2 : I2 4 0 0 = Q 48 0 := by rw [k2 _ _ _ (by omega), upI_o (by omega)]; exact e1
    have hP := hR.1.1.2.2.1
    have elast : I2 6 0 2 = -1 := by
      have ep : upI M.1 33 0 (nPp Q) pl 6 0 2 = M.1 6 0 2 := by rw [upI_o (by omega)]
      rw [k3]
      simp only [ep]
      have := hP.1
      split <;> omega
    have eo : ∀ f k i, ¬ (((f = 6 ∧ i = 2) ∨ f = 24 ∨ (f = 8 ∧ i = 3)) ∧ k = 0) → ¬ (f = 33 ∧ k = 0) → ¬ (f = 4 ∧ k = 0 ∧ i = 0) → upI I2 4 0 0 (Q 48 0 + 1) f k i = M.1 f k i := fun f k i h1 h2 h3 => by
      by_cases e : f = 4 ∧ k = 0
      · obtain ⟨rfl, rfl⟩ := e
        rw [upI_i (by omega), k2 _ _ _ (by omega), upI_o (by omega)]
      · rw [upI_o e, k2 f k i h1, upI_o h2]
    have est : ∀ i, i < 12 → upI I2 4 0 0 (Q 48 0 + 1) 33 0 i = psQ Q pl 49 i := fun i hi => by
      rw [upI_o (by omega), k2 _ _ _ (by omega), upI_c, psQ_49]
      split
      · rfl
      · exact hR.2.1.2.1 i hi
    obtain ⟨⟨a1, a2, a3, a4⟩, a5, a6, a7, a8, a9, a10, a11⟩ := hR.2.1
    have hA : RelA (psQ Q pl) (upI I2 4 0 0 (Q 48 0 + 1), M.2.1, M.2.2) := by
      refine ⟨hS, ⟨?_, ?_, est, fun i hi => ?_⟩, ?_, ?_, ?_, fun r hr => ?_⟩
      · dsimp only; rw [upI_s, psQ_0]
      · dsimp only; rw [eo _ _ _ (by omega) (by omega) (by omega), psQ_s (by omega)]; exact a3
      · rw [psQ_ch] at hi
        dsimp only
        rw [eo _ _ _ (by omega) (by omega) (by omega), psQ_pk, psQ_srt]
        exact a7 i hi
      · obtain ⟨p1, p2, p3, p4, p5, p6⟩ := hP
        have el : upI I2 4 0 0 (Q 48 0 + 1) 6 0 2 = -1 := by rw [upI_o (by omega)]; exact elast
        refine ⟨⟨?_, ?_, ?_⟩, p2, p3, p4, fun n hn' => ?_, fun n hn' => ?_⟩
        · dsimp only; rw [el]; omega
        · dsimp only; rw [el]; omega
        · dsimp only; rw [el]; omega
        · dsimp only; rw [eo _ _ _ (by omega) (by omega) (by omega)]; exact p5 n hn'
        · dsimp only at hn'; rw [el] at hn'; omega
      · exact FitC.no (by dsimp only; rw [upI_o (by omega)]; exact k4) (fun j hj => by dsimp only; rw [upI_o (by omega)]; exact k5 j hj)
      · obtain ⟨h1, ⟨h2, h2'⟩, h3⟩ := hR.1.1.2.2.2.2.1
        refine CovsC_q psQ_v ⟨?_, ⟨h2, h2'⟩, fun c hc => ?_⟩
        · dsimp only; rw [eo _ _ _ (by omega) (by omega) (by omega)]; exact h1
        · obtain ⟨b1, ⟨b2, b2'⟩, b3, b4, b5⟩ := h3 c hc
          refine ⟨b1, ⟨b2, fun k hk => ?_⟩, ?_, ?_, ?_⟩
          · dsimp only; rw [eo _ _ _ (by omega) (by omega) (by omega)]; exact b2' k hk
          · dsimp only; rw [eo _ _ _ (by omega) (by omega) (by omega)]; exact b3
          · dsimp only; rw [eo _ _ _ (by omega) (by omega) (by omega)]; exact b4
          · dsimp only; rw [eo _ _ _ (by omega) (by omega) (by omega)]; exact b5
      · dsimp only; rw [eo _ _ _ (by omega) (by omega) (by omega), ek]; exact hR.1.1.2.2.2.2.2 r hr
    have hWy : WaysC (psQ Q pl) (upI I2 4 0 0 (Q 48 0 + 1)) := WaysC_q psQ_r ⟨fun x y hx hy => by rw [eo _ _ _ (by omega) (by omega) (by omega)]; exact hR.1.2.1.1 x y hx hy, fun x y hx hy => by rw [eo _ _ _ (by omega) (by omega) (by omega)]; exact hR.1.2.1.2 x y hx hy⟩
    have hRd : RoadsC (psQ Q pl) (upI I2 4 0 0 (Q 48 0 + 1)) 0 := RoadsC_q psQ_r fun x y hx hy => by rw [eo _ _ _ (by omega) (by omega) (by omega)]; exact hR.1.2.2 x y hx hy
    have hSt : StI (psQ Q pl) (upI I2 4 0 0 (Q 48 0 + 1), M.2.1, M.2.2) 0 := by
      refine ⟨⟨?_, ?_, ?_, ?_⟩, est, hRd, hA.2.1.2.2.2, fun i hi => ?_, fun i hi => ?_, fun i hi => ?_, ?_⟩
      · dsimp only; rw [upI_s, psQ_0]
      · dsimp only; rw [eo _ _ _ (by omega) (by omega) (by omega), psQ_s (by omega)]; exact a2
      · dsimp only; rw [eo _ _ _ (by omega) (by omega) (by omega), psQ_s (by omega)]; exact a3
      · dsimp only; rw [eo _ _ _ (by omega) (by omega) (by omega), psQ_s (by omega)]; exact a4
      · dsimp only; rw [eo _ _ _ (by omega) (by omega) (by omega), ek]; exact a8 i hi
      · dsimp only; rw [eo _ _ _ (by omega) (by omega) (by omega), psQ_f (by omega)]; exact a9 i hi
      · dsimp only; rw [eo _ _ _ (by omega) (by omega) (by omega), psQ_f (by omega)]; exact a10 i hi
      · exact (a11.fr (M' := (upI I2 4 0 0 (Q 48 0 + 1), M.2.1, M.2.2)) (fun i hi => by dsimp only; exact eo 4 0 i (by omega) (by omega) (by omega)) (fun _ => rfl) (fun i _ => ⟨fun x => by dsimp only; exact eo 5 _ _ (by omega) (by omega) (by omega), rfl⟩)).q (psQ_s (by omega)) (psQ_s (by omega)) (fun f h1 h2 => psQ_f (by omega))
    refine ⟨(upI I2 4 0 0 (Q 48 0 + 1), M.2.1, M.2.2), xX11_person_0 hS ?_, hR.one hw ⟨hA, hWy, hRd⟩ hSt (hR.2.2.1.fr (by rw [psQ_f (by omega)]) (psQ_f (by omega)) (by dsimp only; exact eo 2 0 12 (by omega) (by omega) (by omega)) (fun i => by dsimp only; exact eo 16 0 i (by omega) (by omega) (by omega))) psQ_M (fun f k i hh => eo f k i (by omega) (by omega) (by omega)) (fun _ _ _ _ => rfl) (fun _ _ => rfl), ⟨fun f k i hh => eo f k i (by omega) (by omega) (by omega), ⟨rfl, rfl⟩, Nat.le_add_right _ _, Nat.le_add_right _ _⟩⟩
    rw [e1, hk]
    refine ⟨fun c => by omega, fun _ => ⟨fun _ => ⟨by omega, _, k1, hS, ?_⟩, fun c => absurd g.2 c⟩⟩
    dsimp only
    rw [e2]
    exact ⟨by unfold InR; omega, rfl, rfl⟩
  · rw [if_neg g, if_neg g]
    refine ⟨M, xX11_person_0 hS ?_, hR, frK.rf⟩
    rw [e1]
    exact ⟨fun _ => ⟨rfl, rfl⟩, fun c => ⟨fun c2 => absurd ⟨by omega, c2⟩ g, fun _ => ⟨rfl, rfl⟩⟩⟩
end PE
