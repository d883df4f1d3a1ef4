/-! State() -/
set_option maxRecDepth 4000 in
theorem xX5_init_0 {l : Launch} {G : Gt} {d : Nat} {M M' : Mem} {r : Option Vl} {k0 : Nat} (h : 
    r = none ∧ M' = ((upI M.1 5 k0 8 (-1)), M.2.1, M.2.2)) : Cl l G (d + 1) mX5_init [vR (some (5, k0))] M r M' := by
  show Ex l G (d + 1) mX5_init 0 [some (vR (some (5, k0)))] [] M r M'
  refine r_aload_n 1 dX5_init_0 rfl rfl ?_
  refine r_objInit 4 dX5_init_1 rfl rfl ⟨(inT1 (List.mem_of_getElem? (i := 45) rfl) rfl), (inT1 (List.mem_of_getElem? (i := 28) rfl) rfl), (inT1 (List.mem_of_getElem? (i := 29) rfl) rfl)⟩ rfl ?_
  refine r_aload_n 5 dX5_init_4 rfl rfl ?_
  refine r_iconst 6 dX5_init_5 rfl (InR_of rfl) ?_
  refine p_I 9 dX5_init_6 rfl rfl rfl rfl pf_5_9 (.inl rfl) rfl ?_
  exact r_vret dX5_init_9 rfl h.1 h.2

set_option maxRecDepth 4000 in
theorem xX8_init_0 {l : Launch} {G : Gt} {d : Nat} {M M' : Mem} {r : Option Vl} {k0 : Nat} (h : 
    (∀ M_1 : Mem, newM M 33 12 12 = M_1 → (∀ M_2 : Mem, newM (M_1.1, (upR M_1.2.1 4 k0 1 (some (33, cCnt M.2.2 33))), M_1.2.2) 34 64 64 = M_2 → (∀ M_3 : Mem, newM (M_2.1, (upR M_2.2.1 4 k0 3 (some (34, cCnt M_1.2.2 34))), M_2.2.2) 35 60 60 = M_3 → (∀ M_4 : Mem, newM (M_3.1, (upR M_3.2.1 4 k0 5 (some (35, cCnt M_2.2.2 35))), M_3.2.2) 36 12 12 = M_4 → (∀ M_5 : Mem, newM (M_4.1, (upR M_4.2.1 4 k0 6 (some (36, cCnt M_3.2.2 36))), M_4.2.2) 37 17 17 = M_5 → (∀ M_6 : Mem, newM (M_5.1, (upR M_5.2.1 4 k0 7 (some (37, cCnt M_4.2.2 37))), M_5.2.2) 38 8 8 = M_6 → (∀ M_7 : Mem, newM (M_6.1, (upR M_6.2.1 4 k0 9 (some (38, cCnt M_5.2.2 38))), M_6.2.2) 39 20 20 = M_7 → Ex l G (d + 1) mX8_init 71 [some (vR (some (4, k0))), some (vI 0)] [] ((flI M_7.1 37 (cCnt M_4.2.2 37) 17 1), (upR M_7.2.1 4 k0 12 (some (39, cCnt M_6.2.2 39))), M_7.2.2) r M')))))))) : Cl l G (d + 1) mX8_init [vR (some (4, k0))] M r M' := by
  show Ex l G (d + 1) mX8_init 0 [some (vR (some (4, k0))), none] [] M r M'
  refine r_aload_n 1 dX8_init_0 rfl rfl ?_
  refine r_objInit 4 dX8_init_1 rfl rfl ⟨(inT1 (List.mem_of_getElem? (i := 35) rfl) rfl), (inT1 (List.mem_of_getElem? (i := 28) rfl) rfl), (inT1 (List.mem_of_getElem? (i := 29) rfl) rfl)⟩ rfl ?_
  refine r_aload_n 5 dX8_init_4 rfl rfl ?_
  refine r_bipush 7 dX8_init_5 rfl rfl ?_
  refine r_newa (f := 33) (k := 1) (n := 12) 9 dX8_init_7 rfl rfl rfl (by decide) (inT1 (List.mem_of_getElem? (i := 104) rfl) rfl) rfl (by decide) (.inl rfl) ?_
  generalize hM_1 : newM M 33 12 12 = M_1
  have h := h M_1 hM_1
  refine p_R 12 dX8_init_9 rfl rfl rfl rfl pf_8_9 (.inr rfl) rfl ?_
  refine r_aload_n 13 dX8_init_12 rfl rfl ?_
  refine r_bipush 15 dX8_init_13 rfl rfl ?_
  refine r_newa (f := 34) (k := 1) (n := 64) 17 dX8_init_15 rfl rfl rfl (by decide) (inT1 (List.mem_of_getElem? (i := 104) rfl) rfl) rfl (by decide) (.inl rfl) ?_
  generalize hM_2 : newM (M_1.1, (upR M_1.2.1 4 k0 1 (some (33, cCnt M.2.2 33))), M_1.2.2) 34 64 64 = M_2
  have h := h M_2 hM_2
  refine p_R 20 dX8_init_17 rfl rfl rfl rfl pf_8_15 (.inr rfl) rfl ?_
  refine r_aload_n 21 dX8_init_20 rfl rfl ?_
  refine r_bipush 23 dX8_init_21 rfl rfl ?_
  refine r_newa (f := 35) (k := 1) (n := 60) 25 dX8_init_23 rfl rfl rfl (by decide) (inT1 (List.mem_of_getElem? (i := 104) rfl) rfl) rfl (by decide) (.inl rfl) ?_
  generalize hM_3 : newM (M_2.1, (upR M_2.2.1 4 k0 3 (some (34, cCnt M_1.2.2 34))), M_2.2.2) 35 60 60 = M_3
  have h := h M_3 hM_3
  refine p_R 28 dX8_init_25 rfl rfl rfl rfl pf_8_18 (.inr rfl) rfl ?_
  refine r_aload_n 29 dX8_init_28 rfl rfl ?_
  refine r_bipush 31 dX8_init_29 rfl rfl ?_
  refine r_newa (f := 36) (k := 1) (n := 12) 33 dX8_init_31 rfl rfl rfl (by decide) (inT1 (List.mem_of_getElem? (i := 104) rfl) rfl) rfl (by decide) (.inl rfl) ?_
  generalize hM_4 : newM (M_3.1, (upR M_3.2.1 4 k0 5 (some (35, cCnt M_2.2.2 35))), M_3.2.2) 36 12 12 = M_4
  have h := h M_4 hM_4
  refine p_R 36 dX8_init_33 rfl rfl rfl rfl pf_8_21 (.inr rfl) rfl ?_
  refine r_aload_n 37 dX8_init_36 rfl rfl ?_
  refine r_bipush 39 dX8_init_37 rfl rfl ?_
  refine r_newa (f := 37) (k := 1) (n := 17) 41 dX8_init_39 rfl rfl rfl (by decide) (inT1 (List.mem_of_getElem? (i := 104) rfl) rfl) rfl (by decide) (.inl rfl) ?_
  generalize hM_5 : newM (M_4.1, (upR M_4.2.1 4 k0 6 (some (36, cCnt M_3.2.2 36))), M_4.2.2) 37 17 17 = M_5
  have h := h M_5 hM_5
  refine p_R 44 dX8_init_41 rfl rfl rfl rfl pf_8_24 (.inr rfl) rfl ?_
  refine r_aload_n 45 dX8_init_44 rfl rfl ?_
  refine r_bipush 47 dX8_init_45 rfl rfl ?_
  refine r_anewa (f := 38) (ci := 5) (C := (RX5, TX5, 12)) (n := 8) 50 dX8_init_47 rfl rfl rfl (by decide) rfl (inT1 (List.mem_of_getElem? (i := 36) rfl) rfl) (inT1 (List.mem_of_getElem? (i := 37) rfl) rfl) rfl (by decide) (.inl rfl) ?_
  generalize hM_6 : newM (M_5.1, (upR M_5.2.1 4 k0 7 (some (37, cCnt M_4.2.2 37))), M_5.2.2) 38 8 8 = M_6
  have h := h M_6 hM_6
  refine p_R 53 dX8_init_50 rfl rfl rfl rfl pf_8_29 (.inr rfl) rfl ?_
  refine r_aload_n 54 dX8_init_53 rfl rfl ?_
  refine r_bipush 56 dX8_init_54 rfl rfl ?_
  refine r_newa (f := 39) (k := 1) (n := 20) 58 dX8_init_56 rfl rfl rfl (by decide) (inT1 (List.mem_of_getElem? (i := 104) rfl) rfl) rfl (by decide) (.inl rfl) ?_
  generalize hM_7 : newM (M_6.1, (upR M_6.2.1 4 k0 9 (some (38, cCnt M_5.2.2 38))), M_6.2.2) 39 20 20 = M_7
  have h := h M_7 hM_7
  refine p_R 61 dX8_init_58 rfl rfl rfl rfl pf_8_33 (.inr rfl) rfl ?_
  refine r_aload_n 62 dX8_init_61 rfl rfl ?_
  refine g_R 65 dX8_init_62 rfl rfl rfl fr_8_24 (mR_0 ((upR_i (by decide)).trans ((newM_R hM_7 rfl).trans ((mR_0 ((upR_i (by decide)).trans ((newM_R hM_6 rfl).trans ((mR_0 (upR_s)))))))))) ?_
  refine r_iconst 66 dX8_init_65 rfl (InR_of rfl) ?_
  refine c_0 [vR (some (37, cCnt M_4.2.2 37)), vI 1] [] 69 dX8_init_66 rfl rfl mo_J7_fill_53178 ml_8_36 rfl rfl (KJ7_fl (n := 17) rfl (by decide) rfl (by decide)) ?_
  refine r_iconst 70 dX8_init_69 rfl (InR_of rfl) ?_
  refine r_istore_n (ls' := [some (vR (some (4, k0))), some (vI 0)]) 71 dX8_init_70 rfl rfl rfl rfl ?_
  exact h
set_option maxRecDepth 4000 in
theorem xX8_init_71 {l : Launch} {G : Gt} {d : Nat} {M M' : Mem} {r : Option Vl} {k0 : Nat} {x1 : Int} (hS : Sh M.2.1) (h : 
    (8 ≤ x1 → r = none ∧ M' = M) ∧ (¬ (8 ≤ x1) → (∀ M_1 : Mem, newM M 5 0 12 = M_1 → ∃ (M_2 : Mem), Cl l G d mX5_init [vR (some (5, cCnt M.2.2 5))] M_1 none M_2 ∧ ((0 ≤ x1 ∧ x1 < 8) ∧ InR (x1 + 1)) ∧ Ex l G (d + 1) mX8_init 71 [some (vR (some (4, k0))), some (vI (x1 + 1))] [] (M_2.1, (upR M_2.2.1 38 k0 x1.toNat (some (5, cCnt M.2.2 5))), M_2.2.2) r M'))) : Ex l G (d + 1) mX8_init 71 [some (vR (some (4, k0))), some (vI x1)] [] M r M' := by
  refine r_iload_n 72 dX8_init_71 rfl rfl ?_
  refine r_bipush 74 dX8_init_72 rfl rfl ?_
  refine r_icmp_ge 77 96 dX8_init_74 rfl rfl (fun c => ?_) (fun c => ?_)
  · have h := h.1 (c)
    exact r_vret dX8_init_96 rfl h.1 h.2
  · have h := h.2 (c)
    refine r_aload_n 78 dX8_init_77 rfl rfl ?_
    refine g_R 81 dX8_init_78 rfl rfl rfl fr_8_29 (sh_8_9 hS _) ?_
    refine r_iload_n 82 dX8_init_81 rfl rfl ?_
    refine r_new (f := 5) (ci := 5) (C := (RX5, TX5, 12)) 85 dX8_init_82 rfl rfl rfl rfl (inT1 (List.mem_of_getElem? (i := 36) rfl) rfl) (inT1 (List.mem_of_getElem? (i := 41) rfl) rfl) wi_5 ?_
    generalize hM_1 : newM M 5 0 12 = M_1
    have h := h M_1 hM_1
    refine r_dup 86 dX8_init_85 rfl rfl ?_
    obtain ⟨M_2, hc_3, h⟩ := h
    refine r_callIN [] [vR (some (5, cCnt M.2.2 5)), vI x1, vR (some (38, k0))] 89 dX8_init_86 rfl rfl rfl mo_X5_init ⟨rfl, rfl⟩ ml_8_42 rfl rfl hc_3 ?_
    obtain ⟨⟨o_4, o_5⟩, h⟩ := h
    refine s_R (ci := 5) 8 90 dX8_init_89 rfl rfl rfl rfl rfl rfl rfl rfl o_4 ?_
    refine r_iinc (ls' := [some (vR (some (4, k0))), some (vI (x1 + 1))]) 93 dX8_init_90 rfl rfl rfl rfl o_5 rfl ?_
    refine r_goto 71 dX8_init_93 rfl ?_
    exact h

theorem newM_z {M M1 : Mem} {f n sl i k : Nat} (h : newM M f n sl = M1) (hk : cCnt M.2.2 f = k) : M1.1 f k i = 0 := by
  subst h
  subst hk
  show seI M.1 f _ _ f _ i = _
  rw [seI_s]
section SI8
variable {l : Launch} {G : Gt} {d : Nat} {M : Mem}
/-- seven rows made -/
theorem st_rows {k0 : Nat} (hc : ∀ f, (f = 33 ∨ f = 34 ∨ f = 35 ∨ f = 36 ∨ f = 37 ∨ f = 38 ∨ f = 39) → cCnt M.2.2 f = k0) : ∃ M', (∀ {r : Option Vl} {M'' : Mem}, Ex l G (d + 1) mX8_init 71 [some (vR (some (4, k0))), some (vI 0)] [] M' r M'' → Cl l G (d + 1) mX8_init [vR (some (4, k0))] M r M'') ∧
    (∀ f j i, ¬ ((f = 33 ∨ f = 34 ∨ f = 35 ∨ f = 36 ∨ f = 37 ∨ f = 38 ∨ f = 39) ∧ j = k0) → M'.1 f j i = M.1 f j i) ∧ (∀ f i, (f = 33 ∨ f = 34 ∨ f = 35 ∨ f = 36 ∨ f = 37 ∨ f = 38 ∨ f = 39) → ¬ f = 37 → M'.1 f k0 i = 0) ∧ (∀ i, i < 17 → M'.1 37 k0 i = 1) ∧ (∀ i, 17 ≤ i → M'.1 37 k0 i = 0) ∧
    (∀ f j i, ¬ ((f = 33 ∨ f = 34 ∨ f = 35 ∨ f = 36 ∨ f = 37 ∨ f = 38 ∨ f = 39 ∨ f = 4) ∧ j = k0) → M'.2.1 f j i = M.2.1 f j i) ∧ (M'.2.1 4 k0 1 = some (33, k0) ∧ M'.2.1 4 k0 3 = some (34, k0) ∧ M'.2.1 4 k0 5 = some (35, k0) ∧ M'.2.1 4 k0 6 = some (36, k0) ∧ M'.2.1 4 k0 7 = some (37, k0) ∧ M'.2.1 4 k0 9 = some (38, k0) ∧ M'.2.1 4 k0 12 = some (39, k0)) ∧ (∀ i, ¬ (i = 1 ∨ i = 3 ∨ i = 5 ∨ i = 6 ∨ i = 7 ∨ i = 9 ∨ i = 12) → M'.2.1 4 k0 i = M.2.1 4 k0 i) ∧
    (∀ f, cCnt M'.2.2 f = if f = 33 ∨ f = 34 ∨ f = 35 ∨ f = 36 ∨ f = 37 ∨ f = 38 ∨ f = 39 then k0 + 1 else cCnt M.2.2 f) ∧ cNc M'.2.2 = cNc M.2.2 + 7 ∧ cNs M'.2.2 = cNs M.2.2 + 193 ∧ CLe M.2.2 M'.2.2 := by
  obtain ⟨M1, e1⟩ : ∃ M1, newM M 33 12 12 = M1 := ⟨_, rfl⟩
  obtain ⟨M2, e2⟩ : ∃ M2, newM (M1.1, upR M1.2.1 4 k0 1 (some (33, cCnt M.2.2 33)), M1.2.2) 34 64 64 = M2 := ⟨_, rfl⟩
  obtain ⟨M3, e3⟩ : ∃ M3, newM (M2.1, upR M2.2.1 4 k0 3 (some (34, cCnt M1.2.2 34)), M2.2.2) 35 60 60 = M3 := ⟨_, rfl⟩
  obtain ⟨M4, e4⟩ : ∃ M4, newM (M3.1, upR M3.2.1 4 k0 5 (some (35, cCnt M2.2.2 35)), M3.2.2) 36 12 12 = M4 := ⟨_, rfl⟩
  obtain ⟨M5, e5⟩ : ∃ M5, newM (M4.1, upR M4.2.1 4 k0 6 (some (36, cCnt M3.2.2 36)), M4.2.2) 37 17 17 = M5 := ⟨_, rfl⟩
  obtain ⟨M6, e6⟩ : ∃ M6, newM (M5.1, upR M5.2.1 4 k0 7 (some (37, cCnt M4.2.2 37)), M5.2.2) 38 8 8 = M6 := ⟨_, rfl⟩
  obtain ⟨M7, e7⟩ : ∃ M7, newM (M6.1, upR M6.2.1 4 k0 9 (some (38, cCnt M5.2.2 38)), M6.2.2) 39 20 20 = M7 := ⟨_, rfl⟩
  have c33 : cCnt M.2.2 33 = k0 := by exact hc _ (by omega)
  have c34 : cCnt M1.2.2 34 = k0 := by rw [newM_c e1, if_neg (by omega)]; exact hc _ (by omega)
  have c35 : cCnt M2.2.2 35 = k0 := by rw [newM_c e2, if_neg (by omega)]; dsimp only; rw [newM_c e1, if_neg (by omega)]; exact hc _ (by omega)
  have c36 : cCnt M3.2.2 36 = k0 := by rw [newM_c e3, if_neg (by omega)]; dsimp only; rw [newM_c e2, if_neg (by omega)]; dsimp only; rw [newM_c e1, if_neg (by omega)]; exact hc _ (by omega)
  have c37 : cCnt M4.2.2 37 = k0 := by rw [newM_c e4, if_neg (by omega)]; dsimp only; rw [newM_c e3, if_neg (by omega)]; dsimp only; rw [newM_c e2, if_neg (by omega)]; dsimp only; rw [newM_c e1, if_neg (by omega)]; exact hc _ (by omega)
  have c38 : cCnt M5.2.2 38 = k0 := by rw [newM_c e5, if_neg (by omega)]; dsimp only; rw [newM_c e4, if_neg (by omega)]; dsimp only; rw [newM_c e3, if_neg (by omega)]; dsimp only; rw [newM_c e2, if_neg (by omega)]; dsimp only; rw [newM_c e1, if_neg (by omega)]; exact hc _ (by omega)
  have c39 : cCnt M6.2.2 39 = k0 := by rw [newM_c e6, if_neg (by omega)]; dsimp only; rw [newM_c e5, if_neg (by omega)]; dsimp only; rw [newM_c e4, if_neg (by omega)]; dsimp only; rw [newM_c e3, if_neg (by omega)]; dsimp only; rw [newM_c e2, if_neg (by omega)]; dsimp only; rw [newM_c e1, if_neg (by omega)]; exact hc _ (by omega)
  refine ⟨(flI M7.1 37 k0 17 1, upR M7.2.1 4 k0 12 (some (39, k0)), M7.2.2), fun {r M''} hx => xX8_init_0 ?_, fun f j i hn => ?_, fun f i hf h37 => ?_, fun i hi => ?_, fun i hi => ?_, fun f j i hn => ?_, ?_, fun i hi => ?_, fun f => ?_, ?_, ?_, ?_⟩
  · intro N1 g1 N2 g2 N3 g3 N4 g4 N5 g5 N6 g6 N7 g7
    rw [e1] at g1; subst g1
    rw [e2] at g2; subst g2
    rw [e3] at g3; subst g3
    rw [e4] at g4; subst g4
    rw [e5] at g5; subst g5
    rw [e6] at g6; subst g6
    rw [e7] at g7; subst g7
    rw [c37, c39]
    exact hx
  · have a : ∀ {N N' : Mem} {g n sl : Nat}, newM N g n sl = N' → (g = 33 ∨ g = 34 ∨ g = 35 ∨ g = 36 ∨ g = 37 ∨ g = 38 ∨ g = 39) → cCnt N.2.2 g = k0 → N'.1 f j i = N.1 f j i := by
      intro N N' g n sl e hg hc
      by_cases hf : f = g
      · exact newM_Ik e (by rw [hc]; intro e2; exact hn ⟨by omega, e2⟩)
      · exact newM_In e hf
    dsimp only
    unfold flI
    rw [seI_o (fun e => hn ⟨by omega, e.2⟩)]
    rw [a e7 (by omega) c39]
    dsimp only
    rw [a e6 (by omega) c38]
    dsimp only
    rw [a e5 (by omega) c37]
    dsimp only
    rw [a e4 (by omega) c36]
    dsimp only
    rw [a e3 (by omega) c35]
    dsimp only
    rw [a e2 (by omega) c34]
    dsimp only
    rw [a e1 (by omega) c33]
  · dsimp only
    unfold flI
    rw [seI_o (fun e => h37 e.1)]
    rcases hf with rfl | rfl | rfl | rfl | rfl | rfl | rfl
    · rw [newM_In e7 (by omega)]; dsimp only
      rw [newM_In e6 (by omega)]; dsimp only
      rw [newM_In e5 (by omega)]; dsimp only
      rw [newM_In e4 (by omega)]; dsimp only
      rw [newM_In e3 (by omega)]; dsimp only
      rw [newM_In e2 (by omega)]; dsimp only
      rw [newM_z e1 c33]
    · rw [newM_In e7 (by omega)]; dsimp only
      rw [newM_In e6 (by omega)]; dsimp only
      rw [newM_In e5 (by omega)]; dsimp only
      rw [newM_In e4 (by omega)]; dsimp only
      rw [newM_In e3 (by omega)]; dsimp only
      rw [newM_z e2 c34]
    · rw [newM_In e7 (by omega)]; dsimp only
      rw [newM_In e6 (by omega)]; dsimp only
      rw [newM_In e5 (by omega)]; dsimp only
      rw [newM_In e4 (by omega)]; dsimp only
      rw [newM_z e3 c35]
    · rw [newM_In e7 (by omega)]; dsimp only
      rw [newM_In e6 (by omega)]; dsimp only
      rw [newM_In e5 (by omega)]; dsimp only
      rw [newM_z e4 c36]
    · exact absurd rfl h37
    · rw [newM_In e7 (by omega)]; dsimp only
      rw [newM_z e6 c38]
    · rw [newM_z e7 c39]
  · dsimp only
    unfold flI
    rw [seI_s, if_pos hi]
  · dsimp only
    unfold flI
    rw [seI_s, if_neg (by omega)]
    rw [newM_In e7 (by omega)]; dsimp only
    rw [newM_In e6 (by omega)]; dsimp only
    rw [newM_z e5 c37]
  · have a : ∀ {N N' : Mem} {g n sl : Nat}, newM N g n sl = N' → (g = 33 ∨ g = 34 ∨ g = 35 ∨ g = 36 ∨ g = 37 ∨ g = 38 ∨ g = 39) → cCnt N.2.2 g = k0 → N'.2.1 f j i = N.2.1 f j i := by
      intro N N' g n sl e hg hc
      by_cases hf : f = g
      · exact newM_Rk e (by rw [hc]; intro e2; exact hn ⟨by omega, e2⟩)
      · exact newM_Rn e hf
    have hu : ∀ (R : RM) (q : Nat) (v : Option Nm), upR R 4 k0 q v f j i = R f j i := fun R q v => by rw [upR_o (fun e => hn ⟨by omega, e.2⟩)]
    dsimp only
    rw [hu]
    rw [a e7 (by omega) c39]
    dsimp only
    rw [hu]
    rw [a e6 (by omega) c38]
    dsimp only
    rw [hu]
    rw [a e5 (by omega) c37]
    dsimp only
    rw [hu]
    rw [a e4 (by omega) c36]
    dsimp only
    rw [hu]
    rw [a e3 (by omega) c35]
    dsimp only
    rw [hu]
    rw [a e2 (by omega) c34]
    dsimp only
    rw [hu]
    rw [a e1 (by omega) c33]
  · refine ⟨?_, ?_, ?_, ?_, ?_, ?_, ?_⟩
    · dsimp only
      rw [upR_i (by omega)]
      rw [newM_Rn e7 (by omega)]; dsimp only
      rw [upR_i (by omega)]
      rw [newM_Rn e6 (by omega)]; dsimp only
      rw [upR_i (by omega)]
      rw [newM_Rn e5 (by omega)]; dsimp only
      rw [upR_i (by omega)]
      rw [newM_Rn e4 (by omega)]; dsimp only
      rw [upR_i (by omega)]
      rw [newM_Rn e3 (by omega)]; dsimp only
      rw [upR_i (by omega)]
      rw [newM_Rn e2 (by omega)]; dsimp only
      rw [upR_s, c33]
    · dsimp only
      rw [upR_i (by omega)]
      rw [newM_Rn e7 (by omega)]; dsimp only
      rw [upR_i (by omega)]
      rw [newM_Rn e6 (by omega)]; dsimp only
      rw [upR_i (by omega)]
      rw [newM_Rn e5 (by omega)]; dsimp only
      rw [upR_i (by omega)]
      rw [newM_Rn e4 (by omega)]; dsimp only
      rw [upR_i (by omega)]
      rw [newM_Rn e3 (by omega)]; dsimp only
      rw [upR_s, c34]
    · dsimp only
      rw [upR_i (by omega)]
      rw [newM_Rn e7 (by omega)]; dsimp only
      rw [upR_i (by omega)]
      rw [newM_Rn e6 (by omega)]; dsimp only
      rw [upR_i (by omega)]
      rw [newM_Rn e5 (by omega)]; dsimp only
      rw [upR_i (by omega)]
      rw [newM_Rn e4 (by omega)]; dsimp only
      rw [upR_s, c35]
    · dsimp only
      rw [upR_i (by omega)]
      rw [newM_Rn e7 (by omega)]; dsimp only
      rw [upR_i (by omega)]
      rw [newM_Rn e6 (by omega)]; dsimp only
      rw [upR_i (by omega)]
      rw [newM_Rn e5 (by omega)]; dsimp only
      rw [upR_s, c36]
    · dsimp only
      rw [upR_i (by omega)]
      rw [newM_Rn e7 (by omega)]; dsimp only
      rw [upR_i (by omega)]
      rw [newM_Rn e6 (by omega)]; dsimp only
      rw [upR_s, c37]
    · dsimp only
      rw [upR_i (by omega)]
      rw [newM_Rn e7 (by omega)]; dsimp only
      rw [upR_s, c38]
    · dsimp only
      rw [upR_s]
  · dsimp only
    rw [upR_i (by omega)]
    rw [newM_Rn e7 (by omega)]; dsimp only
    rw [upR_i (by omega)]
    rw [newM_Rn e6 (by omega)]; dsimp only
    rw [upR_i (by omega)]
    rw [newM_Rn e5 (by omega)]; dsimp only
    rw [upR_i (by omega)]
    rw [newM_Rn e4 (by omega)]; dsimp only
    rw [upR_i (by omega)]
    rw [newM_Rn e3 (by omega)]; dsimp only
    rw [upR_i (by omega)]
    rw [newM_Rn e2 (by omega)]; dsimp only
    rw [upR_i (by omega)]
    rw [newM_Rn e1 (by omega)]
  · dsimp only
    rw [newM_c e7]; dsimp only
    rw [newM_c e6]; dsimp only
    rw [newM_c e5]; dsimp only
    rw [newM_c e4]; dsimp only
    rw [newM_c e3]; dsimp only
    rw [newM_c e2]; dsimp only
    rw [newM_c e1]
    by_cases c : f = 33 ∨ f = 34 ∨ f = 35 ∨ f = 36 ∨ f = 37 ∨ f = 38 ∨ f = 39
    · rw [if_pos c]
      have := hc f c
      rcases c with rfl | rfl | rfl | rfl | rfl | rfl | rfl <;> simp [this]
    · rw [if_neg c, if_neg (by omega), if_neg (by omega), if_neg (by omega), if_neg (by omega), if_neg (by omega), if_neg (by omega), if_neg (by omega)]
  · dsimp only
    rw [newM_nc e7]; dsimp only
    rw [newM_nc e6]; dsimp only
    rw [newM_nc e5]; dsimp only
    rw [newM_nc e4]; dsimp only
    rw [newM_nc e3]; dsimp only
    rw [newM_nc e2]; dsimp only
    rw [newM_nc e1]
  · dsimp only
    rw [newM_ns e7]; dsimp only
    rw [newM_ns e6]; dsimp only
    rw [newM_ns e5]; dsimp only
    rw [newM_ns e4]; dsimp only
    rw [newM_ns e3]; dsimp only
    rw [newM_ns e2]; dsimp only
    rw [newM_ns e1]
  · have g : ∀ {N N' : Mem} {g n sl : Nat}, newM N g n sl = N' → CLe N.2.2 N'.2.2 := fun {N N' g n sl} e => by subst e; exact newC_le _ _ _ _
    have q1 : CLe M.2.2 M1.2.2 := g e1
    have q2 := g e2
    dsimp only at q2
    have q3 := g e3
    dsimp only at q3
    have q4 := g e4
    dsimp only at q4
    have q5 := g e5
    dsimp only at q5
    have q6 := g e6
    dsimp only at q6
    have q7 := g e7
    dsimp only at q7
    exact q1.tr (q2.tr (q3.tr (q4.tr (q5.tr (q6.tr q7)))))
/-- a new State -/
theorem KX8_init {k0 lc : Nat} {R0 : RM} (hc : ∀ f, (f = 33 ∨ f = 34 ∨ f = 35 ∨ f = 36 ∨ f = 37 ∨ f = 38 ∨ f = 39) → cCnt M.2.2 f = k0) (hl : cCnt M.2.2 5 = lc) (hR0 : Sh R0) (hR : ∀ f k i, shp f i = true → ¬ (f = 4 ∧ k = k0) → M.2.1 f k i = R0 f k i) : ∃ M', Cl l G (d + 2) mX8_init [vR (some (4, k0))] M none M' ∧ Sh M'.2.1 ∧
    (∀ f j i, ¬ ((f = 33 ∨ f = 34 ∨ f = 35 ∨ f = 36 ∨ f = 37 ∨ f = 38 ∨ f = 39) ∧ j = k0) → ¬ (f = 5 ∧ lc ≤ j ∧ j < lc + 8) → M'.1 f j i = M.1 f j i) ∧ (∀ f i, (f = 33 ∨ f = 34 ∨ f = 35 ∨ f = 36 ∨ f = 37 ∨ f = 38 ∨ f = 39) → ¬ f = 37 → M'.1 f k0 i = 0) ∧ (∀ i, i < 17 → M'.1 37 k0 i = 1) ∧
    (∀ f j i, ¬ ((f = 33 ∨ f = 34 ∨ f = 35 ∨ f = 36 ∨ f = 37 ∨ f = 38 ∨ f = 39 ∨ f = 4) ∧ j = k0) → ¬ (f = 5 ∧ lc ≤ j ∧ j < lc + 8) → M'.2.1 f j i = M.2.1 f j i) ∧ (∀ i, i < 8 → M'.2.1 38 k0 i = some (5, lc + i)) ∧ (∀ i x, i < 8 → M'.1 5 (lc + i) x = if x = 8 then -1 else 0) ∧
    (∀ f, cCnt M'.2.2 f = if f = 33 ∨ f = 34 ∨ f = 35 ∨ f = 36 ∨ f = 37 ∨ f = 38 ∨ f = 39 then k0 + 1 else if f = 5 then lc + 8 else cCnt M.2.2 f) ∧ cNc M'.2.2 = cNc M.2.2 + 15 ∧ cNs M'.2.2 = cNs M.2.2 + 289 ∧ CLe M.2.2 M'.2.2 := by
  obtain ⟨M7, x1, x2, x3, x4, x5, x6, ⟨f1, f2, f3, f4, f5, f6, f7⟩, x8, x9, x10, x11, x12⟩ := st_rows (l := l) (G := G) (d := d + 1) (M := M) hc
  have hS7 : Sh M7.2.1 := hR0.congr fun f k i hs => by
    by_cases e : f = 4 ∧ k = k0
    · obtain ⟨rfl, rfl⟩ := e
      have hi : i = 1 ∨ i = 3 ∨ i = 5 ∨ i = 6 ∨ i = 7 ∨ i = 9 ∨ i = 12 := by
        have h2 := List.contains_iff_mem.mp (show _ from hs)
        have h3 : ∀ q ∈ ([(9, 0), (9, 1), (9, 2), (9, 3), (9, 12), (13, 1), (12, 8), (8, 0), (8, 1), (8, 2), (11, 0), (11, 2), (6, 0), (6, 1), (14, 1), (14, 2), (14, 3), (14, 4), (4, 1), (4, 3), (4, 5), (4, 6), (4, 7), (4, 9), (4, 12), (10, 0), (10, 1), (10, 2), (10, 3), (10, 4), (7, 0), (7, 1), (2, 0), (2, 1), (2, 2), (2, 3), (2, 4), (2, 5), (2, 6), (2, 7), (2, 8), (2, 9), (2, 11), (2, 13), (2, 14), (2, 15), (3, 1), (3, 2), (3, 3), (3, 4), (3, 5), (3, 6), (3, 7), (3, 8), (3, 9), (3, 10), (3, 11), (3, 12), (3, 13), (3, 14), (3, 15), (3, 16), (3, 17), (3, 18), (3, 19), (3, 20), (3, 21), (3, 22), (3, 23), (3, 24), (3, 25), (3, 26), (3, 27), (3, 28), (3, 39), (3, 40), (3, 41), (3, 42), (3, 43), (3, 44), (3, 45), (3, 46), (3, 47), (3, 51), (3, 52), (3, 53), (3, 54), (3, 55), (3, 64), (3, 65)] : List (Nat × Nat)), q.1 = 4 → (q.2 = 1 ∨ q.2 = 3 ∨ q.2 = 5 ∨ q.2 = 6 ∨ q.2 = 7 ∨ q.2 = 9 ∨ q.2 = 12) := by decide
        exact h3 (4, i) h2 rfl
      rcases hi with rfl | rfl | rfl | rfl | rfl | rfl | rfl
      · rw [f1, sh_8_1 hR0]
      · rw [f2, sh_8_3 hR0]
      · rw [f3, sh_8_5 hR0]
      · rw [f4, sh_8_6 hR0]
      · rw [f5, sh_8_7 hR0]
      · rw [f6, sh_8_9 hR0]
      · rw [f7, sh_8_12 hR0]
    · have hf : f < 16 ∨ f = 0 := by
        have h2 := List.contains_iff_mem.mp (show _ from hs)
        have h3 : ∀ q ∈ ([(9, 0), (9, 1), (9, 2), (9, 3), (9, 12), (13, 1), (12, 8), (8, 0), (8, 1), (8, 2), (11, 0), (11, 2), (6, 0), (6, 1), (14, 1), (14, 2), (14, 3), (14, 4), (4, 1), (4, 3), (4, 5), (4, 6), (4, 7), (4, 9), (4, 12), (10, 0), (10, 1), (10, 2), (10, 3), (10, 4), (7, 0), (7, 1), (2, 0), (2, 1), (2, 2), (2, 3), (2, 4), (2, 5), (2, 6), (2, 7), (2, 8), (2, 9), (2, 11), (2, 13), (2, 14), (2, 15), (3, 1), (3, 2), (3, 3), (3, 4), (3, 5), (3, 6), (3, 7), (3, 8), (3, 9), (3, 10), (3, 11), (3, 12), (3, 13), (3, 14), (3, 15), (3, 16), (3, 17), (3, 18), (3, 19), (3, 20), (3, 21), (3, 22), (3, 23), (3, 24), (3, 25), (3, 26), (3, 27), (3, 28), (3, 39), (3, 40), (3, 41), (3, 42), (3, 43), (3, 44), (3, 45), (3, 46), (3, 47), (3, 51), (3, 52), (3, 53), (3, 54), (3, 55), (3, 64), (3, 65)] : List (Nat × Nat)), q.1 < 16 ∨ q.1 = 0 := by decide
        exact h3 (f, i) h2
      rw [x6 f k i (by omega)]
      exact hR f k i hs e
  have key : ∀ n x : Nat, n + x = 8 → ∀ N : Mem, Sh N.2.1 → (∀ f j i, ¬ (f = 5 ∧ lc ≤ j ∧ j < lc + x) → N.1 f j i = M7.1 f j i) → (∀ f j i, ¬ (f = 5 ∧ lc ≤ j ∧ j < lc + x) → ¬ (f = 38 ∧ j = k0 ∧ i < x) → N.2.1 f j i = M7.2.1 f j i) → (∀ i, i < x → N.2.1 38 k0 i = some (5, lc + i)) → (∀ i y, i < x → N.1 5 (lc + i) y = if y = 8 then -1 else 0) → (∀ f, cCnt N.2.2 f = if f = 5 then lc + x else cCnt M7.2.2 f) → cNc N.2.2 = cNc M7.2.2 + x → cNs N.2.2 = cNs M7.2.2 + 12 * x → CLe M7.2.2 N.2.2 → ∃ M', Ex l G (d + 2) mX8_init 71 [some (vR (some (4, k0))), some (vI (x : Int))] [] N none M' ∧ Sh M'.2.1 ∧ (∀ f j i, ¬ (f = 5 ∧ lc ≤ j ∧ j < lc + 8) → M'.1 f j i = M7.1 f j i) ∧ (∀ f j i, ¬ (f = 5 ∧ lc ≤ j ∧ j < lc + 8) → ¬ (f = 38 ∧ j = k0 ∧ i < 8) → M'.2.1 f j i = M7.2.1 f j i) ∧ (∀ i, i < 8 → M'.2.1 38 k0 i = some (5, lc + i)) ∧ (∀ i y, i < 8 → M'.1 5 (lc + i) y = if y = 8 then -1 else 0) ∧ (∀ f, cCnt M'.2.2 f = if f = 5 then lc + 8 else cCnt M7.2.2 f) ∧ cNc M'.2.2 = cNc M7.2.2 + 8 ∧ cNs M'.2.2 = cNs M7.2.2 + 96 ∧ CLe M7.2.2 M'.2.2 := by
    intro n
    induction n with
    | zero =>
      intro x hx N s1 s2 s3 s4 s5 s6 s7 s8 s9
      have ex : x = 8 := by omega
      subst ex
      exact ⟨N, xX8_init_71 s1 ⟨fun _ => ⟨rfl, rfl⟩, fun c => absurd (by omega) c⟩, s1, s2, s3, s4, s5, s6, s7, s8, s9⟩
    | succ n ih =>
      intro x hx N s1 s2 s3 s4 s5 s6 s7 s8 s9
      obtain ⟨N1, e1⟩ : ∃ N1, newM N 5 0 12 = N1 := ⟨_, rfl⟩
      have hcl : cCnt N.2.2 5 = lc + x := by rw [s6, if_pos rfl]
      have ki := xX5_init_0 (l := l) (G := G) (d := d) (k0 := lc + x) (M := N1) (r := none) (M' := (upI N1.1 5 (lc + x) 8 (-1), N1.2.1, N1.2.2)) ⟨rfl, rfl⟩
      have hne : ∀ f i, shp f i = true → ¬ f = 5 ∧ ¬ f = 38 := fun f i e => by
        have h2 := List.contains_iff_mem.mp (show _ from e)
        have h3 : ∀ q ∈ ([(9, 0), (9, 1), (9, 2), (9, 3), (9, 12), (13, 1), (12, 8), (8, 0), (8, 1), (8, 2), (11, 0), (11, 2), (6, 0), (6, 1), (14, 1), (14, 2), (14, 3), (14, 4), (4, 1), (4, 3), (4, 5), (4, 6), (4, 7), (4, 9), (4, 12), (10, 0), (10, 1), (10, 2), (10, 3), (10, 4), (7, 0), (7, 1), (2, 0), (2, 1), (2, 2), (2, 3), (2, 4), (2, 5), (2, 6), (2, 7), (2, 8), (2, 9), (2, 11), (2, 13), (2, 14), (2, 15), (3, 1), (3, 2), (3, 3), (3, 4), (3, 5), (3, 6), (3, 7), (3, 8), (3, 9), (3, 10), (3, 11), (3, 12), (3, 13), (3, 14), (3, 15), (3, 16), (3, 17), (3, 18), (3, 19), (3, 20), (3, 21), (3, 22), (3, 23), (3, 24), (3, 25), (3, 26), (3, 27), (3, 28), (3, 39), (3, 40), (3, 41), (3, 42), (3, 43), (3, 44), (3, 45), (3, 46), (3, 47), (3, 51), (3, 52), (3, 53), (3, 54), (3, 55), (3, 64), (3, 65)] : List (Nat × Nat)), ¬ q.1 = 5 ∧ ¬ q.1 = 38 := by decide
        exact h3 (f, i) h2
      obtain ⟨M', y1, y2⟩ := ih (x + 1) (by omega) (upI N1.1 5 (lc + x) 8 (-1), upR N1.2.1 38 k0 x (some (5, lc + x)), N1.2.2) (s1.congr fun f k i hs => by
          obtain ⟨q1, q2⟩ := hne f i hs
          dsimp only
          rw [upR_o (by omega), newM_Rn e1 q1]) (fun f j i hn => by
          dsimp only
          by_cases e : f = 5 ∧ j = lc + x
          · omega
          · rw [upI_o e]
            by_cases ef : f = 5
            · rw [newM_Ik e1 (by rw [hcl]; omega)]; exact s2 f j i (by omega)
            · rw [newM_In e1 ef]; exact s2 f j i (by omega)) (fun f j i hn hn2 => by
          dsimp only
          by_cases e : f = 38 ∧ j = k0
          · obtain ⟨rfl, rfl⟩ := e
            rw [upR_i (by omega), newM_Rn e1 (by omega)]; exact s3 _ _ _ (by omega) (by omega)
          · rw [upR_o e]
            by_cases ef : f = 5
            · rw [newM_Rk e1 (by rw [hcl]; omega)]; exact s3 f j i (by omega) (by omega)
            · rw [newM_Rn e1 ef]; exact s3 f j i (by omega) (by omega)) (fun i hi => by
          dsimp only
          by_cases e : i = x
          · rw [e, upR_s]
          · rw [upR_i e, newM_Rn e1 (by omega)]; exact s4 i (by omega)) (fun i y hi => by
          dsimp only
          by_cases e : i = x
          · rw [e, upI_c, newM_z e1 hcl]
          · rw [upI_o (by omega), newM_Ik e1 (by rw [hcl]; omega)]; exact s5 i y (by omega)) (fun f => by
          dsimp only
          rw [newM_c e1, s6]
          by_cases e : f = 5
          · rw [if_pos e, if_pos e, if_pos e]; omega
          · rw [if_neg e, if_neg e, if_neg e]) (by dsimp only; rw [newM_nc e1, s7]; omega) (by dsimp only; rw [newM_ns e1, s8]; omega) (s9.tr (by subst e1; exact newC_le _ _ _ _))
      refine ⟨M', xX8_init_71 s1 ⟨fun c => by omega, fun _ N2 e2 => ?_⟩, y2⟩
      rw [e1] at e2
      subst e2
      rw [hcl, Int.toNat_natCast]
      exact ⟨_, ki, ⟨by omega, by unfold InR; omega⟩, y1⟩
  obtain ⟨M', y1, y2, y3, y4, y5, y6, y7, y8, y9, y10⟩ := key 8 0 rfl M7 hS7 (fun _ _ _ _ => rfl) (fun _ _ _ _ _ => rfl) (fun i hi => by omega) (fun i y hi => by omega) (fun f => by
    by_cases e : f = 5
    · rw [if_pos e, e, x9, if_neg (by omega)]; omega
    · rw [if_neg e]) rfl rfl (CLe.rf _)
  refine ⟨M', x1 y1, y2, fun f j i h1 h2 => (y3 f j i h2).trans (x2 f j i h1), fun f i hf h37 => (y3 f k0 i (by omega)).trans (x3 f i hf h37), fun i hi => (y3 37 k0 i (by omega)).trans (x4 i hi), fun f j i h1 h2 => (y4 f j i h2 (by omega)).trans (x6 f j i h1), y5, fun i x hi => y6 i x hi, fun f => ?_, by omega, by omega, x12.tr y10⟩
  rw [y7, x9]
  by_cases c : f = 33 ∨ f = 34 ∨ f = 35 ∨ f = 36 ∨ f = 37 ∨ f = 38 ∨ f = 39
  · rw [if_pos c, if_neg (by omega), if_pos c]
  · rw [if_neg c, if_neg c]
end SI8
