/-! building: the memory at the start is already the one that is wanted at the end; what is made anew is zero until it is written -/
set_option maxRecDepth 4000 in
theorem xX0_init_0 {l : Launch} {G : Gt} {d : Nat} {M M' : Mem} {r : Option Vl} {k1 : Nat} (h : 
    (∀ M_1 : Mem, newM M 20 144 144 = M_1 → r = none ∧ M' = (M_1.1, (upR (upR (upR (upR (upR M_1.2.1 9 0 12 (some (20, cCnt M.2.2 20))) 9 0 0 (some (4, k1))) 9 0 1 (some (6, 0))) 9 0 2 (some (7, 0))) 9 0 3 (some (8, 0))), M_1.2.2))) : Cl l G (d + 1) mX0_init [vR (some (9, 0)), vR (some (4, k1)), vR (some (6, 0)), vR (some (7, 0)), vR (some (8, 0))] M r M' := by
  show Ex l G (d + 1) mX0_init 0 [some (vR (some (9, 0))), some (vR (some (4, k1))), some (vR (some (6, 0))), some (vR (some (7, 0))), some (vR (some (8, 0)))] [] M r M'
  refine r_aload_n 1 dX0_init_0 rfl rfl ?_
  refine r_objInit 4 dX0_init_1 rfl rfl ⟨(inT1 (List.mem_of_getElem? (i := 225) rfl) rfl), (inT1 (List.mem_of_getElem? (i := 28) rfl) rfl), (inT1 (List.mem_of_getElem? (i := 29) rfl) rfl)⟩ rfl ?_
  refine r_aload_n 5 dX0_init_4 rfl rfl ?_
  refine r_sipush 8 dX0_init_5 rfl rfl ?_
  refine r_newa (f := 20) (k := 1) (n := 144) 10 dX0_init_8 rfl rfl rfl (by decide) (inT1 (List.mem_of_getElem? (i := 104) rfl) rfl) rfl (by decide) (.inl rfl) ?_
  generalize hM_1 : newM M 20 144 144 = M_1
  have h := h M_1 hM_1
  refine p_R 13 dX0_init_10 rfl rfl rfl rfl pf_0_9 (.inr rfl) rfl ?_
  refine r_aload_n 14 dX0_init_13 rfl rfl ?_
  refine r_aload_n 15 dX0_init_14 rfl rfl ?_
  refine p_R 18 dX0_init_15 rfl rfl rfl rfl pf_0_15 (.inr rfl) rfl ?_
  refine r_aload_n 19 dX0_init_18 rfl rfl ?_
  refine r_aload_n 20 dX0_init_19 rfl rfl ?_
  refine p_R 23 dX0_init_20 rfl rfl rfl rfl pf_0_19 (.inr rfl) rfl ?_
  refine r_aload_n 24 dX0_init_23 rfl rfl ?_
  refine r_aload_n 25 dX0_init_24 rfl rfl ?_
  refine p_R 28 dX0_init_25 rfl rfl rfl rfl pf_0_23 (.inr rfl) rfl ?_
  refine r_aload_n 29 dX0_init_28 rfl rfl ?_
  refine r_aload 31 dX0_init_29 rfl rfl ?_
  refine p_R 34 dX0_init_31 rfl rfl rfl rfl pf_0_27 (.inr rfl) rfl ?_
  exact r_vret dX0_init_34 rfl h.1 h.2

set_option maxRecDepth 4000 in
theorem xX2_init_0 {l : Launch} {G : Gt} {d : Nat} {M M' : Mem} {r : Option Vl}  (h : 
    (∀ M_1 : Mem, newM M 21 0 0 = M_1 → (∀ M_2 : Mem, newM (M_1.1, (upR M_1.2.1 12 0 0 (some (21, cCnt M.2.2 21))), M_1.2.2) 22 400 400 = M_2 → r = none ∧ M' = (M_2.1, (upR M_2.2.1 12 0 8 (some (22, cCnt M_1.2.2 22))), M_2.2.2)))) : Cl l G (d + 1) mX2_init [vR (some (12, 0))] M r M' := by
  show Ex l G (d + 1) mX2_init 0 [some (vR (some (12, 0)))] [] M r M'
  refine r_aload_n 1 dX2_init_0 rfl rfl ?_
  refine r_objInit 4 dX2_init_1 rfl rfl ⟨(inT2 (List.mem_of_getElem? (i := 96) rfl) rfl), (inT1 (List.mem_of_getElem? (i := 28) rfl) rfl), (inT1 (List.mem_of_getElem? (i := 29) rfl) rfl)⟩ rfl ?_
  refine r_aload_n 5 dX2_init_4 rfl rfl ?_
  refine r_iconst 6 dX2_init_5 rfl (InR_of rfl) ?_
  refine r_newa (f := 21) (k := 1) (n := 0) 8 dX2_init_6 rfl rfl rfl (by decide) (inT1 (List.mem_of_getElem? (i := 104) rfl) rfl) rfl (by decide) (.inl rfl) ?_
  generalize hM_1 : newM M 21 0 0 = M_1
  have h := h M_1 hM_1
  refine p_R 11 dX2_init_8 rfl rfl rfl rfl pf_2_9 (.inl rfl) rfl ?_
  refine r_aload_n 12 dX2_init_11 rfl rfl ?_
  refine r_sipush 15 dX2_init_12 rfl rfl ?_
  refine r_newa (f := 22) (k := 1) (n := 400) 17 dX2_init_15 rfl rfl rfl (by decide) (inT1 (List.mem_of_getElem? (i := 104) rfl) rfl) rfl (by decide) (.inl rfl) ?_
  generalize hM_2 : newM (M_1.1, (upR M_1.2.1 12 0 0 (some (21, cCnt M.2.2 21))), M_1.2.2) 22 400 400 = M_2
  have h := h M_2 hM_2
  refine p_R 20 dX2_init_17 rfl rfl rfl rfl pf_2_15 (.inr rfl) rfl ?_
  exact r_vret dX2_init_20 rfl h.1 h.2

set_option maxRecDepth 4000 in
theorem xX3_init_0 {l : Launch} {G : Gt} {d : Nat} {M M' : Mem} {r : Option Vl}  (h : 
    (∀ M_1 : Mem, newM M 23 401 401 = M_1 → (∀ M_2 : Mem, newM (M_1.1, (upR M_1.2.1 8 0 0 (some (23, cCnt M.2.2 23))), M_1.2.2) 24 1024 1024 = M_2 → (∀ M_3 : Mem, newM (M_2.1, (upR M_2.2.1 8 0 1 (some (24, cCnt M_1.2.2 24))), M_2.2.2) 25 1024 1024 = M_3 → r = none ∧ M' = (M_3.1, (upR M_3.2.1 8 0 2 (some (25, cCnt M_2.2.2 25))), M_3.2.2))))) : Cl l G (d + 1) mX3_init [vR (some (8, 0))] M r M' := by
  show Ex l G (d + 1) mX3_init 0 [some (vR (some (8, 0)))] [] M r M'
  refine r_aload_n 1 dX3_init_0 rfl rfl ?_
  refine r_objInit 4 dX3_init_1 rfl rfl ⟨(inT1 (List.mem_of_getElem? (i := 206) rfl) rfl), (inT1 (List.mem_of_getElem? (i := 28) rfl) rfl), (inT1 (List.mem_of_getElem? (i := 29) rfl) rfl)⟩ rfl ?_
  refine r_aload_n 5 dX3_init_4 rfl rfl ?_
  refine r_sipush 8 dX3_init_5 rfl rfl ?_
  refine r_newa (f := 23) (k := 1) (n := 401) 10 dX3_init_8 rfl rfl rfl (by decide) (inT1 (List.mem_of_getElem? (i := 104) rfl) rfl) rfl (by decide) (.inl rfl) ?_
  generalize hM_1 : newM M 23 401 401 = M_1
  have h := h M_1 hM_1
  refine p_R 13 dX3_init_10 rfl rfl rfl rfl pf_3_9 (.inr rfl) rfl ?_
  refine r_aload_n 14 dX3_init_13 rfl rfl ?_
  refine r_sipush 17 dX3_init_14 rfl rfl ?_
  refine r_newa (f := 24) (k := 1) (n := 1024) 19 dX3_init_17 rfl rfl rfl (by decide) (inT1 (List.mem_of_getElem? (i := 104) rfl) rfl) rfl (by decide) (.inl rfl) ?_
  generalize hM_2 : newM (M_1.1, (upR M_1.2.1 8 0 0 (some (23, cCnt M.2.2 23))), M_1.2.2) 24 1024 1024 = M_2
  have h := h M_2 hM_2
  refine p_R 22 dX3_init_19 rfl rfl rfl rfl pf_3_15 (.inr rfl) rfl ?_
  refine r_aload_n 23 dX3_init_22 rfl rfl ?_
  refine r_sipush 26 dX3_init_23 rfl rfl ?_
  refine r_newa (f := 25) (k := 1) (n := 1024) 28 dX3_init_26 rfl rfl rfl (by decide) (inT1 (List.mem_of_getElem? (i := 104) rfl) rfl) rfl (by decide) (.inl rfl) ?_
  generalize hM_3 : newM (M_2.1, (upR M_2.2.1 8 0 1 (some (24, cCnt M_1.2.2 24))), M_2.2.2) 25 1024 1024 = M_3
  have h := h M_3 hM_3
  refine p_R 31 dX3_init_28 rfl rfl rfl rfl pf_3_18 (.inr rfl) rfl ?_
  exact r_vret dX3_init_31 rfl h.1 h.2

set_option maxRecDepth 4000 in
theorem xX4_init_0 {l : Launch} {G : Gt} {d : Nat} {M M' : Mem} {r : Option Vl}  (h : 
    (∀ M_1 : Mem, newM M 26 512 512 = M_1 → (∀ M_2 : Mem, newM (M_1.1, (upR M_1.2.1 11 0 0 (some (26, cCnt M.2.2 26))), M_1.2.2) 27 16 16 = M_2 → r = none ∧ M' = (M_2.1, (upR M_2.2.1 11 0 2 (some (27, cCnt M_1.2.2 27))), M_2.2.2)))) : Cl l G (d + 1) mX4_init [vR (some (11, 0))] M r M' := by
  show Ex l G (d + 1) mX4_init 0 [some (vR (some (11, 0)))] [] M r M'
  refine r_aload_n 1 dX4_init_0 rfl rfl ?_
  refine r_objInit 4 dX4_init_1 rfl rfl ⟨(inT2 (List.mem_of_getElem? (i := 60) rfl) rfl), (inT1 (List.mem_of_getElem? (i := 28) rfl) rfl), (inT1 (List.mem_of_getElem? (i := 29) rfl) rfl)⟩ rfl ?_
  refine r_aload_n 5 dX4_init_4 rfl rfl ?_
  refine r_sipush 8 dX4_init_5 rfl rfl ?_
  refine r_newa (f := 26) (k := 1) (n := 512) 10 dX4_init_8 rfl rfl rfl (by decide) (inT1 (List.mem_of_getElem? (i := 104) rfl) rfl) rfl (by decide) (.inl rfl) ?_
  generalize hM_1 : newM M 26 512 512 = M_1
  have h := h M_1 hM_1
  refine p_R 13 dX4_init_10 rfl rfl rfl rfl pf_4_11 (.inr rfl) rfl ?_
  refine r_aload_n 14 dX4_init_13 rfl rfl ?_
  refine r_bipush 16 dX4_init_14 rfl rfl ?_
  refine r_newa (f := 27) (k := 1) (n := 16) 18 dX4_init_16 rfl rfl rfl (by decide) (inT1 (List.mem_of_getElem? (i := 104) rfl) rfl) rfl (by decide) (.inl rfl) ?_
  generalize hM_2 : newM (M_1.1, (upR M_1.2.1 11 0 0 (some (26, cCnt M.2.2 26))), M_1.2.2) 27 16 16 = M_2
  have h := h M_2 hM_2
  refine p_R 21 dX4_init_18 rfl rfl rfl rfl pf_4_15 (.inr rfl) rfl ?_
  exact r_vret dX4_init_21 rfl h.1 h.2

set_option maxRecDepth 4000 in
theorem xX6_init_0 {l : Launch} {G : Gt} {d : Nat} {M M' : Mem} {r : Option Vl} {k1 : Nat} (h : 
    (∀ M_1 : Mem, newM M 28 61 61 = M_1 → r = none ∧ M' = ((upI M_1.1 6 0 2 (-1)), (upR (upR M_1.2.1 6 0 1 (some (28, cCnt M.2.2 28))) 6 0 0 (some (4, k1))), M_1.2.2))) : Cl l G (d + 1) mX6_init [vR (some (6, 0)), vR (some (4, k1))] M r M' := by
  show Ex l G (d + 1) mX6_init 0 [some (vR (some (6, 0))), some (vR (some (4, k1)))] [] M r M'
  refine r_aload_n 1 dX6_init_0 rfl rfl ?_
  refine r_objInit 4 dX6_init_1 rfl rfl ⟨(inT1 (List.mem_of_getElem? (i := 172) rfl) rfl), (inT1 (List.mem_of_getElem? (i := 28) rfl) rfl), (inT1 (List.mem_of_getElem? (i := 29) rfl) rfl)⟩ rfl ?_
  refine r_aload_n 5 dX6_init_4 rfl rfl ?_
  refine r_bipush 7 dX6_init_5 rfl rfl ?_
  refine r_anewa (f := 28) (ci := 7) (C := (RX7, TX7, 5)) (n := 61) 10 dX6_init_7 rfl rfl rfl (by decide) rfl (inT1 (List.mem_of_getElem? (i := 173) rfl) rfl) (inT1 (List.mem_of_getElem? (i := 174) rfl) rfl) rfl (by decide) (.inl rfl) ?_
  generalize hM_1 : newM M 28 61 61 = M_1
  have h := h M_1 hM_1
  refine p_R 13 dX6_init_10 rfl rfl rfl rfl pf_6_11 (.inr rfl) rfl ?_
  refine r_aload_n 14 dX6_init_13 rfl rfl ?_
  refine r_iconst 15 dX6_init_14 rfl (InR_of rfl) ?_
  refine p_I 18 dX6_init_15 rfl rfl rfl rfl pf_6_17 (.inl rfl) rfl ?_
  refine r_aload_n 19 dX6_init_18 rfl rfl ?_
  refine r_aload_n 20 dX6_init_19 rfl rfl ?_
  refine p_R 23 dX6_init_20 rfl rfl rfl rfl pf_6_21 (.inr rfl) rfl ?_
  exact r_vret dX6_init_23 rfl h.1 h.2

set_option maxRecDepth 4000 in
theorem xX9_init_0 {l : Launch} {G : Gt} {d : Nat} {M M' : Mem} {r : Option Vl}  (h : 
    (∀ M_1 : Mem, newM M 40 61 61 = M_1 → (∀ M_2 : Mem, newM (M_1.1, (upR M_1.2.1 10 0 0 (some (40, cCnt M.2.2 40))), M_1.2.2) 41 488 488 = M_2 → (∀ M_3 : Mem, newM (M_2.1, (upR M_2.2.1 10 0 1 (some (41, cCnt M_1.2.2 41))), M_2.2.2) 42 488 488 = M_3 → (∀ M_4 : Mem, newM (M_3.1, (upR M_3.2.1 10 0 2 (some (42, cCnt M_2.2.2 42))), M_3.2.2) 43 61 61 = M_4 → (∀ M_5 : Mem, newM (M_4.1, (upR M_4.2.1 10 0 3 (some (43, cCnt M_3.2.2 43))), M_4.2.2) 44 488 488 = M_5 → r = none ∧ M' = (M_5.1, (upR M_5.2.1 10 0 4 (some (44, cCnt M_4.2.2 44))), M_5.2.2))))))) : Cl l G (d + 1) mX9_init [vR (some (10, 0))] M r M' := by
  show Ex l G (d + 1) mX9_init 0 [some (vR (some (10, 0)))] [] M r M'
  refine r_aload_n 1 dX9_init_0 rfl rfl ?_
  refine r_objInit 4 dX9_init_1 rfl rfl ⟨(inT2 (List.mem_of_getElem? (i := 38) rfl) rfl), (inT1 (List.mem_of_getElem? (i := 28) rfl) rfl), (inT1 (List.mem_of_getElem? (i := 29) rfl) rfl)⟩ rfl ?_
  refine r_aload_n 5 dX9_init_4 rfl rfl ?_
  refine r_bipush 7 dX9_init_5 rfl rfl ?_
  refine r_newa (f := 40) (k := 1) (n := 61) 9 dX9_init_7 rfl rfl rfl (by decide) (inT1 (List.mem_of_getElem? (i := 104) rfl) rfl) rfl (by decide) (.inl rfl) ?_
  generalize hM_1 : newM M 40 61 61 = M_1
  have h := h M_1 hM_1
  refine p_R 12 dX9_init_9 rfl rfl rfl rfl pf_9_11 (.inr rfl) rfl ?_
  refine r_aload_n 13 dX9_init_12 rfl rfl ?_
  refine r_sipush 16 dX9_init_13 rfl rfl ?_
  refine r_newa (f := 41) (k := 1) (n := 488) 18 dX9_init_16 rfl rfl rfl (by decide) (inT1 (List.mem_of_getElem? (i := 104) rfl) rfl) rfl (by decide) (.inl rfl) ?_
  generalize hM_2 : newM (M_1.1, (upR M_1.2.1 10 0 0 (some (40, cCnt M.2.2 40))), M_1.2.2) 41 488 488 = M_2
  have h := h M_2 hM_2
  refine p_R 21 dX9_init_18 rfl rfl rfl rfl pf_9_15 (.inr rfl) rfl ?_
  refine r_aload_n 22 dX9_init_21 rfl rfl ?_
  refine r_sipush 25 dX9_init_22 rfl rfl ?_
  refine r_newa (f := 42) (k := 1) (n := 488) 27 dX9_init_25 rfl rfl rfl (by decide) (inT1 (List.mem_of_getElem? (i := 104) rfl) rfl) rfl (by decide) (.inl rfl) ?_
  generalize hM_3 : newM (M_2.1, (upR M_2.2.1 10 0 1 (some (41, cCnt M_1.2.2 41))), M_2.2.2) 42 488 488 = M_3
  have h := h M_3 hM_3
  refine p_R 30 dX9_init_27 rfl rfl rfl rfl pf_9_18 (.inr rfl) rfl ?_
  refine r_aload_n 31 dX9_init_30 rfl rfl ?_
  refine r_bipush 33 dX9_init_31 rfl rfl ?_
  refine r_newa (f := 43) (k := 1) (n := 61) 35 dX9_init_33 rfl rfl rfl (by decide) (inT1 (List.mem_of_getElem? (i := 104) rfl) rfl) rfl (by decide) (.inl rfl) ?_
  generalize hM_4 : newM (M_3.1, (upR M_3.2.1 10 0 2 (some (42, cCnt M_2.2.2 42))), M_3.2.2) 43 61 61 = M_4
  have h := h M_4 hM_4
  refine p_R 38 dX9_init_35 rfl rfl rfl rfl pf_9_21 (.inr rfl) rfl ?_
  refine r_aload_n 39 dX9_init_38 rfl rfl ?_
  refine r_sipush 42 dX9_init_39 rfl rfl ?_
  refine r_newa (f := 44) (k := 1) (n := 488) 44 dX9_init_42 rfl rfl rfl (by decide) (inT1 (List.mem_of_getElem? (i := 104) rfl) rfl) rfl (by decide) (.inl rfl) ?_
  generalize hM_5 : newM (M_4.1, (upR M_4.2.1 10 0 3 (some (43, cCnt M_3.2.2 43))), M_4.2.2) 44 488 488 = M_5
  have h := h M_5 hM_5
  refine p_R 47 dX9_init_44 rfl rfl rfl rfl pf_9_24 (.inr rfl) rfl ?_
  exact r_vret dX9_init_47 rfl h.1 h.2

set_option maxRecDepth 4000 in
theorem xX10_init_0 {l : Launch} {G : Gt} {d : Nat} {M M' : Mem} {r : Option Vl}  (h : 
    (∀ M_1 : Mem, newM M 45 64 64 = M_1 → (∀ M_2 : Mem, newM (M_1.1, (upR M_1.2.1 7 0 0 (some (45, cCnt M.2.2 45))), M_1.2.2) 46 64 64 = M_2 → Ex l G (d + 1) mX10_init 40 [some (vR (some (7, 0))), some (vI 0)] [] ((flI (flI M_2.1 45 (cCnt M.2.2 45) 64 1000) 46 (cCnt M_1.2.2 46) 64 (-1)), (upR M_2.2.1 7 0 1 (some (46, cCnt M_1.2.2 46))), M_2.2.2) r M'))) : Cl l G (d + 1) mX10_init [vR (some (7, 0))] M r M' := by
  show Ex l G (d + 1) mX10_init 0 [some (vR (some (7, 0))), none] [] M r M'
  refine r_aload_n 1 dX10_init_0 rfl rfl ?_
  refine r_objInit 4 dX10_init_1 rfl rfl ⟨(inT1 (List.mem_of_getElem? (i := 190) rfl) rfl), (inT1 (List.mem_of_getElem? (i := 28) rfl) rfl), (inT1 (List.mem_of_getElem? (i := 29) rfl) rfl)⟩ rfl ?_
  refine r_aload_n 5 dX10_init_4 rfl rfl ?_
  refine r_bipush 7 dX10_init_5 rfl rfl ?_
  refine r_newa (f := 45) (k := 1) (n := 64) 9 dX10_init_7 rfl rfl rfl (by decide) (inT1 (List.mem_of_getElem? (i := 104) rfl) rfl) rfl (by decide) (.inl rfl) ?_
  generalize hM_1 : newM M 45 64 64 = M_1
  have h := h M_1 hM_1
  refine p_R 12 dX10_init_9 rfl rfl rfl rfl pf_10_9 (.inr rfl) rfl ?_
  refine r_aload_n 13 dX10_init_12 rfl rfl ?_
  refine r_bipush 15 dX10_init_13 rfl rfl ?_
  refine r_newa (f := 46) (k := 1) (n := 64) 17 dX10_init_15 rfl rfl rfl (by decide) (inT1 (List.mem_of_getElem? (i := 104) rfl) rfl) rfl (by decide) (.inl rfl) ?_
  generalize hM_2 : newM (M_1.1, (upR M_1.2.1 7 0 0 (some (45, cCnt M.2.2 45))), M_1.2.2) 46 64 64 = M_2
  have h := h M_2 hM_2
  refine p_R 20 dX10_init_17 rfl rfl rfl rfl pf_10_15 (.inr rfl) rfl ?_
  refine r_aload_n 21 dX10_init_20 rfl rfl ?_
  refine g_R 24 dX10_init_21 rfl rfl rfl fr_10_9 (mR_0 ((upR_i (by decide)).trans ((newM_R hM_2 rfl).trans ((mR_0 (upR_s)))))) ?_
  refine r_sipush 27 dX10_init_24 rfl rfl ?_
  refine c_0 [vR (some (45, cCnt M.2.2 45)), vI 1000] [] 30 dX10_init_27 rfl rfl mo_J7_fill_53178 ml_10_18 rfl rfl (KJ7_fl (n := 64) rfl (by decide) rfl (by decide)) ?_
  refine r_aload_n 31 dX10_init_30 rfl rfl ?_
  refine g_R 34 dX10_init_31 rfl rfl rfl fr_10_15 (mR_0 (upR_s)) ?_
  refine r_iconst 35 dX10_init_34 rfl (InR_of rfl) ?_
  refine c_0 [vR (some (46, cCnt M_1.2.2 46)), vI (-1)] [] 38 dX10_init_35 rfl rfl mo_J7_fill_53178 ml_10_18 rfl rfl (KJ7_fl (n := 64) rfl (by decide) rfl (by decide)) ?_
  refine r_iconst 39 dX10_init_38 rfl (InR_of rfl) ?_
  refine r_istore_n (ls' := [some (vR (some (7, 0))), some (vI 0)]) 40 dX10_init_39 rfl rfl rfl rfl ?_
  exact h
set_option maxRecDepth 4000 in
theorem xX10_init_40 {l : Launch} {G : Gt} {d : Nat} {M M' : Mem} {r : Option Vl} {x1 : Int} (h : 
    (8 ≤ x1 → r = none ∧ M' = M) ∧ (¬ (8 ≤ x1) → (InR (x1 * 8) ∧ InR ((x1 * 8) + x1)) ∧ (∃ k_3 : Nat, (M.2.1 7 0 0) = some (45, k_3) ∧ ((0 ≤ ((x1 * 8) + x1) ∧ ((x1 * 8) + x1) < 64) ∧ InR (x1 + 1)) ∧ Ex l G (d + 1) mX10_init 40 [some (vR (some (7, 0))), some (vI (x1 + 1))] [] ((upI M.1 45 k_3 ((x1 * 8) + x1).toNat 0), M.2.1, M.2.2) r M'))) : Ex l G (d + 1) mX10_init 40 [some (vR (some (7, 0))), some (vI x1)] [] M r M' := by
  refine r_iload_n 41 dX10_init_40 rfl rfl ?_
  refine r_bipush 43 dX10_init_41 rfl rfl ?_
  refine r_icmp_ge 46 64 dX10_init_43 rfl rfl (fun c => ?_) (fun c => ?_)
  · have h := h.1 (c)
    exact r_vret dX10_init_64 rfl h.1 h.2
  · have h := h.2 (c)
    obtain ⟨⟨o_1, o_2⟩, h⟩ := h
    refine r_aload_n 47 dX10_init_46 rfl rfl ?_
    refine g_R 50 dX10_init_47 rfl rfl rfl fr_10_9 rfl ?_
    refine r_iload_n 51 dX10_init_50 rfl rfl ?_
    refine r_bipush 53 dX10_init_51 rfl rfl ?_
    refine r_imul 54 dX10_init_53 rfl o_1 ?_
    refine r_iload_n 55 dX10_init_54 rfl rfl ?_
    refine r_iadd 56 dX10_init_55 rfl o_2 ?_
    refine r_iconst 57 dX10_init_56 rfl (InR_of rfl) ?_
    obtain ⟨k_3, e_4, h⟩ := h
    obtain ⟨⟨o_5, o_6⟩, h⟩ := h
    refine s_I 64 58 dX10_init_57 rfl e_4 (by decide) rfl rfl o_5 ?_
    refine r_iinc (ls' := [some (vR (some (7, 0))), some (vI (x1 + 1))]) 61 dX10_init_58 rfl rfl rfl rfl o_6 rfl ?_
    refine r_goto 40 dX10_init_61 rfl ?_
    exact h

set_option maxRecDepth 4000 in
theorem xX8_initn_0 {l : Launch} {G : Gt} {d : Nat} {M M' : Mem} {r : Option Vl} {k0 : Nat} (h : 
    (∀ M_1 : Mem, newM M 33 12 12 = M_1 → (∀ M_2 : Mem, newM (M_1.1, (upR M_1.2.1 4 k0 1 (some (33, cCnt M.2.2 33))), M_1.2.2) 34 64 64 = M_2 → (∀ M_3 : Mem, newM (M_2.1, (upR M_2.2.1 4 k0 3 (some (34, cCnt M_1.2.2 34))), M_2.2.2) 35 60 60 = M_3 → (∀ M_4 : Mem, newM (M_3.1, (upR M_3.2.1 4 k0 5 (some (35, cCnt M_2.2.2 35))), M_3.2.2) 36 12 12 = M_4 → (∀ M_5 : Mem, newM (M_4.1, (upR M_4.2.1 4 k0 6 (some (36, cCnt M_3.2.2 36))), M_4.2.2) 37 17 17 = M_5 → (∀ M_6 : Mem, newM (M_5.1, (upR M_5.2.1 4 k0 7 (some (37, cCnt M_4.2.2 37))), M_5.2.2) 38 8 8 = M_6 → (∀ M_7 : Mem, newM (M_6.1, (upR M_6.2.1 4 k0 9 (some (38, cCnt M_5.2.2 38))), M_6.2.2) 39 20 20 = M_7 → Ex l G (d + 1) mX8_init 71 [some (vR (some (4, k0))), some (vI 0)] [] ((flI M_7.1 37 (cCnt M_4.2.2 37) 17 1), (upR M_7.2.1 4 k0 12 (some (39, cCnt M_6.2.2 39))), M_7.2.2) r M')))))))) : Cl l G (d + 1) mX8_init [vR (some (4, k0))] M r M' := by
  show Ex l G (d + 1) mX8_init 0 [some (vR (some (4, k0))), none] [] M r M'
  refine r_aload_n 1 dX8_init_0 rfl rfl ?_
  refine r_objInit 4 dX8_init_1 rfl rfl ⟨(inT1 (List.mem_of_getElem? (i := 35) rfl) rfl), (inT1 (List.mem_of_getElem? (i := 28) rfl) rfl), (inT1 (List.mem_of_getElem? (i := 29) rfl) rfl)⟩ rfl ?_
  refine r_aload_n 5 dX8_init_4 rfl rfl ?_
  refine r_bipush 7 dX8_init_5 rfl rfl ?_
  refine r_newa (f := 33) (k := 1) (n := 12) 9 dX8_init_7 rfl rfl rfl (by decide) (inT1 (List.mem_of_getElem? (i := 104) rfl) rfl) rfl (by decide) (.inl rfl) ?_
  generalize hM_1 : newM M 33 12 12 = M_1
  have h := h M_1 hM_1
  refine p_R 12 dX8_init_9 rfl rfl rfl rfl pf_8_9 (.inr rfl) rfl ?_
  refine r_aload_n 13 dX8_init_12 rfl rfl ?_
  refine r_bipush 15 dX8_init_13 rfl rfl ?_
  refine r_newa (f := 34) (k := 1) (n := 64) 17 dX8_init_15 rfl rfl rfl (by decide) (inT1 (List.mem_of_getElem? (i := 104) rfl) rfl) rfl (by decide) (.inl rfl) ?_
  generalize hM_2 : newM (M_1.1, (upR M_1.2.1 4 k0 1 (some (33, cCnt M.2.2 33))), M_1.2.2) 34 64 64 = M_2
  have h := h M_2 hM_2
  refine p_R 20 dX8_init_17 rfl rfl rfl rfl pf_8_15 (.inr rfl) rfl ?_
  refine r_aload_n 21 dX8_init_20 rfl rfl ?_
  refine r_bipush 23 dX8_init_21 rfl rfl ?_
  refine r_newa (f := 35) (k := 1) (n := 60) 25 dX8_init_23 rfl rfl rfl (by decide) (inT1 (List.mem_of_getElem? (i := 104) rfl) rfl) rfl (by decide) (.inl rfl) ?_
  generalize hM_3 : newM (M_2.1, (upR M_2.2.1 4 k0 3 (some (34, cCnt M_1.2.2 34))), M_2.2.2) 35 60 60 = M_3
  have h := h M_3 hM_3
  refine p_R 28 dX8_init_25 rfl rfl rfl rfl pf_8_18 (.inr rfl) rfl ?_
  refine r_aload_n 29 dX8_init_28 rfl rfl ?_
  refine r_bipush 31 dX8_init_29 rfl rfl ?_
  refine r_newa (f := 36) (k := 1) (n := 12) 33 dX8_init_31 rfl rfl rfl (by decide) (inT1 (List.mem_of_getElem? (i := 104) rfl) rfl) rfl (by decide) (.inl rfl) ?_
  generalize hM_4 : newM (M_3.1, (upR M_3.2.1 4 k0 5 (some (35, cCnt M_2.2.2 35))), M_3.2.2) 36 12 12 = M_4
  have h := h M_4 hM_4
  refine p_R 36 dX8_init_33 rfl rfl rfl rfl pf_8_21 (.inr rfl) rfl ?_
  refine r_aload_n 37 dX8_init_36 rfl rfl ?_
  refine r_bipush 39 dX8_init_37 rfl rfl ?_
  refine r_newa (f := 37) (k := 1) (n := 17) 41 dX8_init_39 rfl rfl rfl (by decide) (inT1 (List.mem_of_getElem? (i := 104) rfl) rfl) rfl (by decide) (.inl rfl) ?_
  generalize hM_5 : newM (M_4.1, (upR M_4.2.1 4 k0 6 (some (36, cCnt M_3.2.2 36))), M_4.2.2) 37 17 17 = M_5
  have h := h M_5 hM_5
  refine p_R 44 dX8_init_41 rfl rfl rfl rfl pf_8_24 (.inr rfl) rfl ?_
  refine r_aload_n 45 dX8_init_44 rfl rfl ?_
  refine r_bipush 47 dX8_init_45 rfl rfl ?_
  refine r_anewa (f := 38) (ci := 5) (C := (RX5, TX5, 12)) (n := 8) 50 dX8_init_47 rfl rfl rfl (by decide) rfl (inT1 (List.mem_of_getElem? (i := 36) rfl) rfl) (inT1 (List.mem_of_getElem? (i := 37) rfl) rfl) rfl (by decide) (.inl rfl) ?_
  generalize hM_6 : newM (M_5.1, (upR M_5.2.1 4 k0 7 (some (37, cCnt M_4.2.2 37))), M_5.2.2) 38 8 8 = M_6
  have h := h M_6 hM_6
  refine p_R 53 dX8_init_50 rfl rfl rfl rfl pf_8_29 (.inr rfl) rfl ?_
  refine r_aload_n 54 dX8_init_53 rfl rfl ?_
  refine r_bipush 56 dX8_init_54 rfl rfl ?_
  refine r_newa (f := 39) (k := 1) (n := 20) 58 dX8_init_56 rfl rfl rfl (by decide) (inT1 (List.mem_of_getElem? (i := 104) rfl) rfl) rfl (by decide) (.inl rfl) ?_
  generalize hM_7 : newM (M_6.1, (upR M_6.2.1 4 k0 9 (some (38, cCnt M_5.2.2 38))), M_6.2.2) 39 20 20 = M_7
  have h := h M_7 hM_7
  refine p_R 61 dX8_init_58 rfl rfl rfl rfl pf_8_33 (.inr rfl) rfl ?_
  refine r_aload_n 62 dX8_init_61 rfl rfl ?_
  refine g_R 65 dX8_init_62 rfl rfl rfl fr_8_24 (mR_0 ((upR_i (by decide)).trans ((newM_R hM_7 rfl).trans ((mR_0 ((upR_i (by decide)).trans ((newM_R hM_6 rfl).trans ((mR_0 (upR_s)))))))))) ?_
  refine r_iconst 66 dX8_init_65 rfl (InR_of rfl) ?_
  refine c_0 [vR (some (37, cCnt M_4.2.2 37)), vI 1] [] 69 dX8_init_66 rfl rfl mo_J7_fill_53178 ml_8_36 rfl rfl (KJ7_fl (n := 17) rfl (by decide) rfl (by decide)) ?_
  refine r_iconst 70 dX8_init_69 rfl (InR_of rfl) ?_
  refine r_istore_n (ls' := [some (vR (some (4, k0))), some (vI 0)]) 71 dX8_init_70 rfl rfl rfl rfl ?_
  exact h
set_option maxRecDepth 4000 in
theorem xX8_initn_71 {l : Launch} {G : Gt} {d : Nat} {M M' : Mem} {r : Option Vl} {k0 : Nat} {x1 : Int} (h : 
    (8 ≤ x1 → r = none ∧ M' = M) ∧ (¬ (8 ≤ x1) → (∀ M_1 : Mem, newM M 5 0 12 = M_1 → ∃ (M_2 : Mem), Cl l G d mX5_init [vR (some (5, cCnt M.2.2 5))] M_1 none M_2 ∧ (∃ k_4 : Nat, (M.2.1 4 k0 9) = some (38, k_4) ∧ ((0 ≤ x1 ∧ x1 < 8) ∧ InR (x1 + 1)) ∧ Ex l G (d + 1) mX8_init 71 [some (vR (some (4, k0))), some (vI (x1 + 1))] [] (M_2.1, (upR M_2.2.1 38 k_4 x1.toNat (some (5, cCnt M.2.2 5))), M_2.2.2) r M')))) : Ex l G (d + 1) mX8_init 71 [some (vR (some (4, k0))), some (vI x1)] [] M r M' := by
  refine r_iload_n 72 dX8_init_71 rfl rfl ?_
  refine r_bipush 74 dX8_init_72 rfl rfl ?_
  refine r_icmp_ge 77 96 dX8_init_74 rfl rfl (fun c => ?_) (fun c => ?_)
  · have h := h.1 (c)
    exact r_vret dX8_init_96 rfl h.1 h.2
  · have h := h.2 (c)
    refine r_aload_n 78 dX8_init_77 rfl rfl ?_
    refine g_R 81 dX8_init_78 rfl rfl rfl fr_8_29 rfl ?_
    refine r_iload_n 82 dX8_init_81 rfl rfl ?_
    refine r_new (f := 5) (ci := 5) (C := (RX5, TX5, 12)) 85 dX8_init_82 rfl rfl rfl rfl (inT1 (List.mem_of_getElem? (i := 36) rfl) rfl) (inT1 (List.mem_of_getElem? (i := 41) rfl) rfl) wi_5 ?_
    generalize hM_1 : newM M 5 0 12 = M_1
    have h := h M_1 hM_1
    refine r_dup 86 dX8_init_85 rfl rfl ?_
    obtain ⟨M_2, hc_3, h⟩ := h
    refine r_callIN [] [vR (some (5, cCnt M.2.2 5)), vI x1, vR (M.2.1 4 k0 9)] 89 dX8_init_86 rfl rfl rfl mo_X5_init ⟨rfl, rfl⟩ ml_8_42 rfl rfl hc_3 ?_
    obtain ⟨k_4, e_5, h⟩ := h
    obtain ⟨⟨o_6, o_7⟩, h⟩ := h
    refine s_R (ci := 5) 8 90 dX8_init_89 rfl e_5 rfl rfl rfl rfl rfl rfl o_6 ?_
    refine r_iinc (ls' := [some (vR (some (4, k0))), some (vI (x1 + 1))]) 93 dX8_init_90 rfl rfl rfl rfl o_7 rfl ?_
    refine r_goto 71 dX8_init_93 rfl ?_
    exact h

set_option maxRecDepth 4000 in
theorem xX11_init_0 {l : Launch} {G : Gt} {d : Nat} {M M' : Mem} {r : Option Vl}  (h : 
    (∀ M_1 : Mem, newM M 4 0 13 = M_1 → ∃ (M_2 : Mem), Cl l G d mX8_init [vR (some (4, cCnt M.2.2 4))] M_1 none M_2 ∧ (∀ M_4 : Mem, newM (M_2.1, (upR M_2.2.1 2 0 0 (some (4, cCnt M.2.2 4))), M_2.2.2) 6 0 3 = M_4 → ∃ (M_5 : Mem), Cl l G d mX6_init [vR (some (6, cCnt M_2.2.2 6)), vR (some (4, cCnt M.2.2 4))] M_4 none M_5 ∧ (∀ M_7 : Mem, newM (M_5.1, (upR M_5.2.1 2 0 1 (some (6, cCnt M_2.2.2 6))), M_5.2.2) 7 0 2 = M_7 → ∃ (M_8 : Mem), Cl l G d mX10_init [vR (some (7, cCnt M_5.2.2 7))] M_7 none M_8 ∧ (∀ M_10 : Mem, newM (M_8.1, (upR M_8.2.1 2 0 2 (some (7, cCnt M_5.2.2 7))), M_8.2.2) 8 0 4 = M_10 → ∃ (M_11 : Mem), Cl l G d mX3_init [vR (some (8, cCnt M_8.2.2 8))] M_10 none M_11 ∧ (∀ M_13 : Mem, newM (M_11.1, (upR M_11.2.1 2 0 3 (some (8, cCnt M_8.2.2 8))), M_11.2.2) 9 0 13 = M_13 → ∃ k_14 : Nat, (M_11.2.1 2 0 0) = some (4, k_14) ∧ (∃ k_16 : Nat, (M_11.2.1 2 0 1) = some (6, k_16) ∧ (∃ k_18 : Nat, (M_11.2.1 2 0 2) = some (7, k_18) ∧ (∃ (M_20 : Mem), Cl l G d mX0_init [vR (some (9, cCnt M_11.2.2 9)), vR (some (4, k_14)), vR (some (6, k_16)), vR (some (7, k_18)), vR (some (8, cCnt M_8.2.2 8))] M_13 none M_20 ∧ (∀ M_22 : Mem, newM (M_20.1, (upR M_20.2.1 2 0 4 (some (9, cCnt M_11.2.2 9))), M_20.2.2) 10 0 5 = M_22 → ∃ (M_23 : Mem), Cl l G d mX9_init [vR (some (10, cCnt M_20.2.2 10))] M_22 none M_23 ∧ (∀ M_25 : Mem, newM (M_23.1, (upR M_23.2.1 2 0 5 (some (10, cCnt M_20.2.2 10))), M_23.2.2) 11 0 8 = M_25 → ∃ (M_26 : Mem), Cl l G d mX4_init [vR (some (11, cCnt M_23.2.2 11))] M_25 none M_26 ∧ (∀ M_28 : Mem, newM (M_26.1, (upR M_26.2.1 2 0 6 (some (11, cCnt M_23.2.2 11))), M_26.2.2) 12 0 10 = M_28 → ∃ (M_29 : Mem), Cl l G d mX2_init [vR (some (12, cCnt M_26.2.2 12))] M_28 none M_29 ∧ (∀ M_31 : Mem, newM (M_29.1, (upR M_29.2.1 2 0 7 (some (12, cCnt M_26.2.2 12))), M_29.2.2) 5 0 12 = M_31 → ∃ (M_32 : Mem), Cl l G d mX5_init [vR (some (5, cCnt M_29.2.2 5))] M_31 none M_32 ∧ (∀ M_34 : Mem, newM (M_32.1, (upR M_32.2.1 2 0 8 (some (5, cCnt M_29.2.2 5))), M_32.2.2) 15 8 8 = M_34 → (∀ M_35 : Mem, newM (M_34.1, (upR M_34.2.1 2 0 9 (some (15, cCnt M_32.2.2 15))), M_34.2.2) 16 400 400 = M_35 → (∀ M_36 : Mem, newM (M_35.1, (upR M_35.2.1 2 0 11 (some (16, cCnt M_34.2.2 16))), M_35.2.2) 17 4 4 = M_36 → (∀ M_37 : Mem, newM (M_36.1, (upR M_36.2.1 2 0 13 (some (17, cCnt M_35.2.2 17))), M_36.2.2) 18 8 8 = M_37 → (∀ M_38 : Mem, newM (M_37.1, (upR M_37.2.1 2 0 14 (some (18, cCnt M_36.2.2 18))), M_37.2.2) 19 12 12 = M_38 → r = none ∧ M' = (M_38.1, (upR M_38.2.1 2 0 15 (some (19, cCnt M_37.2.2 19))), M_38.2.2))))))))))))))))))) : Cl l G (d + 1) mX11_init [vR (some (2, 0))] M r M' := by
  show Ex l G (d + 1) mX11_init 0 [some (vR (some (2, 0)))] [] M r M'
  refine r_aload_n 1 dX11_init_0 rfl rfl ?_
  refine r_objInit 4 dX11_init_1 rfl rfl ⟨(inT1 (List.mem_of_getElem? (i := 27) rfl) rfl), (inT1 (List.mem_of_getElem? (i := 28) rfl) rfl), (inT1 (List.mem_of_getElem? (i := 29) rfl) rfl)⟩ rfl ?_
  refine r_aload_n 5 dX11_init_4 rfl rfl ?_
  refine r_new (f := 4) (ci := 8) (C := (RX8, TX8, 13)) 8 dX11_init_5 rfl rfl rfl rfl (inT1 (List.mem_of_getElem? (i := 30) rfl) rfl) (inT1 (List.mem_of_getElem? (i := 31) rfl) rfl) wi_8 ?_
  generalize hM_1 : newM M 4 0 13 = M_1
  have h := h M_1 hM_1
  refine r_dup 9 dX11_init_8 rfl rfl ?_
  obtain ⟨M_2, hc_3, h⟩ := h
  refine r_callI [] [vR (some (4, cCnt M.2.2 4)), vR (some (2, 0))] 12 dX11_init_9 rfl rfl rfl mo_X8_init ⟨rfl, rfl⟩ ml_11_11 rfl rfl hc_3 ?_
  refine p_R 15 dX11_init_12 rfl rfl rfl rfl pf_11_12 (.inr rfl) rfl ?_
  refine r_aload_n 16 dX11_init_15 rfl rfl ?_
  refine r_new (f := 6) (ci := 6) (C := (RX6, TX6, 3)) 19 dX11_init_16 rfl rfl rfl rfl (inT1 (List.mem_of_getElem? (i := 167) rfl) rfl) (inT1 (List.mem_of_getElem? (i := 168) rfl) rfl) wi_6 ?_
  generalize hM_4 : newM (M_2.1, (upR M_2.2.1 2 0 0 (some (4, cCnt M.2.2 4))), M_2.2.2) 6 0 3 = M_4
  have h := h M_4 hM_4
  refine r_dup 20 dX11_init_19 rfl rfl ?_
  refine r_aload_n 21 dX11_init_20 rfl rfl ?_
  refine g_R 24 dX11_init_21 rfl rfl rfl fr_11_12 ((newM_R hM_4 rfl).trans ((mR_0 (upR_s)))) ?_
  obtain ⟨M_5, hc_6, h⟩ := h
  refine r_callI [vR (some (4, cCnt M.2.2 4))] [vR (some (6, cCnt M_2.2.2 6)), vR (some (2, 0))] 27 dX11_init_24 rfl rfl rfl mo_X6_init ⟨rfl, rfl⟩ ml_11_18 rfl rfl hc_6 ?_
  refine p_R 30 dX11_init_27 rfl rfl rfl rfl pf_11_21 (.inr rfl) rfl ?_
  refine r_aload_n 31 dX11_init_30 rfl rfl ?_
  refine r_new (f := 7) (ci := 10) (C := (RX10, TX10, 2)) 34 dX11_init_31 rfl rfl rfl rfl (inT1 (List.mem_of_getElem? (i := 185) rfl) rfl) (inT1 (List.mem_of_getElem? (i := 186) rfl) rfl) wi_10 ?_
  generalize hM_7 : newM (M_5.1, (upR M_5.2.1 2 0 1 (some (6, cCnt M_2.2.2 6))), M_5.2.2) 7 0 2 = M_7
  have h := h M_7 hM_7
  refine r_dup 35 dX11_init_34 rfl rfl ?_
  obtain ⟨M_8, hc_9, h⟩ := h
  refine r_callI [] [vR (some (7, cCnt M_5.2.2 7)), vR (some (2, 0))] 38 dX11_init_35 rfl rfl rfl mo_X10_init ⟨rfl, rfl⟩ ml_11_27 rfl rfl hc_9 ?_
  refine p_R 41 dX11_init_38 rfl rfl rfl rfl pf_11_28 (.inr rfl) rfl ?_
  refine r_aload_n 42 dX11_init_41 rfl rfl ?_
  refine r_new (f := 8) (ci := 3) (C := (RX3, TX3, 4)) 45 dX11_init_42 rfl rfl rfl rfl (inT1 (List.mem_of_getElem? (i := 201) rfl) rfl) (inT1 (List.mem_of_getElem? (i := 202) rfl) rfl) wi_3 ?_
  generalize hM_10 : newM (M_8.1, (upR M_8.2.1 2 0 2 (some (7, cCnt M_5.2.2 7))), M_8.2.2) 8 0 4 = M_10
  have h := h M_10 hM_10
  refine r_dup 46 dX11_init_45 rfl rfl ?_
  obtain ⟨M_11, hc_12, h⟩ := h
  refine r_callIN [] [vR (some (8, cCnt M_8.2.2 8)), vR (some (2, 0))] 49 dX11_init_46 rfl rfl rfl mo_X3_init ⟨rfl, rfl⟩ ml_11_34 rfl rfl hc_12 ?_
  refine p_R 52 dX11_init_49 rfl rfl rfl rfl pf_11_35 (.inr rfl) rfl ?_
  refine r_aload_n 53 dX11_init_52 rfl rfl ?_
  refine r_new (f := 9) (ci := 0) (C := (RX0, TX0, 13)) 56 dX11_init_53 rfl rfl rfl rfl (inT1 (List.mem_of_getElem? (i := 220) rfl) rfl) (inT1 (List.mem_of_getElem? (i := 221) rfl) rfl) wi_0 ?_
  generalize hM_13 : newM (M_11.1, (upR M_11.2.1 2 0 3 (some (8, cCnt M_8.2.2 8))), M_11.2.2) 9 0 13 = M_13
  have h := h M_13 hM_13
  refine r_dup 57 dX11_init_56 rfl rfl ?_
  refine r_aload_n 58 dX11_init_57 rfl rfl ?_
  refine g_R 61 dX11_init_58 rfl rfl rfl fr_11_12 ((newM_R hM_13 rfl).trans ((mR_0 (upR_i (by decide))))) ?_
  refine r_aload_n 62 dX11_init_61 rfl rfl ?_
  refine g_R 65 dX11_init_62 rfl rfl rfl fr_11_21 ((newM_R hM_13 rfl).trans ((mR_0 (upR_i (by decide))))) ?_
  refine r_aload_n 66 dX11_init_65 rfl rfl ?_
  refine g_R 69 dX11_init_66 rfl rfl rfl fr_11_28 ((newM_R hM_13 rfl).trans ((mR_0 (upR_i (by decide))))) ?_
  refine r_aload_n 70 dX11_init_69 rfl rfl ?_
  refine g_R 73 dX11_init_70 rfl rfl rfl fr_11_35 ((newM_R hM_13 rfl).trans ((mR_0 (upR_s)))) ?_
  obtain ⟨k_14, e_15, h⟩ := h
  obtain ⟨k_16, e_17, h⟩ := h
  obtain ⟨k_18, e_19, h⟩ := h
  refine Ex.at (st2 := [vR (some (8, cCnt M_8.2.2 8)), vR (some (7, k_18)), vR (some (6, k_16)), vR (some (4, k_14)), vR (some (9, cCnt M_11.2.2 9)), vR (some (9, cCnt M_11.2.2 9)), vR (some (2, 0))]) ?_ rfl (show [vR (some (8, cCnt M_8.2.2 8)), vR (M_11.2.1 2 0 2), vR (M_11.2.1 2 0 1), vR (M_11.2.1 2 0 0), vR (some (9, cCnt M_11.2.2 9)), vR (some (9, cCnt M_11.2.2 9)), vR (some (2, 0))] = [vR (some (8, cCnt M_8.2.2 8)), vR (some (7, k_18)), vR (some (6, k_16)), vR (some (4, k_14)), vR (some (9, cCnt M_11.2.2 9)), vR (some (9, cCnt M_11.2.2 9)), vR (some (2, 0))] by rw [e_15, e_17, e_19]) rfl
  obtain ⟨M_20, hc_21, h⟩ := h
  refine r_callI [vR (some (4, k_14)), vR (some (6, k_16)), vR (some (7, k_18)), vR (some (8, cCnt M_8.2.2 8))] [vR (some (9, cCnt M_11.2.2 9)), vR (some (2, 0))] 76 dX11_init_73 rfl rfl rfl mo_X0_init ⟨rfl, rfl⟩ ml_11_41 rfl rfl hc_21 ?_
  refine p_R 79 dX11_init_76 rfl rfl rfl rfl pf_11_44 (.inr rfl) rfl ?_
  refine r_aload_n 80 dX11_init_79 rfl rfl ?_
  refine r_new (f := 10) (ci := 9) (C := (RX9, TX9, 5)) 83 dX11_init_80 rfl rfl rfl rfl (inT2 (List.mem_of_getElem? (i := 33) rfl) rfl) (inT2 (List.mem_of_getElem? (i := 34) rfl) rfl) wi_9 ?_
  generalize hM_22 : newM (M_20.1, (upR M_20.2.1 2 0 4 (some (9, cCnt M_11.2.2 9))), M_20.2.2) 10 0 5 = M_22
  have h := h M_22 hM_22
  refine r_dup 84 dX11_init_83 rfl rfl ?_
  obtain ⟨M_23, hc_24, h⟩ := h
  refine r_callIN [] [vR (some (10, cCnt M_20.2.2 10)), vR (some (2, 0))] 87 dX11_init_84 rfl rfl rfl mo_X9_init ⟨rfl, rfl⟩ ml_11_50 rfl rfl hc_24 ?_
  refine p_R 90 dX11_init_87 rfl rfl rfl rfl pf_11_51 (.inr rfl) rfl ?_
  refine r_aload_n 91 dX11_init_90 rfl rfl ?_
  refine r_new (f := 11) (ci := 4) (C := (RX4, TX4, 8)) 94 dX11_init_91 rfl rfl rfl rfl (inT2 (List.mem_of_getElem? (i := 55) rfl) rfl) (inT2 (List.mem_of_getElem? (i := 56) rfl) rfl) wi_4 ?_
  generalize hM_25 : newM (M_23.1, (upR M_23.2.1 2 0 5 (some (10, cCnt M_20.2.2 10))), M_23.2.2) 11 0 8 = M_25
  have h := h M_25 hM_25
  refine r_dup 95 dX11_init_94 rfl rfl ?_
  obtain ⟨M_26, hc_27, h⟩ := h
  refine r_callIN [] [vR (some (11, cCnt M_23.2.2 11)), vR (some (2, 0))] 98 dX11_init_95 rfl rfl rfl mo_X4_init ⟨rfl, rfl⟩ ml_11_57 rfl rfl hc_27 ?_
  refine p_R 101 dX11_init_98 rfl rfl rfl rfl pf_11_58 (.inr rfl) rfl ?_
  refine r_aload_n 102 dX11_init_101 rfl rfl ?_
  refine r_new (f := 12) (ci := 2) (C := (RX2, TX2, 10)) 105 dX11_init_102 rfl rfl rfl rfl (inT2 (List.mem_of_getElem? (i := 91) rfl) rfl) (inT2 (List.mem_of_getElem? (i := 92) rfl) rfl) wi_2 ?_
  generalize hM_28 : newM (M_26.1, (upR M_26.2.1 2 0 6 (some (11, cCnt M_23.2.2 11))), M_26.2.2) 12 0 10 = M_28
  have h := h M_28 hM_28
  refine r_dup 106 dX11_init_105 rfl rfl ?_
  obtain ⟨M_29, hc_30, h⟩ := h
  refine r_callIN [] [vR (some (12, cCnt M_26.2.2 12)), vR (some (2, 0))] 109 dX11_init_106 rfl rfl rfl mo_X2_init ⟨rfl, rfl⟩ ml_11_64 rfl rfl hc_30 ?_
  refine p_R 112 dX11_init_109 rfl rfl rfl rfl pf_11_65 (.inr rfl) rfl ?_
  refine r_aload_n 113 dX11_init_112 rfl rfl ?_
  refine r_new (f := 5) (ci := 5) (C := (RX5, TX5, 12)) 116 dX11_init_113 rfl rfl rfl rfl (inT2 (List.mem_of_getElem? (i := 128) rfl) rfl) (inT1 (List.mem_of_getElem? (i := 41) rfl) rfl) wi_5 ?_
  generalize hM_31 : newM (M_29.1, (upR M_29.2.1 2 0 7 (some (12, cCnt M_26.2.2 12))), M_29.2.2) 5 0 12 = M_31
  have h := h M_31 hM_31
  refine r_dup 117 dX11_init_116 rfl rfl ?_
  obtain ⟨M_32, hc_33, h⟩ := h
  refine r_callIN [] [vR (some (5, cCnt M_29.2.2 5)), vR (some (2, 0))] 120 dX11_init_117 rfl rfl rfl mo_X5_init ⟨rfl, rfl⟩ ml_11_71 rfl rfl hc_33 ?_
  refine p_R 123 dX11_init_120 rfl rfl rfl rfl pf_11_72 (.inr rfl) rfl ?_
  refine r_aload_n 124 dX11_init_123 rfl rfl ?_
  refine r_bipush 126 dX11_init_124 rfl rfl ?_
  refine r_anewa (f := 15) (ci := 1) (C := (RX1, TX1, 4)) (n := 8) 129 dX11_init_126 rfl rfl rfl (by decide) rfl (inT2 (List.mem_of_getElem? (i := 130) rfl) rfl) (inT2 (List.mem_of_getElem? (i := 131) rfl) rfl) rfl (by decide) (.inl rfl) ?_
  generalize hM_34 : newM (M_32.1, (upR M_32.2.1 2 0 8 (some (5, cCnt M_29.2.2 5))), M_32.2.2) 15 8 8 = M_34
  have h := h M_34 hM_34
  refine p_R 132 dX11_init_129 rfl rfl rfl rfl pf_11_78 (.inr rfl) rfl ?_
  refine r_aload_n 133 dX11_init_132 rfl rfl ?_
  refine r_sipush 136 dX11_init_133 rfl rfl ?_
  refine r_newa (f := 16) (k := 1) (n := 400) 138 dX11_init_136 rfl rfl rfl (by decide) (inT1 (List.mem_of_getElem? (i := 104) rfl) rfl) rfl (by decide) (.inl rfl) ?_
  generalize hM_35 : newM (M_34.1, (upR M_34.2.1 2 0 9 (some (15, cCnt M_32.2.2 15))), M_34.2.2) 16 400 400 = M_35
  have h := h M_35 hM_35
  refine p_R 141 dX11_init_138 rfl rfl rfl rfl pf_11_82 (.inr rfl) rfl ?_
  refine r_aload_n 142 dX11_init_141 rfl rfl ?_
  refine r_iconst 143 dX11_init_142 rfl (InR_of rfl) ?_
  refine r_anewa (f := 17) (ci := 8) (C := (RX8, TX8, 13)) (n := 4) 146 dX11_init_143 rfl rfl rfl (by decide) rfl (inT1 (List.mem_of_getElem? (i := 30) rfl) rfl) (inT2 (List.mem_of_getElem? (i := 132) rfl) rfl) rfl (by decide) (.inl rfl) ?_
  generalize hM_36 : newM (M_35.1, (upR M_35.2.1 2 0 11 (some (16, cCnt M_34.2.2 16))), M_35.2.2) 17 4 4 = M_36
  have h := h M_36 hM_36
  refine p_R 149 dX11_init_146 rfl rfl rfl rfl pf_11_86 (.inr rfl) rfl ?_
  refine r_aload_n 150 dX11_init_149 rfl rfl ?_
  refine r_bipush 152 dX11_init_150 rfl rfl ?_
  refine r_newa (f := 18) (k := 1) (n := 8) 154 dX11_init_152 rfl rfl rfl (by decide) (inT1 (List.mem_of_getElem? (i := 104) rfl) rfl) rfl (by decide) (.inl rfl) ?_
  generalize hM_37 : newM (M_36.1, (upR M_36.2.1 2 0 13 (some (17, cCnt M_35.2.2 17))), M_36.2.2) 18 8 8 = M_37
  have h := h M_37 hM_37
  refine p_R 157 dX11_init_154 rfl rfl rfl rfl pf_11_90 (.inr rfl) rfl ?_
  refine r_aload_n 158 dX11_init_157 rfl rfl ?_
  refine r_bipush 160 dX11_init_158 rfl rfl ?_
  refine r_newa (f := 19) (k := 1) (n := 12) 162 dX11_init_160 rfl rfl rfl (by decide) (inT1 (List.mem_of_getElem? (i := 104) rfl) rfl) rfl (by decide) (.inl rfl) ?_
  generalize hM_38 : newM (M_37.1, (upR M_37.2.1 2 0 14 (some (18, cCnt M_36.2.2 18))), M_37.2.2) 19 12 12 = M_38
  have h := h M_38 hM_38
  refine p_R 165 dX11_init_162 rfl rfl rfl rfl pf_11_93 (.inr rfl) rfl ?_
  exact r_vret dX11_init_165 rfl h.1 h.2

set_option maxRecDepth 4000 in
theorem xX12_init_0 {l : Launch} {G : Gt} {d : Nat} {M M' : Mem} {r : Option Vl}  (h : 
    (∀ M_1 : Mem, newM M 48 6 6 = M_1 → (∀ M_2 : Mem, newM (M_1.1, (upR M_1.2.1 3 0 1 (some (48, cCnt M.2.2 48))), M_1.2.2) 49 12 12 = M_2 → (∀ M_3 : Mem, newM (M_2.1, (upR M_2.2.1 3 0 2 (some (49, cCnt M_1.2.2 49))), M_2.2.2) 50 12 12 = M_3 → (∀ M_4 : Mem, newM (M_3.1, (upR M_3.2.1 3 0 3 (some (50, cCnt M_2.2.2 50))), M_3.2.2) 51 17 17 = M_4 → (∀ M_5 : Mem, newM (M_4.1, (upR M_4.2.1 3 0 4 (some (51, cCnt M_3.2.2 51))), M_4.2.2) 52 20 20 = M_5 → (∀ M_6 : Mem, newM (M_5.1, (upR M_5.2.1 3 0 5 (some (52, cCnt M_4.2.2 52))), M_5.2.2) 53 16 16 = M_6 → (∀ M_7 : Mem, newM (M_6.1, (upR M_6.2.1 3 0 6 (some (53, cCnt M_5.2.2 53))), M_6.2.2) 54 16 16 = M_7 → (∀ M_8 : Mem, newM (M_7.1, (upR M_7.2.1 3 0 7 (some (54, cCnt M_6.2.2 54))), M_7.2.2) 55 16 16 = M_8 → (∀ M_9 : Mem, newM (M_8.1, (upR M_8.2.1 3 0 8 (some (55, cCnt M_7.2.2 55))), M_8.2.2) 56 60 60 = M_9 → (∀ M_10 : Mem, newM (M_9.1, (upR M_9.2.1 3 0 9 (some (56, cCnt M_8.2.2 56))), M_9.2.2) 57 60 60 = M_10 → (∀ M_11 : Mem, newM (M_10.1, (upR M_10.2.1 3 0 10 (some (57, cCnt M_9.2.2 57))), M_10.2.2) 58 60 60 = M_11 → (∀ M_12 : Mem, newM (M_11.1, (upR M_11.2.1 3 0 11 (some (58, cCnt M_10.2.2 58))), M_11.2.2) 59 60 60 = M_12 → (∀ M_13 : Mem, newM (M_12.1, (upR M_12.2.1 3 0 12 (some (59, cCnt M_11.2.2 59))), M_12.2.2) 60 60 60 = M_13 → (∀ M_14 : Mem, newM (M_13.1, (upR M_13.2.1 3 0 13 (some (60, cCnt M_12.2.2 60))), M_13.2.2) 61 60 60 = M_14 → (∀ M_15 : Mem, newM (M_14.1, (upR M_14.2.1 3 0 14 (some (61, cCnt M_13.2.2 61))), M_14.2.2) 62 8 8 = M_15 → (∀ M_16 : Mem, newM (M_15.1, (upR M_15.2.1 3 0 15 (some (62, cCnt M_14.2.2 62))), M_15.2.2) 63 8 8 = M_16 → (∀ M_17 : Mem, newM (M_16.1, (upR M_16.2.1 3 0 16 (some (63, cCnt M_15.2.2 63))), M_16.2.2) 64 8 8 = M_17 → (∀ M_18 : Mem, newM (M_17.1, (upR M_17.2.1 3 0 17 (some (64, cCnt M_16.2.2 64))), M_17.2.2) 65 8 8 = M_18 → (∀ M_19 : Mem, newM (M_18.1, (upR M_18.2.1 3 0 18 (some (65, cCnt M_17.2.2 65))), M_18.2.2) 66 8 8 = M_19 → (∀ M_20 : Mem, newM (M_19.1, (upR M_19.2.1 3 0 19 (some (66, cCnt M_18.2.2 66))), M_19.2.2) 67 8 8 = M_20 → (∀ M_21 : Mem, newM (M_20.1, (upR M_20.2.1 3 0 20 (some (67, cCnt M_19.2.2 67))), M_20.2.2) 68 8 8 = M_21 → (∀ M_22 : Mem, newM (M_21.1, (upR M_21.2.1 3 0 21 (some (68, cCnt M_20.2.2 68))), M_21.2.2) 69 8 8 = M_22 → (∀ M_23 : Mem, newM (M_22.1, (upR M_22.2.1 3 0 22 (some (69, cCnt M_21.2.2 69))), M_22.2.2) 70 8 8 = M_23 → (∀ M_24 : Mem, newM (M_23.1, (upR M_23.2.1 3 0 23 (some (70, cCnt M_22.2.2 70))), M_23.2.2) 71 24 24 = M_24 → (∀ M_25 : Mem, newM (M_24.1, (upR M_24.2.1 3 0 24 (some (71, cCnt M_23.2.2 71))), M_24.2.2) 72 144 144 = M_25 → (∀ M_26 : Mem, newM (M_25.1, (upR M_25.2.1 3 0 25 (some (72, cCnt M_24.2.2 72))), M_25.2.2) 73 24 24 = M_26 → (∀ M_27 : Mem, newM (M_26.1, (upR M_26.2.1 3 0 26 (some (73, cCnt M_25.2.2 73))), M_26.2.2) 74 60 60 = M_27 → (∀ M_28 : Mem, newM (M_27.1, (upR M_27.2.1 3 0 27 (some (74, cCnt M_26.2.2 74))), M_27.2.2) 75 8 8 = M_28 → (∀ M_29 : Mem, newM (M_28.1, (upR M_28.2.1 3 0 28 (some (75, cCnt M_27.2.2 75))), M_28.2.2) 76 400 400 = M_29 → (∀ M_30 : Mem, newM (M_29.1, (upR M_29.2.1 3 0 39 (some (76, cCnt M_28.2.2 76))), M_29.2.2) 77 3200 3200 = M_30 → (∀ M_31 : Mem, newM (M_30.1, (upR M_30.2.1 3 0 40 (some (77, cCnt M_29.2.2 77))), M_30.2.2) 78 3200 3200 = M_31 → (∀ M_32 : Mem, newM (M_31.1, (upR M_31.2.1 3 0 41 (some (78, cCnt M_30.2.2 78))), M_31.2.2) 79 8 8 = M_32 → (∀ M_33 : Mem, newM (M_32.1, (upR M_32.2.1 3 0 42 (some (79, cCnt M_31.2.2 79))), M_32.2.2) 80 402 402 = M_33 → (∀ M_34 : Mem, newM (M_33.1, (upR M_33.2.1 3 0 43 (some (80, cCnt M_32.2.2 80))), M_33.2.2) 81 402 402 = M_34 → (∀ M_35 : Mem, newM (M_34.1, (upR M_34.2.1 3 0 44 (some (81, cCnt M_33.2.2 81))), M_34.2.2) 82 400 400 = M_35 → (∀ M_36 : Mem, newM (M_35.1, (upR M_35.2.1 3 0 45 (some (82, cCnt M_34.2.2 82))), M_35.2.2) 83 8 8 = M_36 → (∀ M_37 : Mem, newM (M_36.1, (upR M_36.2.1 3 0 46 (some (83, cCnt M_35.2.2 83))), M_36.2.2) 84 8 8 = M_37 → (∀ M_38 : Mem, newM (M_37.1, (upR M_37.2.1 3 0 47 (some (84, cCnt M_36.2.2 84))), M_37.2.2) 85 488 488 = M_38 → (∀ M_39 : Mem, newM (M_38.1, (upR M_38.2.1 3 0 51 (some (85, cCnt M_37.2.2 85))), M_38.2.2) 86 488 488 = M_39 → (∀ M_40 : Mem, newM (M_39.1, (upR M_39.2.1 3 0 52 (some (86, cCnt M_38.2.2 86))), M_39.2.2) 87 8 8 = M_40 → (∀ M_41 : Mem, newM (M_40.1, (upR M_40.2.1 3 0 53 (some (87, cCnt M_39.2.2 87))), M_40.2.2) 88 372 372 = M_41 → (∀ M_42 : Mem, newM (M_41.1, (upR M_41.2.1 3 0 54 (some (88, cCnt M_40.2.2 88))), M_41.2.2) 89 1024 1024 = M_42 → (∀ M_43 : Mem, newM (M_42.1, (upR M_42.2.1 3 0 55 (some (89, cCnt M_41.2.2 89))), M_42.2.2) 90 2280 2280 = M_43 → (∀ M_44 : Mem, newM (M_43.1, (upR M_43.2.1 3 0 64 (some (90, cCnt M_42.2.2 90))), M_43.2.2) 91 4 4 = M_44 → Ex l G (d + 1) mX12_init 369 [some (vR (some (3, 0))), some (vI 0)] [] (M_44.1, (upR M_44.2.1 3 0 65 (some (91, cCnt M_43.2.2 91))), M_44.2.2) r M'))))))))))))))))))))))))))))))))))))))))))))) : Cl l G (d + 1) mX12_init [vR (some (3, 0))] M r M' := by
  show Ex l G (d + 1) mX12_init 0 [some (vR (some (3, 0))), none] [] M r M'
  refine r_aload_n 1 dX12_init_0 rfl rfl ?_
  refine r_objInit 4 dX12_init_1 rfl rfl ⟨(inT5 (List.mem_of_getElem? (i := 109) rfl) rfl), (inT1 (List.mem_of_getElem? (i := 28) rfl) rfl), (inT1 (List.mem_of_getElem? (i := 29) rfl) rfl)⟩ rfl ?_
  refine r_aload_n 5 dX12_init_4 rfl rfl ?_
  refine r_bipush 7 dX12_init_5 rfl rfl ?_
  refine r_newa (f := 48) (k := 1) (n := 6) 9 dX12_init_7 rfl rfl rfl (by decide) (inT1 (List.mem_of_getElem? (i := 104) rfl) rfl) rfl (by decide) (.inl rfl) ?_
  generalize hM_1 : newM M 48 6 6 = M_1
  have h := h M_1 hM_1
  refine p_R 12 dX12_init_9 rfl rfl rfl rfl pf_12_7 (.inr rfl) rfl ?_
  refine r_aload_n 13 dX12_init_12 rfl rfl ?_
  refine r_bipush 15 dX12_init_13 rfl rfl ?_
  refine r_newa (f := 49) (k := 1) (n := 12) 17 dX12_init_15 rfl rfl rfl (by decide) (inT1 (List.mem_of_getElem? (i := 104) rfl) rfl) rfl (by decide) (.inl rfl) ?_
  generalize hM_2 : newM (M_1.1, (upR M_1.2.1 3 0 1 (some (48, cCnt M.2.2 48))), M_1.2.2) 49 12 12 = M_2
  have h := h M_2 hM_2
  refine p_R 20 dX12_init_17 rfl rfl rfl rfl pf_12_13 (.inr rfl) rfl ?_
  refine r_aload_n 21 dX12_init_20 rfl rfl ?_
  refine r_bipush 23 dX12_init_21 rfl rfl ?_
  refine r_newa (f := 50) (k := 1) (n := 12) 25 dX12_init_23 rfl rfl rfl (by decide) (inT1 (List.mem_of_getElem? (i := 104) rfl) rfl) rfl (by decide) (.inl rfl) ?_
  generalize hM_3 : newM (M_2.1, (upR M_2.2.1 3 0 2 (some (49, cCnt M_1.2.2 49))), M_2.2.2) 50 12 12 = M_3
  have h := h M_3 hM_3
  refine p_R 28 dX12_init_25 rfl rfl rfl rfl pf_12_16 (.inr rfl) rfl ?_
  refine r_aload_n 29 dX12_init_28 rfl rfl ?_
  refine r_bipush 31 dX12_init_29 rfl rfl ?_
  refine r_newa (f := 51) (k := 1) (n := 17) 33 dX12_init_31 rfl rfl rfl (by decide) (inT1 (List.mem_of_getElem? (i := 104) rfl) rfl) rfl (by decide) (.inl rfl) ?_
  generalize hM_4 : newM (M_3.1, (upR M_3.2.1 3 0 3 (some (50, cCnt M_2.2.2 50))), M_3.2.2) 51 17 17 = M_4
  have h := h M_4 hM_4
  refine p_R 36 dX12_init_33 rfl rfl rfl rfl pf_12_19 (.inr rfl) rfl ?_
  refine r_aload_n 37 dX12_init_36 rfl rfl ?_
  refine r_bipush 39 dX12_init_37 rfl rfl ?_
  refine r_newa (f := 52) (k := 1) (n := 20) 41 dX12_init_39 rfl rfl rfl (by decide) (inT1 (List.mem_of_getElem? (i := 104) rfl) rfl) rfl (by decide) (.inl rfl) ?_
  generalize hM_5 : newM (M_4.1, (upR M_4.2.1 3 0 4 (some (51, cCnt M_3.2.2 51))), M_4.2.2) 52 20 20 = M_5
  have h := h M_5 hM_5
  refine p_R 44 dX12_init_41 rfl rfl rfl rfl pf_12_22 (.inr rfl) rfl ?_
  refine r_aload_n 45 dX12_init_44 rfl rfl ?_
  refine r_bipush 47 dX12_init_45 rfl rfl ?_
  refine r_newa (f := 53) (k := 1) (n := 16) 49 dX12_init_47 rfl rfl rfl (by decide) (inT1 (List.mem_of_getElem? (i := 104) rfl) rfl) rfl (by decide) (.inl rfl) ?_
  generalize hM_6 : newM (M_5.1, (upR M_5.2.1 3 0 5 (some (52, cCnt M_4.2.2 52))), M_5.2.2) 53 16 16 = M_6
  have h := h M_6 hM_6
  refine p_R 52 dX12_init_49 rfl rfl rfl rfl pf_12_25 (.inr rfl) rfl ?_
  refine r_aload_n 53 dX12_init_52 rfl rfl ?_
  refine r_bipush 55 dX12_init_53 rfl rfl ?_
  refine r_newa (f := 54) (k := 1) (n := 16) 57 dX12_init_55 rfl rfl rfl (by decide) (inT1 (List.mem_of_getElem? (i := 104) rfl) rfl) rfl (by decide) (.inl rfl) ?_
  generalize hM_7 : newM (M_6.1, (upR M_6.2.1 3 0 6 (some (53, cCnt M_5.2.2 53))), M_6.2.2) 54 16 16 = M_7
  have h := h M_7 hM_7
  refine p_R 60 dX12_init_57 rfl rfl rfl rfl pf_12_28 (.inr rfl) rfl ?_
  refine r_aload_n 61 dX12_init_60 rfl rfl ?_
  refine r_bipush 63 dX12_init_61 rfl rfl ?_
  refine r_newa (f := 55) (k := 1) (n := 16) 65 dX12_init_63 rfl rfl rfl (by decide) (inT1 (List.mem_of_getElem? (i := 104) rfl) rfl) rfl (by decide) (.inl rfl) ?_
  generalize hM_8 : newM (M_7.1, (upR M_7.2.1 3 0 7 (some (54, cCnt M_6.2.2 54))), M_7.2.2) 55 16 16 = M_8
  have h := h M_8 hM_8
  refine p_R 68 dX12_init_65 rfl rfl rfl rfl pf_12_31 (.inr rfl) rfl ?_
  refine r_aload_n 69 dX12_init_68 rfl rfl ?_
  refine r_bipush 71 dX12_init_69 rfl rfl ?_
  refine r_newa (f := 56) (k := 1) (n := 60) 73 dX12_init_71 rfl rfl rfl (by decide) (inT1 (List.mem_of_getElem? (i := 104) rfl) rfl) rfl (by decide) (.inl rfl) ?_
  generalize hM_9 : newM (M_8.1, (upR M_8.2.1 3 0 8 (some (55, cCnt M_7.2.2 55))), M_8.2.2) 56 60 60 = M_9
  have h := h M_9 hM_9
  refine p_R 76 dX12_init_73 rfl rfl rfl rfl pf_12_34 (.inr rfl) rfl ?_
  refine r_aload_n 77 dX12_init_76 rfl rfl ?_
  refine r_bipush 79 dX12_init_77 rfl rfl ?_
  refine r_newa (f := 57) (k := 1) (n := 60) 81 dX12_init_79 rfl rfl rfl (by decide) (inT1 (List.mem_of_getElem? (i := 104) rfl) rfl) rfl (by decide) (.inl rfl) ?_
  generalize hM_10 : newM (M_9.1, (upR M_9.2.1 3 0 9 (some (56, cCnt M_8.2.2 56))), M_9.2.2) 57 60 60 = M_10
  have h := h M_10 hM_10
  refine p_R 84 dX12_init_81 rfl rfl rfl rfl pf_12_37 (.inr rfl) rfl ?_
  refine r_aload_n 85 dX12_init_84 rfl rfl ?_
  refine r_bipush 87 dX12_init_85 rfl rfl ?_
  refine r_newa (f := 58) (k := 1) (n := 60) 89 dX12_init_87 rfl rfl rfl (by decide) (inT1 (List.mem_of_getElem? (i := 104) rfl) rfl) rfl (by decide) (.inl rfl) ?_
  generalize hM_11 : newM (M_10.1, (upR M_10.2.1 3 0 10 (some (57, cCnt M_9.2.2 57))), M_10.2.2) 58 60 60 = M_11
  have h := h M_11 hM_11
  refine p_R 92 dX12_init_89 rfl rfl rfl rfl pf_12_40 (.inr rfl) rfl ?_
  refine r_aload_n 93 dX12_init_92 rfl rfl ?_
  refine r_bipush 95 dX12_init_93 rfl rfl ?_
  refine r_newa (f := 59) (k := 1) (n := 60) 97 dX12_init_95 rfl rfl rfl (by decide) (inT1 (List.mem_of_getElem? (i := 104) rfl) rfl) rfl (by decide) (.inl rfl) ?_
  generalize hM_12 : newM (M_11.1, (upR M_11.2.1 3 0 11 (some (58, cCnt M_10.2.2 58))), M_11.2.2) 59 60 60 = M_12
  have h := h M_12 hM_12
  refine p_R 100 dX12_init_97 rfl rfl rfl rfl pf_12_43 (.inr rfl) rfl ?_
  refine r_aload_n 101 dX12_init_100 rfl rfl ?_
  refine r_bipush 103 dX12_init_101 rfl rfl ?_
  refine r_newa (f := 60) (k := 1) (n := 60) 105 dX12_init_103 rfl rfl rfl (by decide) (inT1 (List.mem_of_getElem? (i := 104) rfl) rfl) rfl (by decide) (.inl rfl) ?_
  generalize hM_13 : newM (M_12.1, (upR M_12.2.1 3 0 12 (some (59, cCnt M_11.2.2 59))), M_12.2.2) 60 60 60 = M_13
  have h := h M_13 hM_13
  refine p_R 108 dX12_init_105 rfl rfl rfl rfl pf_12_46 (.inr rfl) rfl ?_
  refine r_aload_n 109 dX12_init_108 rfl rfl ?_
  refine r_bipush 111 dX12_init_109 rfl rfl ?_
  refine r_newa (f := 61) (k := 1) (n := 60) 113 dX12_init_111 rfl rfl rfl (by decide) (inT1 (List.mem_of_getElem? (i := 104) rfl) rfl) rfl (by decide) (.inl rfl) ?_
  generalize hM_14 : newM (M_13.1, (upR M_13.2.1 3 0 13 (some (60, cCnt M_12.2.2 60))), M_13.2.2) 61 60 60 = M_14
  have h := h M_14 hM_14
  refine p_R 116 dX12_init_113 rfl rfl rfl rfl pf_12_49 (.inr rfl) rfl ?_
  refine r_aload_n 117 dX12_init_116 rfl rfl ?_
  refine r_bipush 119 dX12_init_117 rfl rfl ?_
  refine r_newa (f := 62) (k := 1) (n := 8) 121 dX12_init_119 rfl rfl rfl (by decide) (inT1 (List.mem_of_getElem? (i := 104) rfl) rfl) rfl (by decide) (.inl rfl) ?_
  generalize hM_15 : newM (M_14.1, (upR M_14.2.1 3 0 14 (some (61, cCnt M_13.2.2 61))), M_14.2.2) 62 8 8 = M_15
  have h := h M_15 hM_15
  refine p_R 124 dX12_init_121 rfl rfl rfl rfl pf_12_52 (.inr rfl) rfl ?_
  refine r_aload_n 125 dX12_init_124 rfl rfl ?_
  refine r_bipush 127 dX12_init_125 rfl rfl ?_
  refine r_newa (f := 63) (k := 1) (n := 8) 129 dX12_init_127 rfl rfl rfl (by decide) (inT1 (List.mem_of_getElem? (i := 104) rfl) rfl) rfl (by decide) (.inl rfl) ?_
  generalize hM_16 : newM (M_15.1, (upR M_15.2.1 3 0 15 (some (62, cCnt M_14.2.2 62))), M_15.2.2) 63 8 8 = M_16
  have h := h M_16 hM_16
  refine p_R 132 dX12_init_129 rfl rfl rfl rfl pf_12_55 (.inr rfl) rfl ?_
  refine r_aload_n 133 dX12_init_132 rfl rfl ?_
  refine r_bipush 135 dX12_init_133 rfl rfl ?_
  refine r_newa (f := 64) (k := 1) (n := 8) 137 dX12_init_135 rfl rfl rfl (by decide) (inT1 (List.mem_of_getElem? (i := 104) rfl) rfl) rfl (by decide) (.inl rfl) ?_
  generalize hM_17 : newM (M_16.1, (upR M_16.2.1 3 0 16 (some (63, cCnt M_15.2.2 63))), M_16.2.2) 64 8 8 = M_17
  have h := h M_17 hM_17
  refine p_R 140 dX12_init_137 rfl rfl rfl rfl pf_12_58 (.inr rfl) rfl ?_
  refine r_aload_n 141 dX12_init_140 rfl rfl ?_
  refine r_bipush 143 dX12_init_141 rfl rfl ?_
  refine r_newa (f := 65) (k := 1) (n := 8) 145 dX12_init_143 rfl rfl rfl (by decide) (inT1 (List.mem_of_getElem? (i := 104) rfl) rfl) rfl (by decide) (.inl rfl) ?_
  generalize hM_18 : newM (M_17.1, (upR M_17.2.1 3 0 17 (some (64, cCnt M_16.2.2 64))), M_17.2.2) 65 8 8 = M_18
  have h := h M_18 hM_18
  refine p_R 148 dX12_init_145 rfl rfl rfl rfl pf_12_61 (.inr rfl) rfl ?_
  refine r_aload_n 149 dX12_init_148 rfl rfl ?_
  refine r_bipush 151 dX12_init_149 rfl rfl ?_
  refine r_newa (f := 66) (k := 1) (n := 8) 153 dX12_init_151 rfl rfl rfl (by decide) (inT1 (List.mem_of_getElem? (i := 104) rfl) rfl) rfl (by decide) (.inl rfl) ?_
  generalize hM_19 : newM (M_18.1, (upR M_18.2.1 3 0 18 (some (65, cCnt M_17.2.2 65))), M_18.2.2) 66 8 8 = M_19
  have h := h M_19 hM_19
  refine p_R 156 dX12_init_153 rfl rfl rfl rfl pf_12_64 (.inr rfl) rfl ?_
  refine r_aload_n 157 dX12_init_156 rfl rfl ?_
  refine r_bipush 159 dX12_init_157 rfl rfl ?_
  refine r_newa (f := 67) (k := 1) (n := 8) 161 dX12_init_159 rfl rfl rfl (by decide) (inT1 (List.mem_of_getElem? (i := 104) rfl) rfl) rfl (by decide) (.inl rfl) ?_
  generalize hM_20 : newM (M_19.1, (upR M_19.2.1 3 0 19 (some (66, cCnt M_18.2.2 66))), M_19.2.2) 67 8 8 = M_20
  have h := h M_20 hM_20
  refine p_R 164 dX12_init_161 rfl rfl rfl rfl pf_12_67 (.inr rfl) rfl ?_
  refine r_aload_n 165 dX12_init_164 rfl rfl ?_
  refine r_bipush 167 dX12_init_165 rfl rfl ?_
  refine r_newa (f := 68) (k := 1) (n := 8) 169 dX12_init_167 rfl rfl rfl (by decide) (inT1 (List.mem_of_getElem? (i := 104) rfl) rfl) rfl (by decide) (.inl rfl) ?_
  generalize hM_21 : newM (M_20.1, (upR M_20.2.1 3 0 20 (some (67, cCnt M_19.2.2 67))), M_20.2.2) 68 8 8 = M_21
  have h := h M_21 hM_21
  refine p_R 172 dX12_init_169 rfl rfl rfl rfl pf_12_70 (.inr rfl) rfl ?_
  refine r_aload_n 173 dX12_init_172 rfl rfl ?_
  refine r_bipush 175 dX12_init_173 rfl rfl ?_
  refine r_newa (f := 69) (k := 1) (n := 8) 177 dX12_init_175 rfl rfl rfl (by decide) (inT1 (List.mem_of_getElem? (i := 104) rfl) rfl) rfl (by decide) (.inl rfl) ?_
  generalize hM_22 : newM (M_21.1, (upR M_21.2.1 3 0 21 (some (68, cCnt M_20.2.2 68))), M_21.2.2) 69 8 8 = M_22
  have h := h M_22 hM_22
  refine p_R 180 dX12_init_177 rfl rfl rfl rfl pf_12_73 (.inr rfl) rfl ?_
  refine r_aload_n 181 dX12_init_180 rfl rfl ?_
  refine r_bipush 183 dX12_init_181 rfl rfl ?_
  refine r_newa (f := 70) (k := 1) (n := 8) 185 dX12_init_183 rfl rfl rfl (by decide) (inT1 (List.mem_of_getElem? (i := 104) rfl) rfl) rfl (by decide) (.inl rfl) ?_
  generalize hM_23 : newM (M_22.1, (upR M_22.2.1 3 0 22 (some (69, cCnt M_21.2.2 69))), M_22.2.2) 70 8 8 = M_23
  have h := h M_23 hM_23
  refine p_R 188 dX12_init_185 rfl rfl rfl rfl pf_12_76 (.inr rfl) rfl ?_
  refine r_aload_n 189 dX12_init_188 rfl rfl ?_
  refine r_bipush 191 dX12_init_189 rfl rfl ?_
  refine r_newa (f := 71) (k := 1) (n := 24) 193 dX12_init_191 rfl rfl rfl (by decide) (inT1 (List.mem_of_getElem? (i := 104) rfl) rfl) rfl (by decide) (.inl rfl) ?_
  generalize hM_24 : newM (M_23.1, (upR M_23.2.1 3 0 23 (some (70, cCnt M_22.2.2 70))), M_23.2.2) 71 24 24 = M_24
  have h := h M_24 hM_24
  refine p_R 196 dX12_init_193 rfl rfl rfl rfl pf_12_79 (.inr rfl) rfl ?_
  refine r_aload_n 197 dX12_init_196 rfl rfl ?_
  refine r_sipush 200 dX12_init_197 rfl rfl ?_
  refine r_newa (f := 72) (k := 1) (n := 144) 202 dX12_init_200 rfl rfl rfl (by decide) (inT1 (List.mem_of_getElem? (i := 104) rfl) rfl) rfl (by decide) (.inl rfl) ?_
  generalize hM_25 : newM (M_24.1, (upR M_24.2.1 3 0 24 (some (71, cCnt M_23.2.2 71))), M_24.2.2) 72 144 144 = M_25
  have h := h M_25 hM_25
  refine p_R 205 dX12_init_202 rfl rfl rfl rfl pf_12_82 (.inr rfl) rfl ?_
  refine r_aload_n 206 dX12_init_205 rfl rfl ?_
  refine r_bipush 208 dX12_init_206 rfl rfl ?_
  refine r_newa (f := 73) (k := 1) (n := 24) 210 dX12_init_208 rfl rfl rfl (by decide) (inT1 (List.mem_of_getElem? (i := 104) rfl) rfl) rfl (by decide) (.inl rfl) ?_
  generalize hM_26 : newM (M_25.1, (upR M_25.2.1 3 0 25 (some (72, cCnt M_24.2.2 72))), M_25.2.2) 73 24 24 = M_26
  have h := h M_26 hM_26
  refine p_R 213 dX12_init_210 rfl rfl rfl rfl pf_12_85 (.inr rfl) rfl ?_
  refine r_aload_n 214 dX12_init_213 rfl rfl ?_
  refine r_bipush 216 dX12_init_214 rfl rfl ?_
  refine r_newa (f := 74) (k := 1) (n := 60) 218 dX12_init_216 rfl rfl rfl (by decide) (inT1 (List.mem_of_getElem? (i := 104) rfl) rfl) rfl (by decide) (.inl rfl) ?_
  generalize hM_27 : newM (M_26.1, (upR M_26.2.1 3 0 26 (some (73, cCnt M_25.2.2 73))), M_26.2.2) 74 60 60 = M_27
  have h := h M_27 hM_27
  refine p_R 221 dX12_init_218 rfl rfl rfl rfl pf_12_88 (.inr rfl) rfl ?_
  refine r_aload_n 222 dX12_init_221 rfl rfl ?_
  refine r_bipush 224 dX12_init_222 rfl rfl ?_
  refine r_newa (f := 75) (k := 1) (n := 8) 226 dX12_init_224 rfl rfl rfl (by decide) (inT1 (List.mem_of_getElem? (i := 104) rfl) rfl) rfl (by decide) (.inl rfl) ?_
  generalize hM_28 : newM (M_27.1, (upR M_27.2.1 3 0 27 (some (74, cCnt M_26.2.2 74))), M_27.2.2) 75 8 8 = M_28
  have h := h M_28 hM_28
  refine p_R 229 dX12_init_226 rfl rfl rfl rfl pf_12_91 (.inr rfl) rfl ?_
  refine r_aload_n 230 dX12_init_229 rfl rfl ?_
  refine r_sipush 233 dX12_init_230 rfl rfl ?_
  refine r_newa (f := 76) (k := 2) (n := 400) 235 dX12_init_233 rfl rfl rfl (by decide) (inT3 (List.mem_of_getElem? (i := 194) rfl) rfl) rfl (by decide) (.inl rfl) ?_
  generalize hM_29 : newM (M_28.1, (upR M_28.2.1 3 0 28 (some (75, cCnt M_27.2.2 75))), M_28.2.2) 76 400 400 = M_29
  have h := h M_29 hM_29
  refine p_R 238 dX12_init_235 rfl rfl rfl rfl pf_12_94 (.inr rfl) rfl ?_
  refine r_aload_n 239 dX12_init_238 rfl rfl ?_
  refine r_sipush 242 dX12_init_239 rfl rfl ?_
  refine r_newa (f := 77) (k := 1) (n := 3200) 244 dX12_init_242 rfl rfl rfl (by decide) (inT1 (List.mem_of_getElem? (i := 104) rfl) rfl) rfl (by decide) (.inl rfl) ?_
  generalize hM_30 : newM (M_29.1, (upR M_29.2.1 3 0 39 (some (76, cCnt M_28.2.2 76))), M_29.2.2) 77 3200 3200 = M_30
  have h := h M_30 hM_30
  refine p_R 247 dX12_init_244 rfl rfl rfl rfl pf_12_98 (.inr rfl) rfl ?_
  refine r_aload_n 248 dX12_init_247 rfl rfl ?_
  refine r_sipush 251 dX12_init_248 rfl rfl ?_
  refine r_newa (f := 78) (k := 1) (n := 3200) 253 dX12_init_251 rfl rfl rfl (by decide) (inT1 (List.mem_of_getElem? (i := 104) rfl) rfl) rfl (by decide) (.inl rfl) ?_
  generalize hM_31 : newM (M_30.1, (upR M_30.2.1 3 0 40 (some (77, cCnt M_29.2.2 77))), M_30.2.2) 78 3200 3200 = M_31
  have h := h M_31 hM_31
  refine p_R 256 dX12_init_253 rfl rfl rfl rfl pf_12_101 (.inr rfl) rfl ?_
  refine r_aload_n 257 dX12_init_256 rfl rfl ?_
  refine r_bipush 259 dX12_init_257 rfl rfl ?_
  refine r_newa (f := 79) (k := 1) (n := 8) 261 dX12_init_259 rfl rfl rfl (by decide) (inT1 (List.mem_of_getElem? (i := 104) rfl) rfl) rfl (by decide) (.inl rfl) ?_
  generalize hM_32 : newM (M_31.1, (upR M_31.2.1 3 0 41 (some (78, cCnt M_30.2.2 78))), M_31.2.2) 79 8 8 = M_32
  have h := h M_32 hM_32
  refine p_R 264 dX12_init_261 rfl rfl rfl rfl pf_12_104 (.inr rfl) rfl ?_
  refine r_aload_n 265 dX12_init_264 rfl rfl ?_
  refine r_sipush 268 dX12_init_265 rfl rfl ?_
  refine r_newa (f := 80) (k := 1) (n := 402) 270 dX12_init_268 rfl rfl rfl (by decide) (inT1 (List.mem_of_getElem? (i := 104) rfl) rfl) rfl (by decide) (.inl rfl) ?_
  generalize hM_33 : newM (M_32.1, (upR M_32.2.1 3 0 42 (some (79, cCnt M_31.2.2 79))), M_32.2.2) 80 402 402 = M_33
  have h := h M_33 hM_33
  refine p_R 273 dX12_init_270 rfl rfl rfl rfl pf_12_107 (.inr rfl) rfl ?_
  refine r_aload_n 274 dX12_init_273 rfl rfl ?_
  refine r_sipush 277 dX12_init_274 rfl rfl ?_
  refine r_newa (f := 81) (k := 1) (n := 402) 279 dX12_init_277 rfl rfl rfl (by decide) (inT1 (List.mem_of_getElem? (i := 104) rfl) rfl) rfl (by decide) (.inl rfl) ?_
  generalize hM_34 : newM (M_33.1, (upR M_33.2.1 3 0 43 (some (80, cCnt M_32.2.2 80))), M_33.2.2) 81 402 402 = M_34
  have h := h M_34 hM_34
  refine p_R 282 dX12_init_279 rfl rfl rfl rfl pf_12_110 (.inr rfl) rfl ?_
  refine r_aload_n 283 dX12_init_282 rfl rfl ?_
  refine r_sipush 286 dX12_init_283 rfl rfl ?_
  refine r_newa (f := 82) (k := 1) (n := 400) 288 dX12_init_286 rfl rfl rfl (by decide) (inT1 (List.mem_of_getElem? (i := 104) rfl) rfl) rfl (by decide) (.inl rfl) ?_
  generalize hM_35 : newM (M_34.1, (upR M_34.2.1 3 0 44 (some (81, cCnt M_33.2.2 81))), M_34.2.2) 82 400 400 = M_35
  have h := h M_35 hM_35
  refine p_R 291 dX12_init_288 rfl rfl rfl rfl pf_12_113 (.inr rfl) rfl ?_
  refine r_aload_n 292 dX12_init_291 rfl rfl ?_
  refine r_bipush 294 dX12_init_292 rfl rfl ?_
  refine r_newa (f := 83) (k := 3) (n := 8) 296 dX12_init_294 rfl rfl rfl (by decide) (inT6 (List.mem_of_getElem? (i := 74) rfl) rfl) rfl (by decide) (.inl rfl) ?_
  generalize hM_36 : newM (M_35.1, (upR M_35.2.1 3 0 45 (some (82, cCnt M_34.2.2 82))), M_35.2.2) 83 8 8 = M_36
  have h := h M_36 hM_36
  refine p_R 299 dX12_init_296 rfl rfl rfl rfl pf_12_116 (.inr rfl) rfl ?_
  refine r_aload_n 300 dX12_init_299 rfl rfl ?_
  refine r_bipush 302 dX12_init_300 rfl rfl ?_
  refine r_newa (f := 84) (k := 3) (n := 8) 304 dX12_init_302 rfl rfl rfl (by decide) (inT6 (List.mem_of_getElem? (i := 74) rfl) rfl) rfl (by decide) (.inl rfl) ?_
  generalize hM_37 : newM (M_36.1, (upR M_36.2.1 3 0 46 (some (83, cCnt M_35.2.2 83))), M_36.2.2) 84 8 8 = M_37
  have h := h M_37 hM_37
  refine p_R 307 dX12_init_304 rfl rfl rfl rfl pf_12_120 (.inr rfl) rfl ?_
  refine r_aload_n 308 dX12_init_307 rfl rfl ?_
  refine r_sipush 311 dX12_init_308 rfl rfl ?_
  refine r_newa (f := 85) (k := 1) (n := 488) 313 dX12_init_311 rfl rfl rfl (by decide) (inT1 (List.mem_of_getElem? (i := 104) rfl) rfl) rfl (by decide) (.inl rfl) ?_
  generalize hM_38 : newM (M_37.1, (upR M_37.2.1 3 0 47 (some (84, cCnt M_36.2.2 84))), M_37.2.2) 85 488 488 = M_38
  have h := h M_38 hM_38
  refine p_R 316 dX12_init_313 rfl rfl rfl rfl pf_12_123 (.inr rfl) rfl ?_
  refine r_aload_n 317 dX12_init_316 rfl rfl ?_
  refine r_sipush 320 dX12_init_317 rfl rfl ?_
  refine r_newa (f := 86) (k := 3) (n := 488) 322 dX12_init_320 rfl rfl rfl (by decide) (inT6 (List.mem_of_getElem? (i := 74) rfl) rfl) rfl (by decide) (.inl rfl) ?_
  generalize hM_39 : newM (M_38.1, (upR M_38.2.1 3 0 51 (some (85, cCnt M_37.2.2 85))), M_38.2.2) 86 488 488 = M_39
  have h := h M_39 hM_39
  refine p_R 325 dX12_init_322 rfl rfl rfl rfl pf_12_126 (.inr rfl) rfl ?_
  refine r_aload_n 326 dX12_init_325 rfl rfl ?_
  refine r_bipush 328 dX12_init_326 rfl rfl ?_
  refine r_newa (f := 87) (k := 1) (n := 8) 330 dX12_init_328 rfl rfl rfl (by decide) (inT1 (List.mem_of_getElem? (i := 104) rfl) rfl) rfl (by decide) (.inl rfl) ?_
  generalize hM_40 : newM (M_39.1, (upR M_39.2.1 3 0 52 (some (86, cCnt M_38.2.2 86))), M_39.2.2) 87 8 8 = M_40
  have h := h M_40 hM_40
  refine p_R 333 dX12_init_330 rfl rfl rfl rfl pf_12_129 (.inr rfl) rfl ?_
  refine r_aload_n 334 dX12_init_333 rfl rfl ?_
  refine r_sipush 337 dX12_init_334 rfl rfl ?_
  refine r_newa (f := 88) (k := 1) (n := 372) 339 dX12_init_337 rfl rfl rfl (by decide) (inT1 (List.mem_of_getElem? (i := 104) rfl) rfl) rfl (by decide) (.inl rfl) ?_
  generalize hM_41 : newM (M_40.1, (upR M_40.2.1 3 0 53 (some (87, cCnt M_39.2.2 87))), M_40.2.2) 88 372 372 = M_41
  have h := h M_41 hM_41
  refine p_R 342 dX12_init_339 rfl rfl rfl rfl pf_12_132 (.inr rfl) rfl ?_
  refine r_aload_n 343 dX12_init_342 rfl rfl ?_
  refine r_sipush 346 dX12_init_343 rfl rfl ?_
  refine r_newa (f := 89) (k := 3) (n := 1024) 348 dX12_init_346 rfl rfl rfl (by decide) (inT6 (List.mem_of_getElem? (i := 74) rfl) rfl) rfl (by decide) (.inl rfl) ?_
  generalize hM_42 : newM (M_41.1, (upR M_41.2.1 3 0 54 (some (88, cCnt M_40.2.2 88))), M_41.2.2) 89 1024 1024 = M_42
  have h := h M_42 hM_42
  refine p_R 351 dX12_init_348 rfl rfl rfl rfl pf_12_135 (.inr rfl) rfl ?_
  refine r_aload_n 352 dX12_init_351 rfl rfl ?_
  refine r_sipush 355 dX12_init_352 rfl rfl ?_
  refine r_newa (f := 90) (k := 1) (n := 2280) 357 dX12_init_355 rfl rfl rfl (by decide) (inT1 (List.mem_of_getElem? (i := 104) rfl) rfl) rfl (by decide) (.inl rfl) ?_
  generalize hM_43 : newM (M_42.1, (upR M_42.2.1 3 0 55 (some (89, cCnt M_41.2.2 89))), M_42.2.2) 90 2280 2280 = M_43
  have h := h M_43 hM_43
  refine p_R 360 dX12_init_357 rfl rfl rfl rfl pf_12_138 (.inr rfl) rfl ?_
  refine r_aload_n 361 dX12_init_360 rfl rfl ?_
  refine r_iconst 362 dX12_init_361 rfl (InR_of rfl) ?_
  refine r_newa (f := 91) (k := 3) (n := 4) 364 dX12_init_362 rfl rfl rfl (by decide) (inT6 (List.mem_of_getElem? (i := 74) rfl) rfl) rfl (by decide) (.inl rfl) ?_
  generalize hM_44 : newM (M_43.1, (upR M_43.2.1 3 0 64 (some (90, cCnt M_42.2.2 90))), M_43.2.2) 91 4 4 = M_44
  have h := h M_44 hM_44
  refine p_R 367 dX12_init_364 rfl rfl rfl rfl pf_12_141 (.inr rfl) rfl ?_
  refine r_iconst 368 dX12_init_367 rfl (InR_of rfl) ?_
  refine r_istore_n (ls' := [some (vR (some (3, 0))), some (vI 0)]) 369 dX12_init_368 rfl rfl rfl rfl ?_
  exact h
set_option maxRecDepth 4000 in
theorem xX12_init_369 {l : Launch} {G : Gt} {d : Nat} {M M' : Mem} {r : Option Vl} {x1 : Int} (hS : Sh M.2.1) (h : 
    (16 < x1 → r = none ∧ M' = M) ∧ (¬ (16 < x1) → ((0 ≤ x1 ∧ x1 < 17) ∧ InR (x1 + 1)) ∧ Ex l G (d + 1) mX12_init 369 [some (vR (some (3, 0))), some (vI (x1 + 1))] [] ((upI M.1 51 0 x1.toNat 1), M.2.1, M.2.2) r M')) : Ex l G (d + 1) mX12_init 369 [some (vR (some (3, 0))), some (vI x1)] [] M r M' := by
  refine r_iload_n 370 dX12_init_369 rfl rfl ?_
  refine r_bipush 372 dX12_init_370 rfl rfl ?_
  refine r_icmp_gt 375 388 dX12_init_372 rfl rfl (fun c => ?_) (fun c => ?_)
  · have h := h.1 (c)
    exact r_vret dX12_init_388 rfl h.1 h.2
  · have h := h.2 (c)
    obtain ⟨⟨o_1, o_2⟩, h⟩ := h
    refine r_aload_n 376 dX12_init_375 rfl rfl ?_
    refine g_R 379 dX12_init_376 rfl rfl rfl fr_12_19 (sh_12_4 hS) ?_
    refine r_iload_n 380 dX12_init_379 rfl rfl ?_
    refine r_iconst 381 dX12_init_380 rfl (InR_of rfl) ?_
    refine s_I 17 382 dX12_init_381 rfl rfl (by decide) rfl rfl o_1 ?_
    refine r_iinc (ls' := [some (vR (some (3, 0))), some (vI (x1 + 1))]) 385 dX12_init_382 rfl rfl rfl rfl o_2 rfl ?_
    refine r_goto 369 dX12_init_385 rfl ?_
    exact h

def rT2 (i : Nat) : Option Nm := if i = 0 then some (4, 0) else if i = 1 then some (6, 0) else if i = 2 then some (7, 0) else if i = 3 then some (8, 0) else if i = 4 then some (9, 0) else if i = 5 then some (10, 0) else if i = 6 then some (11, 0) else if i = 7 then some (12, 0) else if i = 8 then some (5, 8) else if i = 9 then some (15, 0) else if i = 11 then some (16, 0) else if i = 13 then some (17, 0) else if i = 14 then some (18, 0) else if i = 15 then some (19, 0) else none
def rT4 (k i : Nat) : Option Nm := if i = 1 then some (33, k) else if i = 3 then some (34, k) else if i = 5 then some (35, k) else if i = 6 then some (36, k) else if i = 7 then some (37, k) else if i = 9 then some (38, k) else if i = 12 then some (39, k) else none
def rT6 (i : Nat) : Option Nm := if i = 0 then some (4, 0) else if i = 1 then some (28, 0) else none
def rT7 (i : Nat) : Option Nm := if i = 0 then some (45, 0) else if i = 1 then some (46, 0) else none
def rT8 (i : Nat) : Option Nm := if i = 0 then some (23, 0) else if i = 1 then some (24, 0) else if i = 2 then some (25, 0) else none
def rT9 (i : Nat) : Option Nm := if i = 0 then some (4, 0) else if i = 1 then some (6, 0) else if i = 2 then some (7, 0) else if i = 3 then some (8, 0) else if i = 12 then some (20, 0) else none
def rT10 (i : Nat) : Option Nm := if i = 0 then some (40, 0) else if i = 1 then some (41, 0) else if i = 2 then some (42, 0) else if i = 3 then some (43, 0) else if i = 4 then some (44, 0) else none
def rT11 (i : Nat) : Option Nm := if i = 0 then some (26, 0) else if i = 2 then some (27, 0) else none
def rT12 (i : Nat) : Option Nm := if i = 0 then some (21, 0) else if i = 8 then some (22, 0) else none
def rT13 (k i : Nat) : Option Nm := if i = 1 then some (47, k) else none
def rT14 (k i : Nat) : Option Nm := if i = 1 then some (29, k) else if i = 2 then some (30, k) else if i = 3 then some (31, k) else if i = 4 then some (32, k) else none
def rT3 (i : Nat) : Option Nm := if 1 ≤ i ∧ i ≤ 28 then some (47 + i, 0) else if 39 ≤ i ∧ i ≤ 47 then some (37 + i, 0) else if 51 ≤ i ∧ i ≤ 55 then some (34 + i, 0) else if 64 ≤ i ∧ i ≤ 65 then some (26 + i, 0) else none
def R00 : RM := fun f k i => if 15 ≤ f then (if f = 38 then (if i < 8 then some (5, i) else none) else none) else match f with
  | 2 => rT2 i
  | 3 => rT3 i
  | 4 => rT4 k i
  | 6 => rT6 i
  | 7 => rT7 i
  | 8 => rT8 i
  | 9 => rT9 i
  | 10 => rT10 i
  | 11 => rT11 i
  | 12 => rT12 i
  | 13 => rT13 k i
  | 14 => rT14 k i
  | _ => none
def J0 : IM := fun f _ i => match f with
  | 5 => if i = 8 then -1 else 0
  | 6 => if i = 2 then -1 else 0
  | 37 => if i < 17 then 1 else 0
  | 45 => if i < 64 then (if i / 8 = i % 8 then 0 else 1000) else 0
  | 46 => if i < 64 then -1 else 0
  | 51 => if i < 17 then 1 else 0
  | _ => 0
theorem Sh_R00 : Sh R00 := ⟨rfl, rfl, rfl, rfl, rfl, fun _ => rfl, rfl, rfl, rfl, rfl, rfl, rfl, rfl, rfl, fun _ => rfl, fun _ => rfl, fun _ => rfl, fun _ => rfl, fun _ => rfl, fun _ => rfl, fun _ => rfl, fun _ => rfl, fun _ => rfl, fun _ => rfl, fun _ => rfl, rfl, rfl, rfl, rfl, rfl, rfl, rfl, rfl, rfl, rfl, rfl, rfl, rfl, rfl, rfl, rfl, rfl, rfl, rfl, rfl, rfl, rfl, rfl, rfl, rfl, rfl, rfl, rfl, rfl, rfl, rfl, rfl, rfl, rfl, rfl, rfl, rfl, rfl, rfl, rfl, rfl, rfl, rfl, rfl, rfl, rfl, rfl, rfl, rfl, rfl, rfl, rfl, rfl, rfl, rfl, rfl, rfl, rfl, rfl, rfl, rfl, rfl, rfl, rfl, rfl⟩
theorem pr_2 {c : Nat} : ∀ i, ¬ (i ≤ 9 ∨ i = 11 ∨ 13 ≤ i ∧ i ≤ 15) → R00 2 c i = none := fun i h => by
  show rT2 i = none
  unfold rT2
  rw [if_neg (by omega), if_neg (by omega), if_neg (by omega), if_neg (by omega), if_neg (by omega), if_neg (by omega), if_neg (by omega), if_neg (by omega), if_neg (by omega), if_neg (by omega), if_neg (by omega), if_neg (by omega), if_neg (by omega), if_neg (by omega)]
theorem pr_3 {c : Nat} : ∀ i, ¬ ((1 ≤ i ∧ i ≤ 28) ∨ (39 ≤ i ∧ i ≤ 47) ∨ (51 ≤ i ∧ i ≤ 55) ∨ (64 ≤ i ∧ i ≤ 65)) → R00 3 c i = none := fun i h => by
  show rT3 i = none
  unfold rT3
  rw [if_neg (by omega), if_neg (by omega), if_neg (by omega), if_neg (by omega)]
theorem pr_4 {c : Nat} : ∀ i, ¬ (i = 1 ∨ i = 3 ∨ i = 5 ∨ i = 6 ∨ i = 7 ∨ i = 9 ∨ i = 12) → R00 4 c i = none := fun i h => by
  show rT4 c i = none
  unfold rT4
  rw [if_neg (by omega), if_neg (by omega), if_neg (by omega), if_neg (by omega), if_neg (by omega), if_neg (by omega), if_neg (by omega)]
theorem pr_6 {c : Nat} : ∀ i, ¬ (i ≤ 1) → R00 6 c i = none := fun i h => by
  show rT6 i = none
  unfold rT6
  rw [if_neg (by omega), if_neg (by omega)]
theorem pr_7 {c : Nat} : ∀ i, ¬ (i ≤ 1) → R00 7 c i = none := fun i h => by
  show rT7 i = none
  unfold rT7
  rw [if_neg (by omega), if_neg (by omega)]
theorem pr_8 {c : Nat} : ∀ i, ¬ (i ≤ 2) → R00 8 c i = none := fun i h => by
  show rT8 i = none
  unfold rT8
  rw [if_neg (by omega), if_neg (by omega), if_neg (by omega)]
theorem pr_9 {c : Nat} : ∀ i, ¬ (i ≤ 3 ∨ i = 12) → R00 9 c i = none := fun i h => by
  show rT9 i = none
  unfold rT9
  rw [if_neg (by omega), if_neg (by omega), if_neg (by omega), if_neg (by omega), if_neg (by omega)]
theorem pr_10 {c : Nat} : ∀ i, ¬ (i ≤ 4) → R00 10 c i = none := fun i h => by
  show rT10 i = none
  unfold rT10
  rw [if_neg (by omega), if_neg (by omega), if_neg (by omega), if_neg (by omega), if_neg (by omega)]
theorem pr_11 {c : Nat} : ∀ i, ¬ (i = 0 ∨ i = 2) → R00 11 c i = none := fun i h => by
  show rT11 i = none
  unfold rT11
  rw [if_neg (by omega), if_neg (by omega)]
theorem pr_12 {c : Nat} : ∀ i, ¬ (i = 0 ∨ i = 8) → R00 12 c i = none := fun i h => by
  show rT12 i = none
  unfold rT12
  rw [if_neg (by omega), if_neg (by omega)]
def inc (cn : Nat → Nat) (f : Nat) : Nat → Nat := fun f' => if f' = f then cn f' + 1 else cn f'
theorem inc_s {cn : Nat → Nat} {f : Nat} : inc cn f f = cn f + 1 := by unfold inc; rw [if_pos rfl]
theorem inc_n {cn : Nat → Nat} {f f' : Nat} (h : f' ≠ f) : inc cn f f' = cn f' := by unfold inc; rw [if_neg h]
def Bu (W U : Nat → Nat → Nat → Prop) (cn : Nat → Nat) (nc ns : Nat) (M : Mem) : Prop := (∀ f k i, ¬ W f k i → M.1 f k i = J0 f k i) ∧ (∀ f k i, ¬ U f k i → M.2.1 f k i = R00 f k i) ∧ (∀ f, cCnt M.2.2 f = cn f) ∧ cNc M.2.2 = nc ∧ cNs M.2.2 = ns
section BU
variable {l : Launch} {G : Gt} {d : Nat} {W U W' U' : Nat → Nat → Nat → Prop} {cn : Nat → Nat} {nc ns : Nat} {M M1 M' : Mem}
theorem Bu.mo (h : Bu W U cn nc ns M) (hW : ∀ f k i, W f k i → W' f k i) (hU : ∀ f k i, U f k i → U' f k i) : Bu W' U' cn nc ns M := ⟨fun f k i hn => h.1 f k i fun c => hn (hW f k i c), fun f k i hn => h.2.1 f k i fun c => hn (hU f k i c), h.2.2⟩
theorem Bu.new {f n sl c : Nat} (h : Bu W U cn nc ns M) (e : newM M f n sl = M1) (hc : cn f = c) (PI PR : Nat → Prop) (hI : ∀ i, ¬ PI i → J0 f c i = 0) (hR : ∀ i, ¬ PR i → R00 f c i = none) : Bu (fun f' k i => W f' k i ∨ (f' = f ∧ k = c ∧ PI i)) (fun f' k i => U f' k i ∨ (f' = f ∧ k = c ∧ PR i)) (inc cn f) (nc + 1) (ns + sl) M1 := by
  have hcc : cCnt M.2.2 f = c := (h.2.2.1 f).trans hc
  refine ⟨fun f' k i hn => ?_, fun f' k i hn => ?_, fun f' => ?_, ?_, ?_⟩
  · by_cases g : f' = f ∧ k = c
    · obtain ⟨rfl, rfl⟩ := g
      rw [newM_z e hcc, hI i (fun hp => hn (.inr ⟨rfl, rfl, hp⟩))]
    · have e2 : M1.1 f' k i = M.1 f' k i := by
        by_cases ef : f' = f
        · exact newM_Ik e (by rw [hcc]; exact fun ek => g ⟨ef, ek⟩)
        · exact newM_In e ef
      rw [e2]
      exact h.1 f' k i (fun hw => hn (.inl hw))
  · by_cases g : f' = f ∧ k = c
    · obtain ⟨rfl, rfl⟩ := g
      rw [hR i (fun hp => hn (.inr ⟨rfl, rfl, hp⟩)), ← hcc]
      exact newM_Rs e
    · have e2 : M1.2.1 f' k i = M.2.1 f' k i := by
        by_cases ef : f' = f
        · exact newM_Rk e (by rw [hcc]; exact fun ek => g ⟨ef, ek⟩)
        · exact newM_Rn e ef
      rw [e2]
      exact h.2.1 f' k i (fun hw => hn (.inl hw))
  · rw [newM_c e, h.2.2.1]; rfl
  · rw [newM_nc e, h.2.2.2.1]
  · rw [newM_ns e, h.2.2.2.2]
theorem Bu.row {f n sl c : Nat} (h : Bu W U cn nc ns M) (e : newM M f n sl = M1) (hc : cn f = c) (hI : ∀ i, J0 f c i = 0) (hR : ∀ i, R00 f c i = none) : Bu W U (inc cn f) (nc + 1) (ns + sl) M1 :=
  (h.new e hc (fun _ => False) (fun _ => False) (fun i _ => hI i) (fun i _ => hR i)).mo (fun _ _ _ h => h.elim id (fun h => h.2.2.elim)) (fun _ _ _ h => h.elim id (fun h => h.2.2.elim))
theorem Bu.upR {f k i : Nat} {v : Option Nm} (h : Bu W U cn nc ns M) (hv : v = R00 f k i) : Bu W (fun f' k' i' => U f' k' i' ∧ ¬ (f' = f ∧ k' = k ∧ i' = i)) cn nc ns (M.1, upR M.2.1 f k i v, M.2.2) := by
  refine ⟨h.1, fun f' k' i' hn => ?_, h.2.2⟩
  dsimp only
  by_cases e : f' = f ∧ k' = k ∧ i' = i
  · obtain ⟨rfl, rfl, rfl⟩ := e
    rw [upR_s]; exact hv
  · rw [upR_ne e]; exact h.2.1 f' k' i' (fun hu => hn ⟨hu, e⟩)
theorem Bu.upI {f k i : Nat} {v : Int} (h : Bu W U cn nc ns M) (hv : v = J0 f k i) : Bu (fun f' k' i' => W f' k' i' ∧ ¬ (f' = f ∧ k' = k ∧ i' = i)) U cn nc ns (upI M.1 f k i v, M.2.1, M.2.2) := by
  refine ⟨fun f' k' i' hn => ?_, h.2⟩
  dsimp only
  by_cases e : f' = f ∧ k' = k ∧ i' = i
  · obtain ⟨rfl, rfl, rfl⟩ := e
    rw [upI_s]; exact hv
  · rw [upI_ne e]; exact h.1 f' k' i' (fun hu => hn ⟨hu, e⟩)
theorem Bu.fl {f k n : Nat} {v : Int} (h : Bu W U cn nc ns M) : Bu (fun f' k' i' => (W f' k' i' ∧ ¬ (f' = f ∧ k' = k ∧ i' < n)) ∨ (f' = f ∧ k' = k ∧ i' < n ∧ ¬ v = J0 f k i')) U cn nc ns (flI M.1 f k n v, M.2.1, M.2.2) := by
  refine ⟨fun f' k' i' hn => ?_, h.2⟩
  dsimp only
  by_cases e : f' = f ∧ k' = k
  · obtain ⟨rfl, rfl⟩ := e
    rw [flI_s]
    by_cases g : i' < n
    · rw [if_pos g]
      by_cases g2 : v = J0 f' k' i'
      · exact g2
      · exact absurd (.inr ⟨rfl, rfl, g, g2⟩) hn
    · rw [if_neg g]; exact h.1 _ _ _ (fun hu => hn (.inl ⟨hu, fun x => g x.2.2⟩))
  · unfold flI
    rw [seI_o e]; exact h.1 f' k' i' (fun hu => hn (.inl ⟨hu, fun x => e ⟨x.1, x.2.1⟩⟩))
theorem BX2_init (h : Bu W U cn nc ns M) (c21 : cn 21 = 0) (c22 : cn 22 = 0) : ∃ M', Cl l G (d + 1) mX2_init [vR (some (12, 0))] M none M' ∧ Bu W (fun f k i => ((U f k i ∧ ¬ (f = 12 ∧ k = 0 ∧ i = 0)) ∧ ¬ (f = 12 ∧ k = 0 ∧ i = 8))) (inc (inc cn 21) 22) (nc + 1 + 1) (ns + 0 + 400) M' := by
  obtain ⟨N1, e1⟩ : ∃ N, newM M 21 0 0 = N := ⟨_, rfl⟩
  have b1 := h.row e1 (c := 0) (by rw [c21]) (fun _ => rfl) (fun _ => rfl)
  have u1 := b1.upR (f := 12) (k := 0) (i := 0) (v := some (21, cCnt M.2.2 21)) (by rw [h.2.2.1, c21]; rfl)
  obtain ⟨N2, e2⟩ : ∃ N, newM (N1.1, upR N1.2.1 12 0 0 (some (21, cCnt M.2.2 21)), N1.2.2) 22 400 400 = N := ⟨_, rfl⟩
  have b2 := u1.row e2 (c := 0) (by rw [inc_n (by decide), c22]) (fun _ => rfl) (fun _ => rfl)
  have u2 := b2.upR (f := 12) (k := 0) (i := 8) (v := some (22, cCnt N1.2.2 22)) (by rw [b1.2.2.1, inc_n (by decide), c22]; rfl)
  exact ⟨_, xX2_init_0 (fun Z1 g1 Z2 g2 => by rw [e1] at g1; subst g1; rw [e2] at g2; subst g2; exact ⟨rfl, rfl⟩), u2⟩
theorem BX3_init (h : Bu W U cn nc ns M) (c23 : cn 23 = 0) (c24 : cn 24 = 0) (c25 : cn 25 = 0) : ∃ M', Cl l G (d + 1) mX3_init [vR (some (8, 0))] M none M' ∧ Bu W (fun f k i => (((U f k i ∧ ¬ (f = 8 ∧ k = 0 ∧ i = 0)) ∧ ¬ (f = 8 ∧ k = 0 ∧ i = 1)) ∧ ¬ (f = 8 ∧ k = 0 ∧ i = 2))) (inc (inc (inc cn 23) 24) 25) (nc + 1 + 1 + 1) (ns + 401 + 1024 + 1024) M' := by
  obtain ⟨N1, e1⟩ : ∃ N, newM M 23 401 401 = N := ⟨_, rfl⟩
  have b1 := h.row e1 (c := 0) (by rw [c23]) (fun _ => rfl) (fun _ => rfl)
  have u1 := b1.upR (f := 8) (k := 0) (i := 0) (v := some (23, cCnt M.2.2 23)) (by rw [h.2.2.1, c23]; rfl)
  obtain ⟨N2, e2⟩ : ∃ N, newM (N1.1, upR N1.2.1 8 0 0 (some (23, cCnt M.2.2 23)), N1.2.2) 24 1024 1024 = N := ⟨_, rfl⟩
  have b2 := u1.row e2 (c := 0) (by rw [inc_n (by decide), c24]) (fun _ => rfl) (fun _ => rfl)
  have u2 := b2.upR (f := 8) (k := 0) (i := 1) (v := some (24, cCnt N1.2.2 24)) (by rw [b1.2.2.1, inc_n (by decide), c24]; rfl)
  obtain ⟨N3, e3⟩ : ∃ N, newM (N2.1, upR N2.2.1 8 0 1 (some (24, cCnt N1.2.2 24)), N2.2.2) 25 1024 1024 = N := ⟨_, rfl⟩
  have b3 := u2.row e3 (c := 0) (by rw [inc_n (by decide), inc_n (by decide), c25]) (fun _ => rfl) (fun _ => rfl)
  have u3 := b3.upR (f := 8) (k := 0) (i := 2) (v := some (25, cCnt N2.2.2 25)) (by rw [b2.2.2.1, inc_n (by decide), inc_n (by decide), c25]; rfl)
  exact ⟨_, xX3_init_0 (fun Z1 g1 Z2 g2 Z3 g3 => by rw [e1] at g1; subst g1; rw [e2] at g2; subst g2; rw [e3] at g3; subst g3; exact ⟨rfl, rfl⟩), u3⟩
theorem BX4_init (h : Bu W U cn nc ns M) (c26 : cn 26 = 0) (c27 : cn 27 = 0) : ∃ M', Cl l G (d + 1) mX4_init [vR (some (11, 0))] M none M' ∧ Bu W (fun f k i => ((U f k i ∧ ¬ (f = 11 ∧ k = 0 ∧ i = 0)) ∧ ¬ (f = 11 ∧ k = 0 ∧ i = 2))) (inc (inc cn 26) 27) (nc + 1 + 1) (ns + 512 + 16) M' := by
  obtain ⟨N1, e1⟩ : ∃ N, newM M 26 512 512 = N := ⟨_, rfl⟩
  have b1 := h.row e1 (c := 0) (by rw [c26]) (fun _ => rfl) (fun _ => rfl)
  have u1 := b1.upR (f := 11) (k := 0) (i := 0) (v := some (26, cCnt M.2.2 26)) (by rw [h.2.2.1, c26]; rfl)
  obtain ⟨N2, e2⟩ : ∃ N, newM (N1.1, upR N1.2.1 11 0 0 (some (26, cCnt M.2.2 26)), N1.2.2) 27 16 16 = N := ⟨_, rfl⟩
  have b2 := u1.row e2 (c := 0) (by rw [inc_n (by decide), c27]) (fun _ => rfl) (fun _ => rfl)
  have u2 := b2.upR (f := 11) (k := 0) (i := 2) (v := some (27, cCnt N1.2.2 27)) (by rw [b1.2.2.1, inc_n (by decide), c27]; rfl)
  exact ⟨_, xX4_init_0 (fun Z1 g1 Z2 g2 => by rw [e1] at g1; subst g1; rw [e2] at g2; subst g2; exact ⟨rfl, rfl⟩), u2⟩
theorem BX9_init (h : Bu W U cn nc ns M) (c40 : cn 40 = 0) (c41 : cn 41 = 0) (c42 : cn 42 = 0) (c43 : cn 43 = 0) (c44 : cn 44 = 0) : ∃ M', Cl l G (d + 1) mX9_init [vR (some (10, 0))] M none M' ∧ Bu W (fun f k i => (((((U f k i ∧ ¬ (f = 10 ∧ k = 0 ∧ i = 0)) ∧ ¬ (f = 10 ∧ k = 0 ∧ i = 1)) ∧ ¬ (f = 10 ∧ k = 0 ∧ i = 2)) ∧ ¬ (f = 10 ∧ k = 0 ∧ i = 3)) ∧ ¬ (f = 10 ∧ k = 0 ∧ i = 4))) (inc (inc (inc (inc (inc cn 40) 41) 42) 43) 44) (nc + 1 + 1 + 1 + 1 + 1) (ns + 61 + 488 + 488 + 61 + 488) M' := by
  obtain ⟨N1, e1⟩ : ∃ N, newM M 40 61 61 = N := ⟨_, rfl⟩
  have b1 := h.row e1 (c := 0) (by rw [c40]) (fun _ => rfl) (fun _ => rfl)
  have u1 := b1.upR (f := 10) (k := 0) (i := 0) (v := some (40, cCnt M.2.2 40)) (by rw [h.2.2.1, c40]; rfl)
  obtain ⟨N2, e2⟩ : ∃ N, newM (N1.1, upR N1.2.1 10 0 0 (some (40, cCnt M.2.2 40)), N1.2.2) 41 488 488 = N := ⟨_, rfl⟩
  have b2 := u1.row e2 (c := 0) (by rw [inc_n (by decide), c41]) (fun _ => rfl) (fun _ => rfl)
  have u2 := b2.upR (f := 10) (k := 0) (i := 1) (v := some (41, cCnt N1.2.2 41)) (by rw [b1.2.2.1, inc_n (by decide), c41]; rfl)
  obtain ⟨N3, e3⟩ : ∃ N, newM (N2.1, upR N2.2.1 10 0 1 (some (41, cCnt N1.2.2 41)), N2.2.2) 42 488 488 = N := ⟨_, rfl⟩
  have b3 := u2.row e3 (c := 0) (by rw [inc_n (by decide), inc_n (by decide), c42]) (fun _ => rfl) (fun _ => rfl)
  have u3 := b3.upR (f := 10) (k := 0) (i := 2) (v := some (42, cCnt N2.2.2 42)) (by rw [b2.2.2.1, inc_n (by decide), inc_n (by decide), c42]; rfl)
  obtain ⟨N4, e4⟩ : ∃ N, newM (N3.1, upR N3.2.1 10 0 2 (some (42, cCnt N2.2.2 42)), N3.2.2) 43 61 61 = N := ⟨_, rfl⟩
  have b4 := u3.row e4 (c := 0) (by rw [inc_n (by decide), inc_n (by decide), inc_n (by decide), c43]) (fun _ => rfl) (fun _ => rfl)
  have u4 := b4.upR (f := 10) (k := 0) (i := 3) (v := some (43, cCnt N3.2.2 43)) (by rw [b3.2.2.1, inc_n (by decide), inc_n (by decide), inc_n (by decide), c43]; rfl)
  obtain ⟨N5, e5⟩ : ∃ N, newM (N4.1, upR N4.2.1 10 0 3 (some (43, cCnt N3.2.2 43)), N4.2.2) 44 488 488 = N := ⟨_, rfl⟩
  have b5 := u4.row e5 (c := 0) (by rw [inc_n (by decide), inc_n (by decide), inc_n (by decide), inc_n (by decide), c44]) (fun _ => rfl) (fun _ => rfl)
  have u5 := b5.upR (f := 10) (k := 0) (i := 4) (v := some (44, cCnt N4.2.2 44)) (by rw [b4.2.2.1, inc_n (by decide), inc_n (by decide), inc_n (by decide), inc_n (by decide), c44]; rfl)
  exact ⟨_, xX9_init_0 (fun Z1 g1 Z2 g2 Z3 g3 Z4 g4 Z5 g5 => by rw [e1] at g1; subst g1; rw [e2] at g2; subst g2; rw [e3] at g3; subst g3; rw [e4] at g4; subst g4; rw [e5] at g5; subst g5; exact ⟨rfl, rfl⟩), u5⟩
theorem BX0_init (h : Bu W U cn nc ns M) (c20 : cn 20 = 0) : ∃ M', Cl l G (d + 1) mX0_init [vR (some (9, 0)), vR (some (4, 0)), vR (some (6, 0)), vR (some (7, 0)), vR (some (8, 0))] M none M' ∧ Bu W (fun f k i => (((((U f k i ∧ ¬ (f = 9 ∧ k = 0 ∧ i = 12)) ∧ ¬ (f = 9 ∧ k = 0 ∧ i = 0)) ∧ ¬ (f = 9 ∧ k = 0 ∧ i = 1)) ∧ ¬ (f = 9 ∧ k = 0 ∧ i = 2)) ∧ ¬ (f = 9 ∧ k = 0 ∧ i = 3))) (inc cn 20) (nc + 1) (ns + 144) M' := by
  obtain ⟨N1, e1⟩ : ∃ N, newM M 20 144 144 = N := ⟨_, rfl⟩
  have b1 := h.row e1 (c := 0) c20 (fun _ => rfl) (fun _ => rfl)
  have u1 := b1.upR (f := 9) (k := 0) (i := 12) (v := some (20, cCnt M.2.2 20)) (by rw [h.2.2.1, c20]; rfl)
  have u2 := u1.upR (f := 9) (k := 0) (i := 0) (v := some (4, 0)) rfl
  have u3 := u2.upR (f := 9) (k := 0) (i := 1) (v := some (6, 0)) rfl
  have u4 := u3.upR (f := 9) (k := 0) (i := 2) (v := some (7, 0)) rfl
  have u5 := u4.upR (f := 9) (k := 0) (i := 3) (v := some (8, 0)) rfl
  exact ⟨_, xX0_init_0 (fun Z1 g1 => by rw [e1] at g1; subst g1; exact ⟨rfl, rfl⟩), u5⟩
theorem BX6_init (h : Bu W U cn nc ns M) (c28 : cn 28 = 0) : ∃ M', Cl l G (d + 1) mX6_init [vR (some (6, 0)), vR (some (4, 0))] M none M' ∧ Bu (fun f k i => W f k i ∧ ¬ (f = 6 ∧ k = 0 ∧ i = 2)) (fun f k i => ((U f k i ∧ ¬ (f = 6 ∧ k = 0 ∧ i = 1)) ∧ ¬ (f = 6 ∧ k = 0 ∧ i = 0))) (inc cn 28) (nc + 1) (ns + 61) M' := by
  obtain ⟨N1, e1⟩ : ∃ N, newM M 28 61 61 = N := ⟨_, rfl⟩
  have b1 := h.row e1 (c := 0) c28 (fun _ => rfl) (fun _ => rfl)
  have u1 := b1.upR (f := 6) (k := 0) (i := 1) (v := some (28, cCnt M.2.2 28)) (by rw [h.2.2.1, c28]; rfl)
  have u2 := u1.upR (f := 6) (k := 0) (i := 0) (v := some (4, 0)) rfl
  have u3 := u2.upI (f := 6) (k := 0) (i := 2) (v := -1) rfl
  exact ⟨_, xX6_init_0 (fun Z1 g1 => by rw [e1] at g1; subst g1; exact ⟨rfl, rfl⟩), u3⟩
theorem BX10_init (h : Bu W U cn nc ns M) (c45 : cn 45 = 0) (c46 : cn 46 = 0) (hU : ∀ f k i, U f k i → ¬ (f = 45 ∨ f = 46)) (hW : ∀ f k i, W f k i → ¬ (f = 45 ∨ f = 46)) : ∃ M', Cl l G (d + 1) mX10_init [vR (some (7, 0))] M none M' ∧ Bu W (fun f k i => ((U f k i ∧ ¬ (f = 7 ∧ k = 0 ∧ i = 0)) ∧ ¬ (f = 7 ∧ k = 0 ∧ i = 1))) (inc (inc cn 45) 46) (nc + 1 + 1) (ns + 64 + 64) M' := by
  obtain ⟨N1, e1⟩ : ∃ N, newM M 45 64 64 = N := ⟨_, rfl⟩
  have b1 := (h.new e1 (c := 0) c45 (fun i => i < 64) (fun _ => False) (fun i hi => if_neg hi) (fun i _ => rfl)).mo (U' := U) (fun _ _ _ h => h) (fun _ _ _ h => h.elim id (fun h => h.2.2.elim))
  have u1 := b1.upR (f := 7) (k := 0) (i := 0) (v := some (45, cCnt M.2.2 45)) (by rw [h.2.2.1, c45]; rfl)
  obtain ⟨N2, e2⟩ : ∃ N, newM (N1.1, upR N1.2.1 7 0 0 (some (45, cCnt M.2.2 45)), N1.2.2) 46 64 64 = N := ⟨_, rfl⟩
  have b2 := (u1.new e2 (c := 0) (by rw [inc_n (by decide), c46]) (fun i => i < 64) (fun _ => False) (fun i hi => if_neg hi) (fun i _ => rfl)).mo (U' := fun f k i => U f k i ∧ ¬ (f = 7 ∧ k = 0 ∧ i = 0)) (fun _ _ _ h => h) (fun _ _ _ h => h.elim id (fun h => h.2.2.elim))
  have u2 := b2.upR (f := 7) (k := 0) (i := 1) (v := some (46, cCnt N1.2.2 46)) (by rw [b1.2.2.1, inc_n (by decide), c46]; rfl)
  have k45 : cCnt M.2.2 45 = 0 := (h.2.2.1 _).trans c45
  have k46 : cCnt N1.2.2 46 = 0 := by rw [b1.2.2.1, inc_n (by decide), c46]
  have f1 := u2.fl (f := 45) (k := 0) (n := 64) (v := 1000)
  have f2 := f1.fl (f := 46) (k := 0) (n := 64) (v := -1)
  have key : ∀ n x : Nat, n + x = 8 → ∀ N : Mem, Bu (fun f k i => W f k i ∨ (f = 45 ∧ k = 0 ∧ i < 64 ∧ i / 8 = i % 8 ∧ x ≤ i / 8)) (fun f k i => ((U f k i ∧ ¬ (f = 7 ∧ k = 0 ∧ i = 0)) ∧ ¬ (f = 7 ∧ k = 0 ∧ i = 1))) (inc (inc cn 45) 46) (nc + 1 + 1) (ns + 64 + 64) N → ∃ M', Ex l G (d + 1) mX10_init 40 [some (vR (some (7, 0))), some (vI (x : Int))] [] N none M' ∧ Bu W (fun f k i => ((U f k i ∧ ¬ (f = 7 ∧ k = 0 ∧ i = 0)) ∧ ¬ (f = 7 ∧ k = 0 ∧ i = 1))) (inc (inc cn 45) 46) (nc + 1 + 1) (ns + 64 + 64) M' := by
    intro n
    induction n with
    | zero =>
      intro x hx N hb
      refine ⟨N, xX10_init_40 ⟨fun _ => ⟨rfl, rfl⟩, fun c => absurd (by omega) c⟩, hb.mo (fun f k i hw => ?_) (fun _ _ _ h => h)⟩
      rcases hw with hw | hw
      · exact hw
      · omega
    | succ n ih =>
      intro x hx N hb
      have ht : ((x : Int) * 8 + x).toNat = 9 * x := by omega
      have hm : 9 * x / 8 = x ∧ 9 * x % 8 = x := by omega
      have hj : (0 : Int) = J0 45 0 (9 * x) := by
        show (0 : Int) = if 9 * x < 64 then (if 9 * x / 8 = 9 * x % 8 then 0 else 1000) else 0
        rw [if_pos (by omega), if_pos (by omega)]
      have b := hb.upI (f := 45) (k := 0) (i := 9 * x) (v := 0) hj
      have b' := b.mo (W' := fun f k i => W f k i ∨ (f = 45 ∧ k = 0 ∧ i < 64 ∧ i / 8 = i % 8 ∧ x + 1 ≤ i / 8)) (fun f k i hw => by
        rcases hw with ⟨hw | hw, hn⟩
        · exact .inl hw
        · exact .inr (by omega)) (fun _ _ _ h => h)
      obtain ⟨M', y1, y2⟩ := ih (x + 1) (by omega) _ b'
      refine ⟨M', xX10_init_40 ⟨fun c => by omega, fun _ => ⟨⟨by unfold InR; omega, by unfold InR; omega⟩, 0, ?_, ⟨by omega, by unfold InR; omega⟩, ?_⟩⟩, y2⟩
      · rw [hb.2.1 7 0 0 (fun h => h.1.2 ⟨rfl, rfl, rfl⟩)]; rfl
      · rw [ht]; exact y1
  have f3 := f2.mo (W' := fun f k i => W f k i ∨ (f = 45 ∧ k = 0 ∧ i < 64 ∧ i / 8 = i % 8 ∧ 0 ≤ i / 8)) (fun f k i hw => by
    rcases hw with ⟨hw, hn⟩ | ⟨rfl, rfl, h64, hv⟩
    · rcases hw with ⟨hw, hn2⟩ | ⟨rfl, rfl, h64, hv⟩
      · rcases hw with (hw | hw) | hw
        · exact .inl hw
        · exact absurd hw hn2
        · exact absurd hw hn
      · have hv2 : ¬ (1000 : Int) = if i < 64 then (if i / 8 = i % 8 then 0 else 1000) else 0 := hv
        rw [if_pos h64] at hv2
        by_cases c : i / 8 = i % 8
        · exact .inr ⟨rfl, rfl, h64, c, Nat.zero_le _⟩
        · rw [if_neg c] at hv2; exact absurd rfl hv2
    · have hv2 : ¬ (-1 : Int) = if i < 64 then -1 else 0 := hv
      rw [if_pos h64] at hv2
      exact absurd rfl hv2) (fun _ _ _ h => h)
  obtain ⟨M', y1, y2⟩ := key 8 0 rfl _ f3
  refine ⟨M', xX10_init_0 (fun Z1 g1 Z2 g2 => ?_), y2⟩
  rw [e1] at g1; subst g1
  rw [e2] at g2; subst g2
  rw [k45]
  rw [k46]
  rw [k46] at y1
  exact y1
end BU
