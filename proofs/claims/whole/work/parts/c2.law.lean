/-! the law's walk -/
set_option maxRecDepth 4000 in
theorem xL_law_0 {l : Launch} {G : Gt} {d : Nat} {M M' : Mem} {r : Option Vl}  (h : 
    (∀ M_1 : Mem, newM M 2 0 16 = M_1 → ∃ (M_2 : Mem), Cl l G d mX11_init [vR (some (2, cCnt M.2.2 2))] M_1 none M_2 ∧ (∀ M_4 : Mem, newM M_2 3 0 68 = M_4 → ∃ (M_5 : Mem), Cl l G d mX12_init [vR (some (3, cCnt M_2.2.2 3))] M_4 none M_5 ∧ Ex l G (d + 1) mL_law 18 [some (vR (some (0, 0))), some (vR (some (2, cCnt M.2.2 2))), some (vR (some (3, cCnt M_2.2.2 3))), some (vI 0)] [] M_5 r M'))) : Cl l G (d + 1) mL_law [vR (some (0, 0))] M r M' := by
  show Ex l G (d + 1) mL_law 0 [some (vR (some (0, 0))), none, none, none] [] M r M'
  refine r_new (f := 2) (ci := 11) (C := (RX11, TX11, 16)) 3 dL_law_0 rfl rfl rfl rfl (inT1 (List.mem_of_getElem? (i := 22) rfl) rfl) (inT1 (List.mem_of_getElem? (i := 23) rfl) rfl) wi_11 ?_
  generalize hM_1 : newM M 2 0 16 = M_1
  have h := h M_1 hM_1
  refine r_dup 4 dL_law_3 rfl rfl ?_
  obtain ⟨M_2, hc_3, h⟩ := h
  refine r_callI [] [vR (some (2, cCnt M.2.2 2))] 7 dL_law_4 rfl rfl rfl mo_X11_init ⟨rfl, rfl⟩ ml_NamelessPostLaw_9 rfl rfl hc_3 ?_
  refine r_astore_n (ls' := [some (vR (some (0, 0))), some (vR (some (2, cCnt M.2.2 2))), none, none]) 8 dL_law_7 rfl rfl rfl rfl ?_
  refine r_new (f := 3) (ci := 12) (C := (RX12, TX12, 68)) 11 dL_law_8 rfl rfl rfl rfl (inT5 (List.mem_of_getElem? (i := 104) rfl) rfl) (inT5 (List.mem_of_getElem? (i := 105) rfl) rfl) wi_12 ?_
  generalize hM_4 : newM M_2 3 0 68 = M_4
  have h := h M_4 hM_4
  refine r_dup 12 dL_law_11 rfl rfl ?_
  obtain ⟨M_5, hc_6, h⟩ := h
  refine r_callI [] [vR (some (3, cCnt M_2.2.2 3))] 15 dL_law_12 rfl rfl rfl mo_X12_init ⟨rfl, rfl⟩ ml_NamelessPostLaw_12 rfl rfl hc_6 ?_
  refine r_astore_n (ls' := [some (vR (some (0, 0))), some (vR (some (2, cCnt M.2.2 2))), some (vR (some (3, cCnt M_2.2.2 3))), none]) 16 dL_law_15 rfl rfl rfl rfl ?_
  refine r_iconst 17 dL_law_16 rfl (InR_of rfl) ?_
  refine r_istore_n (ls' := [some (vR (some (0, 0))), some (vR (some (2, cCnt M.2.2 2))), some (vR (some (3, cCnt M_2.2.2 3))), some (vI 0)]) 18 dL_law_17 rfl rfl rfl rfl ?_
  exact h
set_option maxRecDepth 4000 in
theorem xL_law_18 {l : Launch} {G : Gt} {d : Nat} {M M' : Mem} {r : Option Vl} {k1 : Nat} {k2 : Nat} {x3 : Int} (h : 
    (InR ((gXL G : Int) - 8)) ∧ ((((gXL G : Int) - 8) < x3 → r = some (vI 1) ∧ M' = M) ∧ (¬ (((gXL G : Int) - 8) < x3) → ((0 ≤ x3 ∧ x3 < (gXL G : Int))) ∧ (((aAnd (gXS G x3.toNat) 63) < 0 ∨ 38 < (aAnd (gXS G x3.toNat) 63) → (InR (x3 + 8)) ∧ Ex l G (d + 1) mL_law 18 [some (vR (some (0, 0))), some (vR (some (2, k1))), some (vR (some (3, k2))), some (vI (x3 + 8))] [] M r M') ∧ ((aAnd (gXS G x3.toNat) 63) = 0 → Ex l G (d + 1) mL_law 204 [some (vR (some (0, 0))), some (vR (some (2, k1))), some (vR (some (3, k2))), some (vI x3)] [] M r M') ∧ ((aAnd (gXS G x3.toNat) 63) = 1 → Ex l G (d + 1) mL_law 247 [some (vR (some (0, 0))), some (vR (some (2, k1))), some (vR (some (3, k2))), some (vI x3)] [] M r M') ∧ ((aAnd (gXS G x3.toNat) 63) = 2 → Ex l G (d + 1) mL_law 270 [some (vR (some (0, 0))), some (vR (some (2, k1))), some (vR (some (3, k2))), some (vI x3)] [] M r M') ∧ ((aAnd (gXS G x3.toNat) 63) = 3 → Ex l G (d + 1) mL_law 361 [some (vR (some (0, 0))), some (vR (some (2, k1))), some (vR (some (3, k2))), some (vI x3)] [] M r M') ∧ ((aAnd (gXS G x3.toNat) 63) = 4 → Ex l G (d + 1) mL_law 420 [some (vR (some (0, 0))), some (vR (some (2, k1))), some (vR (some (3, k2))), some (vI x3)] [] M r M') ∧ ((aAnd (gXS G x3.toNat) 63) = 5 → Ex l G (d + 1) mL_law 453 [some (vR (some (0, 0))), some (vR (some (2, k1))), some (vR (some (3, k2))), some (vI x3)] [] M r M') ∧ ((aAnd (gXS G x3.toNat) 63) = 6 → Ex l G (d + 1) mL_law 516 [some (vR (some (0, 0))), some (vR (some (2, k1))), some (vR (some (3, k2))), some (vI x3)] [] M r M') ∧ ((aAnd (gXS G x3.toNat) 63) = 7 → Ex l G (d + 1) mL_law 539 [some (vR (some (0, 0))), some (vR (some (2, k1))), some (vR (some (3, k2))), some (vI x3)] [] M r M') ∧ ((aAnd (gXS G x3.toNat) 63) = 8 → Ex l G (d + 1) mL_law 552 [some (vR (some (0, 0))), some (vR (some (2, k1))), some (vR (some (3, k2))), some (vI x3)] [] M r M') ∧ ((aAnd (gXS G x3.toNat) 63) = 9 → Ex l G (d + 1) mL_law 585 [some (vR (some (0, 0))), some (vR (some (2, k1))), some (vR (some (3, k2))), some (vI x3)] [] M r M') ∧ ((aAnd (gXS G x3.toNat) 63) = 10 → Ex l G (d + 1) mL_law 628 [some (vR (some (0, 0))), some (vR (some (2, k1))), some (vR (some (3, k2))), some (vI x3)] [] M r M') ∧ ((aAnd (gXS G x3.toNat) 63) = 11 → Ex l G (d + 1) mL_law 661 [some (vR (some (0, 0))), some (vR (some (2, k1))), some (vR (some (3, k2))), some (vI x3)] [] M r M') ∧ ((aAnd (gXS G x3.toNat) 63) = 12 → Ex l G (d + 1) mL_law 694 [some (vR (some (0, 0))), some (vR (some (2, k1))), some (vR (some (3, k2))), some (vI x3)] [] M r M') ∧ ((aAnd (gXS G x3.toNat) 63) = 13 → Ex l G (d + 1) mL_law 727 [some (vR (some (0, 0))), some (vR (some (2, k1))), some (vR (some (3, k2))), some (vI x3)] [] M r M') ∧ ((aAnd (gXS G x3.toNat) 63) = 14 → Ex l G (d + 1) mL_law 790 [some (vR (some (0, 0))), some (vR (some (2, k1))), some (vR (some (3, k2))), some (vI x3)] [] M r M') ∧ ((aAnd (gXS G x3.toNat) 63) = 15 → Ex l G (d + 1) mL_law 865 [some (vR (some (0, 0))), some (vR (some (2, k1))), some (vR (some (3, k2))), some (vI x3)] [] M r M') ∧ ((aAnd (gXS G x3.toNat) 63) = 16 → Ex l G (d + 1) mL_law 918 [some (vR (some (0, 0))), some (vR (some (2, k1))), some (vR (some (3, k2))), some (vI x3)] [] M r M') ∧ ((aAnd (gXS G x3.toNat) 63) = 17 → Ex l G (d + 1) mL_law 971 [some (vR (some (0, 0))), some (vR (some (2, k1))), some (vR (some (3, k2))), some (vI x3)] [] M r M') ∧ ((aAnd (gXS G x3.toNat) 63) = 18 → Ex l G (d + 1) mL_law 994 [some (vR (some (0, 0))), some (vR (some (2, k1))), some (vR (some (3, k2))), some (vI x3)] [] M r M') ∧ ((aAnd (gXS G x3.toNat) 63) = 19 → Ex l G (d + 1) mL_law 1027 [some (vR (some (0, 0))), some (vR (some (2, k1))), some (vR (some (3, k2))), some (vI x3)] [] M r M') ∧ ((aAnd (gXS G x3.toNat) 63) = 20 → Ex l G (d + 1) mL_law 1102 [some (vR (some (0, 0))), some (vR (some (2, k1))), some (vR (some (3, k2))), some (vI x3)] [] M r M') ∧ ((aAnd (gXS G x3.toNat) 63) = 21 → Ex l G (d + 1) mL_law 1155 [some (vR (some (0, 0))), some (vR (some (2, k1))), some (vR (some (3, k2))), some (vI x3)] [] M r M') ∧ ((aAnd (gXS G x3.toNat) 63) = 22 → Ex l G (d + 1) mL_law 1178 [some (vR (some (0, 0))), some (vR (some (2, k1))), some (vR (some (3, k2))), some (vI x3)] [] M r M') ∧ ((aAnd (gXS G x3.toNat) 63) = 23 → Ex l G (d + 1) mL_law 1231 [some (vR (some (0, 0))), some (vR (some (2, k1))), some (vR (some (3, k2))), some (vI x3)] [] M r M') ∧ ((aAnd (gXS G x3.toNat) 63) = 24 → Ex l G (d + 1) mL_law 1294 [some (vR (some (0, 0))), some (vR (some (2, k1))), some (vR (some (3, k2))), some (vI x3)] [] M r M') ∧ ((aAnd (gXS G x3.toNat) 63) = 25 → Ex l G (d + 1) mL_law 1337 [some (vR (some (0, 0))), some (vR (some (2, k1))), some (vR (some (3, k2))), some (vI x3)] [] M r M') ∧ ((aAnd (gXS G x3.toNat) 63) = 26 → Ex l G (d + 1) mL_law 1400 [some (vR (some (0, 0))), some (vR (some (2, k1))), some (vR (some (3, k2))), some (vI x3)] [] M r M') ∧ ((aAnd (gXS G x3.toNat) 63) = 27 → Ex l G (d + 1) mL_law 1475 [some (vR (some (0, 0))), some (vR (some (2, k1))), some (vR (some (3, k2))), some (vI x3)] [] M r M') ∧ ((aAnd (gXS G x3.toNat) 63) = 28 → Ex l G (d + 1) mL_law 1528 [some (vR (some (0, 0))), some (vR (some (2, k1))), some (vR (some (3, k2))), some (vI x3)] [] M r M') ∧ ((aAnd (gXS G x3.toNat) 63) = 29 → Ex l G (d + 1) mL_law 1571 [some (vR (some (0, 0))), some (vR (some (2, k1))), some (vR (some (3, k2))), some (vI x3)] [] M r M') ∧ ((aAnd (gXS G x3.toNat) 63) = 30 → Ex l G (d + 1) mL_law 1614 [some (vR (some (0, 0))), some (vR (some (2, k1))), some (vR (some (3, k2))), some (vI x3)] [] M r M') ∧ ((aAnd (gXS G x3.toNat) 63) = 31 → Ex l G (d + 1) mL_law 1667 [some (vR (some (0, 0))), some (vR (some (2, k1))), some (vR (some (3, k2))), some (vI x3)] [] M r M') ∧ ((aAnd (gXS G x3.toNat) 63) = 32 → Ex l G (d + 1) mL_law 1700 [some (vR (some (0, 0))), some (vR (some (2, k1))), some (vR (some (3, k2))), some (vI x3)] [] M r M') ∧ ((aAnd (gXS G x3.toNat) 63) = 33 → Ex l G (d + 1) mL_law 1723 [some (vR (some (0, 0))), some (vR (some (2, k1))), some (vR (some (3, k2))), some (vI x3)] [] M r M') ∧ ((aAnd (gXS G x3.toNat) 63) = 34 → Ex l G (d + 1) mL_law 1746 [some (vR (some (0, 0))), some (vR (some (2, k1))), some (vR (some (3, k2))), some (vI x3)] [] M r M') ∧ ((aAnd (gXS G x3.toNat) 63) = 35 → Ex l G (d + 1) mL_law 1833 [some (vR (some (0, 0))), some (vR (some (2, k1))), some (vR (some (3, k2))), some (vI x3)] [] M r M') ∧ ((aAnd (gXS G x3.toNat) 63) = 36 → Ex l G (d + 1) mL_law 1846 [some (vR (some (0, 0))), some (vR (some (2, k1))), some (vR (some (3, k2))), some (vI x3)] [] M r M') ∧ ((aAnd (gXS G x3.toNat) 63) = 37 → Ex l G (d + 1) mL_law 1869 [some (vR (some (0, 0))), some (vR (some (2, k1))), some (vR (some (3, k2))), some (vI x3)] [] M r M') ∧ ((aAnd (gXS G x3.toNat) 63) = 38 → Ex l G (d + 1) mL_law 1892 [some (vR (some (0, 0))), some (vR (some (2, k1))), some (vR (some (3, k2))), some (vI x3)] [] M r M'))))) : Ex l G (d + 1) mL_law 18 [some (vR (some (0, 0))), some (vR (some (2, k1))), some (vR (some (3, k2))), some (vI x3)] [] M r M' := by
  obtain ⟨o_1, h⟩ := h
  refine r_iload_n 19 dL_law_18 rfl rfl ?_
  refine r_aload_n 20 dL_law_19 rfl rfl ?_
  refine r_slen 21 dL_law_20 rfl rfl ?_
  refine r_bipush 23 dL_law_21 rfl rfl ?_
  refine r_isub 24 dL_law_23 rfl o_1 ?_
  refine r_icmp_gt 27 1921 dL_law_24 rfl rfl (fun c => ?_) (fun c => ?_)
  · have h := h.1 (c)
    refine r_iconst 1922 dL_law_1921 rfl (InR_of rfl) ?_
    exact r_iret dL_law_1922 rfl (.inr ⟨rfl, (.inr rfl)⟩) h.1 h.2
  · have h := h.2 (c)
    obtain ⟨o_2, h⟩ := h
    refine r_aload_n 28 dL_law_27 rfl rfl ?_
    refine r_iload_n 29 dL_law_28 rfl rfl ?_
    refine r_sald 30 dL_law_29 rfl rfl o_2 ?_
    refine r_bipush 32 dL_law_30 rfl rfl ?_
    refine r_iand 33 dL_law_32 rfl ?_
    by_cases hsw : (aAnd (gXS G x3.toNat) 63) < 0 ∨ 38 < (aAnd (gXS G x3.toNat) 63)
    · have h := h.1 hsw
      refine r_tswOut 1915 dL_law_33 hsw rfl ?_
      obtain ⟨o_3, h⟩ := h
      refine r_iinc (ls' := [some (vR (some (0, 0))), some (vR (some (2, k1))), some (vR (some (3, k2))), some (vI (x3 + 8))]) 1918 dL_law_1915 rfl rfl rfl rfl o_3 rfl ?_
      refine r_goto 18 dL_law_1918 rfl ?_
      exact h
    · have hsw2 : (aAnd (gXS G x3.toNat) 63) = 0 ∨ (aAnd (gXS G x3.toNat) 63) = 1 ∨ (aAnd (gXS G x3.toNat) 63) = 2 ∨ (aAnd (gXS G x3.toNat) 63) = 3 ∨ (aAnd (gXS G x3.toNat) 63) = 4 ∨ (aAnd (gXS G x3.toNat) 63) = 5 ∨ (aAnd (gXS G x3.toNat) 63) = 6 ∨ (aAnd (gXS G x3.toNat) 63) = 7 ∨ (aAnd (gXS G x3.toNat) 63) = 8 ∨ (aAnd (gXS G x3.toNat) 63) = 9 ∨ (aAnd (gXS G x3.toNat) 63) = 10 ∨ (aAnd (gXS G x3.toNat) 63) = 11 ∨ (aAnd (gXS G x3.toNat) 63) = 12 ∨ (aAnd (gXS G x3.toNat) 63) = 13 ∨ (aAnd (gXS G x3.toNat) 63) = 14 ∨ (aAnd (gXS G x3.toNat) 63) = 15 ∨ (aAnd (gXS G x3.toNat) 63) = 16 ∨ (aAnd (gXS G x3.toNat) 63) = 17 ∨ (aAnd (gXS G x3.toNat) 63) = 18 ∨ (aAnd (gXS G x3.toNat) 63) = 19 ∨ (aAnd (gXS G x3.toNat) 63) = 20 ∨ (aAnd (gXS G x3.toNat) 63) = 21 ∨ (aAnd (gXS G x3.toNat) 63) = 22 ∨ (aAnd (gXS G x3.toNat) 63) = 23 ∨ (aAnd (gXS G x3.toNat) 63) = 24 ∨ (aAnd (gXS G x3.toNat) 63) = 25 ∨ (aAnd (gXS G x3.toNat) 63) = 26 ∨ (aAnd (gXS G x3.toNat) 63) = 27 ∨ (aAnd (gXS G x3.toNat) 63) = 28 ∨ (aAnd (gXS G x3.toNat) 63) = 29 ∨ (aAnd (gXS G x3.toNat) 63) = 30 ∨ (aAnd (gXS G x3.toNat) 63) = 31 ∨ (aAnd (gXS G x3.toNat) 63) = 32 ∨ (aAnd (gXS G x3.toNat) 63) = 33 ∨ (aAnd (gXS G x3.toNat) 63) = 34 ∨ (aAnd (gXS G x3.toNat) 63) = 35 ∨ (aAnd (gXS G x3.toNat) 63) = 36 ∨ (aAnd (gXS G x3.toNat) 63) = 37 ∨ (aAnd (gXS G x3.toNat) 63) = 38 := by omega
      rcases hsw2 with c | c | c | c | c | c | c | c | c | c | c | c | c | c | c | c | c | c | c | c | c | c | c | c | c | c | c | c | c | c | c | c | c | c | c | c | c | c | c
      · have h := h.2.1 c
        refine r_tswIn 204 dL_law_33 0 c rfl rfl rfl ?_
        exact h
      · have h := h.2.2.1 c
        refine r_tswIn 247 dL_law_33 1 c rfl rfl rfl ?_
        exact h
      · have h := h.2.2.2.1 c
        refine r_tswIn 270 dL_law_33 2 c rfl rfl rfl ?_
        exact h
      · have h := h.2.2.2.2.1 c
        refine r_tswIn 361 dL_law_33 3 c rfl rfl rfl ?_
        exact h
      · have h := h.2.2.2.2.2.1 c
        refine r_tswIn 420 dL_law_33 4 c rfl rfl rfl ?_
        exact h
      · have h := h.2.2.2.2.2.2.1 c
        refine r_tswIn 453 dL_law_33 5 c rfl rfl rfl ?_
        exact h
      · have h := h.2.2.2.2.2.2.2.1 c
        refine r_tswIn 516 dL_law_33 6 c rfl rfl rfl ?_
        exact h
      · have h := h.2.2.2.2.2.2.2.2.1 c
        refine r_tswIn 539 dL_law_33 7 c rfl rfl rfl ?_
        exact h
      · have h := h.2.2.2.2.2.2.2.2.2.1 c
        refine r_tswIn 552 dL_law_33 8 c rfl rfl rfl ?_
        exact h
      · have h := h.2.2.2.2.2.2.2.2.2.2.1 c
        refine r_tswIn 585 dL_law_33 9 c rfl rfl rfl ?_
        exact h
      · have h := h.2.2.2.2.2.2.2.2.2.2.2.1 c
        refine r_tswIn 628 dL_law_33 10 c rfl rfl rfl ?_
        exact h
      · have h := h.2.2.2.2.2.2.2.2.2.2.2.2.1 c
        refine r_tswIn 661 dL_law_33 11 c rfl rfl rfl ?_
        exact h
      · have h := h.2.2.2.2.2.2.2.2.2.2.2.2.2.1 c
        refine r_tswIn 694 dL_law_33 12 c rfl rfl rfl ?_
        exact h
      · have h := h.2.2.2.2.2.2.2.2.2.2.2.2.2.2.1 c
        refine r_tswIn 727 dL_law_33 13 c rfl rfl rfl ?_
        exact h
      · have h := h.2.2.2.2.2.2.2.2.2.2.2.2.2.2.2.1 c
        refine r_tswIn 790 dL_law_33 14 c rfl rfl rfl ?_
        exact h
      · have h := h.2.2.2.2.2.2.2.2.2.2.2.2.2.2.2.2.1 c
        refine r_tswIn 865 dL_law_33 15 c rfl rfl rfl ?_
        exact h
      · have h := h.2.2.2.2.2.2.2.2.2.2.2.2.2.2.2.2.2.1 c
        refine r_tswIn 918 dL_law_33 16 c rfl rfl rfl ?_
        exact h
      · have h := h.2.2.2.2.2.2.2.2.2.2.2.2.2.2.2.2.2.2.1 c
        refine r_tswIn 971 dL_law_33 17 c rfl rfl rfl ?_
        exact h
      · have h := h.2.2.2.2.2.2.2.2.2.2.2.2.2.2.2.2.2.2.2.1 c
        refine r_tswIn 994 dL_law_33 18 c rfl rfl rfl ?_
        exact h
      · have h := h.2.2.2.2.2.2.2.2.2.2.2.2.2.2.2.2.2.2.2.2.1 c
        refine r_tswIn 1027 dL_law_33 19 c rfl rfl rfl ?_
        exact h
      · have h := h.2.2.2.2.2.2.2.2.2.2.2.2.2.2.2.2.2.2.2.2.2.1 c
        refine r_tswIn 1102 dL_law_33 20 c rfl rfl rfl ?_
        exact h
      · have h := h.2.2.2.2.2.2.2.2.2.2.2.2.2.2.2.2.2.2.2.2.2.2.1 c
        refine r_tswIn 1155 dL_law_33 21 c rfl rfl rfl ?_
        exact h
      · have h := h.2.2.2.2.2.2.2.2.2.2.2.2.2.2.2.2.2.2.2.2.2.2.2.1 c
        refine r_tswIn 1178 dL_law_33 22 c rfl rfl rfl ?_
        exact h
      · have h := h.2.2.2.2.2.2.2.2.2.2.2.2.2.2.2.2.2.2.2.2.2.2.2.2.1 c
        refine r_tswIn 1231 dL_law_33 23 c rfl rfl rfl ?_
        exact h
      · have h := h.2.2.2.2.2.2.2.2.2.2.2.2.2.2.2.2.2.2.2.2.2.2.2.2.2.1 c
        refine r_tswIn 1294 dL_law_33 24 c rfl rfl rfl ?_
        exact h
      · have h := h.2.2.2.2.2.2.2.2.2.2.2.2.2.2.2.2.2.2.2.2.2.2.2.2.2.2.1 c
        refine r_tswIn 1337 dL_law_33 25 c rfl rfl rfl ?_
        exact h
      · have h := h.2.2.2.2.2.2.2.2.2.2.2.2.2.2.2.2.2.2.2.2.2.2.2.2.2.2.2.1 c
        refine r_tswIn 1400 dL_law_33 26 c rfl rfl rfl ?_
        exact h
      · have h := h.2.2.2.2.2.2.2.2.2.2.2.2.2.2.2.2.2.2.2.2.2.2.2.2.2.2.2.2.1 c
        refine r_tswIn 1475 dL_law_33 27 c rfl rfl rfl ?_
        exact h
      · have h := h.2.2.2.2.2.2.2.2.2.2.2.2.2.2.2.2.2.2.2.2.2.2.2.2.2.2.2.2.2.1 c
        refine r_tswIn 1528 dL_law_33 28 c rfl rfl rfl ?_
        exact h
      · have h := h.2.2.2.2.2.2.2.2.2.2.2.2.2.2.2.2.2.2.2.2.2.2.2.2.2.2.2.2.2.2.1 c
        refine r_tswIn 1571 dL_law_33 29 c rfl rfl rfl ?_
        exact h
      · have h := h.2.2.2.2.2.2.2.2.2.2.2.2.2.2.2.2.2.2.2.2.2.2.2.2.2.2.2.2.2.2.2.1 c
        refine r_tswIn 1614 dL_law_33 30 c rfl rfl rfl ?_
        exact h
      · have h := h.2.2.2.2.2.2.2.2.2.2.2.2.2.2.2.2.2.2.2.2.2.2.2.2.2.2.2.2.2.2.2.2.1 c
        refine r_tswIn 1667 dL_law_33 31 c rfl rfl rfl ?_
        exact h
      · have h := h.2.2.2.2.2.2.2.2.2.2.2.2.2.2.2.2.2.2.2.2.2.2.2.2.2.2.2.2.2.2.2.2.2.1 c
        refine r_tswIn 1700 dL_law_33 32 c rfl rfl rfl ?_
        exact h
      · have h := h.2.2.2.2.2.2.2.2.2.2.2.2.2.2.2.2.2.2.2.2.2.2.2.2.2.2.2.2.2.2.2.2.2.2.1 c
        refine r_tswIn 1723 dL_law_33 33 c rfl rfl rfl ?_
        exact h
      · have h := h.2.2.2.2.2.2.2.2.2.2.2.2.2.2.2.2.2.2.2.2.2.2.2.2.2.2.2.2.2.2.2.2.2.2.2.1 c
        refine r_tswIn 1746 dL_law_33 34 c rfl rfl rfl ?_
        exact h
      · have h := h.2.2.2.2.2.2.2.2.2.2.2.2.2.2.2.2.2.2.2.2.2.2.2.2.2.2.2.2.2.2.2.2.2.2.2.2.1 c
        refine r_tswIn 1833 dL_law_33 35 c rfl rfl rfl ?_
        exact h
      · have h := h.2.2.2.2.2.2.2.2.2.2.2.2.2.2.2.2.2.2.2.2.2.2.2.2.2.2.2.2.2.2.2.2.2.2.2.2.2.1 c
        refine r_tswIn 1846 dL_law_33 36 c rfl rfl rfl ?_
        exact h
      · have h := h.2.2.2.2.2.2.2.2.2.2.2.2.2.2.2.2.2.2.2.2.2.2.2.2.2.2.2.2.2.2.2.2.2.2.2.2.2.2.1 c
        refine r_tswIn 1869 dL_law_33 37 c rfl rfl rfl ?_
        exact h
      · have h := h.2.2.2.2.2.2.2.2.2.2.2.2.2.2.2.2.2.2.2.2.2.2.2.2.2.2.2.2.2.2.2.2.2.2.2.2.2.2.2 c
        refine r_tswIn 1892 dL_law_33 38 c rfl rfl rfl ?_
        exact h
set_option maxRecDepth 4000 in
theorem xL_law_204 {l : Launch} {G : Gt} {d : Nat} {M M' : Mem} {r : Option Vl} {k1 : Nat} {k2 : Nat} {x3 : Int} (h : 
    (InR (x3 + 1) ∧ (0 ≤ (x3 + 1) ∧ (x3 + 1) < (gXL G : Int)) ∧ InR (x3 + 2) ∧ (0 ≤ (x3 + 2) ∧ (x3 + 2) < (gXL G : Int)) ∧ InR (x3 + 3) ∧ (0 ≤ (x3 + 3) ∧ (x3 + 3) < (gXL G : Int))) ∧ (∃ (r_9 : Int) (M_7 : Mem), Cl l G d mX11_road [vR (some (2, k1)), vI (gXS G (x3 + 1).toNat), vI (gXS G (x3 + 2).toNat), vI (gXS G (x3 + 3).toNat)] M (some (vI r_9)) M_7 ∧ ((InR (x3 + 1) ∧ (0 ≤ (x3 + 1) ∧ (x3 + 1) < (gXL G : Int)) ∧ InR (x3 + 2) ∧ (0 ≤ (x3 + 2) ∧ (x3 + 2) < (gXL G : Int)) ∧ InR (x3 + 3) ∧ (0 ≤ (x3 + 3) ∧ (x3 + 3) < (gXL G : Int))) ∧ (∃ (r_18 : Int) (M_16 : Mem), Cl l G d mX12_road [vR (some (3, k2)), vI (gXS G (x3 + 1).toNat), vI (gXS G (x3 + 2).toNat), vI (gXS G (x3 + 3).toNat)] M_7 (some (vI r_18)) M_16 ∧ ((r_9 = r_18 → (InR (x3 + 8)) ∧ Ex l G (d + 1) mL_law 18 [some (vR (some (0, 0))), some (vR (some (2, k1))), some (vR (some (3, k2))), some (vI (x3 + 8))] [] M_16 r M') ∧ (¬ (r_9 = r_18) → r = some (vI 0) ∧ M' = M_16)))))) : Ex l G (d + 1) mL_law 204 [some (vR (some (0, 0))), some (vR (some (2, k1))), some (vR (some (3, k2))), some (vI x3)] [] M r M' := by
  obtain ⟨⟨o_1, o_2, o_3, o_4, o_5, o_6⟩, h⟩ := h
  refine r_aload_n 205 dL_law_204 rfl rfl ?_
  refine r_aload_n 206 dL_law_205 rfl rfl ?_
  refine r_iload_n 207 dL_law_206 rfl rfl ?_
  refine r_iconst 208 dL_law_207 rfl (InR_of rfl) ?_
  refine r_iadd 209 dL_law_208 rfl o_1 ?_
  refine r_sald 210 dL_law_209 rfl rfl o_2 ?_
  refine r_aload_n 211 dL_law_210 rfl rfl ?_
  refine r_iload_n 212 dL_law_211 rfl rfl ?_
  refine r_iconst 213 dL_law_212 rfl (InR_of rfl) ?_
  refine r_iadd 214 dL_law_213 rfl o_3 ?_
  refine r_sald 215 dL_law_214 rfl rfl o_4 ?_
  refine r_aload_n 216 dL_law_215 rfl rfl ?_
  refine r_iload_n 217 dL_law_216 rfl rfl ?_
  refine r_iconst 218 dL_law_217 rfl (InR_of rfl) ?_
  refine r_iadd 219 dL_law_218 rfl o_5 ?_
  refine r_sald 220 dL_law_219 rfl rfl o_6 ?_
  obtain ⟨r_9, M_7, hc_8, h⟩ := h
  refine v_1 (ci := 11) (C := (RX11, TX11, 16)) [vI (gXS G (x3 + 1).toNat), vI (gXS G (x3 + 2).toNat), vI (gXS G (x3 + 3).toNat)] [] 223 dL_law_220 rfl rfl rfl rfl rfl mo_X11_road ml_NamelessPostLaw_13 rfl rfl hc_8 ?_
  obtain ⟨⟨o_10, o_11, o_12, o_13, o_14, o_15⟩, h⟩ := h
  refine r_aload_n 224 dL_law_223 rfl rfl ?_
  refine r_aload_n 225 dL_law_224 rfl rfl ?_
  refine r_iload_n 226 dL_law_225 rfl rfl ?_
  refine r_iconst 227 dL_law_226 rfl (InR_of rfl) ?_
  refine r_iadd 228 dL_law_227 rfl o_10 ?_
  refine r_sald 229 dL_law_228 rfl rfl o_11 ?_
  refine r_aload_n 230 dL_law_229 rfl rfl ?_
  refine r_iload_n 231 dL_law_230 rfl rfl ?_
  refine r_iconst 232 dL_law_231 rfl (InR_of rfl) ?_
  refine r_iadd 233 dL_law_232 rfl o_12 ?_
  refine r_sald 234 dL_law_233 rfl rfl o_13 ?_
  refine r_aload_n 235 dL_law_234 rfl rfl ?_
  refine r_iload_n 236 dL_law_235 rfl rfl ?_
  refine r_iconst 237 dL_law_236 rfl (InR_of rfl) ?_
  refine r_iadd 238 dL_law_237 rfl o_14 ?_
  refine r_sald 239 dL_law_238 rfl rfl o_15 ?_
  obtain ⟨r_18, M_16, hc_17, h⟩ := h
  refine v_1 (ci := 12) (C := (RX12, TX12, 68)) [vI (gXS G (x3 + 1).toNat), vI (gXS G (x3 + 2).toNat), vI (gXS G (x3 + 3).toNat)] [vI r_9] 242 dL_law_239 rfl rfl rfl rfl rfl mo_X12_road ml_NamelessPostLaw_17 rfl rfl hc_17 ?_
  refine r_icmp_eq 245 1915 dL_law_242 rfl rfl (fun c => ?_) (fun c => ?_)
  · have h := h.1 (c)
    obtain ⟨o_19, h⟩ := h
    refine r_iinc (ls' := [some (vR (some (0, 0))), some (vR (some (2, k1))), some (vR (some (3, k2))), some (vI (x3 + 8))]) 1918 dL_law_1915 rfl rfl rfl rfl o_19 rfl ?_
    refine r_goto 18 dL_law_1918 rfl ?_
    exact h
  · have h := h.2 (c)
    refine r_iconst 246 dL_law_245 rfl (InR_of rfl) ?_
    exact r_iret dL_law_246 rfl (.inr ⟨rfl, (.inl rfl)⟩) h.1 h.2
set_option maxRecDepth 4000 in
theorem xL_law_247 {l : Launch} {G : Gt} {d : Nat} {M M' : Mem} {r : Option Vl} {k1 : Nat} {k2 : Nat} {x3 : Int} (h : 
    (InR (x3 + 1) ∧ (0 ≤ (x3 + 1) ∧ (x3 + 1) < (gXL G : Int))) ∧ (∃ (r_5 : Int) (M_3 : Mem), Cl l G d mX11_person [vR (some (2, k1)), vI (gXS G (x3 + 1).toNat)] M (some (vI r_5)) M_3 ∧ ((InR (x3 + 1) ∧ (0 ≤ (x3 + 1) ∧ (x3 + 1) < (gXL G : Int))) ∧ (∃ (r_10 : Int) (M_8 : Mem), Cl l G d mX12_person [vR (some (3, k2)), vI (gXS G (x3 + 1).toNat)] M_3 (some (vI r_10)) M_8 ∧ ((r_5 = r_10 → (InR (x3 + 8)) ∧ Ex l G (d + 1) mL_law 18 [some (vR (some (0, 0))), some (vR (some (2, k1))), some (vR (some (3, k2))), some (vI (x3 + 8))] [] M_8 r M') ∧ (¬ (r_5 = r_10) → r = some (vI 0) ∧ M' = M_8)))))) : Ex l G (d + 1) mL_law 247 [some (vR (some (0, 0))), some (vR (some (2, k1))), some (vR (some (3, k2))), some (vI x3)] [] M r M' := by
  obtain ⟨⟨o_1, o_2⟩, h⟩ := h
  refine r_aload_n 248 dL_law_247 rfl rfl ?_
  refine r_aload_n 249 dL_law_248 rfl rfl ?_
  refine r_iload_n 250 dL_law_249 rfl rfl ?_
  refine r_iconst 251 dL_law_250 rfl (InR_of rfl) ?_
  refine r_iadd 252 dL_law_251 rfl o_1 ?_
  refine r_sald 253 dL_law_252 rfl rfl o_2 ?_
  obtain ⟨r_5, M_3, hc_4, h⟩ := h
  refine v_1 (ci := 11) (C := (RX11, TX11, 16)) [vI (gXS G (x3 + 1).toNat)] [] 256 dL_law_253 rfl rfl rfl rfl rfl mo_X11_person ml_NamelessPostLaw_18 rfl rfl hc_4 ?_
  obtain ⟨⟨o_6, o_7⟩, h⟩ := h
  refine r_aload_n 257 dL_law_256 rfl rfl ?_
  refine r_aload_n 258 dL_law_257 rfl rfl ?_
  refine r_iload_n 259 dL_law_258 rfl rfl ?_
  refine r_iconst 260 dL_law_259 rfl (InR_of rfl) ?_
  refine r_iadd 261 dL_law_260 rfl o_6 ?_
  refine r_sald 262 dL_law_261 rfl rfl o_7 ?_
  obtain ⟨r_10, M_8, hc_9, h⟩ := h
  refine v_1 (ci := 12) (C := (RX12, TX12, 68)) [vI (gXS G (x3 + 1).toNat)] [vI r_5] 265 dL_law_262 rfl rfl rfl rfl rfl mo_X12_person ml_NamelessPostLaw_22 rfl rfl hc_9 ?_
  refine r_icmp_eq 268 1915 dL_law_265 rfl rfl (fun c => ?_) (fun c => ?_)
  · have h := h.1 (c)
    obtain ⟨o_11, h⟩ := h
    refine r_iinc (ls' := [some (vR (some (0, 0))), some (vR (some (2, k1))), some (vR (some (3, k2))), some (vI (x3 + 8))]) 1918 dL_law_1915 rfl rfl rfl rfl o_11 rfl ?_
    refine r_goto 18 dL_law_1918 rfl ?_
    exact h
  · have h := h.2 (c)
    refine r_iconst 269 dL_law_268 rfl (InR_of rfl) ?_
    exact r_iret dL_law_269 rfl (.inr ⟨rfl, (.inl rfl)⟩) h.1 h.2
set_option maxRecDepth 4000 in
theorem xL_law_270 {l : Launch} {G : Gt} {d : Nat} {M M' : Mem} {r : Option Vl} {k1 : Nat} {k2 : Nat} {x3 : Int} (h : 
    (InR (x3 + 1) ∧ (0 ≤ (x3 + 1) ∧ (x3 + 1) < (gXL G : Int)) ∧ InR (x3 + 2) ∧ (0 ≤ (x3 + 2) ∧ (x3 + 2) < (gXL G : Int)) ∧ InR (x3 + 3) ∧ (0 ≤ (x3 + 3) ∧ (x3 + 3) < (gXL G : Int)) ∧ InR (x3 + 4) ∧ (0 ≤ (x3 + 4) ∧ (x3 + 4) < (gXL G : Int)) ∧ InR (x3 + 5) ∧ (0 ≤ (x3 + 5) ∧ (x3 + 5) < (gXL G : Int)) ∧ InR (x3 + 6) ∧ (0 ≤ (x3 + 6) ∧ (x3 + 6) < (gXL G : Int))) ∧ (∃ (r_17 : Int) (M_15 : Mem), Cl l G d mX11_change [vR (some (2, k1)), vI (gXS G (x3 + 1).toNat), vI (gXS G (x3 + 2).toNat), vI (gXS G (x3 + 3).toNat), vI (gXS G (x3 + 4).toNat), vI (gXS G (x3 + 5).toNat), vI (if (gXS G (x3 + 6).toNat) = 0 then 0 else 1 : Int)] M (some (vI r_17)) M_15 ∧ ((InR (x3 + 1) ∧ (0 ≤ (x3 + 1) ∧ (x3 + 1) < (gXL G : Int)) ∧ InR (x3 + 2) ∧ (0 ≤ (x3 + 2) ∧ (x3 + 2) < (gXL G : Int)) ∧ InR (x3 + 3) ∧ (0 ≤ (x3 + 3) ∧ (x3 + 3) < (gXL G : Int)) ∧ InR (x3 + 4) ∧ (0 ≤ (x3 + 4) ∧ (x3 + 4) < (gXL G : Int)) ∧ InR (x3 + 5) ∧ (0 ≤ (x3 + 5) ∧ (x3 + 5) < (gXL G : Int)) ∧ InR (x3 + 6) ∧ (0 ≤ (x3 + 6) ∧ (x3 + 6) < (gXL G : Int))) ∧ (∃ (r_34 : Int) (M_32 : Mem), Cl l G d mX12_change [vR (some (3, k2)), vI (gXS G (x3 + 1).toNat), vI (gXS G (x3 + 2).toNat), vI (gXS G (x3 + 3).toNat), vI (gXS G (x3 + 4).toNat), vI (gXS G (x3 + 5).toNat), vI (if (gXS G (x3 + 6).toNat) = 0 then 0 else 1 : Int)] M_15 (some (vI r_34)) M_32 ∧ ((r_17 = r_34 → (InR (x3 + 8)) ∧ Ex l G (d + 1) mL_law 18 [some (vR (some (0, 0))), some (vR (some (2, k1))), some (vR (some (3, k2))), some (vI (x3 + 8))] [] M_32 r M') ∧ (¬ (r_17 = r_34) → r = some (vI 0) ∧ M' = M_32)))))) : Ex l G (d + 1) mL_law 270 [some (vR (some (0, 0))), some (vR (some (2, k1))), some (vR (some (3, k2))), some (vI x3)] [] M r M' := by
  obtain ⟨⟨o_1, o_2, o_3, o_4, o_5, o_6, o_7, o_8, o_9, o_10, o_11, o_12⟩, h⟩ := h
  refine r_aload_n 271 dL_law_270 rfl rfl ?_
  refine r_aload_n 272 dL_law_271 rfl rfl ?_
  refine r_iload_n 273 dL_law_272 rfl rfl ?_
  refine r_iconst 274 dL_law_273 rfl (InR_of rfl) ?_
  refine r_iadd 275 dL_law_274 rfl o_1 ?_
  refine r_sald 276 dL_law_275 rfl rfl o_2 ?_
  refine r_aload_n 277 dL_law_276 rfl rfl ?_
  refine r_iload_n 278 dL_law_277 rfl rfl ?_
  refine r_iconst 279 dL_law_278 rfl (InR_of rfl) ?_
  refine r_iadd 280 dL_law_279 rfl o_3 ?_
  refine r_sald 281 dL_law_280 rfl rfl o_4 ?_
  refine r_aload_n 282 dL_law_281 rfl rfl ?_
  refine r_iload_n 283 dL_law_282 rfl rfl ?_
  refine r_iconst 284 dL_law_283 rfl (InR_of rfl) ?_
  refine r_iadd 285 dL_law_284 rfl o_5 ?_
  refine r_sald 286 dL_law_285 rfl rfl o_6 ?_
  refine r_aload_n 287 dL_law_286 rfl rfl ?_
  refine r_iload_n 288 dL_law_287 rfl rfl ?_
  refine r_iconst 289 dL_law_288 rfl (InR_of rfl) ?_
  refine r_iadd 290 dL_law_289 rfl o_7 ?_
  refine r_sald 291 dL_law_290 rfl rfl o_8 ?_
  refine r_aload_n 292 dL_law_291 rfl rfl ?_
  refine r_iload_n 293 dL_law_292 rfl rfl ?_
  refine r_iconst 294 dL_law_293 rfl (InR_of rfl) ?_
  refine r_iadd 295 dL_law_294 rfl o_9 ?_
  refine r_sald 296 dL_law_295 rfl rfl o_10 ?_
  refine r_aload_n 297 dL_law_296 rfl rfl ?_
  refine r_iload_n 298 dL_law_297 rfl rfl ?_
  refine r_bipush 300 dL_law_298 rfl rfl ?_
  refine r_iadd 301 dL_law_300 rfl o_11 ?_
  refine r_sald 302 dL_law_301 rfl rfl o_12 ?_
  have hJ_13 : Ex l G (d + 1) mL_law 310 [some (vR (some (0, 0))), some (vR (some (2, k1))), some (vR (some (3, k2))), some (vI x3)] [vI (if (gXS G (x3 + 6).toNat) = 0 then 0 else 1 : Int), vI (gXS G (x3 + 5).toNat), vI (gXS G (x3 + 4).toNat), vI (gXS G (x3 + 3).toNat), vI (gXS G (x3 + 2).toNat), vI (gXS G (x3 + 1).toNat), vR (some (2, k1))] M r M' := by
    obtain ⟨r_17, M_15, hc_16, h⟩ := h
    refine v_1 (ci := 11) (C := (RX11, TX11, 16)) [vI (gXS G (x3 + 1).toNat), vI (gXS G (x3 + 2).toNat), vI (gXS G (x3 + 3).toNat), vI (gXS G (x3 + 4).toNat), vI (gXS G (x3 + 5).toNat), vI (if (gXS G (x3 + 6).toNat) = 0 then 0 else 1 : Int)] [] 313 dL_law_310 rfl rfl rfl rfl rfl mo_X11_change ml_NamelessPostLaw_23 rfl rfl hc_16 ?_
    obtain ⟨⟨o_18, o_19, o_20, o_21, o_22, o_23, o_24, o_25, o_26, o_27, o_28, o_29⟩, h⟩ := h
    refine r_aload_n 314 dL_law_313 rfl rfl ?_
    refine r_aload_n 315 dL_law_314 rfl rfl ?_
    refine r_iload_n 316 dL_law_315 rfl rfl ?_
    refine r_iconst 317 dL_law_316 rfl (InR_of rfl) ?_
    refine r_iadd 318 dL_law_317 rfl o_18 ?_
    refine r_sald 319 dL_law_318 rfl rfl o_19 ?_
    refine r_aload_n 320 dL_law_319 rfl rfl ?_
    refine r_iload_n 321 dL_law_320 rfl rfl ?_
    refine r_iconst 322 dL_law_321 rfl (InR_of rfl) ?_
    refine r_iadd 323 dL_law_322 rfl o_20 ?_
    refine r_sald 324 dL_law_323 rfl rfl o_21 ?_
    refine r_aload_n 325 dL_law_324 rfl rfl ?_
    refine r_iload_n 326 dL_law_325 rfl rfl ?_
    refine r_iconst 327 dL_law_326 rfl (InR_of rfl) ?_
    refine r_iadd 328 dL_law_327 rfl o_22 ?_
    refine r_sald 329 dL_law_328 rfl rfl o_23 ?_
    refine r_aload_n 330 dL_law_329 rfl rfl ?_
    refine r_iload_n 331 dL_law_330 rfl rfl ?_
    refine r_iconst 332 dL_law_331 rfl (InR_of rfl) ?_
    refine r_iadd 333 dL_law_332 rfl o_24 ?_
    refine r_sald 334 dL_law_333 rfl rfl o_25 ?_
    refine r_aload_n 335 dL_law_334 rfl rfl ?_
    refine r_iload_n 336 dL_law_335 rfl rfl ?_
    refine r_iconst 337 dL_law_336 rfl (InR_of rfl) ?_
    refine r_iadd 338 dL_law_337 rfl o_26 ?_
    refine r_sald 339 dL_law_338 rfl rfl o_27 ?_
    refine r_aload_n 340 dL_law_339 rfl rfl ?_
    refine r_iload_n 341 dL_law_340 rfl rfl ?_
    refine r_bipush 343 dL_law_341 rfl rfl ?_
    refine r_iadd 344 dL_law_343 rfl o_28 ?_
    refine r_sald 345 dL_law_344 rfl rfl o_29 ?_
    have hJ_30 : Ex l G (d + 1) mL_law 353 [some (vR (some (0, 0))), some (vR (some (2, k1))), some (vR (some (3, k2))), some (vI x3)] [vI (if (gXS G (x3 + 6).toNat) = 0 then 0 else 1 : Int), vI (gXS G (x3 + 5).toNat), vI (gXS G (x3 + 4).toNat), vI (gXS G (x3 + 3).toNat), vI (gXS G (x3 + 2).toNat), vI (gXS G (x3 + 1).toNat), vR (some (3, k2)), vI r_17] M_15 r M' := by
      obtain ⟨r_34, M_32, hc_33, h⟩ := h
      refine v_1 (ci := 12) (C := (RX12, TX12, 68)) [vI (gXS G (x3 + 1).toNat), vI (gXS G (x3 + 2).toNat), vI (gXS G (x3 + 3).toNat), vI (gXS G (x3 + 4).toNat), vI (gXS G (x3 + 5).toNat), vI (if (gXS G (x3 + 6).toNat) = 0 then 0 else 1 : Int)] [vI r_17] 356 dL_law_353 rfl rfl rfl rfl rfl mo_X12_change ml_NamelessPostLaw_27 rfl rfl hc_33 ?_
      refine r_icmp_eq 359 1915 dL_law_356 rfl rfl (fun c => ?_) (fun c => ?_)
      · have h := h.1 (c)
        obtain ⟨o_35, h⟩ := h
        refine r_iinc (ls' := [some (vR (some (0, 0))), some (vR (some (2, k1))), some (vR (some (3, k2))), some (vI (x3 + 8))]) 1918 dL_law_1915 rfl rfl rfl rfl o_35 rfl ?_
        refine r_goto 18 dL_law_1918 rfl ?_
        exact h
      · have h := h.2 (c)
        refine r_iconst 360 dL_law_359 rfl (InR_of rfl) ?_
        exact r_iret dL_law_360 rfl (.inr ⟨rfl, (.inl rfl)⟩) h.1 h.2
    refine r_if_eq 348 352 dL_law_345 rfl rfl (fun c => ?_) (fun c => ?_)
    · have c_31 := c
      refine r_iconst 353 dL_law_352 rfl (InR_of rfl) ?_
      exact (Ex.at hJ_30 rfl (show [vI 0, vI (gXS G (x3 + 5).toNat), vI (gXS G (x3 + 4).toNat), vI (gXS G (x3 + 3).toNat), vI (gXS G (x3 + 2).toNat), vI (gXS G (x3 + 1).toNat), vR (some (3, k2)), vI r_17] = [vI (if (gXS G (x3 + 6).toNat) = 0 then 0 else 1 : Int), vI (gXS G (x3 + 5).toNat), vI (gXS G (x3 + 4).toNat), vI (gXS G (x3 + 3).toNat), vI (gXS G (x3 + 2).toNat), vI (gXS G (x3 + 1).toNat), vR (some (3, k2)), vI r_17] by simp only [if_pos c_31]) rfl)
    · have c_31 := c
      refine r_iconst 349 dL_law_348 rfl (InR_of rfl) ?_
      refine r_goto 353 dL_law_349 rfl ?_
      exact (Ex.at hJ_30 rfl (show [vI 1, vI (gXS G (x3 + 5).toNat), vI (gXS G (x3 + 4).toNat), vI (gXS G (x3 + 3).toNat), vI (gXS G (x3 + 2).toNat), vI (gXS G (x3 + 1).toNat), vR (some (3, k2)), vI r_17] = [vI (if (gXS G (x3 + 6).toNat) = 0 then 0 else 1 : Int), vI (gXS G (x3 + 5).toNat), vI (gXS G (x3 + 4).toNat), vI (gXS G (x3 + 3).toNat), vI (gXS G (x3 + 2).toNat), vI (gXS G (x3 + 1).toNat), vR (some (3, k2)), vI r_17] by simp only [if_neg c_31]) rfl)
  refine r_if_eq 305 309 dL_law_302 rfl rfl (fun c => ?_) (fun c => ?_)
  · have c_14 := c
    refine r_iconst 310 dL_law_309 rfl (InR_of rfl) ?_
    exact (Ex.at hJ_13 rfl (show [vI 0, vI (gXS G (x3 + 5).toNat), vI (gXS G (x3 + 4).toNat), vI (gXS G (x3 + 3).toNat), vI (gXS G (x3 + 2).toNat), vI (gXS G (x3 + 1).toNat), vR (some (2, k1))] = [vI (if (gXS G (x3 + 6).toNat) = 0 then 0 else 1 : Int), vI (gXS G (x3 + 5).toNat), vI (gXS G (x3 + 4).toNat), vI (gXS G (x3 + 3).toNat), vI (gXS G (x3 + 2).toNat), vI (gXS G (x3 + 1).toNat), vR (some (2, k1))] by simp only [if_pos c_14]) rfl)
  · have c_14 := c
    refine r_iconst 306 dL_law_305 rfl (InR_of rfl) ?_
    refine r_goto 310 dL_law_306 rfl ?_
    exact (Ex.at hJ_13 rfl (show [vI 1, vI (gXS G (x3 + 5).toNat), vI (gXS G (x3 + 4).toNat), vI (gXS G (x3 + 3).toNat), vI (gXS G (x3 + 2).toNat), vI (gXS G (x3 + 1).toNat), vR (some (2, k1))] = [vI (if (gXS G (x3 + 6).toNat) = 0 then 0 else 1 : Int), vI (gXS G (x3 + 5).toNat), vI (gXS G (x3 + 4).toNat), vI (gXS G (x3 + 3).toNat), vI (gXS G (x3 + 2).toNat), vI (gXS G (x3 + 1).toNat), vR (some (2, k1))] by simp only [if_neg c_14]) rfl)
set_option maxRecDepth 4000 in
theorem xL_law_361 {l : Launch} {G : Gt} {d : Nat} {M M' : Mem} {r : Option Vl} {k1 : Nat} {k2 : Nat} {x3 : Int} (h : 
    (InR (x3 + 1) ∧ (0 ≤ (x3 + 1) ∧ (x3 + 1) < (gXL G : Int)) ∧ InR (x3 + 2) ∧ (0 ≤ (x3 + 2) ∧ (x3 + 2) < (gXL G : Int)) ∧ InR (x3 + 3) ∧ (0 ≤ (x3 + 3) ∧ (x3 + 3) < (gXL G : Int))) ∧ (∃ (r_11 : Int) (M_9 : Mem), Cl l G d mX11_knows [vR (some (2, k1)), vI (gXS G (x3 + 1).toNat), vI (gXS G (x3 + 2).toNat), vI (if (gXS G (x3 + 3).toNat) = 0 then 0 else 1 : Int)] M (some (vI r_11)) M_9 ∧ ((InR (x3 + 1) ∧ (0 ≤ (x3 + 1) ∧ (x3 + 1) < (gXL G : Int)) ∧ InR (x3 + 2) ∧ (0 ≤ (x3 + 2) ∧ (x3 + 2) < (gXL G : Int)) ∧ InR (x3 + 3) ∧ (0 ≤ (x3 + 3) ∧ (x3 + 3) < (gXL G : Int))) ∧ (∃ (r_22 : Int) (M_20 : Mem), Cl l G d mX12_knows [vR (some (3, k2)), vI (gXS G (x3 + 1).toNat), vI (gXS G (x3 + 2).toNat), vI (if (gXS G (x3 + 3).toNat) = 0 then 0 else 1 : Int)] M_9 (some (vI r_22)) M_20 ∧ ((r_11 = r_22 → (InR (x3 + 8)) ∧ Ex l G (d + 1) mL_law 18 [some (vR (some (0, 0))), some (vR (some (2, k1))), some (vR (some (3, k2))), some (vI (x3 + 8))] [] M_20 r M') ∧ (¬ (r_11 = r_22) → r = some (vI 0) ∧ M' = M_20)))))) : Ex l G (d + 1) mL_law 361 [some (vR (some (0, 0))), some (vR (some (2, k1))), some (vR (some (3, k2))), some (vI x3)] [] M r M' := by
  obtain ⟨⟨o_1, o_2, o_3, o_4, o_5, o_6⟩, h⟩ := h
  refine r_aload_n 362 dL_law_361 rfl rfl ?_
  refine r_aload_n 363 dL_law_362 rfl rfl ?_
  refine r_iload_n 364 dL_law_363 rfl rfl ?_
  refine r_iconst 365 dL_law_364 rfl (InR_of rfl) ?_
  refine r_iadd 366 dL_law_365 rfl o_1 ?_
  refine r_sald 367 dL_law_366 rfl rfl o_2 ?_
  refine r_aload_n 368 dL_law_367 rfl rfl ?_
  refine r_iload_n 369 dL_law_368 rfl rfl ?_
  refine r_iconst 370 dL_law_369 rfl (InR_of rfl) ?_
  refine r_iadd 371 dL_law_370 rfl o_3 ?_
  refine r_sald 372 dL_law_371 rfl rfl o_4 ?_
  refine r_aload_n 373 dL_law_372 rfl rfl ?_
  refine r_iload_n 374 dL_law_373 rfl rfl ?_
  refine r_iconst 375 dL_law_374 rfl (InR_of rfl) ?_
  refine r_iadd 376 dL_law_375 rfl o_5 ?_
  refine r_sald 377 dL_law_376 rfl rfl o_6 ?_
  have hJ_7 : Ex l G (d + 1) mL_law 385 [some (vR (some (0, 0))), some (vR (some (2, k1))), some (vR (some (3, k2))), some (vI x3)] [vI (if (gXS G (x3 + 3).toNat) = 0 then 0 else 1 : Int), vI (gXS G (x3 + 2).toNat), vI (gXS G (x3 + 1).toNat), vR (some (2, k1))] M r M' := by
    obtain ⟨r_11, M_9, hc_10, h⟩ := h
    refine v_1 (ci := 11) (C := (RX11, TX11, 16)) [vI (gXS G (x3 + 1).toNat), vI (gXS G (x3 + 2).toNat), vI (if (gXS G (x3 + 3).toNat) = 0 then 0 else 1 : Int)] [] 388 dL_law_385 rfl rfl rfl rfl rfl mo_X11_knows ml_NamelessPostLaw_28 rfl rfl hc_10 ?_
    obtain ⟨⟨o_12, o_13, o_14, o_15, o_16, o_17⟩, h⟩ := h
    refine r_aload_n 389 dL_law_388 rfl rfl ?_
    refine r_aload_n 390 dL_law_389 rfl rfl ?_
    refine r_iload_n 391 dL_law_390 rfl rfl ?_
    refine r_iconst 392 dL_law_391 rfl (InR_of rfl) ?_
    refine r_iadd 393 dL_law_392 rfl o_12 ?_
    refine r_sald 394 dL_law_393 rfl rfl o_13 ?_
    refine r_aload_n 395 dL_law_394 rfl rfl ?_
    refine r_iload_n 396 dL_law_395 rfl rfl ?_
    refine r_iconst 397 dL_law_396 rfl (InR_of rfl) ?_
    refine r_iadd 398 dL_law_397 rfl o_14 ?_
    refine r_sald 399 dL_law_398 rfl rfl o_15 ?_
    refine r_aload_n 400 dL_law_399 rfl rfl ?_
    refine r_iload_n 401 dL_law_400 rfl rfl ?_
    refine r_iconst 402 dL_law_401 rfl (InR_of rfl) ?_
    refine r_iadd 403 dL_law_402 rfl o_16 ?_
    refine r_sald 404 dL_law_403 rfl rfl o_17 ?_
    have hJ_18 : Ex l G (d + 1) mL_law 412 [some (vR (some (0, 0))), some (vR (some (2, k1))), some (vR (some (3, k2))), some (vI x3)] [vI (if (gXS G (x3 + 3).toNat) = 0 then 0 else 1 : Int), vI (gXS G (x3 + 2).toNat), vI (gXS G (x3 + 1).toNat), vR (some (3, k2)), vI r_11] M_9 r M' := by
      obtain ⟨r_22, M_20, hc_21, h⟩ := h
      refine v_1 (ci := 12) (C := (RX12, TX12, 68)) [vI (gXS G (x3 + 1).toNat), vI (gXS G (x3 + 2).toNat), vI (if (gXS G (x3 + 3).toNat) = 0 then 0 else 1 : Int)] [vI r_11] 415 dL_law_412 rfl rfl rfl rfl rfl mo_X12_knows ml_NamelessPostLaw_32 rfl rfl hc_21 ?_
      refine r_icmp_eq 418 1915 dL_law_415 rfl rfl (fun c => ?_) (fun c => ?_)
      · have h := h.1 (c)
        obtain ⟨o_23, h⟩ := h
        refine r_iinc (ls' := [some (vR (some (0, 0))), some (vR (some (2, k1))), some (vR (some (3, k2))), some (vI (x3 + 8))]) 1918 dL_law_1915 rfl rfl rfl rfl o_23 rfl ?_
        refine r_goto 18 dL_law_1918 rfl ?_
        exact h
      · have h := h.2 (c)
        refine r_iconst 419 dL_law_418 rfl (InR_of rfl) ?_
        exact r_iret dL_law_419 rfl (.inr ⟨rfl, (.inl rfl)⟩) h.1 h.2
    refine r_if_eq 407 411 dL_law_404 rfl rfl (fun c => ?_) (fun c => ?_)
    · have c_19 := c
      refine r_iconst 412 dL_law_411 rfl (InR_of rfl) ?_
      exact (Ex.at hJ_18 rfl (show [vI 0, vI (gXS G (x3 + 2).toNat), vI (gXS G (x3 + 1).toNat), vR (some (3, k2)), vI r_11] = [vI (if (gXS G (x3 + 3).toNat) = 0 then 0 else 1 : Int), vI (gXS G (x3 + 2).toNat), vI (gXS G (x3 + 1).toNat), vR (some (3, k2)), vI r_11] by simp only [if_pos c_19]) rfl)
    · have c_19 := c
      refine r_iconst 408 dL_law_407 rfl (InR_of rfl) ?_
      refine r_goto 412 dL_law_408 rfl ?_
      exact (Ex.at hJ_18 rfl (show [vI 1, vI (gXS G (x3 + 2).toNat), vI (gXS G (x3 + 1).toNat), vR (some (3, k2)), vI r_11] = [vI (if (gXS G (x3 + 3).toNat) = 0 then 0 else 1 : Int), vI (gXS G (x3 + 2).toNat), vI (gXS G (x3 + 1).toNat), vR (some (3, k2)), vI r_11] by simp only [if_neg c_19]) rfl)
  refine r_if_eq 380 384 dL_law_377 rfl rfl (fun c => ?_) (fun c => ?_)
  · have c_8 := c
    refine r_iconst 385 dL_law_384 rfl (InR_of rfl) ?_
    exact (Ex.at hJ_7 rfl (show [vI 0, vI (gXS G (x3 + 2).toNat), vI (gXS G (x3 + 1).toNat), vR (some (2, k1))] = [vI (if (gXS G (x3 + 3).toNat) = 0 then 0 else 1 : Int), vI (gXS G (x3 + 2).toNat), vI (gXS G (x3 + 1).toNat), vR (some (2, k1))] by simp only [if_pos c_8]) rfl)
  · have c_8 := c
    refine r_iconst 381 dL_law_380 rfl (InR_of rfl) ?_
    refine r_goto 385 dL_law_381 rfl ?_
    exact (Ex.at hJ_7 rfl (show [vI 1, vI (gXS G (x3 + 2).toNat), vI (gXS G (x3 + 1).toNat), vR (some (2, k1))] = [vI (if (gXS G (x3 + 3).toNat) = 0 then 0 else 1 : Int), vI (gXS G (x3 + 2).toNat), vI (gXS G (x3 + 1).toNat), vR (some (2, k1))] by simp only [if_neg c_8]) rfl)
set_option maxRecDepth 4000 in
theorem xL_law_420 {l : Launch} {G : Gt} {d : Nat} {M M' : Mem} {r : Option Vl} {k1 : Nat} {k2 : Nat} {x3 : Int} (h : 
    (InR (x3 + 1) ∧ (0 ≤ (x3 + 1) ∧ (x3 + 1) < (gXL G : Int)) ∧ InR (x3 + 2) ∧ (0 ≤ (x3 + 2) ∧ (x3 + 2) < (gXL G : Int))) ∧ (∃ (r_7 : Int) (M_5 : Mem), Cl l G d mX11_worth [vR (some (2, k1)), vI (gXS G (x3 + 1).toNat), vI (gXS G (x3 + 2).toNat)] M (some (vI r_7)) M_5 ∧ ((InR (x3 + 1) ∧ (0 ≤ (x3 + 1) ∧ (x3 + 1) < (gXL G : Int)) ∧ InR (x3 + 2) ∧ (0 ≤ (x3 + 2) ∧ (x3 + 2) < (gXL G : Int))) ∧ (∃ (r_14 : Int) (M_12 : Mem), Cl l G d mX12_worth [vR (some (3, k2)), vI (gXS G (x3 + 1).toNat), vI (gXS G (x3 + 2).toNat)] M_5 (some (vI r_14)) M_12 ∧ ((r_7 = r_14 → (InR (x3 + 8)) ∧ Ex l G (d + 1) mL_law 18 [some (vR (some (0, 0))), some (vR (some (2, k1))), some (vR (some (3, k2))), some (vI (x3 + 8))] [] M_12 r M') ∧ (¬ (r_7 = r_14) → r = some (vI 0) ∧ M' = M_12)))))) : Ex l G (d + 1) mL_law 420 [some (vR (some (0, 0))), some (vR (some (2, k1))), some (vR (some (3, k2))), some (vI x3)] [] M r M' := by
  obtain ⟨⟨o_1, o_2, o_3, o_4⟩, h⟩ := h
  refine r_aload_n 421 dL_law_420 rfl rfl ?_
  refine r_aload_n 422 dL_law_421 rfl rfl ?_
  refine r_iload_n 423 dL_law_422 rfl rfl ?_
  refine r_iconst 424 dL_law_423 rfl (InR_of rfl) ?_
  refine r_iadd 425 dL_law_424 rfl o_1 ?_
  refine r_sald 426 dL_law_425 rfl rfl o_2 ?_
  refine r_aload_n 427 dL_law_426 rfl rfl ?_
  refine r_iload_n 428 dL_law_427 rfl rfl ?_
  refine r_iconst 429 dL_law_428 rfl (InR_of rfl) ?_
  refine r_iadd 430 dL_law_429 rfl o_3 ?_
  refine r_sald 431 dL_law_430 rfl rfl o_4 ?_
  obtain ⟨r_7, M_5, hc_6, h⟩ := h
  refine v_1 (ci := 11) (C := (RX11, TX11, 16)) [vI (gXS G (x3 + 1).toNat), vI (gXS G (x3 + 2).toNat)] [] 434 dL_law_431 rfl rfl rfl rfl rfl mo_X11_worth ml_NamelessPostLaw_33 rfl rfl hc_6 ?_
  obtain ⟨⟨o_8, o_9, o_10, o_11⟩, h⟩ := h
  refine r_aload_n 435 dL_law_434 rfl rfl ?_
  refine r_aload_n 436 dL_law_435 rfl rfl ?_
  refine r_iload_n 437 dL_law_436 rfl rfl ?_
  refine r_iconst 438 dL_law_437 rfl (InR_of rfl) ?_
  refine r_iadd 439 dL_law_438 rfl o_8 ?_
  refine r_sald 440 dL_law_439 rfl rfl o_9 ?_
  refine r_aload_n 441 dL_law_440 rfl rfl ?_
  refine r_iload_n 442 dL_law_441 rfl rfl ?_
  refine r_iconst 443 dL_law_442 rfl (InR_of rfl) ?_
  refine r_iadd 444 dL_law_443 rfl o_10 ?_
  refine r_sald 445 dL_law_444 rfl rfl o_11 ?_
  obtain ⟨r_14, M_12, hc_13, h⟩ := h
  refine v_1 (ci := 12) (C := (RX12, TX12, 68)) [vI (gXS G (x3 + 1).toNat), vI (gXS G (x3 + 2).toNat)] [vI r_7] 448 dL_law_445 rfl rfl rfl rfl rfl mo_X12_worth ml_NamelessPostLaw_37 rfl rfl hc_13 ?_
  refine r_icmp_eq 451 1915 dL_law_448 rfl rfl (fun c => ?_) (fun c => ?_)
  · have h := h.1 (c)
    obtain ⟨o_15, h⟩ := h
    refine r_iinc (ls' := [some (vR (some (0, 0))), some (vR (some (2, k1))), some (vR (some (3, k2))), some (vI (x3 + 8))]) 1918 dL_law_1915 rfl rfl rfl rfl o_15 rfl ?_
    refine r_goto 18 dL_law_1918 rfl ?_
    exact h
  · have h := h.2 (c)
    refine r_iconst 452 dL_law_451 rfl (InR_of rfl) ?_
    exact r_iret dL_law_452 rfl (.inr ⟨rfl, (.inl rfl)⟩) h.1 h.2
set_option maxRecDepth 4000 in
theorem xL_law_453 {l : Launch} {G : Gt} {d : Nat} {M M' : Mem} {r : Option Vl} {k1 : Nat} {k2 : Nat} {x3 : Int} (h : 
    (InR (x3 + 1) ∧ (0 ≤ (x3 + 1) ∧ (x3 + 1) < (gXL G : Int)) ∧ InR (x3 + 2) ∧ (0 ≤ (x3 + 2) ∧ (x3 + 2) < (gXL G : Int)) ∧ InR (x3 + 3) ∧ (0 ≤ (x3 + 3) ∧ (x3 + 3) < (gXL G : Int)) ∧ InR (x3 + 4) ∧ (0 ≤ (x3 + 4) ∧ (x3 + 4) < (gXL G : Int)) ∧ InR (x3 + 5) ∧ (0 ≤ (x3 + 5) ∧ (x3 + 5) < (gXL G : Int))) ∧ (∃ (r_13 : Int) (M_11 : Mem), Cl l G d mX11_feed [vR (some (2, k1)), vI (gXS G (x3 + 1).toNat), vI (gXS G (x3 + 2).toNat), vI (gXS G (x3 + 3).toNat), vI (gXS G (x3 + 4).toNat), vI (gXS G (x3 + 5).toNat)] M (some (vI r_13)) M_11 ∧ ((InR (x3 + 1) ∧ (0 ≤ (x3 + 1) ∧ (x3 + 1) < (gXL G : Int)) ∧ InR (x3 + 2) ∧ (0 ≤ (x3 + 2) ∧ (x3 + 2) < (gXL G : Int)) ∧ InR (x3 + 3) ∧ (0 ≤ (x3 + 3) ∧ (x3 + 3) < (gXL G : Int)) ∧ InR (x3 + 4) ∧ (0 ≤ (x3 + 4) ∧ (x3 + 4) < (gXL G : Int)) ∧ InR (x3 + 5) ∧ (0 ≤ (x3 + 5) ∧ (x3 + 5) < (gXL G : Int))) ∧ (∃ (r_26 : Int) (M_24 : Mem), Cl l G d mX12_feed [vR (some (3, k2)), vI (gXS G (x3 + 1).toNat), vI (gXS G (x3 + 2).toNat), vI (gXS G (x3 + 3).toNat), vI (gXS G (x3 + 4).toNat), vI (gXS G (x3 + 5).toNat)] M_11 (some (vI r_26)) M_24 ∧ ((r_13 = r_26 → (InR (x3 + 8)) ∧ Ex l G (d + 1) mL_law 18 [some (vR (some (0, 0))), some (vR (some (2, k1))), some (vR (some (3, k2))), some (vI (x3 + 8))] [] M_24 r M') ∧ (¬ (r_13 = r_26) → r = some (vI 0) ∧ M' = M_24)))))) : Ex l G (d + 1) mL_law 453 [some (vR (some (0, 0))), some (vR (some (2, k1))), some (vR (some (3, k2))), some (vI x3)] [] M r M' := by
  obtain ⟨⟨o_1, o_2, o_3, o_4, o_5, o_6, o_7, o_8, o_9, o_10⟩, h⟩ := h
  refine r_aload_n 454 dL_law_453 rfl rfl ?_
  refine r_aload_n 455 dL_law_454 rfl rfl ?_
  refine r_iload_n 456 dL_law_455 rfl rfl ?_
  refine r_iconst 457 dL_law_456 rfl (InR_of rfl) ?_
  refine r_iadd 458 dL_law_457 rfl o_1 ?_
  refine r_sald 459 dL_law_458 rfl rfl o_2 ?_
  refine r_aload_n 460 dL_law_459 rfl rfl ?_
  refine r_iload_n 461 dL_law_460 rfl rfl ?_
  refine r_iconst 462 dL_law_461 rfl (InR_of rfl) ?_
  refine r_iadd 463 dL_law_462 rfl o_3 ?_
  refine r_sald 464 dL_law_463 rfl rfl o_4 ?_
  refine r_aload_n 465 dL_law_464 rfl rfl ?_
  refine r_iload_n 466 dL_law_465 rfl rfl ?_
  refine r_iconst 467 dL_law_466 rfl (InR_of rfl) ?_
  refine r_iadd 468 dL_law_467 rfl o_5 ?_
  refine r_sald 469 dL_law_468 rfl rfl o_6 ?_
  refine r_aload_n 470 dL_law_469 rfl rfl ?_
  refine r_iload_n 471 dL_law_470 rfl rfl ?_
  refine r_iconst 472 dL_law_471 rfl (InR_of rfl) ?_
  refine r_iadd 473 dL_law_472 rfl o_7 ?_
  refine r_sald 474 dL_law_473 rfl rfl o_8 ?_
  refine r_aload_n 475 dL_law_474 rfl rfl ?_
  refine r_iload_n 476 dL_law_475 rfl rfl ?_
  refine r_iconst 477 dL_law_476 rfl (InR_of rfl) ?_
  refine r_iadd 478 dL_law_477 rfl o_9 ?_
  refine r_sald 479 dL_law_478 rfl rfl o_10 ?_
  obtain ⟨r_13, M_11, hc_12, h⟩ := h
  refine v_1 (ci := 11) (C := (RX11, TX11, 16)) [vI (gXS G (x3 + 1).toNat), vI (gXS G (x3 + 2).toNat), vI (gXS G (x3 + 3).toNat), vI (gXS G (x3 + 4).toNat), vI (gXS G (x3 + 5).toNat)] [] 482 dL_law_479 rfl rfl rfl rfl rfl mo_X11_feed ml_NamelessPostLaw_38 rfl rfl hc_12 ?_
  obtain ⟨⟨o_14, o_15, o_16, o_17, o_18, o_19, o_20, o_21, o_22, o_23⟩, h⟩ := h
  refine r_aload_n 483 dL_law_482 rfl rfl ?_
  refine r_aload_n 484 dL_law_483 rfl rfl ?_
  refine r_iload_n 485 dL_law_484 rfl rfl ?_
  refine r_iconst 486 dL_law_485 rfl (InR_of rfl) ?_
  refine r_iadd 487 dL_law_486 rfl o_14 ?_
  refine r_sald 488 dL_law_487 rfl rfl o_15 ?_
  refine r_aload_n 489 dL_law_488 rfl rfl ?_
  refine r_iload_n 490 dL_law_489 rfl rfl ?_
  refine r_iconst 491 dL_law_490 rfl (InR_of rfl) ?_
  refine r_iadd 492 dL_law_491 rfl o_16 ?_
  refine r_sald 493 dL_law_492 rfl rfl o_17 ?_
  refine r_aload_n 494 dL_law_493 rfl rfl ?_
  refine r_iload_n 495 dL_law_494 rfl rfl ?_
  refine r_iconst 496 dL_law_495 rfl (InR_of rfl) ?_
  refine r_iadd 497 dL_law_496 rfl o_18 ?_
  refine r_sald 498 dL_law_497 rfl rfl o_19 ?_
  refine r_aload_n 499 dL_law_498 rfl rfl ?_
  refine r_iload_n 500 dL_law_499 rfl rfl ?_
  refine r_iconst 501 dL_law_500 rfl (InR_of rfl) ?_
  refine r_iadd 502 dL_law_501 rfl o_20 ?_
  refine r_sald 503 dL_law_502 rfl rfl o_21 ?_
  refine r_aload_n 504 dL_law_503 rfl rfl ?_
  refine r_iload_n 505 dL_law_504 rfl rfl ?_
  refine r_iconst 506 dL_law_505 rfl (InR_of rfl) ?_
  refine r_iadd 507 dL_law_506 rfl o_22 ?_
  refine r_sald 508 dL_law_507 rfl rfl o_23 ?_
  obtain ⟨r_26, M_24, hc_25, h⟩ := h
  refine v_1 (ci := 12) (C := (RX12, TX12, 68)) [vI (gXS G (x3 + 1).toNat), vI (gXS G (x3 + 2).toNat), vI (gXS G (x3 + 3).toNat), vI (gXS G (x3 + 4).toNat), vI (gXS G (x3 + 5).toNat)] [vI r_13] 511 dL_law_508 rfl rfl rfl rfl rfl mo_X12_feed ml_NamelessPostLaw_42 rfl rfl hc_25 ?_
  refine r_icmp_eq 514 1915 dL_law_511 rfl rfl (fun c => ?_) (fun c => ?_)
  · have h := h.1 (c)
    obtain ⟨o_27, h⟩ := h
    refine r_iinc (ls' := [some (vR (some (0, 0))), some (vR (some (2, k1))), some (vR (some (3, k2))), some (vI (x3 + 8))]) 1918 dL_law_1915 rfl rfl rfl rfl o_27 rfl ?_
    refine r_goto 18 dL_law_1918 rfl ?_
    exact h
  · have h := h.2 (c)
    refine r_iconst 515 dL_law_514 rfl (InR_of rfl) ?_
    exact r_iret dL_law_515 rfl (.inr ⟨rfl, (.inl rfl)⟩) h.1 h.2
set_option maxRecDepth 4000 in
theorem xL_law_516 {l : Launch} {G : Gt} {d : Nat} {M M' : Mem} {r : Option Vl} {k1 : Nat} {k2 : Nat} {x3 : Int} (h : 
    (InR (x3 + 1) ∧ (0 ≤ (x3 + 1) ∧ (x3 + 1) < (gXL G : Int))) ∧ (∃ (r_5 : Int) (M_3 : Mem), Cl l G d mX11_end [vR (some (2, k1)), vI (gXS G (x3 + 1).toNat)] M (some (vI r_5)) M_3 ∧ ((InR (x3 + 1) ∧ (0 ≤ (x3 + 1) ∧ (x3 + 1) < (gXL G : Int))) ∧ (∃ (r_10 : Int) (M_8 : Mem), Cl l G d mX12_end [vR (some (3, k2)), vI (gXS G (x3 + 1).toNat)] M_3 (some (vI r_10)) M_8 ∧ ((r_5 = r_10 → (InR (x3 + 8)) ∧ Ex l G (d + 1) mL_law 18 [some (vR (some (0, 0))), some (vR (some (2, k1))), some (vR (some (3, k2))), some (vI (x3 + 8))] [] M_8 r M') ∧ (¬ (r_5 = r_10) → r = some (vI 0) ∧ M' = M_8)))))) : Ex l G (d + 1) mL_law 516 [some (vR (some (0, 0))), some (vR (some (2, k1))), some (vR (some (3, k2))), some (vI x3)] [] M r M' := by
  obtain ⟨⟨o_1, o_2⟩, h⟩ := h
  refine r_aload_n 517 dL_law_516 rfl rfl ?_
  refine r_aload_n 518 dL_law_517 rfl rfl ?_
  refine r_iload_n 519 dL_law_518 rfl rfl ?_
  refine r_iconst 520 dL_law_519 rfl (InR_of rfl) ?_
  refine r_iadd 521 dL_law_520 rfl o_1 ?_
  refine r_sald 522 dL_law_521 rfl rfl o_2 ?_
  obtain ⟨r_5, M_3, hc_4, h⟩ := h
  refine v_1 (ci := 11) (C := (RX11, TX11, 16)) [vI (gXS G (x3 + 1).toNat)] [] 525 dL_law_522 rfl rfl rfl rfl rfl mo_X11_end ml_NamelessPostLaw_43 rfl rfl hc_4 ?_
  obtain ⟨⟨o_6, o_7⟩, h⟩ := h
  refine r_aload_n 526 dL_law_525 rfl rfl ?_
  refine r_aload_n 527 dL_law_526 rfl rfl ?_
  refine r_iload_n 528 dL_law_527 rfl rfl ?_
  refine r_iconst 529 dL_law_528 rfl (InR_of rfl) ?_
  refine r_iadd 530 dL_law_529 rfl o_6 ?_
  refine r_sald 531 dL_law_530 rfl rfl o_7 ?_
  obtain ⟨r_10, M_8, hc_9, h⟩ := h
  refine v_1 (ci := 12) (C := (RX12, TX12, 68)) [vI (gXS G (x3 + 1).toNat)] [vI r_5] 534 dL_law_531 rfl rfl rfl rfl rfl mo_X12_end ml_NamelessPostLaw_46 rfl rfl hc_9 ?_
  refine r_icmp_eq 537 1915 dL_law_534 rfl rfl (fun c => ?_) (fun c => ?_)
  · have h := h.1 (c)
    obtain ⟨o_11, h⟩ := h
    refine r_iinc (ls' := [some (vR (some (0, 0))), some (vR (some (2, k1))), some (vR (some (3, k2))), some (vI (x3 + 8))]) 1918 dL_law_1915 rfl rfl rfl rfl o_11 rfl ?_
    refine r_goto 18 dL_law_1918 rfl ?_
    exact h
  · have h := h.2 (c)
    refine r_iconst 538 dL_law_537 rfl (InR_of rfl) ?_
    exact r_iret dL_law_538 rfl (.inr ⟨rfl, (.inl rfl)⟩) h.1 h.2
set_option maxRecDepth 4000 in
theorem xL_law_539 {l : Launch} {G : Gt} {d : Nat} {M M' : Mem} {r : Option Vl} {k1 : Nat} {k2 : Nat} {x3 : Int} (h : 
    ∃ (r_3 : Int) (M_1 : Mem), Cl l G d mX11_cover [vR (some (2, k1))] M (some (vI r_3)) M_1 ∧ (∃ (r_6 : Int) (M_4 : Mem), Cl l G d mX12_cover [vR (some (3, k2))] M_1 (some (vI r_6)) M_4 ∧ ((r_3 = r_6 → (InR (x3 + 8)) ∧ Ex l G (d + 1) mL_law 18 [some (vR (some (0, 0))), some (vR (some (2, k1))), some (vR (some (3, k2))), some (vI (x3 + 8))] [] M_4 r M') ∧ (¬ (r_3 = r_6) → r = some (vI 0) ∧ M' = M_4)))) : Ex l G (d + 1) mL_law 539 [some (vR (some (0, 0))), some (vR (some (2, k1))), some (vR (some (3, k2))), some (vI x3)] [] M r M' := by
  refine r_aload_n 540 dL_law_539 rfl rfl ?_
  obtain ⟨r_3, M_1, hc_2, h⟩ := h
  refine v_1 (ci := 11) (C := (RX11, TX11, 16)) [] [] 543 dL_law_540 rfl rfl rfl rfl rfl mo_X11_cover ml_NamelessPostLaw_47 rfl rfl hc_2 ?_
  refine r_aload_n 544 dL_law_543 rfl rfl ?_
  obtain ⟨r_6, M_4, hc_5, h⟩ := h
  refine v_1 (ci := 12) (C := (RX12, TX12, 68)) [] [vI r_3] 547 dL_law_544 rfl rfl rfl rfl rfl mo_X12_cover ml_NamelessPostLaw_51 rfl rfl hc_5 ?_
  refine r_icmp_eq 550 1915 dL_law_547 rfl rfl (fun c => ?_) (fun c => ?_)
  · have h := h.1 (c)
    obtain ⟨o_7, h⟩ := h
    refine r_iinc (ls' := [some (vR (some (0, 0))), some (vR (some (2, k1))), some (vR (some (3, k2))), some (vI (x3 + 8))]) 1918 dL_law_1915 rfl rfl rfl rfl o_7 rfl ?_
    refine r_goto 18 dL_law_1918 rfl ?_
    exact h
  · have h := h.2 (c)
    refine r_iconst 551 dL_law_550 rfl (InR_of rfl) ?_
    exact r_iret dL_law_551 rfl (.inr ⟨rfl, (.inl rfl)⟩) h.1 h.2
set_option maxRecDepth 4000 in
theorem xL_law_552 {l : Launch} {G : Gt} {d : Nat} {M M' : Mem} {r : Option Vl} {k1 : Nat} {k2 : Nat} {x3 : Int} (h : 
    (InR (x3 + 1) ∧ (0 ≤ (x3 + 1) ∧ (x3 + 1) < (gXL G : Int)) ∧ InR (x3 + 2) ∧ (0 ≤ (x3 + 2) ∧ (x3 + 2) < (gXL G : Int))) ∧ (∃ (r_7 : Int) (M_5 : Mem), Cl l G d mX11_marks [vR (some (2, k1)), vI (gXS G (x3 + 1).toNat), vI (gXS G (x3 + 2).toNat)] M (some (vI r_7)) M_5 ∧ ((InR (x3 + 1) ∧ (0 ≤ (x3 + 1) ∧ (x3 + 1) < (gXL G : Int)) ∧ InR (x3 + 2) ∧ (0 ≤ (x3 + 2) ∧ (x3 + 2) < (gXL G : Int))) ∧ (∃ (r_14 : Int) (M_12 : Mem), Cl l G d mX12_marks [vR (some (3, k2)), vI (gXS G (x3 + 1).toNat), vI (gXS G (x3 + 2).toNat)] M_5 (some (vI r_14)) M_12 ∧ ((r_7 = r_14 → (InR (x3 + 8)) ∧ Ex l G (d + 1) mL_law 18 [some (vR (some (0, 0))), some (vR (some (2, k1))), some (vR (some (3, k2))), some (vI (x3 + 8))] [] M_12 r M') ∧ (¬ (r_7 = r_14) → r = some (vI 0) ∧ M' = M_12)))))) : Ex l G (d + 1) mL_law 552 [some (vR (some (0, 0))), some (vR (some (2, k1))), some (vR (some (3, k2))), some (vI x3)] [] M r M' := by
  obtain ⟨⟨o_1, o_2, o_3, o_4⟩, h⟩ := h
  refine r_aload_n 553 dL_law_552 rfl rfl ?_
  refine r_aload_n 554 dL_law_553 rfl rfl ?_
  refine r_iload_n 555 dL_law_554 rfl rfl ?_
  refine r_iconst 556 dL_law_555 rfl (InR_of rfl) ?_
  refine r_iadd 557 dL_law_556 rfl o_1 ?_
  refine r_sald 558 dL_law_557 rfl rfl o_2 ?_
  refine r_aload_n 559 dL_law_558 rfl rfl ?_
  refine r_iload_n 560 dL_law_559 rfl rfl ?_
  refine r_iconst 561 dL_law_560 rfl (InR_of rfl) ?_
  refine r_iadd 562 dL_law_561 rfl o_3 ?_
  refine r_sald 563 dL_law_562 rfl rfl o_4 ?_
  obtain ⟨r_7, M_5, hc_6, h⟩ := h
  refine v_1 (ci := 11) (C := (RX11, TX11, 16)) [vI (gXS G (x3 + 1).toNat), vI (gXS G (x3 + 2).toNat)] [] 566 dL_law_563 rfl rfl rfl rfl rfl mo_X11_marks ml_NamelessPostLaw_52 rfl rfl hc_6 ?_
  obtain ⟨⟨o_8, o_9, o_10, o_11⟩, h⟩ := h
  refine r_aload_n 567 dL_law_566 rfl rfl ?_
  refine r_aload_n 568 dL_law_567 rfl rfl ?_
  refine r_iload_n 569 dL_law_568 rfl rfl ?_
  refine r_iconst 570 dL_law_569 rfl (InR_of rfl) ?_
  refine r_iadd 571 dL_law_570 rfl o_8 ?_
  refine r_sald 572 dL_law_571 rfl rfl o_9 ?_
  refine r_aload_n 573 dL_law_572 rfl rfl ?_
  refine r_iload_n 574 dL_law_573 rfl rfl ?_
  refine r_iconst 575 dL_law_574 rfl (InR_of rfl) ?_
  refine r_iadd 576 dL_law_575 rfl o_10 ?_
  refine r_sald 577 dL_law_576 rfl rfl o_11 ?_
  obtain ⟨r_14, M_12, hc_13, h⟩ := h
  refine v_1 (ci := 12) (C := (RX12, TX12, 68)) [vI (gXS G (x3 + 1).toNat), vI (gXS G (x3 + 2).toNat)] [vI r_7] 580 dL_law_577 rfl rfl rfl rfl rfl mo_X12_marks ml_NamelessPostLaw_55 rfl rfl hc_13 ?_
  refine r_icmp_eq 583 1915 dL_law_580 rfl rfl (fun c => ?_) (fun c => ?_)
  · have h := h.1 (c)
    obtain ⟨o_15, h⟩ := h
    refine r_iinc (ls' := [some (vR (some (0, 0))), some (vR (some (2, k1))), some (vR (some (3, k2))), some (vI (x3 + 8))]) 1918 dL_law_1915 rfl rfl rfl rfl o_15 rfl ?_
    refine r_goto 18 dL_law_1918 rfl ?_
    exact h
  · have h := h.2 (c)
    refine r_iconst 584 dL_law_583 rfl (InR_of rfl) ?_
    exact r_iret dL_law_584 rfl (.inr ⟨rfl, (.inl rfl)⟩) h.1 h.2
set_option maxRecDepth 4000 in
theorem xL_law_585 {l : Launch} {G : Gt} {d : Nat} {M M' : Mem} {r : Option Vl} {k1 : Nat} {k2 : Nat} {x3 : Int} (h : 
    (InR (x3 + 1) ∧ (0 ≤ (x3 + 1) ∧ (x3 + 1) < (gXL G : Int)) ∧ InR (x3 + 2) ∧ (0 ≤ (x3 + 2) ∧ (x3 + 2) < (gXL G : Int)) ∧ InR (x3 + 3) ∧ (0 ≤ (x3 + 3) ∧ (x3 + 3) < (gXL G : Int))) ∧ (∃ (r_9 : Int) (M_7 : Mem), Cl l G d mX11_ties [vR (some (2, k1)), vI (gXS G (x3 + 1).toNat), vI (gXS G (x3 + 2).toNat), vI (gXS G (x3 + 3).toNat)] M (some (vI r_9)) M_7 ∧ ((InR (x3 + 1) ∧ (0 ≤ (x3 + 1) ∧ (x3 + 1) < (gXL G : Int)) ∧ InR (x3 + 2) ∧ (0 ≤ (x3 + 2) ∧ (x3 + 2) < (gXL G : Int)) ∧ InR (x3 + 3) ∧ (0 ≤ (x3 + 3) ∧ (x3 + 3) < (gXL G : Int))) ∧ (∃ (r_18 : Int) (M_16 : Mem), Cl l G d mX12_ties [vR (some (3, k2)), vI (gXS G (x3 + 1).toNat), vI (gXS G (x3 + 2).toNat), vI (gXS G (x3 + 3).toNat)] M_7 (some (vI r_18)) M_16 ∧ ((r_9 = r_18 → (InR (x3 + 8)) ∧ Ex l G (d + 1) mL_law 18 [some (vR (some (0, 0))), some (vR (some (2, k1))), some (vR (some (3, k2))), some (vI (x3 + 8))] [] M_16 r M') ∧ (¬ (r_9 = r_18) → r = some (vI 0) ∧ M' = M_16)))))) : Ex l G (d + 1) mL_law 585 [some (vR (some (0, 0))), some (vR (some (2, k1))), some (vR (some (3, k2))), some (vI x3)] [] M r M' := by
  obtain ⟨⟨o_1, o_2, o_3, o_4, o_5, o_6⟩, h⟩ := h
  refine r_aload_n 586 dL_law_585 rfl rfl ?_
  refine r_aload_n 587 dL_law_586 rfl rfl ?_
  refine r_iload_n 588 dL_law_587 rfl rfl ?_
  refine r_iconst 589 dL_law_588 rfl (InR_of rfl) ?_
  refine r_iadd 590 dL_law_589 rfl o_1 ?_
  refine r_sald 591 dL_law_590 rfl rfl o_2 ?_
  refine r_aload_n 592 dL_law_591 rfl rfl ?_
  refine r_iload_n 593 dL_law_592 rfl rfl ?_
  refine r_iconst 594 dL_law_593 rfl (InR_of rfl) ?_
  refine r_iadd 595 dL_law_594 rfl o_3 ?_
  refine r_sald 596 dL_law_595 rfl rfl o_4 ?_
  refine r_aload_n 597 dL_law_596 rfl rfl ?_
  refine r_iload_n 598 dL_law_597 rfl rfl ?_
  refine r_iconst 599 dL_law_598 rfl (InR_of rfl) ?_
  refine r_iadd 600 dL_law_599 rfl o_5 ?_
  refine r_sald 601 dL_law_600 rfl rfl o_6 ?_
  obtain ⟨r_9, M_7, hc_8, h⟩ := h
  refine v_1 (ci := 11) (C := (RX11, TX11, 16)) [vI (gXS G (x3 + 1).toNat), vI (gXS G (x3 + 2).toNat), vI (gXS G (x3 + 3).toNat)] [] 604 dL_law_601 rfl rfl rfl rfl rfl mo_X11_ties ml_NamelessPostLaw_56 rfl rfl hc_8 ?_
  obtain ⟨⟨o_10, o_11, o_12, o_13, o_14, o_15⟩, h⟩ := h
  refine r_aload_n 605 dL_law_604 rfl rfl ?_
  refine r_aload_n 606 dL_law_605 rfl rfl ?_
  refine r_iload_n 607 dL_law_606 rfl rfl ?_
  refine r_iconst 608 dL_law_607 rfl (InR_of rfl) ?_
  refine r_iadd 609 dL_law_608 rfl o_10 ?_
  refine r_sald 610 dL_law_609 rfl rfl o_11 ?_
  refine r_aload_n 611 dL_law_610 rfl rfl ?_
  refine r_iload_n 612 dL_law_611 rfl rfl ?_
  refine r_iconst 613 dL_law_612 rfl (InR_of rfl) ?_
  refine r_iadd 614 dL_law_613 rfl o_12 ?_
  refine r_sald 615 dL_law_614 rfl rfl o_13 ?_
  refine r_aload_n 616 dL_law_615 rfl rfl ?_
  refine r_iload_n 617 dL_law_616 rfl rfl ?_
  refine r_iconst 618 dL_law_617 rfl (InR_of rfl) ?_
  refine r_iadd 619 dL_law_618 rfl o_14 ?_
  refine r_sald 620 dL_law_619 rfl rfl o_15 ?_
  obtain ⟨r_18, M_16, hc_17, h⟩ := h
  refine v_1 (ci := 12) (C := (RX12, TX12, 68)) [vI (gXS G (x3 + 1).toNat), vI (gXS G (x3 + 2).toNat), vI (gXS G (x3 + 3).toNat)] [vI r_9] 623 dL_law_620 rfl rfl rfl rfl rfl mo_X12_ties ml_NamelessPostLaw_59 rfl rfl hc_17 ?_
  refine r_icmp_eq 626 1915 dL_law_623 rfl rfl (fun c => ?_) (fun c => ?_)
  · have h := h.1 (c)
    obtain ⟨o_19, h⟩ := h
    refine r_iinc (ls' := [some (vR (some (0, 0))), some (vR (some (2, k1))), some (vR (some (3, k2))), some (vI (x3 + 8))]) 1918 dL_law_1915 rfl rfl rfl rfl o_19 rfl ?_
    refine r_goto 18 dL_law_1918 rfl ?_
    exact h
  · have h := h.2 (c)
    refine r_iconst 627 dL_law_626 rfl (InR_of rfl) ?_
    exact r_iret dL_law_627 rfl (.inr ⟨rfl, (.inl rfl)⟩) h.1 h.2
set_option maxRecDepth 4000 in
theorem xL_law_628 {l : Launch} {G : Gt} {d : Nat} {M M' : Mem} {r : Option Vl} {k1 : Nat} {k2 : Nat} {x3 : Int} (h : 
    (InR (x3 + 1) ∧ (0 ≤ (x3 + 1) ∧ (x3 + 1) < (gXL G : Int)) ∧ InR (x3 + 2) ∧ (0 ≤ (x3 + 2) ∧ (x3 + 2) < (gXL G : Int))) ∧ (∃ (r_7 : Int) (M_5 : Mem), Cl l G d mX11_lives [vR (some (2, k1)), vI (gXS G (x3 + 1).toNat), vI (gXS G (x3 + 2).toNat)] M (some (vI r_7)) M_5 ∧ ((InR (x3 + 1) ∧ (0 ≤ (x3 + 1) ∧ (x3 + 1) < (gXL G : Int)) ∧ InR (x3 + 2) ∧ (0 ≤ (x3 + 2) ∧ (x3 + 2) < (gXL G : Int))) ∧ (∃ (r_14 : Int) (M_12 : Mem), Cl l G d mX12_lives [vR (some (3, k2)), vI (gXS G (x3 + 1).toNat), vI (gXS G (x3 + 2).toNat)] M_5 (some (vI r_14)) M_12 ∧ ((r_7 = r_14 → (InR (x3 + 8)) ∧ Ex l G (d + 1) mL_law 18 [some (vR (some (0, 0))), some (vR (some (2, k1))), some (vR (some (3, k2))), some (vI (x3 + 8))] [] M_12 r M') ∧ (¬ (r_7 = r_14) → r = some (vI 0) ∧ M' = M_12)))))) : Ex l G (d + 1) mL_law 628 [some (vR (some (0, 0))), some (vR (some (2, k1))), some (vR (some (3, k2))), some (vI x3)] [] M r M' := by
  obtain ⟨⟨o_1, o_2, o_3, o_4⟩, h⟩ := h
  refine r_aload_n 629 dL_law_628 rfl rfl ?_
  refine r_aload_n 630 dL_law_629 rfl rfl ?_
  refine r_iload_n 631 dL_law_630 rfl rfl ?_
  refine r_iconst 632 dL_law_631 rfl (InR_of rfl) ?_
  refine r_iadd 633 dL_law_632 rfl o_1 ?_
  refine r_sald 634 dL_law_633 rfl rfl o_2 ?_
  refine r_aload_n 635 dL_law_634 rfl rfl ?_
  refine r_iload_n 636 dL_law_635 rfl rfl ?_
  refine r_iconst 637 dL_law_636 rfl (InR_of rfl) ?_
  refine r_iadd 638 dL_law_637 rfl o_3 ?_
  refine r_sald 639 dL_law_638 rfl rfl o_4 ?_
  obtain ⟨r_7, M_5, hc_6, h⟩ := h
  refine v_1 (ci := 11) (C := (RX11, TX11, 16)) [vI (gXS G (x3 + 1).toNat), vI (gXS G (x3 + 2).toNat)] [] 642 dL_law_639 rfl rfl rfl rfl rfl mo_X11_lives ml_NamelessPostLaw_60 rfl rfl hc_6 ?_
  obtain ⟨⟨o_8, o_9, o_10, o_11⟩, h⟩ := h
  refine r_aload_n 643 dL_law_642 rfl rfl ?_
  refine r_aload_n 644 dL_law_643 rfl rfl ?_
  refine r_iload_n 645 dL_law_644 rfl rfl ?_
  refine r_iconst 646 dL_law_645 rfl (InR_of rfl) ?_
  refine r_iadd 647 dL_law_646 rfl o_8 ?_
  refine r_sald 648 dL_law_647 rfl rfl o_9 ?_
  refine r_aload_n 649 dL_law_648 rfl rfl ?_
  refine r_iload_n 650 dL_law_649 rfl rfl ?_
  refine r_iconst 651 dL_law_650 rfl (InR_of rfl) ?_
  refine r_iadd 652 dL_law_651 rfl o_10 ?_
  refine r_sald 653 dL_law_652 rfl rfl o_11 ?_
  obtain ⟨r_14, M_12, hc_13, h⟩ := h
  refine v_1 (ci := 12) (C := (RX12, TX12, 68)) [vI (gXS G (x3 + 1).toNat), vI (gXS G (x3 + 2).toNat)] [vI r_7] 656 dL_law_653 rfl rfl rfl rfl rfl mo_X12_lives ml_NamelessPostLaw_63 rfl rfl hc_13 ?_
  refine r_icmp_eq 659 1915 dL_law_656 rfl rfl (fun c => ?_) (fun c => ?_)
  · have h := h.1 (c)
    obtain ⟨o_15, h⟩ := h
    refine r_iinc (ls' := [some (vR (some (0, 0))), some (vR (some (2, k1))), some (vR (some (3, k2))), some (vI (x3 + 8))]) 1918 dL_law_1915 rfl rfl rfl rfl o_15 rfl ?_
    refine r_goto 18 dL_law_1918 rfl ?_
    exact h
  · have h := h.2 (c)
    refine r_iconst 660 dL_law_659 rfl (InR_of rfl) ?_
    exact r_iret dL_law_660 rfl (.inr ⟨rfl, (.inl rfl)⟩) h.1 h.2
set_option maxRecDepth 4000 in
theorem xL_law_661 {l : Launch} {G : Gt} {d : Nat} {M M' : Mem} {r : Option Vl} {k1 : Nat} {k2 : Nat} {x3 : Int} (h : 
    (InR (x3 + 1) ∧ (0 ≤ (x3 + 1) ∧ (x3 + 1) < (gXL G : Int)) ∧ InR (x3 + 2) ∧ (0 ≤ (x3 + 2) ∧ (x3 + 2) < (gXL G : Int))) ∧ (∃ (r_7 : Int) (M_5 : Mem), Cl l G d mX11_sees [vR (some (2, k1)), vI (gXS G (x3 + 1).toNat), vI (gXS G (x3 + 2).toNat)] M (some (vI r_7)) M_5 ∧ ((InR (x3 + 1) ∧ (0 ≤ (x3 + 1) ∧ (x3 + 1) < (gXL G : Int)) ∧ InR (x3 + 2) ∧ (0 ≤ (x3 + 2) ∧ (x3 + 2) < (gXL G : Int))) ∧ (∃ (r_14 : Int) (M_12 : Mem), Cl l G d mX12_sees [vR (some (3, k2)), vI (gXS G (x3 + 1).toNat), vI (gXS G (x3 + 2).toNat)] M_5 (some (vI r_14)) M_12 ∧ ((r_7 = r_14 → (InR (x3 + 8)) ∧ Ex l G (d + 1) mL_law 18 [some (vR (some (0, 0))), some (vR (some (2, k1))), some (vR (some (3, k2))), some (vI (x3 + 8))] [] M_12 r M') ∧ (¬ (r_7 = r_14) → r = some (vI 0) ∧ M' = M_12)))))) : Ex l G (d + 1) mL_law 661 [some (vR (some (0, 0))), some (vR (some (2, k1))), some (vR (some (3, k2))), some (vI x3)] [] M r M' := by
  obtain ⟨⟨o_1, o_2, o_3, o_4⟩, h⟩ := h
  refine r_aload_n 662 dL_law_661 rfl rfl ?_
  refine r_aload_n 663 dL_law_662 rfl rfl ?_
  refine r_iload_n 664 dL_law_663 rfl rfl ?_
  refine r_iconst 665 dL_law_664 rfl (InR_of rfl) ?_
  refine r_iadd 666 dL_law_665 rfl o_1 ?_
  refine r_sald 667 dL_law_666 rfl rfl o_2 ?_
  refine r_aload_n 668 dL_law_667 rfl rfl ?_
  refine r_iload_n 669 dL_law_668 rfl rfl ?_
  refine r_iconst 670 dL_law_669 rfl (InR_of rfl) ?_
  refine r_iadd 671 dL_law_670 rfl o_3 ?_
  refine r_sald 672 dL_law_671 rfl rfl o_4 ?_
  obtain ⟨r_7, M_5, hc_6, h⟩ := h
  refine v_1 (ci := 11) (C := (RX11, TX11, 16)) [vI (gXS G (x3 + 1).toNat), vI (gXS G (x3 + 2).toNat)] [] 675 dL_law_672 rfl rfl rfl rfl rfl mo_X11_sees ml_NamelessPostLaw_64 rfl rfl hc_6 ?_
  obtain ⟨⟨o_8, o_9, o_10, o_11⟩, h⟩ := h
  refine r_aload_n 676 dL_law_675 rfl rfl ?_
  refine r_aload_n 677 dL_law_676 rfl rfl ?_
  refine r_iload_n 678 dL_law_677 rfl rfl ?_
  refine r_iconst 679 dL_law_678 rfl (InR_of rfl) ?_
  refine r_iadd 680 dL_law_679 rfl o_8 ?_
  refine r_sald 681 dL_law_680 rfl rfl o_9 ?_
  refine r_aload_n 682 dL_law_681 rfl rfl ?_
  refine r_iload_n 683 dL_law_682 rfl rfl ?_
  refine r_iconst 684 dL_law_683 rfl (InR_of rfl) ?_
  refine r_iadd 685 dL_law_684 rfl o_10 ?_
  refine r_sald 686 dL_law_685 rfl rfl o_11 ?_
  obtain ⟨r_14, M_12, hc_13, h⟩ := h
  refine v_1 (ci := 12) (C := (RX12, TX12, 68)) [vI (gXS G (x3 + 1).toNat), vI (gXS G (x3 + 2).toNat)] [vI r_7] 689 dL_law_686 rfl rfl rfl rfl rfl mo_X12_sees ml_NamelessPostLaw_67 rfl rfl hc_13 ?_
  refine r_icmp_eq 692 1915 dL_law_689 rfl rfl (fun c => ?_) (fun c => ?_)
  · have h := h.1 (c)
    obtain ⟨o_15, h⟩ := h
    refine r_iinc (ls' := [some (vR (some (0, 0))), some (vR (some (2, k1))), some (vR (some (3, k2))), some (vI (x3 + 8))]) 1918 dL_law_1915 rfl rfl rfl rfl o_15 rfl ?_
    refine r_goto 18 dL_law_1918 rfl ?_
    exact h
  · have h := h.2 (c)
    refine r_iconst 693 dL_law_692 rfl (InR_of rfl) ?_
    exact r_iret dL_law_693 rfl (.inr ⟨rfl, (.inl rfl)⟩) h.1 h.2
set_option maxRecDepth 4000 in
theorem xL_law_694 {l : Launch} {G : Gt} {d : Nat} {M M' : Mem} {r : Option Vl} {k1 : Nat} {k2 : Nat} {x3 : Int} (h : 
    (InR (x3 + 1) ∧ (0 ≤ (x3 + 1) ∧ (x3 + 1) < (gXL G : Int)) ∧ InR (x3 + 2) ∧ (0 ≤ (x3 + 2) ∧ (x3 + 2) < (gXL G : Int))) ∧ (∃ (r_7 : Int) (M_5 : Mem), Cl l G d mX11_far [vR (some (2, k1)), vI (gXS G (x3 + 1).toNat), vI (gXS G (x3 + 2).toNat)] M (some (vI r_7)) M_5 ∧ ((InR (x3 + 1) ∧ (0 ≤ (x3 + 1) ∧ (x3 + 1) < (gXL G : Int)) ∧ InR (x3 + 2) ∧ (0 ≤ (x3 + 2) ∧ (x3 + 2) < (gXL G : Int))) ∧ (∃ (r_14 : Int) (M_12 : Mem), Cl l G d mX12_far [vR (some (3, k2)), vI (gXS G (x3 + 1).toNat), vI (gXS G (x3 + 2).toNat)] M_5 (some (vI r_14)) M_12 ∧ ((r_7 = r_14 → (InR (x3 + 8)) ∧ Ex l G (d + 1) mL_law 18 [some (vR (some (0, 0))), some (vR (some (2, k1))), some (vR (some (3, k2))), some (vI (x3 + 8))] [] M_12 r M') ∧ (¬ (r_7 = r_14) → r = some (vI 0) ∧ M' = M_12)))))) : Ex l G (d + 1) mL_law 694 [some (vR (some (0, 0))), some (vR (some (2, k1))), some (vR (some (3, k2))), some (vI x3)] [] M r M' := by
  obtain ⟨⟨o_1, o_2, o_3, o_4⟩, h⟩ := h
  refine r_aload_n 695 dL_law_694 rfl rfl ?_
  refine r_aload_n 696 dL_law_695 rfl rfl ?_
  refine r_iload_n 697 dL_law_696 rfl rfl ?_
  refine r_iconst 698 dL_law_697 rfl (InR_of rfl) ?_
  refine r_iadd 699 dL_law_698 rfl o_1 ?_
  refine r_sald 700 dL_law_699 rfl rfl o_2 ?_
  refine r_aload_n 701 dL_law_700 rfl rfl ?_
  refine r_iload_n 702 dL_law_701 rfl rfl ?_
  refine r_iconst 703 dL_law_702 rfl (InR_of rfl) ?_
  refine r_iadd 704 dL_law_703 rfl o_3 ?_
  refine r_sald 705 dL_law_704 rfl rfl o_4 ?_
  obtain ⟨r_7, M_5, hc_6, h⟩ := h
  refine v_1 (ci := 11) (C := (RX11, TX11, 16)) [vI (gXS G (x3 + 1).toNat), vI (gXS G (x3 + 2).toNat)] [] 708 dL_law_705 rfl rfl rfl rfl rfl mo_X11_far ml_NamelessPostLaw_68 rfl rfl hc_6 ?_
  obtain ⟨⟨o_8, o_9, o_10, o_11⟩, h⟩ := h
  refine r_aload_n 709 dL_law_708 rfl rfl ?_
  refine r_aload_n 710 dL_law_709 rfl rfl ?_
  refine r_iload_n 711 dL_law_710 rfl rfl ?_
  refine r_iconst 712 dL_law_711 rfl (InR_of rfl) ?_
  refine r_iadd 713 dL_law_712 rfl o_8 ?_
  refine r_sald 714 dL_law_713 rfl rfl o_9 ?_
  refine r_aload_n 715 dL_law_714 rfl rfl ?_
  refine r_iload_n 716 dL_law_715 rfl rfl ?_
  refine r_iconst 717 dL_law_716 rfl (InR_of rfl) ?_
  refine r_iadd 718 dL_law_717 rfl o_10 ?_
  refine r_sald 719 dL_law_718 rfl rfl o_11 ?_
  obtain ⟨r_14, M_12, hc_13, h⟩ := h
  refine v_1 (ci := 12) (C := (RX12, TX12, 68)) [vI (gXS G (x3 + 1).toNat), vI (gXS G (x3 + 2).toNat)] [vI r_7] 722 dL_law_719 rfl rfl rfl rfl rfl mo_X12_far ml_NamelessPostLaw_71 rfl rfl hc_13 ?_
  refine r_icmp_eq 725 1915 dL_law_722 rfl rfl (fun c => ?_) (fun c => ?_)
  · have h := h.1 (c)
    obtain ⟨o_15, h⟩ := h
    refine r_iinc (ls' := [some (vR (some (0, 0))), some (vR (some (2, k1))), some (vR (some (3, k2))), some (vI (x3 + 8))]) 1918 dL_law_1915 rfl rfl rfl rfl o_15 rfl ?_
    refine r_goto 18 dL_law_1918 rfl ?_
    exact h
  · have h := h.2 (c)
    refine r_iconst 726 dL_law_725 rfl (InR_of rfl) ?_
    exact r_iret dL_law_726 rfl (.inr ⟨rfl, (.inl rfl)⟩) h.1 h.2
set_option maxRecDepth 4000 in
theorem xL_law_727 {l : Launch} {G : Gt} {d : Nat} {M M' : Mem} {r : Option Vl} {k1 : Nat} {k2 : Nat} {x3 : Int} (h : 
    (InR (x3 + 1) ∧ (0 ≤ (x3 + 1) ∧ (x3 + 1) < (gXL G : Int)) ∧ InR (x3 + 2) ∧ (0 ≤ (x3 + 2) ∧ (x3 + 2) < (gXL G : Int)) ∧ InR (x3 + 3) ∧ (0 ≤ (x3 + 3) ∧ (x3 + 3) < (gXL G : Int)) ∧ InR (x3 + 4) ∧ (0 ≤ (x3 + 4) ∧ (x3 + 4) < (gXL G : Int)) ∧ InR (x3 + 5) ∧ (0 ≤ (x3 + 5) ∧ (x3 + 5) < (gXL G : Int))) ∧ (∃ (r_13 : Int) (M_11 : Mem), Cl l G d mX11_fits [vR (some (2, k1)), vI (gXS G (x3 + 1).toNat), vI (gXS G (x3 + 2).toNat), vI (gXS G (x3 + 3).toNat), vI (gXS G (x3 + 4).toNat), vI (gXS G (x3 + 5).toNat)] M (some (vI r_13)) M_11 ∧ ((InR (x3 + 1) ∧ (0 ≤ (x3 + 1) ∧ (x3 + 1) < (gXL G : Int)) ∧ InR (x3 + 2) ∧ (0 ≤ (x3 + 2) ∧ (x3 + 2) < (gXL G : Int)) ∧ InR (x3 + 3) ∧ (0 ≤ (x3 + 3) ∧ (x3 + 3) < (gXL G : Int)) ∧ InR (x3 + 4) ∧ (0 ≤ (x3 + 4) ∧ (x3 + 4) < (gXL G : Int)) ∧ InR (x3 + 5) ∧ (0 ≤ (x3 + 5) ∧ (x3 + 5) < (gXL G : Int))) ∧ (∃ (r_26 : Int) (M_24 : Mem), Cl l G d mX12_fits [vR (some (3, k2)), vI (gXS G (x3 + 1).toNat), vI (gXS G (x3 + 2).toNat), vI (gXS G (x3 + 3).toNat), vI (gXS G (x3 + 4).toNat), vI (gXS G (x3 + 5).toNat)] M_11 (some (vI r_26)) M_24 ∧ ((r_13 = r_26 → (InR (x3 + 8)) ∧ Ex l G (d + 1) mL_law 18 [some (vR (some (0, 0))), some (vR (some (2, k1))), some (vR (some (3, k2))), some (vI (x3 + 8))] [] M_24 r M') ∧ (¬ (r_13 = r_26) → r = some (vI 0) ∧ M' = M_24)))))) : Ex l G (d + 1) mL_law 727 [some (vR (some (0, 0))), some (vR (some (2, k1))), some (vR (some (3, k2))), some (vI x3)] [] M r M' := by
  obtain ⟨⟨o_1, o_2, o_3, o_4, o_5, o_6, o_7, o_8, o_9, o_10⟩, h⟩ := h
  refine r_aload_n 728 dL_law_727 rfl rfl ?_
  refine r_aload_n 729 dL_law_728 rfl rfl ?_
  refine r_iload_n 730 dL_law_729 rfl rfl ?_
  refine r_iconst 731 dL_law_730 rfl (InR_of rfl) ?_
  refine r_iadd 732 dL_law_731 rfl o_1 ?_
  refine r_sald 733 dL_law_732 rfl rfl o_2 ?_
  refine r_aload_n 734 dL_law_733 rfl rfl ?_
  refine r_iload_n 735 dL_law_734 rfl rfl ?_
  refine r_iconst 736 dL_law_735 rfl (InR_of rfl) ?_
  refine r_iadd 737 dL_law_736 rfl o_3 ?_
  refine r_sald 738 dL_law_737 rfl rfl o_4 ?_
  refine r_aload_n 739 dL_law_738 rfl rfl ?_
  refine r_iload_n 740 dL_law_739 rfl rfl ?_
  refine r_iconst 741 dL_law_740 rfl (InR_of rfl) ?_
  refine r_iadd 742 dL_law_741 rfl o_5 ?_
  refine r_sald 743 dL_law_742 rfl rfl o_6 ?_
  refine r_aload_n 744 dL_law_743 rfl rfl ?_
  refine r_iload_n 745 dL_law_744 rfl rfl ?_
  refine r_iconst 746 dL_law_745 rfl (InR_of rfl) ?_
  refine r_iadd 747 dL_law_746 rfl o_7 ?_
  refine r_sald 748 dL_law_747 rfl rfl o_8 ?_
  refine r_aload_n 749 dL_law_748 rfl rfl ?_
  refine r_iload_n 750 dL_law_749 rfl rfl ?_
  refine r_iconst 751 dL_law_750 rfl (InR_of rfl) ?_
  refine r_iadd 752 dL_law_751 rfl o_9 ?_
  refine r_sald 753 dL_law_752 rfl rfl o_10 ?_
  obtain ⟨r_13, M_11, hc_12, h⟩ := h
  refine v_1 (ci := 11) (C := (RX11, TX11, 16)) [vI (gXS G (x3 + 1).toNat), vI (gXS G (x3 + 2).toNat), vI (gXS G (x3 + 3).toNat), vI (gXS G (x3 + 4).toNat), vI (gXS G (x3 + 5).toNat)] [] 756 dL_law_753 rfl rfl rfl rfl rfl mo_X11_fits ml_NamelessPostLaw_72 rfl rfl hc_12 ?_
  obtain ⟨⟨o_14, o_15, o_16, o_17, o_18, o_19, o_20, o_21, o_22, o_23⟩, h⟩ := h
  refine r_aload_n 757 dL_law_756 rfl rfl ?_
  refine r_aload_n 758 dL_law_757 rfl rfl ?_
  refine r_iload_n 759 dL_law_758 rfl rfl ?_
  refine r_iconst 760 dL_law_759 rfl (InR_of rfl) ?_
  refine r_iadd 761 dL_law_760 rfl o_14 ?_
  refine r_sald 762 dL_law_761 rfl rfl o_15 ?_
  refine r_aload_n 763 dL_law_762 rfl rfl ?_
  refine r_iload_n 764 dL_law_763 rfl rfl ?_
  refine r_iconst 765 dL_law_764 rfl (InR_of rfl) ?_
  refine r_iadd 766 dL_law_765 rfl o_16 ?_
  refine r_sald 767 dL_law_766 rfl rfl o_17 ?_
  refine r_aload_n 768 dL_law_767 rfl rfl ?_
  refine r_iload_n 769 dL_law_768 rfl rfl ?_
  refine r_iconst 770 dL_law_769 rfl (InR_of rfl) ?_
  refine r_iadd 771 dL_law_770 rfl o_18 ?_
  refine r_sald 772 dL_law_771 rfl rfl o_19 ?_
  refine r_aload_n 773 dL_law_772 rfl rfl ?_
  refine r_iload_n 774 dL_law_773 rfl rfl ?_
  refine r_iconst 775 dL_law_774 rfl (InR_of rfl) ?_
  refine r_iadd 776 dL_law_775 rfl o_20 ?_
  refine r_sald 777 dL_law_776 rfl rfl o_21 ?_
  refine r_aload_n 778 dL_law_777 rfl rfl ?_
  refine r_iload_n 779 dL_law_778 rfl rfl ?_
  refine r_iconst 780 dL_law_779 rfl (InR_of rfl) ?_
  refine r_iadd 781 dL_law_780 rfl o_22 ?_
  refine r_sald 782 dL_law_781 rfl rfl o_23 ?_
  obtain ⟨r_26, M_24, hc_25, h⟩ := h
  refine v_1 (ci := 12) (C := (RX12, TX12, 68)) [vI (gXS G (x3 + 1).toNat), vI (gXS G (x3 + 2).toNat), vI (gXS G (x3 + 3).toNat), vI (gXS G (x3 + 4).toNat), vI (gXS G (x3 + 5).toNat)] [vI r_13] 785 dL_law_782 rfl rfl rfl rfl rfl mo_X12_fits ml_NamelessPostLaw_75 rfl rfl hc_25 ?_
  refine r_icmp_eq 788 1915 dL_law_785 rfl rfl (fun c => ?_) (fun c => ?_)
  · have h := h.1 (c)
    obtain ⟨o_27, h⟩ := h
    refine r_iinc (ls' := [some (vR (some (0, 0))), some (vR (some (2, k1))), some (vR (some (3, k2))), some (vI (x3 + 8))]) 1918 dL_law_1915 rfl rfl rfl rfl o_27 rfl ?_
    refine r_goto 18 dL_law_1918 rfl ?_
    exact h
  · have h := h.2 (c)
    refine r_iconst 789 dL_law_788 rfl (InR_of rfl) ?_
    exact r_iret dL_law_789 rfl (.inr ⟨rfl, (.inl rfl)⟩) h.1 h.2
set_option maxRecDepth 4000 in
theorem xL_law_790 {l : Launch} {G : Gt} {d : Nat} {M M' : Mem} {r : Option Vl} {k1 : Nat} {k2 : Nat} {x3 : Int} (h : 
    (InR (x3 + 1) ∧ (0 ≤ (x3 + 1) ∧ (x3 + 1) < (gXL G : Int)) ∧ InR (x3 + 2) ∧ (0 ≤ (x3 + 2) ∧ (x3 + 2) < (gXL G : Int)) ∧ InR (x3 + 3) ∧ (0 ≤ (x3 + 3) ∧ (x3 + 3) < (gXL G : Int)) ∧ InR (x3 + 4) ∧ (0 ≤ (x3 + 4) ∧ (x3 + 4) < (gXL G : Int)) ∧ InR (x3 + 5) ∧ (0 ≤ (x3 + 5) ∧ (x3 + 5) < (gXL G : Int)) ∧ InR (x3 + 6) ∧ (0 ≤ (x3 + 6) ∧ (x3 + 6) < (gXL G : Int))) ∧ (∃ (r_15 : Int) (M_13 : Mem), Cl l G d mX11_asked [vR (some (2, k1)), vI (gXS G (x3 + 1).toNat), vI (gXS G (x3 + 2).toNat), vI (gXS G (x3 + 3).toNat), vI (gXS G (x3 + 4).toNat), vI (gXS G (x3 + 5).toNat), vI (gXS G (x3 + 6).toNat)] M (some (vI r_15)) M_13 ∧ ((InR (x3 + 1) ∧ (0 ≤ (x3 + 1) ∧ (x3 + 1) < (gXL G : Int)) ∧ InR (x3 + 2) ∧ (0 ≤ (x3 + 2) ∧ (x3 + 2) < (gXL G : Int)) ∧ InR (x3 + 3) ∧ (0 ≤ (x3 + 3) ∧ (x3 + 3) < (gXL G : Int)) ∧ InR (x3 + 4) ∧ (0 ≤ (x3 + 4) ∧ (x3 + 4) < (gXL G : Int)) ∧ InR (x3 + 5) ∧ (0 ≤ (x3 + 5) ∧ (x3 + 5) < (gXL G : Int)) ∧ InR (x3 + 6) ∧ (0 ≤ (x3 + 6) ∧ (x3 + 6) < (gXL G : Int))) ∧ (∃ (r_30 : Int) (M_28 : Mem), Cl l G d mX12_asked [vR (some (3, k2)), vI (gXS G (x3 + 1).toNat), vI (gXS G (x3 + 2).toNat), vI (gXS G (x3 + 3).toNat), vI (gXS G (x3 + 4).toNat), vI (gXS G (x3 + 5).toNat), vI (gXS G (x3 + 6).toNat)] M_13 (some (vI r_30)) M_28 ∧ ((r_15 = r_30 → (InR (x3 + 8)) ∧ Ex l G (d + 1) mL_law 18 [some (vR (some (0, 0))), some (vR (some (2, k1))), some (vR (some (3, k2))), some (vI (x3 + 8))] [] M_28 r M') ∧ (¬ (r_15 = r_30) → r = some (vI 0) ∧ M' = M_28)))))) : Ex l G (d + 1) mL_law 790 [some (vR (some (0, 0))), some (vR (some (2, k1))), some (vR (some (3, k2))), some (vI x3)] [] M r M' := by
  obtain ⟨⟨o_1, o_2, o_3, o_4, o_5, o_6, o_7, o_8, o_9, o_10, o_11, o_12⟩, h⟩ := h
  refine r_aload_n 791 dL_law_790 rfl rfl ?_
  refine r_aload_n 792 dL_law_791 rfl rfl ?_
  refine r_iload_n 793 dL_law_792 rfl rfl ?_
  refine r_iconst 794 dL_law_793 rfl (InR_of rfl) ?_
  refine r_iadd 795 dL_law_794 rfl o_1 ?_
  refine r_sald 796 dL_law_795 rfl rfl o_2 ?_
  refine r_aload_n 797 dL_law_796 rfl rfl ?_
  refine r_iload_n 798 dL_law_797 rfl rfl ?_
  refine r_iconst 799 dL_law_798 rfl (InR_of rfl) ?_
  refine r_iadd 800 dL_law_799 rfl o_3 ?_
  refine r_sald 801 dL_law_800 rfl rfl o_4 ?_
  refine r_aload_n 802 dL_law_801 rfl rfl ?_
  refine r_iload_n 803 dL_law_802 rfl rfl ?_
  refine r_iconst 804 dL_law_803 rfl (InR_of rfl) ?_
  refine r_iadd 805 dL_law_804 rfl o_5 ?_
  refine r_sald 806 dL_law_805 rfl rfl o_6 ?_
  refine r_aload_n 807 dL_law_806 rfl rfl ?_
  refine r_iload_n 808 dL_law_807 rfl rfl ?_
  refine r_iconst 809 dL_law_808 rfl (InR_of rfl) ?_
  refine r_iadd 810 dL_law_809 rfl o_7 ?_
  refine r_sald 811 dL_law_810 rfl rfl o_8 ?_
  refine r_aload_n 812 dL_law_811 rfl rfl ?_
  refine r_iload_n 813 dL_law_812 rfl rfl ?_
  refine r_iconst 814 dL_law_813 rfl (InR_of rfl) ?_
  refine r_iadd 815 dL_law_814 rfl o_9 ?_
  refine r_sald 816 dL_law_815 rfl rfl o_10 ?_
  refine r_aload_n 817 dL_law_816 rfl rfl ?_
  refine r_iload_n 818 dL_law_817 rfl rfl ?_
  refine r_bipush 820 dL_law_818 rfl rfl ?_
  refine r_iadd 821 dL_law_820 rfl o_11 ?_
  refine r_sald 822 dL_law_821 rfl rfl o_12 ?_
  obtain ⟨r_15, M_13, hc_14, h⟩ := h
  refine v_1 (ci := 11) (C := (RX11, TX11, 16)) [vI (gXS G (x3 + 1).toNat), vI (gXS G (x3 + 2).toNat), vI (gXS G (x3 + 3).toNat), vI (gXS G (x3 + 4).toNat), vI (gXS G (x3 + 5).toNat), vI (gXS G (x3 + 6).toNat)] [] 825 dL_law_822 rfl rfl rfl rfl rfl mo_X11_asked ml_NamelessPostLaw_76 rfl rfl hc_14 ?_
  obtain ⟨⟨o_16, o_17, o_18, o_19, o_20, o_21, o_22, o_23, o_24, o_25, o_26, o_27⟩, h⟩ := h
  refine r_aload_n 826 dL_law_825 rfl rfl ?_
  refine r_aload_n 827 dL_law_826 rfl rfl ?_
  refine r_iload_n 828 dL_law_827 rfl rfl ?_
  refine r_iconst 829 dL_law_828 rfl (InR_of rfl) ?_
  refine r_iadd 830 dL_law_829 rfl o_16 ?_
  refine r_sald 831 dL_law_830 rfl rfl o_17 ?_
  refine r_aload_n 832 dL_law_831 rfl rfl ?_
  refine r_iload_n 833 dL_law_832 rfl rfl ?_
  refine r_iconst 834 dL_law_833 rfl (InR_of rfl) ?_
  refine r_iadd 835 dL_law_834 rfl o_18 ?_
  refine r_sald 836 dL_law_835 rfl rfl o_19 ?_
  refine r_aload_n 837 dL_law_836 rfl rfl ?_
  refine r_iload_n 838 dL_law_837 rfl rfl ?_
  refine r_iconst 839 dL_law_838 rfl (InR_of rfl) ?_
  refine r_iadd 840 dL_law_839 rfl o_20 ?_
  refine r_sald 841 dL_law_840 rfl rfl o_21 ?_
  refine r_aload_n 842 dL_law_841 rfl rfl ?_
  refine r_iload_n 843 dL_law_842 rfl rfl ?_
  refine r_iconst 844 dL_law_843 rfl (InR_of rfl) ?_
  refine r_iadd 845 dL_law_844 rfl o_22 ?_
  refine r_sald 846 dL_law_845 rfl rfl o_23 ?_
  refine r_aload_n 847 dL_law_846 rfl rfl ?_
  refine r_iload_n 848 dL_law_847 rfl rfl ?_
  refine r_iconst 849 dL_law_848 rfl (InR_of rfl) ?_
  refine r_iadd 850 dL_law_849 rfl o_24 ?_
  refine r_sald 851 dL_law_850 rfl rfl o_25 ?_
  refine r_aload_n 852 dL_law_851 rfl rfl ?_
  refine r_iload_n 853 dL_law_852 rfl rfl ?_
  refine r_bipush 855 dL_law_853 rfl rfl ?_
  refine r_iadd 856 dL_law_855 rfl o_26 ?_
  refine r_sald 857 dL_law_856 rfl rfl o_27 ?_
  obtain ⟨r_30, M_28, hc_29, h⟩ := h
  refine v_1 (ci := 12) (C := (RX12, TX12, 68)) [vI (gXS G (x3 + 1).toNat), vI (gXS G (x3 + 2).toNat), vI (gXS G (x3 + 3).toNat), vI (gXS G (x3 + 4).toNat), vI (gXS G (x3 + 5).toNat), vI (gXS G (x3 + 6).toNat)] [vI r_15] 860 dL_law_857 rfl rfl rfl rfl rfl mo_X12_asked ml_NamelessPostLaw_80 rfl rfl hc_29 ?_
  refine r_icmp_eq 863 1915 dL_law_860 rfl rfl (fun c => ?_) (fun c => ?_)
  · have h := h.1 (c)
    obtain ⟨o_31, h⟩ := h
    refine r_iinc (ls' := [some (vR (some (0, 0))), some (vR (some (2, k1))), some (vR (some (3, k2))), some (vI (x3 + 8))]) 1918 dL_law_1915 rfl rfl rfl rfl o_31 rfl ?_
    refine r_goto 18 dL_law_1918 rfl ?_
    exact h
  · have h := h.2 (c)
    refine r_iconst 864 dL_law_863 rfl (InR_of rfl) ?_
    exact r_iret dL_law_864 rfl (.inr ⟨rfl, (.inl rfl)⟩) h.1 h.2
set_option maxRecDepth 4000 in
theorem xL_law_865 {l : Launch} {G : Gt} {d : Nat} {M M' : Mem} {r : Option Vl} {k1 : Nat} {k2 : Nat} {x3 : Int} (h : 
    (InR (x3 + 1) ∧ (0 ≤ (x3 + 1) ∧ (x3 + 1) < (gXL G : Int)) ∧ InR (x3 + 2) ∧ (0 ≤ (x3 + 2) ∧ (x3 + 2) < (gXL G : Int)) ∧ InR (x3 + 3) ∧ (0 ≤ (x3 + 3) ∧ (x3 + 3) < (gXL G : Int)) ∧ InR (x3 + 4) ∧ (0 ≤ (x3 + 4) ∧ (x3 + 4) < (gXL G : Int))) ∧ (∃ (r_11 : Int) (M_9 : Mem), Cl l G d mX11_stale [vR (some (2, k1)), vI (gXS G (x3 + 1).toNat), vI (gXS G (x3 + 2).toNat), vI (gXS G (x3 + 3).toNat), vI (gXS G (x3 + 4).toNat)] M (some (vI r_11)) M_9 ∧ ((InR (x3 + 1) ∧ (0 ≤ (x3 + 1) ∧ (x3 + 1) < (gXL G : Int)) ∧ InR (x3 + 2) ∧ (0 ≤ (x3 + 2) ∧ (x3 + 2) < (gXL G : Int)) ∧ InR (x3 + 3) ∧ (0 ≤ (x3 + 3) ∧ (x3 + 3) < (gXL G : Int)) ∧ InR (x3 + 4) ∧ (0 ≤ (x3 + 4) ∧ (x3 + 4) < (gXL G : Int))) ∧ (∃ (r_22 : Int) (M_20 : Mem), Cl l G d mX12_stale [vR (some (3, k2)), vI (gXS G (x3 + 1).toNat), vI (gXS G (x3 + 2).toNat), vI (gXS G (x3 + 3).toNat), vI (gXS G (x3 + 4).toNat)] M_9 (some (vI r_22)) M_20 ∧ ((r_11 = r_22 → (InR (x3 + 8)) ∧ Ex l G (d + 1) mL_law 18 [some (vR (some (0, 0))), some (vR (some (2, k1))), some (vR (some (3, k2))), some (vI (x3 + 8))] [] M_20 r M') ∧ (¬ (r_11 = r_22) → r = some (vI 0) ∧ M' = M_20)))))) : Ex l G (d + 1) mL_law 865 [some (vR (some (0, 0))), some (vR (some (2, k1))), some (vR (some (3, k2))), some (vI x3)] [] M r M' := by
  obtain ⟨⟨o_1, o_2, o_3, o_4, o_5, o_6, o_7, o_8⟩, h⟩ := h
  refine r_aload_n 866 dL_law_865 rfl rfl ?_
  refine r_aload_n 867 dL_law_866 rfl rfl ?_
  refine r_iload_n 868 dL_law_867 rfl rfl ?_
  refine r_iconst 869 dL_law_868 rfl (InR_of rfl) ?_
  refine r_iadd 870 dL_law_869 rfl o_1 ?_
  refine r_sald 871 dL_law_870 rfl rfl o_2 ?_
  refine r_aload_n 872 dL_law_871 rfl rfl ?_
  refine r_iload_n 873 dL_law_872 rfl rfl ?_
  refine r_iconst 874 dL_law_873 rfl (InR_of rfl) ?_
  refine r_iadd 875 dL_law_874 rfl o_3 ?_
  refine r_sald 876 dL_law_875 rfl rfl o_4 ?_
  refine r_aload_n 877 dL_law_876 rfl rfl ?_
  refine r_iload_n 878 dL_law_877 rfl rfl ?_
  refine r_iconst 879 dL_law_878 rfl (InR_of rfl) ?_
  refine r_iadd 880 dL_law_879 rfl o_5 ?_
  refine r_sald 881 dL_law_880 rfl rfl o_6 ?_
  refine r_aload_n 882 dL_law_881 rfl rfl ?_
  refine r_iload_n 883 dL_law_882 rfl rfl ?_
  refine r_iconst 884 dL_law_883 rfl (InR_of rfl) ?_
  refine r_iadd 885 dL_law_884 rfl o_7 ?_
  refine r_sald 886 dL_law_885 rfl rfl o_8 ?_
  obtain ⟨r_11, M_9, hc_10, h⟩ := h
  refine v_1 (ci := 11) (C := (RX11, TX11, 16)) [vI (gXS G (x3 + 1).toNat), vI (gXS G (x3 + 2).toNat), vI (gXS G (x3 + 3).toNat), vI (gXS G (x3 + 4).toNat)] [] 889 dL_law_886 rfl rfl rfl rfl rfl mo_X11_stale ml_NamelessPostLaw_81 rfl rfl hc_10 ?_
  obtain ⟨⟨o_12, o_13, o_14, o_15, o_16, o_17, o_18, o_19⟩, h⟩ := h
  refine r_aload_n 890 dL_law_889 rfl rfl ?_
  refine r_aload_n 891 dL_law_890 rfl rfl ?_
  refine r_iload_n 892 dL_law_891 rfl rfl ?_
  refine r_iconst 893 dL_law_892 rfl (InR_of rfl) ?_
  refine r_iadd 894 dL_law_893 rfl o_12 ?_
  refine r_sald 895 dL_law_894 rfl rfl o_13 ?_
  refine r_aload_n 896 dL_law_895 rfl rfl ?_
  refine r_iload_n 897 dL_law_896 rfl rfl ?_
  refine r_iconst 898 dL_law_897 rfl (InR_of rfl) ?_
  refine r_iadd 899 dL_law_898 rfl o_14 ?_
  refine r_sald 900 dL_law_899 rfl rfl o_15 ?_
  refine r_aload_n 901 dL_law_900 rfl rfl ?_
  refine r_iload_n 902 dL_law_901 rfl rfl ?_
  refine r_iconst 903 dL_law_902 rfl (InR_of rfl) ?_
  refine r_iadd 904 dL_law_903 rfl o_16 ?_
  refine r_sald 905 dL_law_904 rfl rfl o_17 ?_
  refine r_aload_n 906 dL_law_905 rfl rfl ?_
  refine r_iload_n 907 dL_law_906 rfl rfl ?_
  refine r_iconst 908 dL_law_907 rfl (InR_of rfl) ?_
  refine r_iadd 909 dL_law_908 rfl o_18 ?_
  refine r_sald 910 dL_law_909 rfl rfl o_19 ?_
  obtain ⟨r_22, M_20, hc_21, h⟩ := h
  refine v_1 (ci := 12) (C := (RX12, TX12, 68)) [vI (gXS G (x3 + 1).toNat), vI (gXS G (x3 + 2).toNat), vI (gXS G (x3 + 3).toNat), vI (gXS G (x3 + 4).toNat)] [vI r_11] 913 dL_law_910 rfl rfl rfl rfl rfl mo_X12_stale ml_NamelessPostLaw_85 rfl rfl hc_21 ?_
  refine r_icmp_eq 916 1915 dL_law_913 rfl rfl (fun c => ?_) (fun c => ?_)
  · have h := h.1 (c)
    obtain ⟨o_23, h⟩ := h
    refine r_iinc (ls' := [some (vR (some (0, 0))), some (vR (some (2, k1))), some (vR (some (3, k2))), some (vI (x3 + 8))]) 1918 dL_law_1915 rfl rfl rfl rfl o_23 rfl ?_
    refine r_goto 18 dL_law_1918 rfl ?_
    exact h
  · have h := h.2 (c)
    refine r_iconst 917 dL_law_916 rfl (InR_of rfl) ?_
    exact r_iret dL_law_917 rfl (.inr ⟨rfl, (.inl rfl)⟩) h.1 h.2
set_option maxRecDepth 4000 in
theorem xL_law_918 {l : Launch} {G : Gt} {d : Nat} {M M' : Mem} {r : Option Vl} {k1 : Nat} {k2 : Nat} {x3 : Int} (h : 
    (InR (x3 + 1) ∧ (0 ≤ (x3 + 1) ∧ (x3 + 1) < (gXL G : Int)) ∧ InR (x3 + 2) ∧ (0 ≤ (x3 + 2) ∧ (x3 + 2) < (gXL G : Int)) ∧ InR (x3 + 3) ∧ (0 ≤ (x3 + 3) ∧ (x3 + 3) < (gXL G : Int)) ∧ InR (x3 + 4) ∧ (0 ≤ (x3 + 4) ∧ (x3 + 4) < (gXL G : Int))) ∧ (∃ (r_11 : Int) (M_9 : Mem), Cl l G d mX11_letter [vR (some (2, k1)), vI (gXS G (x3 + 1).toNat), vI (gXS G (x3 + 2).toNat), vI (gXS G (x3 + 3).toNat), vI (gXS G (x3 + 4).toNat)] M (some (vI r_11)) M_9 ∧ ((InR (x3 + 1) ∧ (0 ≤ (x3 + 1) ∧ (x3 + 1) < (gXL G : Int)) ∧ InR (x3 + 2) ∧ (0 ≤ (x3 + 2) ∧ (x3 + 2) < (gXL G : Int)) ∧ InR (x3 + 3) ∧ (0 ≤ (x3 + 3) ∧ (x3 + 3) < (gXL G : Int)) ∧ InR (x3 + 4) ∧ (0 ≤ (x3 + 4) ∧ (x3 + 4) < (gXL G : Int))) ∧ (∃ (r_22 : Int) (M_20 : Mem), Cl l G d mX12_letter [vR (some (3, k2)), vI (gXS G (x3 + 1).toNat), vI (gXS G (x3 + 2).toNat), vI (gXS G (x3 + 3).toNat), vI (gXS G (x3 + 4).toNat)] M_9 (some (vI r_22)) M_20 ∧ ((r_11 = r_22 → (InR (x3 + 8)) ∧ Ex l G (d + 1) mL_law 18 [some (vR (some (0, 0))), some (vR (some (2, k1))), some (vR (some (3, k2))), some (vI (x3 + 8))] [] M_20 r M') ∧ (¬ (r_11 = r_22) → r = some (vI 0) ∧ M' = M_20)))))) : Ex l G (d + 1) mL_law 918 [some (vR (some (0, 0))), some (vR (some (2, k1))), some (vR (some (3, k2))), some (vI x3)] [] M r M' := by
  obtain ⟨⟨o_1, o_2, o_3, o_4, o_5, o_6, o_7, o_8⟩, h⟩ := h
  refine r_aload_n 919 dL_law_918 rfl rfl ?_
  refine r_aload_n 920 dL_law_919 rfl rfl ?_
  refine r_iload_n 921 dL_law_920 rfl rfl ?_
  refine r_iconst 922 dL_law_921 rfl (InR_of rfl) ?_
  refine r_iadd 923 dL_law_922 rfl o_1 ?_
  refine r_sald 924 dL_law_923 rfl rfl o_2 ?_
  refine r_aload_n 925 dL_law_924 rfl rfl ?_
  refine r_iload_n 926 dL_law_925 rfl rfl ?_
  refine r_iconst 927 dL_law_926 rfl (InR_of rfl) ?_
  refine r_iadd 928 dL_law_927 rfl o_3 ?_
  refine r_sald 929 dL_law_928 rfl rfl o_4 ?_
  refine r_aload_n 930 dL_law_929 rfl rfl ?_
  refine r_iload_n 931 dL_law_930 rfl rfl ?_
  refine r_iconst 932 dL_law_931 rfl (InR_of rfl) ?_
  refine r_iadd 933 dL_law_932 rfl o_5 ?_
  refine r_sald 934 dL_law_933 rfl rfl o_6 ?_
  refine r_aload_n 935 dL_law_934 rfl rfl ?_
  refine r_iload_n 936 dL_law_935 rfl rfl ?_
  refine r_iconst 937 dL_law_936 rfl (InR_of rfl) ?_
  refine r_iadd 938 dL_law_937 rfl o_7 ?_
  refine r_sald 939 dL_law_938 rfl rfl o_8 ?_
  obtain ⟨r_11, M_9, hc_10, h⟩ := h
  refine v_1 (ci := 11) (C := (RX11, TX11, 16)) [vI (gXS G (x3 + 1).toNat), vI (gXS G (x3 + 2).toNat), vI (gXS G (x3 + 3).toNat), vI (gXS G (x3 + 4).toNat)] [] 942 dL_law_939 rfl rfl rfl rfl rfl mo_X11_letter ml_NamelessPostLaw_86 rfl rfl hc_10 ?_
  obtain ⟨⟨o_12, o_13, o_14, o_15, o_16, o_17, o_18, o_19⟩, h⟩ := h
  refine r_aload_n 943 dL_law_942 rfl rfl ?_
  refine r_aload_n 944 dL_law_943 rfl rfl ?_
  refine r_iload_n 945 dL_law_944 rfl rfl ?_
  refine r_iconst 946 dL_law_945 rfl (InR_of rfl) ?_
  refine r_iadd 947 dL_law_946 rfl o_12 ?_
  refine r_sald 948 dL_law_947 rfl rfl o_13 ?_
  refine r_aload_n 949 dL_law_948 rfl rfl ?_
  refine r_iload_n 950 dL_law_949 rfl rfl ?_
  refine r_iconst 951 dL_law_950 rfl (InR_of rfl) ?_
  refine r_iadd 952 dL_law_951 rfl o_14 ?_
  refine r_sald 953 dL_law_952 rfl rfl o_15 ?_
  refine r_aload_n 954 dL_law_953 rfl rfl ?_
  refine r_iload_n 955 dL_law_954 rfl rfl ?_
  refine r_iconst 956 dL_law_955 rfl (InR_of rfl) ?_
  refine r_iadd 957 dL_law_956 rfl o_16 ?_
  refine r_sald 958 dL_law_957 rfl rfl o_17 ?_
  refine r_aload_n 959 dL_law_958 rfl rfl ?_
  refine r_iload_n 960 dL_law_959 rfl rfl ?_
  refine r_iconst 961 dL_law_960 rfl (InR_of rfl) ?_
  refine r_iadd 962 dL_law_961 rfl o_18 ?_
  refine r_sald 963 dL_law_962 rfl rfl o_19 ?_
  obtain ⟨r_22, M_20, hc_21, h⟩ := h
  refine v_1 (ci := 12) (C := (RX12, TX12, 68)) [vI (gXS G (x3 + 1).toNat), vI (gXS G (x3 + 2).toNat), vI (gXS G (x3 + 3).toNat), vI (gXS G (x3 + 4).toNat)] [vI r_11] 966 dL_law_963 rfl rfl rfl rfl rfl mo_X12_letter ml_NamelessPostLaw_89 rfl rfl hc_21 ?_
  refine r_icmp_eq 969 1915 dL_law_966 rfl rfl (fun c => ?_) (fun c => ?_)
  · have h := h.1 (c)
    obtain ⟨o_23, h⟩ := h
    refine r_iinc (ls' := [some (vR (some (0, 0))), some (vR (some (2, k1))), some (vR (some (3, k2))), some (vI (x3 + 8))]) 1918 dL_law_1915 rfl rfl rfl rfl o_23 rfl ?_
    refine r_goto 18 dL_law_1918 rfl ?_
    exact h
  · have h := h.2 (c)
    refine r_iconst 970 dL_law_969 rfl (InR_of rfl) ?_
    exact r_iret dL_law_970 rfl (.inr ⟨rfl, (.inl rfl)⟩) h.1 h.2
set_option maxRecDepth 4000 in
theorem xL_law_971 {l : Launch} {G : Gt} {d : Nat} {M M' : Mem} {r : Option Vl} {k1 : Nat} {k2 : Nat} {x3 : Int} (h : 
    (InR (x3 + 1) ∧ (0 ≤ (x3 + 1) ∧ (x3 + 1) < (gXL G : Int))) ∧ (∃ (r_5 : Int) (M_3 : Mem), Cl l G d mX11_days [vR (some (2, k1)), vI (gXS G (x3 + 1).toNat)] M (some (vI r_5)) M_3 ∧ ((InR (x3 + 1) ∧ (0 ≤ (x3 + 1) ∧ (x3 + 1) < (gXL G : Int))) ∧ (∃ (r_10 : Int) (M_8 : Mem), Cl l G d mX12_days [vR (some (3, k2)), vI (gXS G (x3 + 1).toNat)] M_3 (some (vI r_10)) M_8 ∧ ((r_5 = r_10 → (InR (x3 + 8)) ∧ Ex l G (d + 1) mL_law 18 [some (vR (some (0, 0))), some (vR (some (2, k1))), some (vR (some (3, k2))), some (vI (x3 + 8))] [] M_8 r M') ∧ (¬ (r_5 = r_10) → r = some (vI 0) ∧ M' = M_8)))))) : Ex l G (d + 1) mL_law 971 [some (vR (some (0, 0))), some (vR (some (2, k1))), some (vR (some (3, k2))), some (vI x3)] [] M r M' := by
  obtain ⟨⟨o_1, o_2⟩, h⟩ := h
  refine r_aload_n 972 dL_law_971 rfl rfl ?_
  refine r_aload_n 973 dL_law_972 rfl rfl ?_
  refine r_iload_n 974 dL_law_973 rfl rfl ?_
  refine r_iconst 975 dL_law_974 rfl (InR_of rfl) ?_
  refine r_iadd 976 dL_law_975 rfl o_1 ?_
  refine r_sald 977 dL_law_976 rfl rfl o_2 ?_
  obtain ⟨r_5, M_3, hc_4, h⟩ := h
  refine v_1 (ci := 11) (C := (RX11, TX11, 16)) [vI (gXS G (x3 + 1).toNat)] [] 980 dL_law_977 rfl rfl rfl rfl rfl mo_X11_days ml_NamelessPostLaw_90 rfl rfl hc_4 ?_
  obtain ⟨⟨o_6, o_7⟩, h⟩ := h
  refine r_aload_n 981 dL_law_980 rfl rfl ?_
  refine r_aload_n 982 dL_law_981 rfl rfl ?_
  refine r_iload_n 983 dL_law_982 rfl rfl ?_
  refine r_iconst 984 dL_law_983 rfl (InR_of rfl) ?_
  refine r_iadd 985 dL_law_984 rfl o_6 ?_
  refine r_sald 986 dL_law_985 rfl rfl o_7 ?_
  obtain ⟨r_10, M_8, hc_9, h⟩ := h
  refine v_1 (ci := 12) (C := (RX12, TX12, 68)) [vI (gXS G (x3 + 1).toNat)] [vI r_5] 989 dL_law_986 rfl rfl rfl rfl rfl mo_X12_days ml_NamelessPostLaw_93 rfl rfl hc_9 ?_
  refine r_icmp_eq 992 1915 dL_law_989 rfl rfl (fun c => ?_) (fun c => ?_)
  · have h := h.1 (c)
    obtain ⟨o_11, h⟩ := h
    refine r_iinc (ls' := [some (vR (some (0, 0))), some (vR (some (2, k1))), some (vR (some (3, k2))), some (vI (x3 + 8))]) 1918 dL_law_1915 rfl rfl rfl rfl o_11 rfl ?_
    refine r_goto 18 dL_law_1918 rfl ?_
    exact h
  · have h := h.2 (c)
    refine r_iconst 993 dL_law_992 rfl (InR_of rfl) ?_
    exact r_iret dL_law_993 rfl (.inr ⟨rfl, (.inl rfl)⟩) h.1 h.2
set_option maxRecDepth 4000 in
theorem xL_law_994 {l : Launch} {G : Gt} {d : Nat} {M M' : Mem} {r : Option Vl} {k1 : Nat} {k2 : Nat} {x3 : Int} (h : 
    (InR (x3 + 1) ∧ (0 ≤ (x3 + 1) ∧ (x3 + 1) < (gXL G : Int)) ∧ InR (x3 + 2) ∧ (0 ≤ (x3 + 2) ∧ (x3 + 2) < (gXL G : Int))) ∧ (∃ (r_7 : Int) (M_5 : Mem), Cl l G d mX11_letters [vR (some (2, k1)), vI (gXS G (x3 + 1).toNat), vI (gXS G (x3 + 2).toNat)] M (some (vI r_7)) M_5 ∧ ((InR (x3 + 1) ∧ (0 ≤ (x3 + 1) ∧ (x3 + 1) < (gXL G : Int)) ∧ InR (x3 + 2) ∧ (0 ≤ (x3 + 2) ∧ (x3 + 2) < (gXL G : Int))) ∧ (∃ (r_14 : Int) (M_12 : Mem), Cl l G d mX12_letters [vR (some (3, k2)), vI (gXS G (x3 + 1).toNat), vI (gXS G (x3 + 2).toNat)] M_5 (some (vI r_14)) M_12 ∧ ((r_7 = r_14 → (InR (x3 + 8)) ∧ Ex l G (d + 1) mL_law 18 [some (vR (some (0, 0))), some (vR (some (2, k1))), some (vR (some (3, k2))), some (vI (x3 + 8))] [] M_12 r M') ∧ (¬ (r_7 = r_14) → r = some (vI 0) ∧ M' = M_12)))))) : Ex l G (d + 1) mL_law 994 [some (vR (some (0, 0))), some (vR (some (2, k1))), some (vR (some (3, k2))), some (vI x3)] [] M r M' := by
  obtain ⟨⟨o_1, o_2, o_3, o_4⟩, h⟩ := h
  refine r_aload_n 995 dL_law_994 rfl rfl ?_
  refine r_aload_n 996 dL_law_995 rfl rfl ?_
  refine r_iload_n 997 dL_law_996 rfl rfl ?_
  refine r_iconst 998 dL_law_997 rfl (InR_of rfl) ?_
  refine r_iadd 999 dL_law_998 rfl o_1 ?_
  refine r_sald 1000 dL_law_999 rfl rfl o_2 ?_
  refine r_aload_n 1001 dL_law_1000 rfl rfl ?_
  refine r_iload_n 1002 dL_law_1001 rfl rfl ?_
  refine r_iconst 1003 dL_law_1002 rfl (InR_of rfl) ?_
  refine r_iadd 1004 dL_law_1003 rfl o_3 ?_
  refine r_sald 1005 dL_law_1004 rfl rfl o_4 ?_
  obtain ⟨r_7, M_5, hc_6, h⟩ := h
  refine v_1 (ci := 11) (C := (RX11, TX11, 16)) [vI (gXS G (x3 + 1).toNat), vI (gXS G (x3 + 2).toNat)] [] 1008 dL_law_1005 rfl rfl rfl rfl rfl mo_X11_letters ml_NamelessPostLaw_94 rfl rfl hc_6 ?_
  obtain ⟨⟨o_8, o_9, o_10, o_11⟩, h⟩ := h
  refine r_aload_n 1009 dL_law_1008 rfl rfl ?_
  refine r_aload_n 1010 dL_law_1009 rfl rfl ?_
  refine r_iload_n 1011 dL_law_1010 rfl rfl ?_
  refine r_iconst 1012 dL_law_1011 rfl (InR_of rfl) ?_
  refine r_iadd 1013 dL_law_1012 rfl o_8 ?_
  refine r_sald 1014 dL_law_1013 rfl rfl o_9 ?_
  refine r_aload_n 1015 dL_law_1014 rfl rfl ?_
  refine r_iload_n 1016 dL_law_1015 rfl rfl ?_
  refine r_iconst 1017 dL_law_1016 rfl (InR_of rfl) ?_
  refine r_iadd 1018 dL_law_1017 rfl o_10 ?_
  refine r_sald 1019 dL_law_1018 rfl rfl o_11 ?_
  obtain ⟨r_14, M_12, hc_13, h⟩ := h
  refine v_1 (ci := 12) (C := (RX12, TX12, 68)) [vI (gXS G (x3 + 1).toNat), vI (gXS G (x3 + 2).toNat)] [vI r_7] 1022 dL_law_1019 rfl rfl rfl rfl rfl mo_X12_letters ml_NamelessPostLaw_97 rfl rfl hc_13 ?_
  refine r_icmp_eq 1025 1915 dL_law_1022 rfl rfl (fun c => ?_) (fun c => ?_)
  · have h := h.1 (c)
    obtain ⟨o_15, h⟩ := h
    refine r_iinc (ls' := [some (vR (some (0, 0))), some (vR (some (2, k1))), some (vR (some (3, k2))), some (vI (x3 + 8))]) 1918 dL_law_1915 rfl rfl rfl rfl o_15 rfl ?_
    refine r_goto 18 dL_law_1918 rfl ?_
    exact h
  · have h := h.2 (c)
    refine r_iconst 1026 dL_law_1025 rfl (InR_of rfl) ?_
    exact r_iret dL_law_1026 rfl (.inr ⟨rfl, (.inl rfl)⟩) h.1 h.2
set_option maxRecDepth 4000 in
theorem xL_law_1027 {l : Launch} {G : Gt} {d : Nat} {M M' : Mem} {r : Option Vl} {k1 : Nat} {k2 : Nat} {x3 : Int} (h : 
    (InR (x3 + 1) ∧ (0 ≤ (x3 + 1) ∧ (x3 + 1) < (gXL G : Int)) ∧ InR (x3 + 2) ∧ (0 ≤ (x3 + 2) ∧ (x3 + 2) < (gXL G : Int)) ∧ InR (x3 + 3) ∧ (0 ≤ (x3 + 3) ∧ (x3 + 3) < (gXL G : Int)) ∧ InR (x3 + 4) ∧ (0 ≤ (x3 + 4) ∧ (x3 + 4) < (gXL G : Int)) ∧ InR (x3 + 5) ∧ (0 ≤ (x3 + 5) ∧ (x3 + 5) < (gXL G : Int)) ∧ InR (x3 + 6) ∧ (0 ≤ (x3 + 6) ∧ (x3 + 6) < (gXL G : Int))) ∧ (∃ (r_15 : Int) (M_13 : Mem), Cl l G d mX11_sure [vR (some (2, k1)), vI (gXS G (x3 + 1).toNat), vI (gXS G (x3 + 2).toNat), vI (gXS G (x3 + 3).toNat), vI (gXS G (x3 + 4).toNat), vI (gXS G (x3 + 5).toNat), vI (gXS G (x3 + 6).toNat)] M (some (vI r_15)) M_13 ∧ ((InR (x3 + 1) ∧ (0 ≤ (x3 + 1) ∧ (x3 + 1) < (gXL G : Int)) ∧ InR (x3 + 2) ∧ (0 ≤ (x3 + 2) ∧ (x3 + 2) < (gXL G : Int)) ∧ InR (x3 + 3) ∧ (0 ≤ (x3 + 3) ∧ (x3 + 3) < (gXL G : Int)) ∧ InR (x3 + 4) ∧ (0 ≤ (x3 + 4) ∧ (x3 + 4) < (gXL G : Int)) ∧ InR (x3 + 5) ∧ (0 ≤ (x3 + 5) ∧ (x3 + 5) < (gXL G : Int)) ∧ InR (x3 + 6) ∧ (0 ≤ (x3 + 6) ∧ (x3 + 6) < (gXL G : Int))) ∧ (∃ (r_30 : Int) (M_28 : Mem), Cl l G d mX12_sure [vR (some (3, k2)), vI (gXS G (x3 + 1).toNat), vI (gXS G (x3 + 2).toNat), vI (gXS G (x3 + 3).toNat), vI (gXS G (x3 + 4).toNat), vI (gXS G (x3 + 5).toNat), vI (gXS G (x3 + 6).toNat)] M_13 (some (vI r_30)) M_28 ∧ ((r_15 = r_30 → (InR (x3 + 8)) ∧ Ex l G (d + 1) mL_law 18 [some (vR (some (0, 0))), some (vR (some (2, k1))), some (vR (some (3, k2))), some (vI (x3 + 8))] [] M_28 r M') ∧ (¬ (r_15 = r_30) → r = some (vI 0) ∧ M' = M_28)))))) : Ex l G (d + 1) mL_law 1027 [some (vR (some (0, 0))), some (vR (some (2, k1))), some (vR (some (3, k2))), some (vI x3)] [] M r M' := by
  obtain ⟨⟨o_1, o_2, o_3, o_4, o_5, o_6, o_7, o_8, o_9, o_10, o_11, o_12⟩, h⟩ := h
  refine r_aload_n 1028 dL_law_1027 rfl rfl ?_
  refine r_aload_n 1029 dL_law_1028 rfl rfl ?_
  refine r_iload_n 1030 dL_law_1029 rfl rfl ?_
  refine r_iconst 1031 dL_law_1030 rfl (InR_of rfl) ?_
  refine r_iadd 1032 dL_law_1031 rfl o_1 ?_
  refine r_sald 1033 dL_law_1032 rfl rfl o_2 ?_
  refine r_aload_n 1034 dL_law_1033 rfl rfl ?_
  refine r_iload_n 1035 dL_law_1034 rfl rfl ?_
  refine r_iconst 1036 dL_law_1035 rfl (InR_of rfl) ?_
  refine r_iadd 1037 dL_law_1036 rfl o_3 ?_
  refine r_sald 1038 dL_law_1037 rfl rfl o_4 ?_
  refine r_aload_n 1039 dL_law_1038 rfl rfl ?_
  refine r_iload_n 1040 dL_law_1039 rfl rfl ?_
  refine r_iconst 1041 dL_law_1040 rfl (InR_of rfl) ?_
  refine r_iadd 1042 dL_law_1041 rfl o_5 ?_
  refine r_sald 1043 dL_law_1042 rfl rfl o_6 ?_
  refine r_aload_n 1044 dL_law_1043 rfl rfl ?_
  refine r_iload_n 1045 dL_law_1044 rfl rfl ?_
  refine r_iconst 1046 dL_law_1045 rfl (InR_of rfl) ?_
  refine r_iadd 1047 dL_law_1046 rfl o_7 ?_
  refine r_sald 1048 dL_law_1047 rfl rfl o_8 ?_
  refine r_aload_n 1049 dL_law_1048 rfl rfl ?_
  refine r_iload_n 1050 dL_law_1049 rfl rfl ?_
  refine r_iconst 1051 dL_law_1050 rfl (InR_of rfl) ?_
  refine r_iadd 1052 dL_law_1051 rfl o_9 ?_
  refine r_sald 1053 dL_law_1052 rfl rfl o_10 ?_
  refine r_aload_n 1054 dL_law_1053 rfl rfl ?_
  refine r_iload_n 1055 dL_law_1054 rfl rfl ?_
  refine r_bipush 1057 dL_law_1055 rfl rfl ?_
  refine r_iadd 1058 dL_law_1057 rfl o_11 ?_
  refine r_sald 1059 dL_law_1058 rfl rfl o_12 ?_
  obtain ⟨r_15, M_13, hc_14, h⟩ := h
  refine v_1 (ci := 11) (C := (RX11, TX11, 16)) [vI (gXS G (x3 + 1).toNat), vI (gXS G (x3 + 2).toNat), vI (gXS G (x3 + 3).toNat), vI (gXS G (x3 + 4).toNat), vI (gXS G (x3 + 5).toNat), vI (gXS G (x3 + 6).toNat)] [] 1062 dL_law_1059 rfl rfl rfl rfl rfl mo_X11_sure ml_NamelessPostLaw_98 rfl rfl hc_14 ?_
  obtain ⟨⟨o_16, o_17, o_18, o_19, o_20, o_21, o_22, o_23, o_24, o_25, o_26, o_27⟩, h⟩ := h
  refine r_aload_n 1063 dL_law_1062 rfl rfl ?_
  refine r_aload_n 1064 dL_law_1063 rfl rfl ?_
  refine r_iload_n 1065 dL_law_1064 rfl rfl ?_
  refine r_iconst 1066 dL_law_1065 rfl (InR_of rfl) ?_
  refine r_iadd 1067 dL_law_1066 rfl o_16 ?_
  refine r_sald 1068 dL_law_1067 rfl rfl o_17 ?_
  refine r_aload_n 1069 dL_law_1068 rfl rfl ?_
  refine r_iload_n 1070 dL_law_1069 rfl rfl ?_
  refine r_iconst 1071 dL_law_1070 rfl (InR_of rfl) ?_
  refine r_iadd 1072 dL_law_1071 rfl o_18 ?_
  refine r_sald 1073 dL_law_1072 rfl rfl o_19 ?_
  refine r_aload_n 1074 dL_law_1073 rfl rfl ?_
  refine r_iload_n 1075 dL_law_1074 rfl rfl ?_
  refine r_iconst 1076 dL_law_1075 rfl (InR_of rfl) ?_
  refine r_iadd 1077 dL_law_1076 rfl o_20 ?_
  refine r_sald 1078 dL_law_1077 rfl rfl o_21 ?_
  refine r_aload_n 1079 dL_law_1078 rfl rfl ?_
  refine r_iload_n 1080 dL_law_1079 rfl rfl ?_
  refine r_iconst 1081 dL_law_1080 rfl (InR_of rfl) ?_
  refine r_iadd 1082 dL_law_1081 rfl o_22 ?_
  refine r_sald 1083 dL_law_1082 rfl rfl o_23 ?_
  refine r_aload_n 1084 dL_law_1083 rfl rfl ?_
  refine r_iload_n 1085 dL_law_1084 rfl rfl ?_
  refine r_iconst 1086 dL_law_1085 rfl (InR_of rfl) ?_
  refine r_iadd 1087 dL_law_1086 rfl o_24 ?_
  refine r_sald 1088 dL_law_1087 rfl rfl o_25 ?_
  refine r_aload_n 1089 dL_law_1088 rfl rfl ?_
  refine r_iload_n 1090 dL_law_1089 rfl rfl ?_
  refine r_bipush 1092 dL_law_1090 rfl rfl ?_
  refine r_iadd 1093 dL_law_1092 rfl o_26 ?_
  refine r_sald 1094 dL_law_1093 rfl rfl o_27 ?_
  obtain ⟨r_30, M_28, hc_29, h⟩ := h
  refine v_1 (ci := 12) (C := (RX12, TX12, 68)) [vI (gXS G (x3 + 1).toNat), vI (gXS G (x3 + 2).toNat), vI (gXS G (x3 + 3).toNat), vI (gXS G (x3 + 4).toNat), vI (gXS G (x3 + 5).toNat), vI (gXS G (x3 + 6).toNat)] [vI r_15] 1097 dL_law_1094 rfl rfl rfl rfl rfl mo_X12_sure ml_NamelessPostLaw_101 rfl rfl hc_29 ?_
  refine r_icmp_eq 1100 1915 dL_law_1097 rfl rfl (fun c => ?_) (fun c => ?_)
  · have h := h.1 (c)
    obtain ⟨o_31, h⟩ := h
    refine r_iinc (ls' := [some (vR (some (0, 0))), some (vR (some (2, k1))), some (vR (some (3, k2))), some (vI (x3 + 8))]) 1918 dL_law_1915 rfl rfl rfl rfl o_31 rfl ?_
    refine r_goto 18 dL_law_1918 rfl ?_
    exact h
  · have h := h.2 (c)
    refine r_iconst 1101 dL_law_1100 rfl (InR_of rfl) ?_
    exact r_iret dL_law_1101 rfl (.inr ⟨rfl, (.inl rfl)⟩) h.1 h.2
set_option maxRecDepth 4000 in
theorem xL_law_1102 {l : Launch} {G : Gt} {d : Nat} {M M' : Mem} {r : Option Vl} {k1 : Nat} {k2 : Nat} {x3 : Int} (h : 
    (InR (x3 + 1) ∧ (0 ≤ (x3 + 1) ∧ (x3 + 1) < (gXL G : Int)) ∧ InR (x3 + 2) ∧ (0 ≤ (x3 + 2) ∧ (x3 + 2) < (gXL G : Int)) ∧ InR (x3 + 3) ∧ (0 ≤ (x3 + 3) ∧ (x3 + 3) < (gXL G : Int)) ∧ InR (x3 + 4) ∧ (0 ≤ (x3 + 4) ∧ (x3 + 4) < (gXL G : Int))) ∧ (∃ (r_11 : Int) (M_9 : Mem), Cl l G d mX11_rings [vR (some (2, k1)), vI (gXS G (x3 + 1).toNat), vI (gXS G (x3 + 2).toNat), vI (gXS G (x3 + 3).toNat), vI (gXS G (x3 + 4).toNat)] M (some (vI r_11)) M_9 ∧ ((InR (x3 + 1) ∧ (0 ≤ (x3 + 1) ∧ (x3 + 1) < (gXL G : Int)) ∧ InR (x3 + 2) ∧ (0 ≤ (x3 + 2) ∧ (x3 + 2) < (gXL G : Int)) ∧ InR (x3 + 3) ∧ (0 ≤ (x3 + 3) ∧ (x3 + 3) < (gXL G : Int)) ∧ InR (x3 + 4) ∧ (0 ≤ (x3 + 4) ∧ (x3 + 4) < (gXL G : Int))) ∧ (∃ (r_22 : Int) (M_20 : Mem), Cl l G d mX12_rings [vR (some (3, k2)), vI (gXS G (x3 + 1).toNat), vI (gXS G (x3 + 2).toNat), vI (gXS G (x3 + 3).toNat), vI (gXS G (x3 + 4).toNat)] M_9 (some (vI r_22)) M_20 ∧ ((r_11 = r_22 → (InR (x3 + 8)) ∧ Ex l G (d + 1) mL_law 18 [some (vR (some (0, 0))), some (vR (some (2, k1))), some (vR (some (3, k2))), some (vI (x3 + 8))] [] M_20 r M') ∧ (¬ (r_11 = r_22) → r = some (vI 0) ∧ M' = M_20)))))) : Ex l G (d + 1) mL_law 1102 [some (vR (some (0, 0))), some (vR (some (2, k1))), some (vR (some (3, k2))), some (vI x3)] [] M r M' := by
  obtain ⟨⟨o_1, o_2, o_3, o_4, o_5, o_6, o_7, o_8⟩, h⟩ := h
  refine r_aload_n 1103 dL_law_1102 rfl rfl ?_
  refine r_aload_n 1104 dL_law_1103 rfl rfl ?_
  refine r_iload_n 1105 dL_law_1104 rfl rfl ?_
  refine r_iconst 1106 dL_law_1105 rfl (InR_of rfl) ?_
  refine r_iadd 1107 dL_law_1106 rfl o_1 ?_
  refine r_sald 1108 dL_law_1107 rfl rfl o_2 ?_
  refine r_aload_n 1109 dL_law_1108 rfl rfl ?_
  refine r_iload_n 1110 dL_law_1109 rfl rfl ?_
  refine r_iconst 1111 dL_law_1110 rfl (InR_of rfl) ?_
  refine r_iadd 1112 dL_law_1111 rfl o_3 ?_
  refine r_sald 1113 dL_law_1112 rfl rfl o_4 ?_
  refine r_aload_n 1114 dL_law_1113 rfl rfl ?_
  refine r_iload_n 1115 dL_law_1114 rfl rfl ?_
  refine r_iconst 1116 dL_law_1115 rfl (InR_of rfl) ?_
  refine r_iadd 1117 dL_law_1116 rfl o_5 ?_
  refine r_sald 1118 dL_law_1117 rfl rfl o_6 ?_
  refine r_aload_n 1119 dL_law_1118 rfl rfl ?_
  refine r_iload_n 1120 dL_law_1119 rfl rfl ?_
  refine r_iconst 1121 dL_law_1120 rfl (InR_of rfl) ?_
  refine r_iadd 1122 dL_law_1121 rfl o_7 ?_
  refine r_sald 1123 dL_law_1122 rfl rfl o_8 ?_
  obtain ⟨r_11, M_9, hc_10, h⟩ := h
  refine v_1 (ci := 11) (C := (RX11, TX11, 16)) [vI (gXS G (x3 + 1).toNat), vI (gXS G (x3 + 2).toNat), vI (gXS G (x3 + 3).toNat), vI (gXS G (x3 + 4).toNat)] [] 1126 dL_law_1123 rfl rfl rfl rfl rfl mo_X11_rings ml_NamelessPostLaw_102 rfl rfl hc_10 ?_
  obtain ⟨⟨o_12, o_13, o_14, o_15, o_16, o_17, o_18, o_19⟩, h⟩ := h
  refine r_aload_n 1127 dL_law_1126 rfl rfl ?_
  refine r_aload_n 1128 dL_law_1127 rfl rfl ?_
  refine r_iload_n 1129 dL_law_1128 rfl rfl ?_
  refine r_iconst 1130 dL_law_1129 rfl (InR_of rfl) ?_
  refine r_iadd 1131 dL_law_1130 rfl o_12 ?_
  refine r_sald 1132 dL_law_1131 rfl rfl o_13 ?_
  refine r_aload_n 1133 dL_law_1132 rfl rfl ?_
  refine r_iload_n 1134 dL_law_1133 rfl rfl ?_
  refine r_iconst 1135 dL_law_1134 rfl (InR_of rfl) ?_
  refine r_iadd 1136 dL_law_1135 rfl o_14 ?_
  refine r_sald 1137 dL_law_1136 rfl rfl o_15 ?_
  refine r_aload_n 1138 dL_law_1137 rfl rfl ?_
  refine r_iload_n 1139 dL_law_1138 rfl rfl ?_
  refine r_iconst 1140 dL_law_1139 rfl (InR_of rfl) ?_
  refine r_iadd 1141 dL_law_1140 rfl o_16 ?_
  refine r_sald 1142 dL_law_1141 rfl rfl o_17 ?_
  refine r_aload_n 1143 dL_law_1142 rfl rfl ?_
  refine r_iload_n 1144 dL_law_1143 rfl rfl ?_
  refine r_iconst 1145 dL_law_1144 rfl (InR_of rfl) ?_
  refine r_iadd 1146 dL_law_1145 rfl o_18 ?_
  refine r_sald 1147 dL_law_1146 rfl rfl o_19 ?_
  obtain ⟨r_22, M_20, hc_21, h⟩ := h
  refine v_1 (ci := 12) (C := (RX12, TX12, 68)) [vI (gXS G (x3 + 1).toNat), vI (gXS G (x3 + 2).toNat), vI (gXS G (x3 + 3).toNat), vI (gXS G (x3 + 4).toNat)] [vI r_11] 1150 dL_law_1147 rfl rfl rfl rfl rfl mo_X12_rings ml_NamelessPostLaw_105 rfl rfl hc_21 ?_
  refine r_icmp_eq 1153 1915 dL_law_1150 rfl rfl (fun c => ?_) (fun c => ?_)
  · have h := h.1 (c)
    obtain ⟨o_23, h⟩ := h
    refine r_iinc (ls' := [some (vR (some (0, 0))), some (vR (some (2, k1))), some (vR (some (3, k2))), some (vI (x3 + 8))]) 1918 dL_law_1915 rfl rfl rfl rfl o_23 rfl ?_
    refine r_goto 18 dL_law_1918 rfl ?_
    exact h
  · have h := h.2 (c)
    refine r_iconst 1154 dL_law_1153 rfl (InR_of rfl) ?_
    exact r_iret dL_law_1154 rfl (.inr ⟨rfl, (.inl rfl)⟩) h.1 h.2
set_option maxRecDepth 4000 in
theorem xL_law_1155 {l : Launch} {G : Gt} {d : Nat} {M M' : Mem} {r : Option Vl} {k1 : Nat} {k2 : Nat} {x3 : Int} (h : 
    (InR (x3 + 1) ∧ (0 ≤ (x3 + 1) ∧ (x3 + 1) < (gXL G : Int))) ∧ (∃ (r_5 : Int) (M_3 : Mem), Cl l G d mX11_told [vR (some (2, k1)), vI (gXS G (x3 + 1).toNat)] M (some (vI r_5)) M_3 ∧ ((InR (x3 + 1) ∧ (0 ≤ (x3 + 1) ∧ (x3 + 1) < (gXL G : Int))) ∧ (∃ (r_10 : Int) (M_8 : Mem), Cl l G d mX12_told [vR (some (3, k2)), vI (gXS G (x3 + 1).toNat)] M_3 (some (vI r_10)) M_8 ∧ ((r_5 = r_10 → (InR (x3 + 8)) ∧ Ex l G (d + 1) mL_law 18 [some (vR (some (0, 0))), some (vR (some (2, k1))), some (vR (some (3, k2))), some (vI (x3 + 8))] [] M_8 r M') ∧ (¬ (r_5 = r_10) → r = some (vI 0) ∧ M' = M_8)))))) : Ex l G (d + 1) mL_law 1155 [some (vR (some (0, 0))), some (vR (some (2, k1))), some (vR (some (3, k2))), some (vI x3)] [] M r M' := by
  obtain ⟨⟨o_1, o_2⟩, h⟩ := h
  refine r_aload_n 1156 dL_law_1155 rfl rfl ?_
  refine r_aload_n 1157 dL_law_1156 rfl rfl ?_
  refine r_iload_n 1158 dL_law_1157 rfl rfl ?_
  refine r_iconst 1159 dL_law_1158 rfl (InR_of rfl) ?_
  refine r_iadd 1160 dL_law_1159 rfl o_1 ?_
  refine r_sald 1161 dL_law_1160 rfl rfl o_2 ?_
  obtain ⟨r_5, M_3, hc_4, h⟩ := h
  refine v_1 (ci := 11) (C := (RX11, TX11, 16)) [vI (gXS G (x3 + 1).toNat)] [] 1164 dL_law_1161 rfl rfl rfl rfl rfl mo_X11_told ml_NamelessPostLaw_106 rfl rfl hc_4 ?_
  obtain ⟨⟨o_6, o_7⟩, h⟩ := h
  refine r_aload_n 1165 dL_law_1164 rfl rfl ?_
  refine r_aload_n 1166 dL_law_1165 rfl rfl ?_
  refine r_iload_n 1167 dL_law_1166 rfl rfl ?_
  refine r_iconst 1168 dL_law_1167 rfl (InR_of rfl) ?_
  refine r_iadd 1169 dL_law_1168 rfl o_6 ?_
  refine r_sald 1170 dL_law_1169 rfl rfl o_7 ?_
  obtain ⟨r_10, M_8, hc_9, h⟩ := h
  refine v_1 (ci := 12) (C := (RX12, TX12, 68)) [vI (gXS G (x3 + 1).toNat)] [vI r_5] 1173 dL_law_1170 rfl rfl rfl rfl rfl mo_X12_told ml_NamelessPostLaw_109 rfl rfl hc_9 ?_
  refine r_icmp_eq 1176 1915 dL_law_1173 rfl rfl (fun c => ?_) (fun c => ?_)
  · have h := h.1 (c)
    obtain ⟨o_11, h⟩ := h
    refine r_iinc (ls' := [some (vR (some (0, 0))), some (vR (some (2, k1))), some (vR (some (3, k2))), some (vI (x3 + 8))]) 1918 dL_law_1915 rfl rfl rfl rfl o_11 rfl ?_
    refine r_goto 18 dL_law_1918 rfl ?_
    exact h
  · have h := h.2 (c)
    refine r_iconst 1177 dL_law_1176 rfl (InR_of rfl) ?_
    exact r_iret dL_law_1177 rfl (.inr ⟨rfl, (.inl rfl)⟩) h.1 h.2
set_option maxRecDepth 4000 in
theorem xL_law_1178 {l : Launch} {G : Gt} {d : Nat} {M M' : Mem} {r : Option Vl} {k1 : Nat} {k2 : Nat} {x3 : Int} (h : 
    (InR (x3 + 1) ∧ (0 ≤ (x3 + 1) ∧ (x3 + 1) < (gXL G : Int)) ∧ InR (x3 + 2) ∧ (0 ≤ (x3 + 2) ∧ (x3 + 2) < (gXL G : Int)) ∧ InR (x3 + 3) ∧ (0 ≤ (x3 + 3) ∧ (x3 + 3) < (gXL G : Int)) ∧ InR (x3 + 4) ∧ (0 ≤ (x3 + 4) ∧ (x3 + 4) < (gXL G : Int))) ∧ (∃ (r_11 : Int) (M_9 : Mem), Cl l G d mX11_judged [vR (some (2, k1)), vI (gXS G (x3 + 1).toNat), vI (gXS G (x3 + 2).toNat), vI (gXS G (x3 + 3).toNat), vI (gXS G (x3 + 4).toNat)] M (some (vI r_11)) M_9 ∧ ((InR (x3 + 1) ∧ (0 ≤ (x3 + 1) ∧ (x3 + 1) < (gXL G : Int)) ∧ InR (x3 + 2) ∧ (0 ≤ (x3 + 2) ∧ (x3 + 2) < (gXL G : Int)) ∧ InR (x3 + 3) ∧ (0 ≤ (x3 + 3) ∧ (x3 + 3) < (gXL G : Int)) ∧ InR (x3 + 4) ∧ (0 ≤ (x3 + 4) ∧ (x3 + 4) < (gXL G : Int))) ∧ (∃ (r_22 : Int) (M_20 : Mem), Cl l G d mX12_judged [vR (some (3, k2)), vI (gXS G (x3 + 1).toNat), vI (gXS G (x3 + 2).toNat), vI (gXS G (x3 + 3).toNat), vI (gXS G (x3 + 4).toNat)] M_9 (some (vI r_22)) M_20 ∧ ((r_11 = r_22 → (InR (x3 + 8)) ∧ Ex l G (d + 1) mL_law 18 [some (vR (some (0, 0))), some (vR (some (2, k1))), some (vR (some (3, k2))), some (vI (x3 + 8))] [] M_20 r M') ∧ (¬ (r_11 = r_22) → r = some (vI 0) ∧ M' = M_20)))))) : Ex l G (d + 1) mL_law 1178 [some (vR (some (0, 0))), some (vR (some (2, k1))), some (vR (some (3, k2))), some (vI x3)] [] M r M' := by
  obtain ⟨⟨o_1, o_2, o_3, o_4, o_5, o_6, o_7, o_8⟩, h⟩ := h
  refine r_aload_n 1179 dL_law_1178 rfl rfl ?_
  refine r_aload_n 1180 dL_law_1179 rfl rfl ?_
  refine r_iload_n 1181 dL_law_1180 rfl rfl ?_
  refine r_iconst 1182 dL_law_1181 rfl (InR_of rfl) ?_
  refine r_iadd 1183 dL_law_1182 rfl o_1 ?_
  refine r_sald 1184 dL_law_1183 rfl rfl o_2 ?_
  refine r_aload_n 1185 dL_law_1184 rfl rfl ?_
  refine r_iload_n 1186 dL_law_1185 rfl rfl ?_
  refine r_iconst 1187 dL_law_1186 rfl (InR_of rfl) ?_
  refine r_iadd 1188 dL_law_1187 rfl o_3 ?_
  refine r_sald 1189 dL_law_1188 rfl rfl o_4 ?_
  refine r_aload_n 1190 dL_law_1189 rfl rfl ?_
  refine r_iload_n 1191 dL_law_1190 rfl rfl ?_
  refine r_iconst 1192 dL_law_1191 rfl (InR_of rfl) ?_
  refine r_iadd 1193 dL_law_1192 rfl o_5 ?_
  refine r_sald 1194 dL_law_1193 rfl rfl o_6 ?_
  refine r_aload_n 1195 dL_law_1194 rfl rfl ?_
  refine r_iload_n 1196 dL_law_1195 rfl rfl ?_
  refine r_iconst 1197 dL_law_1196 rfl (InR_of rfl) ?_
  refine r_iadd 1198 dL_law_1197 rfl o_7 ?_
  refine r_sald 1199 dL_law_1198 rfl rfl o_8 ?_
  obtain ⟨r_11, M_9, hc_10, h⟩ := h
  refine v_1 (ci := 11) (C := (RX11, TX11, 16)) [vI (gXS G (x3 + 1).toNat), vI (gXS G (x3 + 2).toNat), vI (gXS G (x3 + 3).toNat), vI (gXS G (x3 + 4).toNat)] [] 1202 dL_law_1199 rfl rfl rfl rfl rfl mo_X11_judged ml_NamelessPostLaw_110 rfl rfl hc_10 ?_
  obtain ⟨⟨o_12, o_13, o_14, o_15, o_16, o_17, o_18, o_19⟩, h⟩ := h
  refine r_aload_n 1203 dL_law_1202 rfl rfl ?_
  refine r_aload_n 1204 dL_law_1203 rfl rfl ?_
  refine r_iload_n 1205 dL_law_1204 rfl rfl ?_
  refine r_iconst 1206 dL_law_1205 rfl (InR_of rfl) ?_
  refine r_iadd 1207 dL_law_1206 rfl o_12 ?_
  refine r_sald 1208 dL_law_1207 rfl rfl o_13 ?_
  refine r_aload_n 1209 dL_law_1208 rfl rfl ?_
  refine r_iload_n 1210 dL_law_1209 rfl rfl ?_
  refine r_iconst 1211 dL_law_1210 rfl (InR_of rfl) ?_
  refine r_iadd 1212 dL_law_1211 rfl o_14 ?_
  refine r_sald 1213 dL_law_1212 rfl rfl o_15 ?_
  refine r_aload_n 1214 dL_law_1213 rfl rfl ?_
  refine r_iload_n 1215 dL_law_1214 rfl rfl ?_
  refine r_iconst 1216 dL_law_1215 rfl (InR_of rfl) ?_
  refine r_iadd 1217 dL_law_1216 rfl o_16 ?_
  refine r_sald 1218 dL_law_1217 rfl rfl o_17 ?_
  refine r_aload_n 1219 dL_law_1218 rfl rfl ?_
  refine r_iload_n 1220 dL_law_1219 rfl rfl ?_
  refine r_iconst 1221 dL_law_1220 rfl (InR_of rfl) ?_
  refine r_iadd 1222 dL_law_1221 rfl o_18 ?_
  refine r_sald 1223 dL_law_1222 rfl rfl o_19 ?_
  obtain ⟨r_22, M_20, hc_21, h⟩ := h
  refine v_1 (ci := 12) (C := (RX12, TX12, 68)) [vI (gXS G (x3 + 1).toNat), vI (gXS G (x3 + 2).toNat), vI (gXS G (x3 + 3).toNat), vI (gXS G (x3 + 4).toNat)] [vI r_11] 1226 dL_law_1223 rfl rfl rfl rfl rfl mo_X12_judged ml_NamelessPostLaw_113 rfl rfl hc_21 ?_
  refine r_icmp_eq 1229 1915 dL_law_1226 rfl rfl (fun c => ?_) (fun c => ?_)
  · have h := h.1 (c)
    obtain ⟨o_23, h⟩ := h
    refine r_iinc (ls' := [some (vR (some (0, 0))), some (vR (some (2, k1))), some (vR (some (3, k2))), some (vI (x3 + 8))]) 1918 dL_law_1915 rfl rfl rfl rfl o_23 rfl ?_
    refine r_goto 18 dL_law_1918 rfl ?_
    exact h
  · have h := h.2 (c)
    refine r_iconst 1230 dL_law_1229 rfl (InR_of rfl) ?_
    exact r_iret dL_law_1230 rfl (.inr ⟨rfl, (.inl rfl)⟩) h.1 h.2
set_option maxRecDepth 4000 in
theorem xL_law_1231 {l : Launch} {G : Gt} {d : Nat} {M M' : Mem} {r : Option Vl} {k1 : Nat} {k2 : Nat} {x3 : Int} (h : 
    (InR (x3 + 1) ∧ (0 ≤ (x3 + 1) ∧ (x3 + 1) < (gXL G : Int)) ∧ InR (x3 + 2) ∧ (0 ≤ (x3 + 2) ∧ (x3 + 2) < (gXL G : Int)) ∧ InR (x3 + 3) ∧ (0 ≤ (x3 + 3) ∧ (x3 + 3) < (gXL G : Int)) ∧ InR (x3 + 4) ∧ (0 ≤ (x3 + 4) ∧ (x3 + 4) < (gXL G : Int)) ∧ InR (x3 + 5) ∧ (0 ≤ (x3 + 5) ∧ (x3 + 5) < (gXL G : Int))) ∧ (∃ (r_13 : Int) (M_11 : Mem), Cl l G d mX11_cheapest [vR (some (2, k1)), vI (gXS G (x3 + 1).toNat), vI (gXS G (x3 + 2).toNat), vI (gXS G (x3 + 3).toNat), vI (gXS G (x3 + 4).toNat), vI (gXS G (x3 + 5).toNat)] M (some (vI r_13)) M_11 ∧ ((InR (x3 + 1) ∧ (0 ≤ (x3 + 1) ∧ (x3 + 1) < (gXL G : Int)) ∧ InR (x3 + 2) ∧ (0 ≤ (x3 + 2) ∧ (x3 + 2) < (gXL G : Int)) ∧ InR (x3 + 3) ∧ (0 ≤ (x3 + 3) ∧ (x3 + 3) < (gXL G : Int)) ∧ InR (x3 + 4) ∧ (0 ≤ (x3 + 4) ∧ (x3 + 4) < (gXL G : Int)) ∧ InR (x3 + 5) ∧ (0 ≤ (x3 + 5) ∧ (x3 + 5) < (gXL G : Int))) ∧ (∃ (r_26 : Int) (M_24 : Mem), Cl l G d mX12_cheapest [vR (some (3, k2)), vI (gXS G (x3 + 1).toNat), vI (gXS G (x3 + 2).toNat), vI (gXS G (x3 + 3).toNat), vI (gXS G (x3 + 4).toNat), vI (gXS G (x3 + 5).toNat)] M_11 (some (vI r_26)) M_24 ∧ ((r_13 = r_26 → (InR (x3 + 8)) ∧ Ex l G (d + 1) mL_law 18 [some (vR (some (0, 0))), some (vR (some (2, k1))), some (vR (some (3, k2))), some (vI (x3 + 8))] [] M_24 r M') ∧ (¬ (r_13 = r_26) → r = some (vI 0) ∧ M' = M_24)))))) : Ex l G (d + 1) mL_law 1231 [some (vR (some (0, 0))), some (vR (some (2, k1))), some (vR (some (3, k2))), some (vI x3)] [] M r M' := by
  obtain ⟨⟨o_1, o_2, o_3, o_4, o_5, o_6, o_7, o_8, o_9, o_10⟩, h⟩ := h
  refine r_aload_n 1232 dL_law_1231 rfl rfl ?_
  refine r_aload_n 1233 dL_law_1232 rfl rfl ?_
  refine r_iload_n 1234 dL_law_1233 rfl rfl ?_
  refine r_iconst 1235 dL_law_1234 rfl (InR_of rfl) ?_
  refine r_iadd 1236 dL_law_1235 rfl o_1 ?_
  refine r_sald 1237 dL_law_1236 rfl rfl o_2 ?_
  refine r_aload_n 1238 dL_law_1237 rfl rfl ?_
  refine r_iload_n 1239 dL_law_1238 rfl rfl ?_
  refine r_iconst 1240 dL_law_1239 rfl (InR_of rfl) ?_
  refine r_iadd 1241 dL_law_1240 rfl o_3 ?_
  refine r_sald 1242 dL_law_1241 rfl rfl o_4 ?_
  refine r_aload_n 1243 dL_law_1242 rfl rfl ?_
  refine r_iload_n 1244 dL_law_1243 rfl rfl ?_
  refine r_iconst 1245 dL_law_1244 rfl (InR_of rfl) ?_
  refine r_iadd 1246 dL_law_1245 rfl o_5 ?_
  refine r_sald 1247 dL_law_1246 rfl rfl o_6 ?_
  refine r_aload_n 1248 dL_law_1247 rfl rfl ?_
  refine r_iload_n 1249 dL_law_1248 rfl rfl ?_
  refine r_iconst 1250 dL_law_1249 rfl (InR_of rfl) ?_
  refine r_iadd 1251 dL_law_1250 rfl o_7 ?_
  refine r_sald 1252 dL_law_1251 rfl rfl o_8 ?_
  refine r_aload_n 1253 dL_law_1252 rfl rfl ?_
  refine r_iload_n 1254 dL_law_1253 rfl rfl ?_
  refine r_iconst 1255 dL_law_1254 rfl (InR_of rfl) ?_
  refine r_iadd 1256 dL_law_1255 rfl o_9 ?_
  refine r_sald 1257 dL_law_1256 rfl rfl o_10 ?_
  obtain ⟨r_13, M_11, hc_12, h⟩ := h
  refine v_1 (ci := 11) (C := (RX11, TX11, 16)) [vI (gXS G (x3 + 1).toNat), vI (gXS G (x3 + 2).toNat), vI (gXS G (x3 + 3).toNat), vI (gXS G (x3 + 4).toNat), vI (gXS G (x3 + 5).toNat)] [] 1260 dL_law_1257 rfl rfl rfl rfl rfl mo_X11_cheapest ml_NamelessPostLaw_114 rfl rfl hc_12 ?_
  obtain ⟨⟨o_14, o_15, o_16, o_17, o_18, o_19, o_20, o_21, o_22, o_23⟩, h⟩ := h
  refine r_aload_n 1261 dL_law_1260 rfl rfl ?_
  refine r_aload_n 1262 dL_law_1261 rfl rfl ?_
  refine r_iload_n 1263 dL_law_1262 rfl rfl ?_
  refine r_iconst 1264 dL_law_1263 rfl (InR_of rfl) ?_
  refine r_iadd 1265 dL_law_1264 rfl o_14 ?_
  refine r_sald 1266 dL_law_1265 rfl rfl o_15 ?_
  refine r_aload_n 1267 dL_law_1266 rfl rfl ?_
  refine r_iload_n 1268 dL_law_1267 rfl rfl ?_
  refine r_iconst 1269 dL_law_1268 rfl (InR_of rfl) ?_
  refine r_iadd 1270 dL_law_1269 rfl o_16 ?_
  refine r_sald 1271 dL_law_1270 rfl rfl o_17 ?_
  refine r_aload_n 1272 dL_law_1271 rfl rfl ?_
  refine r_iload_n 1273 dL_law_1272 rfl rfl ?_
  refine r_iconst 1274 dL_law_1273 rfl (InR_of rfl) ?_
  refine r_iadd 1275 dL_law_1274 rfl o_18 ?_
  refine r_sald 1276 dL_law_1275 rfl rfl o_19 ?_
  refine r_aload_n 1277 dL_law_1276 rfl rfl ?_
  refine r_iload_n 1278 dL_law_1277 rfl rfl ?_
  refine r_iconst 1279 dL_law_1278 rfl (InR_of rfl) ?_
  refine r_iadd 1280 dL_law_1279 rfl o_20 ?_
  refine r_sald 1281 dL_law_1280 rfl rfl o_21 ?_
  refine r_aload_n 1282 dL_law_1281 rfl rfl ?_
  refine r_iload_n 1283 dL_law_1282 rfl rfl ?_
  refine r_iconst 1284 dL_law_1283 rfl (InR_of rfl) ?_
  refine r_iadd 1285 dL_law_1284 rfl o_22 ?_
  refine r_sald 1286 dL_law_1285 rfl rfl o_23 ?_
  obtain ⟨r_26, M_24, hc_25, h⟩ := h
  refine v_1 (ci := 12) (C := (RX12, TX12, 68)) [vI (gXS G (x3 + 1).toNat), vI (gXS G (x3 + 2).toNat), vI (gXS G (x3 + 3).toNat), vI (gXS G (x3 + 4).toNat), vI (gXS G (x3 + 5).toNat)] [vI r_13] 1289 dL_law_1286 rfl rfl rfl rfl rfl mo_X12_cheapest ml_NamelessPostLaw_117 rfl rfl hc_25 ?_
  refine r_icmp_eq 1292 1915 dL_law_1289 rfl rfl (fun c => ?_) (fun c => ?_)
  · have h := h.1 (c)
    obtain ⟨o_27, h⟩ := h
    refine r_iinc (ls' := [some (vR (some (0, 0))), some (vR (some (2, k1))), some (vR (some (3, k2))), some (vI (x3 + 8))]) 1918 dL_law_1915 rfl rfl rfl rfl o_27 rfl ?_
    refine r_goto 18 dL_law_1918 rfl ?_
    exact h
  · have h := h.2 (c)
    refine r_iconst 1293 dL_law_1292 rfl (InR_of rfl) ?_
    exact r_iret dL_law_1293 rfl (.inr ⟨rfl, (.inl rfl)⟩) h.1 h.2
set_option maxRecDepth 4000 in
theorem xL_law_1294 {l : Launch} {G : Gt} {d : Nat} {M M' : Mem} {r : Option Vl} {k1 : Nat} {k2 : Nat} {x3 : Int} (h : 
    (InR (x3 + 1) ∧ (0 ≤ (x3 + 1) ∧ (x3 + 1) < (gXL G : Int)) ∧ InR (x3 + 2) ∧ (0 ≤ (x3 + 2) ∧ (x3 + 2) < (gXL G : Int)) ∧ InR (x3 + 3) ∧ (0 ≤ (x3 + 3) ∧ (x3 + 3) < (gXL G : Int))) ∧ (∃ (r_9 : Int) (M_7 : Mem), Cl l G d mX11_apart [vR (some (2, k1)), vI (gXS G (x3 + 1).toNat), vI (gXS G (x3 + 2).toNat), vI (gXS G (x3 + 3).toNat)] M (some (vI r_9)) M_7 ∧ ((InR (x3 + 1) ∧ (0 ≤ (x3 + 1) ∧ (x3 + 1) < (gXL G : Int)) ∧ InR (x3 + 2) ∧ (0 ≤ (x3 + 2) ∧ (x3 + 2) < (gXL G : Int)) ∧ InR (x3 + 3) ∧ (0 ≤ (x3 + 3) ∧ (x3 + 3) < (gXL G : Int))) ∧ (∃ (r_18 : Int) (M_16 : Mem), Cl l G d mX12_apart [vR (some (3, k2)), vI (gXS G (x3 + 1).toNat), vI (gXS G (x3 + 2).toNat), vI (gXS G (x3 + 3).toNat)] M_7 (some (vI r_18)) M_16 ∧ ((r_9 = r_18 → (InR (x3 + 8)) ∧ Ex l G (d + 1) mL_law 18 [some (vR (some (0, 0))), some (vR (some (2, k1))), some (vR (some (3, k2))), some (vI (x3 + 8))] [] M_16 r M') ∧ (¬ (r_9 = r_18) → r = some (vI 0) ∧ M' = M_16)))))) : Ex l G (d + 1) mL_law 1294 [some (vR (some (0, 0))), some (vR (some (2, k1))), some (vR (some (3, k2))), some (vI x3)] [] M r M' := by
  obtain ⟨⟨o_1, o_2, o_3, o_4, o_5, o_6⟩, h⟩ := h
  refine r_aload_n 1295 dL_law_1294 rfl rfl ?_
  refine r_aload_n 1296 dL_law_1295 rfl rfl ?_
  refine r_iload_n 1297 dL_law_1296 rfl rfl ?_
  refine r_iconst 1298 dL_law_1297 rfl (InR_of rfl) ?_
  refine r_iadd 1299 dL_law_1298 rfl o_1 ?_
  refine r_sald 1300 dL_law_1299 rfl rfl o_2 ?_
  refine r_aload_n 1301 dL_law_1300 rfl rfl ?_
  refine r_iload_n 1302 dL_law_1301 rfl rfl ?_
  refine r_iconst 1303 dL_law_1302 rfl (InR_of rfl) ?_
  refine r_iadd 1304 dL_law_1303 rfl o_3 ?_
  refine r_sald 1305 dL_law_1304 rfl rfl o_4 ?_
  refine r_aload_n 1306 dL_law_1305 rfl rfl ?_
  refine r_iload_n 1307 dL_law_1306 rfl rfl ?_
  refine r_iconst 1308 dL_law_1307 rfl (InR_of rfl) ?_
  refine r_iadd 1309 dL_law_1308 rfl o_5 ?_
  refine r_sald 1310 dL_law_1309 rfl rfl o_6 ?_
  obtain ⟨r_9, M_7, hc_8, h⟩ := h
  refine v_1 (ci := 11) (C := (RX11, TX11, 16)) [vI (gXS G (x3 + 1).toNat), vI (gXS G (x3 + 2).toNat), vI (gXS G (x3 + 3).toNat)] [] 1313 dL_law_1310 rfl rfl rfl rfl rfl mo_X11_apart ml_NamelessPostLaw_118 rfl rfl hc_8 ?_
  obtain ⟨⟨o_10, o_11, o_12, o_13, o_14, o_15⟩, h⟩ := h
  refine r_aload_n 1314 dL_law_1313 rfl rfl ?_
  refine r_aload_n 1315 dL_law_1314 rfl rfl ?_
  refine r_iload_n 1316 dL_law_1315 rfl rfl ?_
  refine r_iconst 1317 dL_law_1316 rfl (InR_of rfl) ?_
  refine r_iadd 1318 dL_law_1317 rfl o_10 ?_
  refine r_sald 1319 dL_law_1318 rfl rfl o_11 ?_
  refine r_aload_n 1320 dL_law_1319 rfl rfl ?_
  refine r_iload_n 1321 dL_law_1320 rfl rfl ?_
  refine r_iconst 1322 dL_law_1321 rfl (InR_of rfl) ?_
  refine r_iadd 1323 dL_law_1322 rfl o_12 ?_
  refine r_sald 1324 dL_law_1323 rfl rfl o_13 ?_
  refine r_aload_n 1325 dL_law_1324 rfl rfl ?_
  refine r_iload_n 1326 dL_law_1325 rfl rfl ?_
  refine r_iconst 1327 dL_law_1326 rfl (InR_of rfl) ?_
  refine r_iadd 1328 dL_law_1327 rfl o_14 ?_
  refine r_sald 1329 dL_law_1328 rfl rfl o_15 ?_
  obtain ⟨r_18, M_16, hc_17, h⟩ := h
  refine v_1 (ci := 12) (C := (RX12, TX12, 68)) [vI (gXS G (x3 + 1).toNat), vI (gXS G (x3 + 2).toNat), vI (gXS G (x3 + 3).toNat)] [vI r_9] 1332 dL_law_1329 rfl rfl rfl rfl rfl mo_X12_apart ml_NamelessPostLaw_121 rfl rfl hc_17 ?_
  refine r_icmp_eq 1335 1915 dL_law_1332 rfl rfl (fun c => ?_) (fun c => ?_)
  · have h := h.1 (c)
    obtain ⟨o_19, h⟩ := h
    refine r_iinc (ls' := [some (vR (some (0, 0))), some (vR (some (2, k1))), some (vR (some (3, k2))), some (vI (x3 + 8))]) 1918 dL_law_1915 rfl rfl rfl rfl o_19 rfl ?_
    refine r_goto 18 dL_law_1918 rfl ?_
    exact h
  · have h := h.2 (c)
    refine r_iconst 1336 dL_law_1335 rfl (InR_of rfl) ?_
    exact r_iret dL_law_1336 rfl (.inr ⟨rfl, (.inl rfl)⟩) h.1 h.2
set_option maxRecDepth 4000 in
theorem xL_law_1337 {l : Launch} {G : Gt} {d : Nat} {M M' : Mem} {r : Option Vl} {k1 : Nat} {k2 : Nat} {x3 : Int} (h : 
    (InR (x3 + 1) ∧ (0 ≤ (x3 + 1) ∧ (x3 + 1) < (gXL G : Int)) ∧ InR (x3 + 2) ∧ (0 ≤ (x3 + 2) ∧ (x3 + 2) < (gXL G : Int)) ∧ InR (x3 + 3) ∧ (0 ≤ (x3 + 3) ∧ (x3 + 3) < (gXL G : Int)) ∧ InR (x3 + 4) ∧ (0 ≤ (x3 + 4) ∧ (x3 + 4) < (gXL G : Int)) ∧ InR (x3 + 5) ∧ (0 ≤ (x3 + 5) ∧ (x3 + 5) < (gXL G : Int))) ∧ (∃ (r_13 : Int) (M_11 : Mem), Cl l G d mX11_ends [vR (some (2, k1)), vI (gXS G (x3 + 1).toNat), vI (gXS G (x3 + 2).toNat), vI (gXS G (x3 + 3).toNat), vI (gXS G (x3 + 4).toNat), vI (gXS G (x3 + 5).toNat)] M (some (vI r_13)) M_11 ∧ ((InR (x3 + 1) ∧ (0 ≤ (x3 + 1) ∧ (x3 + 1) < (gXL G : Int)) ∧ InR (x3 + 2) ∧ (0 ≤ (x3 + 2) ∧ (x3 + 2) < (gXL G : Int)) ∧ InR (x3 + 3) ∧ (0 ≤ (x3 + 3) ∧ (x3 + 3) < (gXL G : Int)) ∧ InR (x3 + 4) ∧ (0 ≤ (x3 + 4) ∧ (x3 + 4) < (gXL G : Int)) ∧ InR (x3 + 5) ∧ (0 ≤ (x3 + 5) ∧ (x3 + 5) < (gXL G : Int))) ∧ (∃ (r_26 : Int) (M_24 : Mem), Cl l G d mX12_ends [vR (some (3, k2)), vI (gXS G (x3 + 1).toNat), vI (gXS G (x3 + 2).toNat), vI (gXS G (x3 + 3).toNat), vI (gXS G (x3 + 4).toNat), vI (gXS G (x3 + 5).toNat)] M_11 (some (vI r_26)) M_24 ∧ ((r_13 = r_26 → (InR (x3 + 8)) ∧ Ex l G (d + 1) mL_law 18 [some (vR (some (0, 0))), some (vR (some (2, k1))), some (vR (some (3, k2))), some (vI (x3 + 8))] [] M_24 r M') ∧ (¬ (r_13 = r_26) → r = some (vI 0) ∧ M' = M_24)))))) : Ex l G (d + 1) mL_law 1337 [some (vR (some (0, 0))), some (vR (some (2, k1))), some (vR (some (3, k2))), some (vI x3)] [] M r M' := by
  obtain ⟨⟨o_1, o_2, o_3, o_4, o_5, o_6, o_7, o_8, o_9, o_10⟩, h⟩ := h
  refine r_aload_n 1338 dL_law_1337 rfl rfl ?_
  refine r_aload_n 1339 dL_law_1338 rfl rfl ?_
  refine r_iload_n 1340 dL_law_1339 rfl rfl ?_
  refine r_iconst 1341 dL_law_1340 rfl (InR_of rfl) ?_
  refine r_iadd 1342 dL_law_1341 rfl o_1 ?_
  refine r_sald 1343 dL_law_1342 rfl rfl o_2 ?_
  refine r_aload_n 1344 dL_law_1343 rfl rfl ?_
  refine r_iload_n 1345 dL_law_1344 rfl rfl ?_
  refine r_iconst 1346 dL_law_1345 rfl (InR_of rfl) ?_
  refine r_iadd 1347 dL_law_1346 rfl o_3 ?_
  refine r_sald 1348 dL_law_1347 rfl rfl o_4 ?_
  refine r_aload_n 1349 dL_law_1348 rfl rfl ?_
  refine r_iload_n 1350 dL_law_1349 rfl rfl ?_
  refine r_iconst 1351 dL_law_1350 rfl (InR_of rfl) ?_
  refine r_iadd 1352 dL_law_1351 rfl o_5 ?_
  refine r_sald 1353 dL_law_1352 rfl rfl o_6 ?_
  refine r_aload_n 1354 dL_law_1353 rfl rfl ?_
  refine r_iload_n 1355 dL_law_1354 rfl rfl ?_
  refine r_iconst 1356 dL_law_1355 rfl (InR_of rfl) ?_
  refine r_iadd 1357 dL_law_1356 rfl o_7 ?_
  refine r_sald 1358 dL_law_1357 rfl rfl o_8 ?_
  refine r_aload_n 1359 dL_law_1358 rfl rfl ?_
  refine r_iload_n 1360 dL_law_1359 rfl rfl ?_
  refine r_iconst 1361 dL_law_1360 rfl (InR_of rfl) ?_
  refine r_iadd 1362 dL_law_1361 rfl o_9 ?_
  refine r_sald 1363 dL_law_1362 rfl rfl o_10 ?_
  obtain ⟨r_13, M_11, hc_12, h⟩ := h
  refine v_1 (ci := 11) (C := (RX11, TX11, 16)) [vI (gXS G (x3 + 1).toNat), vI (gXS G (x3 + 2).toNat), vI (gXS G (x3 + 3).toNat), vI (gXS G (x3 + 4).toNat), vI (gXS G (x3 + 5).toNat)] [] 1366 dL_law_1363 rfl rfl rfl rfl rfl mo_X11_ends ml_NamelessPostLaw_122 rfl rfl hc_12 ?_
  obtain ⟨⟨o_14, o_15, o_16, o_17, o_18, o_19, o_20, o_21, o_22, o_23⟩, h⟩ := h
  refine r_aload_n 1367 dL_law_1366 rfl rfl ?_
  refine r_aload_n 1368 dL_law_1367 rfl rfl ?_
  refine r_iload_n 1369 dL_law_1368 rfl rfl ?_
  refine r_iconst 1370 dL_law_1369 rfl (InR_of rfl) ?_
  refine r_iadd 1371 dL_law_1370 rfl o_14 ?_
  refine r_sald 1372 dL_law_1371 rfl rfl o_15 ?_
  refine r_aload_n 1373 dL_law_1372 rfl rfl ?_
  refine r_iload_n 1374 dL_law_1373 rfl rfl ?_
  refine r_iconst 1375 dL_law_1374 rfl (InR_of rfl) ?_
  refine r_iadd 1376 dL_law_1375 rfl o_16 ?_
  refine r_sald 1377 dL_law_1376 rfl rfl o_17 ?_
  refine r_aload_n 1378 dL_law_1377 rfl rfl ?_
  refine r_iload_n 1379 dL_law_1378 rfl rfl ?_
  refine r_iconst 1380 dL_law_1379 rfl (InR_of rfl) ?_
  refine r_iadd 1381 dL_law_1380 rfl o_18 ?_
  refine r_sald 1382 dL_law_1381 rfl rfl o_19 ?_
  refine r_aload_n 1383 dL_law_1382 rfl rfl ?_
  refine r_iload_n 1384 dL_law_1383 rfl rfl ?_
  refine r_iconst 1385 dL_law_1384 rfl (InR_of rfl) ?_
  refine r_iadd 1386 dL_law_1385 rfl o_20 ?_
  refine r_sald 1387 dL_law_1386 rfl rfl o_21 ?_
  refine r_aload_n 1388 dL_law_1387 rfl rfl ?_
  refine r_iload_n 1389 dL_law_1388 rfl rfl ?_
  refine r_iconst 1390 dL_law_1389 rfl (InR_of rfl) ?_
  refine r_iadd 1391 dL_law_1390 rfl o_22 ?_
  refine r_sald 1392 dL_law_1391 rfl rfl o_23 ?_
  obtain ⟨r_26, M_24, hc_25, h⟩ := h
  refine v_1 (ci := 12) (C := (RX12, TX12, 68)) [vI (gXS G (x3 + 1).toNat), vI (gXS G (x3 + 2).toNat), vI (gXS G (x3 + 3).toNat), vI (gXS G (x3 + 4).toNat), vI (gXS G (x3 + 5).toNat)] [vI r_13] 1395 dL_law_1392 rfl rfl rfl rfl rfl mo_X12_ends ml_NamelessPostLaw_125 rfl rfl hc_25 ?_
  refine r_icmp_eq 1398 1915 dL_law_1395 rfl rfl (fun c => ?_) (fun c => ?_)
  · have h := h.1 (c)
    obtain ⟨o_27, h⟩ := h
    refine r_iinc (ls' := [some (vR (some (0, 0))), some (vR (some (2, k1))), some (vR (some (3, k2))), some (vI (x3 + 8))]) 1918 dL_law_1915 rfl rfl rfl rfl o_27 rfl ?_
    refine r_goto 18 dL_law_1918 rfl ?_
    exact h
  · have h := h.2 (c)
    refine r_iconst 1399 dL_law_1398 rfl (InR_of rfl) ?_
    exact r_iret dL_law_1399 rfl (.inr ⟨rfl, (.inl rfl)⟩) h.1 h.2
set_option maxRecDepth 4000 in
theorem xL_law_1400 {l : Launch} {G : Gt} {d : Nat} {M M' : Mem} {r : Option Vl} {k1 : Nat} {k2 : Nat} {x3 : Int} (h : 
    (InR (x3 + 1) ∧ (0 ≤ (x3 + 1) ∧ (x3 + 1) < (gXL G : Int)) ∧ InR (x3 + 2) ∧ (0 ≤ (x3 + 2) ∧ (x3 + 2) < (gXL G : Int)) ∧ InR (x3 + 3) ∧ (0 ≤ (x3 + 3) ∧ (x3 + 3) < (gXL G : Int)) ∧ InR (x3 + 4) ∧ (0 ≤ (x3 + 4) ∧ (x3 + 4) < (gXL G : Int)) ∧ InR (x3 + 5) ∧ (0 ≤ (x3 + 5) ∧ (x3 + 5) < (gXL G : Int)) ∧ InR (x3 + 6) ∧ (0 ≤ (x3 + 6) ∧ (x3 + 6) < (gXL G : Int))) ∧ (∃ (r_15 : Int) (M_13 : Mem), Cl l G d mX11_needs [vR (some (2, k1)), vI (gXS G (x3 + 1).toNat), vI (gXS G (x3 + 2).toNat), vI (gXS G (x3 + 3).toNat), vI (gXS G (x3 + 4).toNat), vI (gXS G (x3 + 5).toNat), vI (gXS G (x3 + 6).toNat)] M (some (vI r_15)) M_13 ∧ ((InR (x3 + 1) ∧ (0 ≤ (x3 + 1) ∧ (x3 + 1) < (gXL G : Int)) ∧ InR (x3 + 2) ∧ (0 ≤ (x3 + 2) ∧ (x3 + 2) < (gXL G : Int)) ∧ InR (x3 + 3) ∧ (0 ≤ (x3 + 3) ∧ (x3 + 3) < (gXL G : Int)) ∧ InR (x3 + 4) ∧ (0 ≤ (x3 + 4) ∧ (x3 + 4) < (gXL G : Int)) ∧ InR (x3 + 5) ∧ (0 ≤ (x3 + 5) ∧ (x3 + 5) < (gXL G : Int)) ∧ InR (x3 + 6) ∧ (0 ≤ (x3 + 6) ∧ (x3 + 6) < (gXL G : Int))) ∧ (∃ (r_30 : Int) (M_28 : Mem), Cl l G d mX12_needs [vR (some (3, k2)), vI (gXS G (x3 + 1).toNat), vI (gXS G (x3 + 2).toNat), vI (gXS G (x3 + 3).toNat), vI (gXS G (x3 + 4).toNat), vI (gXS G (x3 + 5).toNat), vI (gXS G (x3 + 6).toNat)] M_13 (some (vI r_30)) M_28 ∧ ((r_15 = r_30 → (InR (x3 + 8)) ∧ Ex l G (d + 1) mL_law 18 [some (vR (some (0, 0))), some (vR (some (2, k1))), some (vR (some (3, k2))), some (vI (x3 + 8))] [] M_28 r M') ∧ (¬ (r_15 = r_30) → r = some (vI 0) ∧ M' = M_28)))))) : Ex l G (d + 1) mL_law 1400 [some (vR (some (0, 0))), some (vR (some (2, k1))), some (vR (some (3, k2))), some (vI x3)] [] M r M' := by
  obtain ⟨⟨o_1, o_2, o_3, o_4, o_5, o_6, o_7, o_8, o_9, o_10, o_11, o_12⟩, h⟩ := h
  refine r_aload_n 1401 dL_law_1400 rfl rfl ?_
  refine r_aload_n 1402 dL_law_1401 rfl rfl ?_
  refine r_iload_n 1403 dL_law_1402 rfl rfl ?_
  refine r_iconst 1404 dL_law_1403 rfl (InR_of rfl) ?_
  refine r_iadd 1405 dL_law_1404 rfl o_1 ?_
  refine r_sald 1406 dL_law_1405 rfl rfl o_2 ?_
  refine r_aload_n 1407 dL_law_1406 rfl rfl ?_
  refine r_iload_n 1408 dL_law_1407 rfl rfl ?_
  refine r_iconst 1409 dL_law_1408 rfl (InR_of rfl) ?_
  refine r_iadd 1410 dL_law_1409 rfl o_3 ?_
  refine r_sald 1411 dL_law_1410 rfl rfl o_4 ?_
  refine r_aload_n 1412 dL_law_1411 rfl rfl ?_
  refine r_iload_n 1413 dL_law_1412 rfl rfl ?_
  refine r_iconst 1414 dL_law_1413 rfl (InR_of rfl) ?_
  refine r_iadd 1415 dL_law_1414 rfl o_5 ?_
  refine r_sald 1416 dL_law_1415 rfl rfl o_6 ?_
  refine r_aload_n 1417 dL_law_1416 rfl rfl ?_
  refine r_iload_n 1418 dL_law_1417 rfl rfl ?_
  refine r_iconst 1419 dL_law_1418 rfl (InR_of rfl) ?_
  refine r_iadd 1420 dL_law_1419 rfl o_7 ?_
  refine r_sald 1421 dL_law_1420 rfl rfl o_8 ?_
  refine r_aload_n 1422 dL_law_1421 rfl rfl ?_
  refine r_iload_n 1423 dL_law_1422 rfl rfl ?_
  refine r_iconst 1424 dL_law_1423 rfl (InR_of rfl) ?_
  refine r_iadd 1425 dL_law_1424 rfl o_9 ?_
  refine r_sald 1426 dL_law_1425 rfl rfl o_10 ?_
  refine r_aload_n 1427 dL_law_1426 rfl rfl ?_
  refine r_iload_n 1428 dL_law_1427 rfl rfl ?_
  refine r_bipush 1430 dL_law_1428 rfl rfl ?_
  refine r_iadd 1431 dL_law_1430 rfl o_11 ?_
  refine r_sald 1432 dL_law_1431 rfl rfl o_12 ?_
  obtain ⟨r_15, M_13, hc_14, h⟩ := h
  refine v_1 (ci := 11) (C := (RX11, TX11, 16)) [vI (gXS G (x3 + 1).toNat), vI (gXS G (x3 + 2).toNat), vI (gXS G (x3 + 3).toNat), vI (gXS G (x3 + 4).toNat), vI (gXS G (x3 + 5).toNat), vI (gXS G (x3 + 6).toNat)] [] 1435 dL_law_1432 rfl rfl rfl rfl rfl mo_X11_needs ml_NamelessPostLaw_126 rfl rfl hc_14 ?_
  obtain ⟨⟨o_16, o_17, o_18, o_19, o_20, o_21, o_22, o_23, o_24, o_25, o_26, o_27⟩, h⟩ := h
  refine r_aload_n 1436 dL_law_1435 rfl rfl ?_
  refine r_aload_n 1437 dL_law_1436 rfl rfl ?_
  refine r_iload_n 1438 dL_law_1437 rfl rfl ?_
  refine r_iconst 1439 dL_law_1438 rfl (InR_of rfl) ?_
  refine r_iadd 1440 dL_law_1439 rfl o_16 ?_
  refine r_sald 1441 dL_law_1440 rfl rfl o_17 ?_
  refine r_aload_n 1442 dL_law_1441 rfl rfl ?_
  refine r_iload_n 1443 dL_law_1442 rfl rfl ?_
  refine r_iconst 1444 dL_law_1443 rfl (InR_of rfl) ?_
  refine r_iadd 1445 dL_law_1444 rfl o_18 ?_
  refine r_sald 1446 dL_law_1445 rfl rfl o_19 ?_
  refine r_aload_n 1447 dL_law_1446 rfl rfl ?_
  refine r_iload_n 1448 dL_law_1447 rfl rfl ?_
  refine r_iconst 1449 dL_law_1448 rfl (InR_of rfl) ?_
  refine r_iadd 1450 dL_law_1449 rfl o_20 ?_
  refine r_sald 1451 dL_law_1450 rfl rfl o_21 ?_
  refine r_aload_n 1452 dL_law_1451 rfl rfl ?_
  refine r_iload_n 1453 dL_law_1452 rfl rfl ?_
  refine r_iconst 1454 dL_law_1453 rfl (InR_of rfl) ?_
  refine r_iadd 1455 dL_law_1454 rfl o_22 ?_
  refine r_sald 1456 dL_law_1455 rfl rfl o_23 ?_
  refine r_aload_n 1457 dL_law_1456 rfl rfl ?_
  refine r_iload_n 1458 dL_law_1457 rfl rfl ?_
  refine r_iconst 1459 dL_law_1458 rfl (InR_of rfl) ?_
  refine r_iadd 1460 dL_law_1459 rfl o_24 ?_
  refine r_sald 1461 dL_law_1460 rfl rfl o_25 ?_
  refine r_aload_n 1462 dL_law_1461 rfl rfl ?_
  refine r_iload_n 1463 dL_law_1462 rfl rfl ?_
  refine r_bipush 1465 dL_law_1463 rfl rfl ?_
  refine r_iadd 1466 dL_law_1465 rfl o_26 ?_
  refine r_sald 1467 dL_law_1466 rfl rfl o_27 ?_
  obtain ⟨r_30, M_28, hc_29, h⟩ := h
  refine v_1 (ci := 12) (C := (RX12, TX12, 68)) [vI (gXS G (x3 + 1).toNat), vI (gXS G (x3 + 2).toNat), vI (gXS G (x3 + 3).toNat), vI (gXS G (x3 + 4).toNat), vI (gXS G (x3 + 5).toNat), vI (gXS G (x3 + 6).toNat)] [vI r_15] 1470 dL_law_1467 rfl rfl rfl rfl rfl mo_X12_needs ml_NamelessPostLaw_129 rfl rfl hc_29 ?_
  refine r_icmp_eq 1473 1915 dL_law_1470 rfl rfl (fun c => ?_) (fun c => ?_)
  · have h := h.1 (c)
    obtain ⟨o_31, h⟩ := h
    refine r_iinc (ls' := [some (vR (some (0, 0))), some (vR (some (2, k1))), some (vR (some (3, k2))), some (vI (x3 + 8))]) 1918 dL_law_1915 rfl rfl rfl rfl o_31 rfl ?_
    refine r_goto 18 dL_law_1918 rfl ?_
    exact h
  · have h := h.2 (c)
    refine r_iconst 1474 dL_law_1473 rfl (InR_of rfl) ?_
    exact r_iret dL_law_1474 rfl (.inr ⟨rfl, (.inl rfl)⟩) h.1 h.2
set_option maxRecDepth 4000 in
theorem xL_law_1475 {l : Launch} {G : Gt} {d : Nat} {M M' : Mem} {r : Option Vl} {k1 : Nat} {k2 : Nat} {x3 : Int} (h : 
    (InR (x3 + 1) ∧ (0 ≤ (x3 + 1) ∧ (x3 + 1) < (gXL G : Int)) ∧ InR (x3 + 2) ∧ (0 ≤ (x3 + 2) ∧ (x3 + 2) < (gXL G : Int)) ∧ InR (x3 + 3) ∧ (0 ≤ (x3 + 3) ∧ (x3 + 3) < (gXL G : Int)) ∧ InR (x3 + 4) ∧ (0 ≤ (x3 + 4) ∧ (x3 + 4) < (gXL G : Int))) ∧ (∃ (r_11 : Int) (M_9 : Mem), Cl l G d mX11_mends [vR (some (2, k1)), vI (gXS G (x3 + 1).toNat), vI (gXS G (x3 + 2).toNat), vI (gXS G (x3 + 3).toNat), vI (gXS G (x3 + 4).toNat)] M (some (vI r_11)) M_9 ∧ ((InR (x3 + 1) ∧ (0 ≤ (x3 + 1) ∧ (x3 + 1) < (gXL G : Int)) ∧ InR (x3 + 2) ∧ (0 ≤ (x3 + 2) ∧ (x3 + 2) < (gXL G : Int)) ∧ InR (x3 + 3) ∧ (0 ≤ (x3 + 3) ∧ (x3 + 3) < (gXL G : Int)) ∧ InR (x3 + 4) ∧ (0 ≤ (x3 + 4) ∧ (x3 + 4) < (gXL G : Int))) ∧ (∃ (r_22 : Int) (M_20 : Mem), Cl l G d mX12_mends [vR (some (3, k2)), vI (gXS G (x3 + 1).toNat), vI (gXS G (x3 + 2).toNat), vI (gXS G (x3 + 3).toNat), vI (gXS G (x3 + 4).toNat)] M_9 (some (vI r_22)) M_20 ∧ ((r_11 = r_22 → (InR (x3 + 8)) ∧ Ex l G (d + 1) mL_law 18 [some (vR (some (0, 0))), some (vR (some (2, k1))), some (vR (some (3, k2))), some (vI (x3 + 8))] [] M_20 r M') ∧ (¬ (r_11 = r_22) → r = some (vI 0) ∧ M' = M_20)))))) : Ex l G (d + 1) mL_law 1475 [some (vR (some (0, 0))), some (vR (some (2, k1))), some (vR (some (3, k2))), some (vI x3)] [] M r M' := by
  obtain ⟨⟨o_1, o_2, o_3, o_4, o_5, o_6, o_7, o_8⟩, h⟩ := h
  refine r_aload_n 1476 dL_law_1475 rfl rfl ?_
  refine r_aload_n 1477 dL_law_1476 rfl rfl ?_
  refine r_iload_n 1478 dL_law_1477 rfl rfl ?_
  refine r_iconst 1479 dL_law_1478 rfl (InR_of rfl) ?_
  refine r_iadd 1480 dL_law_1479 rfl o_1 ?_
  refine r_sald 1481 dL_law_1480 rfl rfl o_2 ?_
  refine r_aload_n 1482 dL_law_1481 rfl rfl ?_
  refine r_iload_n 1483 dL_law_1482 rfl rfl ?_
  refine r_iconst 1484 dL_law_1483 rfl (InR_of rfl) ?_
  refine r_iadd 1485 dL_law_1484 rfl o_3 ?_
  refine r_sald 1486 dL_law_1485 rfl rfl o_4 ?_
  refine r_aload_n 1487 dL_law_1486 rfl rfl ?_
  refine r_iload_n 1488 dL_law_1487 rfl rfl ?_
  refine r_iconst 1489 dL_law_1488 rfl (InR_of rfl) ?_
  refine r_iadd 1490 dL_law_1489 rfl o_5 ?_
  refine r_sald 1491 dL_law_1490 rfl rfl o_6 ?_
  refine r_aload_n 1492 dL_law_1491 rfl rfl ?_
  refine r_iload_n 1493 dL_law_1492 rfl rfl ?_
  refine r_iconst 1494 dL_law_1493 rfl (InR_of rfl) ?_
  refine r_iadd 1495 dL_law_1494 rfl o_7 ?_
  refine r_sald 1496 dL_law_1495 rfl rfl o_8 ?_
  obtain ⟨r_11, M_9, hc_10, h⟩ := h
  refine v_1 (ci := 11) (C := (RX11, TX11, 16)) [vI (gXS G (x3 + 1).toNat), vI (gXS G (x3 + 2).toNat), vI (gXS G (x3 + 3).toNat), vI (gXS G (x3 + 4).toNat)] [] 1499 dL_law_1496 rfl rfl rfl rfl rfl mo_X11_mends ml_NamelessPostLaw_130 rfl rfl hc_10 ?_
  obtain ⟨⟨o_12, o_13, o_14, o_15, o_16, o_17, o_18, o_19⟩, h⟩ := h
  refine r_aload_n 1500 dL_law_1499 rfl rfl ?_
  refine r_aload_n 1501 dL_law_1500 rfl rfl ?_
  refine r_iload_n 1502 dL_law_1501 rfl rfl ?_
  refine r_iconst 1503 dL_law_1502 rfl (InR_of rfl) ?_
  refine r_iadd 1504 dL_law_1503 rfl o_12 ?_
  refine r_sald 1505 dL_law_1504 rfl rfl o_13 ?_
  refine r_aload_n 1506 dL_law_1505 rfl rfl ?_
  refine r_iload_n 1507 dL_law_1506 rfl rfl ?_
  refine r_iconst 1508 dL_law_1507 rfl (InR_of rfl) ?_
  refine r_iadd 1509 dL_law_1508 rfl o_14 ?_
  refine r_sald 1510 dL_law_1509 rfl rfl o_15 ?_
  refine r_aload_n 1511 dL_law_1510 rfl rfl ?_
  refine r_iload_n 1512 dL_law_1511 rfl rfl ?_
  refine r_iconst 1513 dL_law_1512 rfl (InR_of rfl) ?_
  refine r_iadd 1514 dL_law_1513 rfl o_16 ?_
  refine r_sald 1515 dL_law_1514 rfl rfl o_17 ?_
  refine r_aload_n 1516 dL_law_1515 rfl rfl ?_
  refine r_iload_n 1517 dL_law_1516 rfl rfl ?_
  refine r_iconst 1518 dL_law_1517 rfl (InR_of rfl) ?_
  refine r_iadd 1519 dL_law_1518 rfl o_18 ?_
  refine r_sald 1520 dL_law_1519 rfl rfl o_19 ?_
  obtain ⟨r_22, M_20, hc_21, h⟩ := h
  refine v_1 (ci := 12) (C := (RX12, TX12, 68)) [vI (gXS G (x3 + 1).toNat), vI (gXS G (x3 + 2).toNat), vI (gXS G (x3 + 3).toNat), vI (gXS G (x3 + 4).toNat)] [vI r_11] 1523 dL_law_1520 rfl rfl rfl rfl rfl mo_X12_mends ml_NamelessPostLaw_133 rfl rfl hc_21 ?_
  refine r_icmp_eq 1526 1915 dL_law_1523 rfl rfl (fun c => ?_) (fun c => ?_)
  · have h := h.1 (c)
    obtain ⟨o_23, h⟩ := h
    refine r_iinc (ls' := [some (vR (some (0, 0))), some (vR (some (2, k1))), some (vR (some (3, k2))), some (vI (x3 + 8))]) 1918 dL_law_1915 rfl rfl rfl rfl o_23 rfl ?_
    refine r_goto 18 dL_law_1918 rfl ?_
    exact h
  · have h := h.2 (c)
    refine r_iconst 1527 dL_law_1526 rfl (InR_of rfl) ?_
    exact r_iret dL_law_1527 rfl (.inr ⟨rfl, (.inl rfl)⟩) h.1 h.2
set_option maxRecDepth 4000 in
theorem xL_law_1528 {l : Launch} {G : Gt} {d : Nat} {M M' : Mem} {r : Option Vl} {k1 : Nat} {k2 : Nat} {x3 : Int} (h : 
    (InR (x3 + 1) ∧ (0 ≤ (x3 + 1) ∧ (x3 + 1) < (gXL G : Int)) ∧ InR (x3 + 2) ∧ (0 ≤ (x3 + 2) ∧ (x3 + 2) < (gXL G : Int)) ∧ InR (x3 + 3) ∧ (0 ≤ (x3 + 3) ∧ (x3 + 3) < (gXL G : Int))) ∧ (∃ (r_9 : Int) (M_7 : Mem), Cl l G d mX11_tellers [vR (some (2, k1)), vI (gXS G (x3 + 1).toNat), vI (gXS G (x3 + 2).toNat), vI (gXS G (x3 + 3).toNat)] M (some (vI r_9)) M_7 ∧ ((InR (x3 + 1) ∧ (0 ≤ (x3 + 1) ∧ (x3 + 1) < (gXL G : Int)) ∧ InR (x3 + 2) ∧ (0 ≤ (x3 + 2) ∧ (x3 + 2) < (gXL G : Int)) ∧ InR (x3 + 3) ∧ (0 ≤ (x3 + 3) ∧ (x3 + 3) < (gXL G : Int))) ∧ (∃ (r_18 : Int) (M_16 : Mem), Cl l G d mX12_tellers [vR (some (3, k2)), vI (gXS G (x3 + 1).toNat), vI (gXS G (x3 + 2).toNat), vI (gXS G (x3 + 3).toNat)] M_7 (some (vI r_18)) M_16 ∧ ((r_9 = r_18 → (InR (x3 + 8)) ∧ Ex l G (d + 1) mL_law 18 [some (vR (some (0, 0))), some (vR (some (2, k1))), some (vR (some (3, k2))), some (vI (x3 + 8))] [] M_16 r M') ∧ (¬ (r_9 = r_18) → r = some (vI 0) ∧ M' = M_16)))))) : Ex l G (d + 1) mL_law 1528 [some (vR (some (0, 0))), some (vR (some (2, k1))), some (vR (some (3, k2))), some (vI x3)] [] M r M' := by
  obtain ⟨⟨o_1, o_2, o_3, o_4, o_5, o_6⟩, h⟩ := h
  refine r_aload_n 1529 dL_law_1528 rfl rfl ?_
  refine r_aload_n 1530 dL_law_1529 rfl rfl ?_
  refine r_iload_n 1531 dL_law_1530 rfl rfl ?_
  refine r_iconst 1532 dL_law_1531 rfl (InR_of rfl) ?_
  refine r_iadd 1533 dL_law_1532 rfl o_1 ?_
  refine r_sald 1534 dL_law_1533 rfl rfl o_2 ?_
  refine r_aload_n 1535 dL_law_1534 rfl rfl ?_
  refine r_iload_n 1536 dL_law_1535 rfl rfl ?_
  refine r_iconst 1537 dL_law_1536 rfl (InR_of rfl) ?_
  refine r_iadd 1538 dL_law_1537 rfl o_3 ?_
  refine r_sald 1539 dL_law_1538 rfl rfl o_4 ?_
  refine r_aload_n 1540 dL_law_1539 rfl rfl ?_
  refine r_iload_n 1541 dL_law_1540 rfl rfl ?_
  refine r_iconst 1542 dL_law_1541 rfl (InR_of rfl) ?_
  refine r_iadd 1543 dL_law_1542 rfl o_5 ?_
  refine r_sald 1544 dL_law_1543 rfl rfl o_6 ?_
  obtain ⟨r_9, M_7, hc_8, h⟩ := h
  refine v_1 (ci := 11) (C := (RX11, TX11, 16)) [vI (gXS G (x3 + 1).toNat), vI (gXS G (x3 + 2).toNat), vI (gXS G (x3 + 3).toNat)] [] 1547 dL_law_1544 rfl rfl rfl rfl rfl mo_X11_tellers ml_NamelessPostLaw_134 rfl rfl hc_8 ?_
  obtain ⟨⟨o_10, o_11, o_12, o_13, o_14, o_15⟩, h⟩ := h
  refine r_aload_n 1548 dL_law_1547 rfl rfl ?_
  refine r_aload_n 1549 dL_law_1548 rfl rfl ?_
  refine r_iload_n 1550 dL_law_1549 rfl rfl ?_
  refine r_iconst 1551 dL_law_1550 rfl (InR_of rfl) ?_
  refine r_iadd 1552 dL_law_1551 rfl o_10 ?_
  refine r_sald 1553 dL_law_1552 rfl rfl o_11 ?_
  refine r_aload_n 1554 dL_law_1553 rfl rfl ?_
  refine r_iload_n 1555 dL_law_1554 rfl rfl ?_
  refine r_iconst 1556 dL_law_1555 rfl (InR_of rfl) ?_
  refine r_iadd 1557 dL_law_1556 rfl o_12 ?_
  refine r_sald 1558 dL_law_1557 rfl rfl o_13 ?_
  refine r_aload_n 1559 dL_law_1558 rfl rfl ?_
  refine r_iload_n 1560 dL_law_1559 rfl rfl ?_
  refine r_iconst 1561 dL_law_1560 rfl (InR_of rfl) ?_
  refine r_iadd 1562 dL_law_1561 rfl o_14 ?_
  refine r_sald 1563 dL_law_1562 rfl rfl o_15 ?_
  obtain ⟨r_18, M_16, hc_17, h⟩ := h
  refine v_1 (ci := 12) (C := (RX12, TX12, 68)) [vI (gXS G (x3 + 1).toNat), vI (gXS G (x3 + 2).toNat), vI (gXS G (x3 + 3).toNat)] [vI r_9] 1566 dL_law_1563 rfl rfl rfl rfl rfl mo_X12_tellers ml_NamelessPostLaw_137 rfl rfl hc_17 ?_
  refine r_icmp_eq 1569 1915 dL_law_1566 rfl rfl (fun c => ?_) (fun c => ?_)
  · have h := h.1 (c)
    obtain ⟨o_19, h⟩ := h
    refine r_iinc (ls' := [some (vR (some (0, 0))), some (vR (some (2, k1))), some (vR (some (3, k2))), some (vI (x3 + 8))]) 1918 dL_law_1915 rfl rfl rfl rfl o_19 rfl ?_
    refine r_goto 18 dL_law_1918 rfl ?_
    exact h
  · have h := h.2 (c)
    refine r_iconst 1570 dL_law_1569 rfl (InR_of rfl) ?_
    exact r_iret dL_law_1570 rfl (.inr ⟨rfl, (.inl rfl)⟩) h.1 h.2
set_option maxRecDepth 4000 in
theorem xL_law_1571 {l : Launch} {G : Gt} {d : Nat} {M M' : Mem} {r : Option Vl} {k1 : Nat} {k2 : Nat} {x3 : Int} (h : 
    (InR (x3 + 1) ∧ (0 ≤ (x3 + 1) ∧ (x3 + 1) < (gXL G : Int)) ∧ InR (x3 + 2) ∧ (0 ≤ (x3 + 2) ∧ (x3 + 2) < (gXL G : Int)) ∧ InR (x3 + 3) ∧ (0 ≤ (x3 + 3) ∧ (x3 + 3) < (gXL G : Int))) ∧ (∃ (r_9 : Int) (M_7 : Mem), Cl l G d mX11_lied [vR (some (2, k1)), vI (gXS G (x3 + 1).toNat), vI (gXS G (x3 + 2).toNat), vI (gXS G (x3 + 3).toNat)] M (some (vI r_9)) M_7 ∧ ((InR (x3 + 1) ∧ (0 ≤ (x3 + 1) ∧ (x3 + 1) < (gXL G : Int)) ∧ InR (x3 + 2) ∧ (0 ≤ (x3 + 2) ∧ (x3 + 2) < (gXL G : Int)) ∧ InR (x3 + 3) ∧ (0 ≤ (x3 + 3) ∧ (x3 + 3) < (gXL G : Int))) ∧ (∃ (r_18 : Int) (M_16 : Mem), Cl l G d mX12_lied [vR (some (3, k2)), vI (gXS G (x3 + 1).toNat), vI (gXS G (x3 + 2).toNat), vI (gXS G (x3 + 3).toNat)] M_7 (some (vI r_18)) M_16 ∧ ((r_9 = r_18 → (InR (x3 + 8)) ∧ Ex l G (d + 1) mL_law 18 [some (vR (some (0, 0))), some (vR (some (2, k1))), some (vR (some (3, k2))), some (vI (x3 + 8))] [] M_16 r M') ∧ (¬ (r_9 = r_18) → r = some (vI 0) ∧ M' = M_16)))))) : Ex l G (d + 1) mL_law 1571 [some (vR (some (0, 0))), some (vR (some (2, k1))), some (vR (some (3, k2))), some (vI x3)] [] M r M' := by
  obtain ⟨⟨o_1, o_2, o_3, o_4, o_5, o_6⟩, h⟩ := h
  refine r_aload_n 1572 dL_law_1571 rfl rfl ?_
  refine r_aload_n 1573 dL_law_1572 rfl rfl ?_
  refine r_iload_n 1574 dL_law_1573 rfl rfl ?_
  refine r_iconst 1575 dL_law_1574 rfl (InR_of rfl) ?_
  refine r_iadd 1576 dL_law_1575 rfl o_1 ?_
  refine r_sald 1577 dL_law_1576 rfl rfl o_2 ?_
  refine r_aload_n 1578 dL_law_1577 rfl rfl ?_
  refine r_iload_n 1579 dL_law_1578 rfl rfl ?_
  refine r_iconst 1580 dL_law_1579 rfl (InR_of rfl) ?_
  refine r_iadd 1581 dL_law_1580 rfl o_3 ?_
  refine r_sald 1582 dL_law_1581 rfl rfl o_4 ?_
  refine r_aload_n 1583 dL_law_1582 rfl rfl ?_
  refine r_iload_n 1584 dL_law_1583 rfl rfl ?_
  refine r_iconst 1585 dL_law_1584 rfl (InR_of rfl) ?_
  refine r_iadd 1586 dL_law_1585 rfl o_5 ?_
  refine r_sald 1587 dL_law_1586 rfl rfl o_6 ?_
  obtain ⟨r_9, M_7, hc_8, h⟩ := h
  refine v_1 (ci := 11) (C := (RX11, TX11, 16)) [vI (gXS G (x3 + 1).toNat), vI (gXS G (x3 + 2).toNat), vI (gXS G (x3 + 3).toNat)] [] 1590 dL_law_1587 rfl rfl rfl rfl rfl mo_X11_lied ml_NamelessPostLaw_138 rfl rfl hc_8 ?_
  obtain ⟨⟨o_10, o_11, o_12, o_13, o_14, o_15⟩, h⟩ := h
  refine r_aload_n 1591 dL_law_1590 rfl rfl ?_
  refine r_aload_n 1592 dL_law_1591 rfl rfl ?_
  refine r_iload_n 1593 dL_law_1592 rfl rfl ?_
  refine r_iconst 1594 dL_law_1593 rfl (InR_of rfl) ?_
  refine r_iadd 1595 dL_law_1594 rfl o_10 ?_
  refine r_sald 1596 dL_law_1595 rfl rfl o_11 ?_
  refine r_aload_n 1597 dL_law_1596 rfl rfl ?_
  refine r_iload_n 1598 dL_law_1597 rfl rfl ?_
  refine r_iconst 1599 dL_law_1598 rfl (InR_of rfl) ?_
  refine r_iadd 1600 dL_law_1599 rfl o_12 ?_
  refine r_sald 1601 dL_law_1600 rfl rfl o_13 ?_
  refine r_aload_n 1602 dL_law_1601 rfl rfl ?_
  refine r_iload_n 1603 dL_law_1602 rfl rfl ?_
  refine r_iconst 1604 dL_law_1603 rfl (InR_of rfl) ?_
  refine r_iadd 1605 dL_law_1604 rfl o_14 ?_
  refine r_sald 1606 dL_law_1605 rfl rfl o_15 ?_
  obtain ⟨r_18, M_16, hc_17, h⟩ := h
  refine v_1 (ci := 12) (C := (RX12, TX12, 68)) [vI (gXS G (x3 + 1).toNat), vI (gXS G (x3 + 2).toNat), vI (gXS G (x3 + 3).toNat)] [vI r_9] 1609 dL_law_1606 rfl rfl rfl rfl rfl mo_X12_lied ml_NamelessPostLaw_141 rfl rfl hc_17 ?_
  refine r_icmp_eq 1612 1915 dL_law_1609 rfl rfl (fun c => ?_) (fun c => ?_)
  · have h := h.1 (c)
    obtain ⟨o_19, h⟩ := h
    refine r_iinc (ls' := [some (vR (some (0, 0))), some (vR (some (2, k1))), some (vR (some (3, k2))), some (vI (x3 + 8))]) 1918 dL_law_1915 rfl rfl rfl rfl o_19 rfl ?_
    refine r_goto 18 dL_law_1918 rfl ?_
    exact h
  · have h := h.2 (c)
    refine r_iconst 1613 dL_law_1612 rfl (InR_of rfl) ?_
    exact r_iret dL_law_1613 rfl (.inr ⟨rfl, (.inl rfl)⟩) h.1 h.2
set_option maxRecDepth 4000 in
theorem xL_law_1614 {l : Launch} {G : Gt} {d : Nat} {M M' : Mem} {r : Option Vl} {k1 : Nat} {k2 : Nat} {x3 : Int} (h : 
    (InR (x3 + 1) ∧ (0 ≤ (x3 + 1) ∧ (x3 + 1) < (gXL G : Int)) ∧ InR (x3 + 2) ∧ (0 ≤ (x3 + 2) ∧ (x3 + 2) < (gXL G : Int)) ∧ InR (x3 + 3) ∧ (0 ≤ (x3 + 3) ∧ (x3 + 3) < (gXL G : Int)) ∧ InR (x3 + 4) ∧ (0 ≤ (x3 + 4) ∧ (x3 + 4) < (gXL G : Int))) ∧ (∃ (r_11 : Int) (M_9 : Mem), Cl l G d mX11_alone [vR (some (2, k1)), vI (gXS G (x3 + 1).toNat), vI (gXS G (x3 + 2).toNat), vI (gXS G (x3 + 3).toNat), vI (gXS G (x3 + 4).toNat)] M (some (vI r_11)) M_9 ∧ ((InR (x3 + 1) ∧ (0 ≤ (x3 + 1) ∧ (x3 + 1) < (gXL G : Int)) ∧ InR (x3 + 2) ∧ (0 ≤ (x3 + 2) ∧ (x3 + 2) < (gXL G : Int)) ∧ InR (x3 + 3) ∧ (0 ≤ (x3 + 3) ∧ (x3 + 3) < (gXL G : Int)) ∧ InR (x3 + 4) ∧ (0 ≤ (x3 + 4) ∧ (x3 + 4) < (gXL G : Int))) ∧ (∃ (r_22 : Int) (M_20 : Mem), Cl l G d mX12_alone [vR (some (3, k2)), vI (gXS G (x3 + 1).toNat), vI (gXS G (x3 + 2).toNat), vI (gXS G (x3 + 3).toNat), vI (gXS G (x3 + 4).toNat)] M_9 (some (vI r_22)) M_20 ∧ ((r_11 = r_22 → (InR (x3 + 8)) ∧ Ex l G (d + 1) mL_law 18 [some (vR (some (0, 0))), some (vR (some (2, k1))), some (vR (some (3, k2))), some (vI (x3 + 8))] [] M_20 r M') ∧ (¬ (r_11 = r_22) → r = some (vI 0) ∧ M' = M_20)))))) : Ex l G (d + 1) mL_law 1614 [some (vR (some (0, 0))), some (vR (some (2, k1))), some (vR (some (3, k2))), some (vI x3)] [] M r M' := by
  obtain ⟨⟨o_1, o_2, o_3, o_4, o_5, o_6, o_7, o_8⟩, h⟩ := h
  refine r_aload_n 1615 dL_law_1614 rfl rfl ?_
  refine r_aload_n 1616 dL_law_1615 rfl rfl ?_
  refine r_iload_n 1617 dL_law_1616 rfl rfl ?_
  refine r_iconst 1618 dL_law_1617 rfl (InR_of rfl) ?_
  refine r_iadd 1619 dL_law_1618 rfl o_1 ?_
  refine r_sald 1620 dL_law_1619 rfl rfl o_2 ?_
  refine r_aload_n 1621 dL_law_1620 rfl rfl ?_
  refine r_iload_n 1622 dL_law_1621 rfl rfl ?_
  refine r_iconst 1623 dL_law_1622 rfl (InR_of rfl) ?_
  refine r_iadd 1624 dL_law_1623 rfl o_3 ?_
  refine r_sald 1625 dL_law_1624 rfl rfl o_4 ?_
  refine r_aload_n 1626 dL_law_1625 rfl rfl ?_
  refine r_iload_n 1627 dL_law_1626 rfl rfl ?_
  refine r_iconst 1628 dL_law_1627 rfl (InR_of rfl) ?_
  refine r_iadd 1629 dL_law_1628 rfl o_5 ?_
  refine r_sald 1630 dL_law_1629 rfl rfl o_6 ?_
  refine r_aload_n 1631 dL_law_1630 rfl rfl ?_
  refine r_iload_n 1632 dL_law_1631 rfl rfl ?_
  refine r_iconst 1633 dL_law_1632 rfl (InR_of rfl) ?_
  refine r_iadd 1634 dL_law_1633 rfl o_7 ?_
  refine r_sald 1635 dL_law_1634 rfl rfl o_8 ?_
  obtain ⟨r_11, M_9, hc_10, h⟩ := h
  refine v_1 (ci := 11) (C := (RX11, TX11, 16)) [vI (gXS G (x3 + 1).toNat), vI (gXS G (x3 + 2).toNat), vI (gXS G (x3 + 3).toNat), vI (gXS G (x3 + 4).toNat)] [] 1638 dL_law_1635 rfl rfl rfl rfl rfl mo_X11_alone ml_NamelessPostLaw_142 rfl rfl hc_10 ?_
  obtain ⟨⟨o_12, o_13, o_14, o_15, o_16, o_17, o_18, o_19⟩, h⟩ := h
  refine r_aload_n 1639 dL_law_1638 rfl rfl ?_
  refine r_aload_n 1640 dL_law_1639 rfl rfl ?_
  refine r_iload_n 1641 dL_law_1640 rfl rfl ?_
  refine r_iconst 1642 dL_law_1641 rfl (InR_of rfl) ?_
  refine r_iadd 1643 dL_law_1642 rfl o_12 ?_
  refine r_sald 1644 dL_law_1643 rfl rfl o_13 ?_
  refine r_aload_n 1645 dL_law_1644 rfl rfl ?_
  refine r_iload_n 1646 dL_law_1645 rfl rfl ?_
  refine r_iconst 1647 dL_law_1646 rfl (InR_of rfl) ?_
  refine r_iadd 1648 dL_law_1647 rfl o_14 ?_
  refine r_sald 1649 dL_law_1648 rfl rfl o_15 ?_
  refine r_aload_n 1650 dL_law_1649 rfl rfl ?_
  refine r_iload_n 1651 dL_law_1650 rfl rfl ?_
  refine r_iconst 1652 dL_law_1651 rfl (InR_of rfl) ?_
  refine r_iadd 1653 dL_law_1652 rfl o_16 ?_
  refine r_sald 1654 dL_law_1653 rfl rfl o_17 ?_
  refine r_aload_n 1655 dL_law_1654 rfl rfl ?_
  refine r_iload_n 1656 dL_law_1655 rfl rfl ?_
  refine r_iconst 1657 dL_law_1656 rfl (InR_of rfl) ?_
  refine r_iadd 1658 dL_law_1657 rfl o_18 ?_
  refine r_sald 1659 dL_law_1658 rfl rfl o_19 ?_
  obtain ⟨r_22, M_20, hc_21, h⟩ := h
  refine v_1 (ci := 12) (C := (RX12, TX12, 68)) [vI (gXS G (x3 + 1).toNat), vI (gXS G (x3 + 2).toNat), vI (gXS G (x3 + 3).toNat), vI (gXS G (x3 + 4).toNat)] [vI r_11] 1662 dL_law_1659 rfl rfl rfl rfl rfl mo_X12_alone ml_NamelessPostLaw_145 rfl rfl hc_21 ?_
  refine r_icmp_eq 1665 1915 dL_law_1662 rfl rfl (fun c => ?_) (fun c => ?_)
  · have h := h.1 (c)
    obtain ⟨o_23, h⟩ := h
    refine r_iinc (ls' := [some (vR (some (0, 0))), some (vR (some (2, k1))), some (vR (some (3, k2))), some (vI (x3 + 8))]) 1918 dL_law_1915 rfl rfl rfl rfl o_23 rfl ?_
    refine r_goto 18 dL_law_1918 rfl ?_
    exact h
  · have h := h.2 (c)
    refine r_iconst 1666 dL_law_1665 rfl (InR_of rfl) ?_
    exact r_iret dL_law_1666 rfl (.inr ⟨rfl, (.inl rfl)⟩) h.1 h.2
set_option maxRecDepth 4000 in
theorem xL_law_1667 {l : Launch} {G : Gt} {d : Nat} {M M' : Mem} {r : Option Vl} {k1 : Nat} {k2 : Nat} {x3 : Int} (h : 
    (InR (x3 + 1) ∧ (0 ≤ (x3 + 1) ∧ (x3 + 1) < (gXL G : Int)) ∧ InR (x3 + 2) ∧ (0 ≤ (x3 + 2) ∧ (x3 + 2) < (gXL G : Int))) ∧ (∃ (r_7 : Int) (M_5 : Mem), Cl l G d mX11_chain [vR (some (2, k1)), vI (gXS G (x3 + 1).toNat), vI (gXS G (x3 + 2).toNat)] M (some (vI r_7)) M_5 ∧ ((InR (x3 + 1) ∧ (0 ≤ (x3 + 1) ∧ (x3 + 1) < (gXL G : Int)) ∧ InR (x3 + 2) ∧ (0 ≤ (x3 + 2) ∧ (x3 + 2) < (gXL G : Int))) ∧ (∃ (r_14 : Int) (M_12 : Mem), Cl l G d mX12_chain [vR (some (3, k2)), vI (gXS G (x3 + 1).toNat), vI (gXS G (x3 + 2).toNat)] M_5 (some (vI r_14)) M_12 ∧ ((r_7 = r_14 → (InR (x3 + 8)) ∧ Ex l G (d + 1) mL_law 18 [some (vR (some (0, 0))), some (vR (some (2, k1))), some (vR (some (3, k2))), some (vI (x3 + 8))] [] M_12 r M') ∧ (¬ (r_7 = r_14) → r = some (vI 0) ∧ M' = M_12)))))) : Ex l G (d + 1) mL_law 1667 [some (vR (some (0, 0))), some (vR (some (2, k1))), some (vR (some (3, k2))), some (vI x3)] [] M r M' := by
  obtain ⟨⟨o_1, o_2, o_3, o_4⟩, h⟩ := h
  refine r_aload_n 1668 dL_law_1667 rfl rfl ?_
  refine r_aload_n 1669 dL_law_1668 rfl rfl ?_
  refine r_iload_n 1670 dL_law_1669 rfl rfl ?_
  refine r_iconst 1671 dL_law_1670 rfl (InR_of rfl) ?_
  refine r_iadd 1672 dL_law_1671 rfl o_1 ?_
  refine r_sald 1673 dL_law_1672 rfl rfl o_2 ?_
  refine r_aload_n 1674 dL_law_1673 rfl rfl ?_
  refine r_iload_n 1675 dL_law_1674 rfl rfl ?_
  refine r_iconst 1676 dL_law_1675 rfl (InR_of rfl) ?_
  refine r_iadd 1677 dL_law_1676 rfl o_3 ?_
  refine r_sald 1678 dL_law_1677 rfl rfl o_4 ?_
  obtain ⟨r_7, M_5, hc_6, h⟩ := h
  refine v_1 (ci := 11) (C := (RX11, TX11, 16)) [vI (gXS G (x3 + 1).toNat), vI (gXS G (x3 + 2).toNat)] [] 1681 dL_law_1678 rfl rfl rfl rfl rfl mo_X11_chain ml_NamelessPostLaw_146 rfl rfl hc_6 ?_
  obtain ⟨⟨o_8, o_9, o_10, o_11⟩, h⟩ := h
  refine r_aload_n 1682 dL_law_1681 rfl rfl ?_
  refine r_aload_n 1683 dL_law_1682 rfl rfl ?_
  refine r_iload_n 1684 dL_law_1683 rfl rfl ?_
  refine r_iconst 1685 dL_law_1684 rfl (InR_of rfl) ?_
  refine r_iadd 1686 dL_law_1685 rfl o_8 ?_
  refine r_sald 1687 dL_law_1686 rfl rfl o_9 ?_
  refine r_aload_n 1688 dL_law_1687 rfl rfl ?_
  refine r_iload_n 1689 dL_law_1688 rfl rfl ?_
  refine r_iconst 1690 dL_law_1689 rfl (InR_of rfl) ?_
  refine r_iadd 1691 dL_law_1690 rfl o_10 ?_
  refine r_sald 1692 dL_law_1691 rfl rfl o_11 ?_
  obtain ⟨r_14, M_12, hc_13, h⟩ := h
  refine v_1 (ci := 12) (C := (RX12, TX12, 68)) [vI (gXS G (x3 + 1).toNat), vI (gXS G (x3 + 2).toNat)] [vI r_7] 1695 dL_law_1692 rfl rfl rfl rfl rfl mo_X12_chain ml_NamelessPostLaw_149 rfl rfl hc_13 ?_
  refine r_icmp_eq 1698 1915 dL_law_1695 rfl rfl (fun c => ?_) (fun c => ?_)
  · have h := h.1 (c)
    obtain ⟨o_15, h⟩ := h
    refine r_iinc (ls' := [some (vR (some (0, 0))), some (vR (some (2, k1))), some (vR (some (3, k2))), some (vI (x3 + 8))]) 1918 dL_law_1915 rfl rfl rfl rfl o_15 rfl ?_
    refine r_goto 18 dL_law_1918 rfl ?_
    exact h
  · have h := h.2 (c)
    refine r_iconst 1699 dL_law_1698 rfl (InR_of rfl) ?_
    exact r_iret dL_law_1699 rfl (.inr ⟨rfl, (.inl rfl)⟩) h.1 h.2
set_option maxRecDepth 4000 in
theorem xL_law_1700 {l : Launch} {G : Gt} {d : Nat} {M M' : Mem} {r : Option Vl} {k1 : Nat} {k2 : Nat} {x3 : Int} (h : 
    (InR (x3 + 1) ∧ (0 ≤ (x3 + 1) ∧ (x3 + 1) < (gXL G : Int))) ∧ (∃ (r_5 : Int) (M_3 : Mem), Cl l G d mX11_circle [vR (some (2, k1)), vI (gXS G (x3 + 1).toNat)] M (some (vI r_5)) M_3 ∧ ((InR (x3 + 1) ∧ (0 ≤ (x3 + 1) ∧ (x3 + 1) < (gXL G : Int))) ∧ (∃ (r_10 : Int) (M_8 : Mem), Cl l G d mX12_circle [vR (some (3, k2)), vI (gXS G (x3 + 1).toNat)] M_3 (some (vI r_10)) M_8 ∧ ((r_5 = r_10 → (InR (x3 + 8)) ∧ Ex l G (d + 1) mL_law 18 [some (vR (some (0, 0))), some (vR (some (2, k1))), some (vR (some (3, k2))), some (vI (x3 + 8))] [] M_8 r M') ∧ (¬ (r_5 = r_10) → r = some (vI 0) ∧ M' = M_8)))))) : Ex l G (d + 1) mL_law 1700 [some (vR (some (0, 0))), some (vR (some (2, k1))), some (vR (some (3, k2))), some (vI x3)] [] M r M' := by
  obtain ⟨⟨o_1, o_2⟩, h⟩ := h
  refine r_aload_n 1701 dL_law_1700 rfl rfl ?_
  refine r_aload_n 1702 dL_law_1701 rfl rfl ?_
  refine r_iload_n 1703 dL_law_1702 rfl rfl ?_
  refine r_iconst 1704 dL_law_1703 rfl (InR_of rfl) ?_
  refine r_iadd 1705 dL_law_1704 rfl o_1 ?_
  refine r_sald 1706 dL_law_1705 rfl rfl o_2 ?_
  obtain ⟨r_5, M_3, hc_4, h⟩ := h
  refine v_1 (ci := 11) (C := (RX11, TX11, 16)) [vI (gXS G (x3 + 1).toNat)] [] 1709 dL_law_1706 rfl rfl rfl rfl rfl mo_X11_circle ml_NamelessPostLaw_150 rfl rfl hc_4 ?_
  obtain ⟨⟨o_6, o_7⟩, h⟩ := h
  refine r_aload_n 1710 dL_law_1709 rfl rfl ?_
  refine r_aload_n 1711 dL_law_1710 rfl rfl ?_
  refine r_iload_n 1712 dL_law_1711 rfl rfl ?_
  refine r_iconst 1713 dL_law_1712 rfl (InR_of rfl) ?_
  refine r_iadd 1714 dL_law_1713 rfl o_6 ?_
  refine r_sald 1715 dL_law_1714 rfl rfl o_7 ?_
  obtain ⟨r_10, M_8, hc_9, h⟩ := h
  refine v_1 (ci := 12) (C := (RX12, TX12, 68)) [vI (gXS G (x3 + 1).toNat)] [vI r_5] 1718 dL_law_1715 rfl rfl rfl rfl rfl mo_X12_circle ml_NamelessPostLaw_153 rfl rfl hc_9 ?_
  refine r_icmp_eq 1721 1915 dL_law_1718 rfl rfl (fun c => ?_) (fun c => ?_)
  · have h := h.1 (c)
    obtain ⟨o_11, h⟩ := h
    refine r_iinc (ls' := [some (vR (some (0, 0))), some (vR (some (2, k1))), some (vR (some (3, k2))), some (vI (x3 + 8))]) 1918 dL_law_1915 rfl rfl rfl rfl o_11 rfl ?_
    refine r_goto 18 dL_law_1918 rfl ?_
    exact h
  · have h := h.2 (c)
    refine r_iconst 1722 dL_law_1721 rfl (InR_of rfl) ?_
    exact r_iret dL_law_1722 rfl (.inr ⟨rfl, (.inl rfl)⟩) h.1 h.2
set_option maxRecDepth 4000 in
theorem xL_law_1723 {l : Launch} {G : Gt} {d : Nat} {M M' : Mem} {r : Option Vl} {k1 : Nat} {k2 : Nat} {x3 : Int} (h : 
    (InR (x3 + 1) ∧ (0 ≤ (x3 + 1) ∧ (x3 + 1) < (gXL G : Int))) ∧ (∃ (r_5 : Int) (M_3 : Mem), Cl l G d mX11_strangers [vR (some (2, k1)), vI (gXS G (x3 + 1).toNat)] M (some (vI r_5)) M_3 ∧ ((InR (x3 + 1) ∧ (0 ≤ (x3 + 1) ∧ (x3 + 1) < (gXL G : Int))) ∧ (∃ (r_10 : Int) (M_8 : Mem), Cl l G d mX12_strangers [vR (some (3, k2)), vI (gXS G (x3 + 1).toNat)] M_3 (some (vI r_10)) M_8 ∧ ((r_5 = r_10 → (InR (x3 + 8)) ∧ Ex l G (d + 1) mL_law 18 [some (vR (some (0, 0))), some (vR (some (2, k1))), some (vR (some (3, k2))), some (vI (x3 + 8))] [] M_8 r M') ∧ (¬ (r_5 = r_10) → r = some (vI 0) ∧ M' = M_8)))))) : Ex l G (d + 1) mL_law 1723 [some (vR (some (0, 0))), some (vR (some (2, k1))), some (vR (some (3, k2))), some (vI x3)] [] M r M' := by
  obtain ⟨⟨o_1, o_2⟩, h⟩ := h
  refine r_aload_n 1724 dL_law_1723 rfl rfl ?_
  refine r_aload_n 1725 dL_law_1724 rfl rfl ?_
  refine r_iload_n 1726 dL_law_1725 rfl rfl ?_
  refine r_iconst 1727 dL_law_1726 rfl (InR_of rfl) ?_
  refine r_iadd 1728 dL_law_1727 rfl o_1 ?_
  refine r_sald 1729 dL_law_1728 rfl rfl o_2 ?_
  obtain ⟨r_5, M_3, hc_4, h⟩ := h
  refine v_1 (ci := 11) (C := (RX11, TX11, 16)) [vI (gXS G (x3 + 1).toNat)] [] 1732 dL_law_1729 rfl rfl rfl rfl rfl mo_X11_strangers ml_NamelessPostLaw_154 rfl rfl hc_4 ?_
  obtain ⟨⟨o_6, o_7⟩, h⟩ := h
  refine r_aload_n 1733 dL_law_1732 rfl rfl ?_
  refine r_aload_n 1734 dL_law_1733 rfl rfl ?_
  refine r_iload_n 1735 dL_law_1734 rfl rfl ?_
  refine r_iconst 1736 dL_law_1735 rfl (InR_of rfl) ?_
  refine r_iadd 1737 dL_law_1736 rfl o_6 ?_
  refine r_sald 1738 dL_law_1737 rfl rfl o_7 ?_
  obtain ⟨r_10, M_8, hc_9, h⟩ := h
  refine v_1 (ci := 12) (C := (RX12, TX12, 68)) [vI (gXS G (x3 + 1).toNat)] [vI r_5] 1741 dL_law_1738 rfl rfl rfl rfl rfl mo_X12_strangers ml_NamelessPostLaw_157 rfl rfl hc_9 ?_
  refine r_icmp_eq 1744 1915 dL_law_1741 rfl rfl (fun c => ?_) (fun c => ?_)
  · have h := h.1 (c)
    obtain ⟨o_11, h⟩ := h
    refine r_iinc (ls' := [some (vR (some (0, 0))), some (vR (some (2, k1))), some (vR (some (3, k2))), some (vI (x3 + 8))]) 1918 dL_law_1915 rfl rfl rfl rfl o_11 rfl ?_
    refine r_goto 18 dL_law_1918 rfl ?_
    exact h
  · have h := h.2 (c)
    refine r_iconst 1745 dL_law_1744 rfl (InR_of rfl) ?_
    exact r_iret dL_law_1745 rfl (.inr ⟨rfl, (.inl rfl)⟩) h.1 h.2
set_option maxRecDepth 4000 in
theorem xL_law_1746 {l : Launch} {G : Gt} {d : Nat} {M M' : Mem} {r : Option Vl} {k1 : Nat} {k2 : Nat} {x3 : Int} (h : 
    (InR (x3 + 1) ∧ (0 ≤ (x3 + 1) ∧ (x3 + 1) < (gXL G : Int)) ∧ InR (x3 + 2) ∧ (0 ≤ (x3 + 2) ∧ (x3 + 2) < (gXL G : Int)) ∧ InR (x3 + 3) ∧ (0 ≤ (x3 + 3) ∧ (x3 + 3) < (gXL G : Int)) ∧ InR (x3 + 4) ∧ (0 ≤ (x3 + 4) ∧ (x3 + 4) < (gXL G : Int)) ∧ InR (x3 + 5) ∧ (0 ≤ (x3 + 5) ∧ (x3 + 5) < (gXL G : Int)) ∧ InR (x3 + 6) ∧ (0 ≤ (x3 + 6) ∧ (x3 + 6) < (gXL G : Int)) ∧ InR (x3 + 7) ∧ (0 ≤ (x3 + 7) ∧ (x3 + 7) < (gXL G : Int))) ∧ (∃ (r_17 : Int) (M_15 : Mem), Cl l G d mX11_copies [vR (some (2, k1)), vI (gXS G (x3 + 1).toNat), vI (gXS G (x3 + 2).toNat), vI (gXS G (x3 + 3).toNat), vI (gXS G (x3 + 4).toNat), vI (gXS G (x3 + 5).toNat), vI (gXS G (x3 + 6).toNat), vI (gXS G (x3 + 7).toNat)] M (some (vI r_17)) M_15 ∧ ((InR (x3 + 1) ∧ (0 ≤ (x3 + 1) ∧ (x3 + 1) < (gXL G : Int)) ∧ InR (x3 + 2) ∧ (0 ≤ (x3 + 2) ∧ (x3 + 2) < (gXL G : Int)) ∧ InR (x3 + 3) ∧ (0 ≤ (x3 + 3) ∧ (x3 + 3) < (gXL G : Int)) ∧ InR (x3 + 4) ∧ (0 ≤ (x3 + 4) ∧ (x3 + 4) < (gXL G : Int)) ∧ InR (x3 + 5) ∧ (0 ≤ (x3 + 5) ∧ (x3 + 5) < (gXL G : Int)) ∧ InR (x3 + 6) ∧ (0 ≤ (x3 + 6) ∧ (x3 + 6) < (gXL G : Int)) ∧ InR (x3 + 7) ∧ (0 ≤ (x3 + 7) ∧ (x3 + 7) < (gXL G : Int))) ∧ (∃ (r_34 : Int) (M_32 : Mem), Cl l G d mX12_copies [vR (some (3, k2)), vI (gXS G (x3 + 1).toNat), vI (gXS G (x3 + 2).toNat), vI (gXS G (x3 + 3).toNat), vI (gXS G (x3 + 4).toNat), vI (gXS G (x3 + 5).toNat), vI (gXS G (x3 + 6).toNat), vI (gXS G (x3 + 7).toNat)] M_15 (some (vI r_34)) M_32 ∧ ((r_17 = r_34 → (InR (x3 + 8)) ∧ Ex l G (d + 1) mL_law 18 [some (vR (some (0, 0))), some (vR (some (2, k1))), some (vR (some (3, k2))), some (vI (x3 + 8))] [] M_32 r M') ∧ (¬ (r_17 = r_34) → r = some (vI 0) ∧ M' = M_32)))))) : Ex l G (d + 1) mL_law 1746 [some (vR (some (0, 0))), some (vR (some (2, k1))), some (vR (some (3, k2))), some (vI x3)] [] M r M' := by
  obtain ⟨⟨o_1, o_2, o_3, o_4, o_5, o_6, o_7, o_8, o_9, o_10, o_11, o_12, o_13, o_14⟩, h⟩ := h
  refine r_aload_n 1747 dL_law_1746 rfl rfl ?_
  refine r_aload_n 1748 dL_law_1747 rfl rfl ?_
  refine r_iload_n 1749 dL_law_1748 rfl rfl ?_
  refine r_iconst 1750 dL_law_1749 rfl (InR_of rfl) ?_
  refine r_iadd 1751 dL_law_1750 rfl o_1 ?_
  refine r_sald 1752 dL_law_1751 rfl rfl o_2 ?_
  refine r_aload_n 1753 dL_law_1752 rfl rfl ?_
  refine r_iload_n 1754 dL_law_1753 rfl rfl ?_
  refine r_iconst 1755 dL_law_1754 rfl (InR_of rfl) ?_
  refine r_iadd 1756 dL_law_1755 rfl o_3 ?_
  refine r_sald 1757 dL_law_1756 rfl rfl o_4 ?_
  refine r_aload_n 1758 dL_law_1757 rfl rfl ?_
  refine r_iload_n 1759 dL_law_1758 rfl rfl ?_
  refine r_iconst 1760 dL_law_1759 rfl (InR_of rfl) ?_
  refine r_iadd 1761 dL_law_1760 rfl o_5 ?_
  refine r_sald 1762 dL_law_1761 rfl rfl o_6 ?_
  refine r_aload_n 1763 dL_law_1762 rfl rfl ?_
  refine r_iload_n 1764 dL_law_1763 rfl rfl ?_
  refine r_iconst 1765 dL_law_1764 rfl (InR_of rfl) ?_
  refine r_iadd 1766 dL_law_1765 rfl o_7 ?_
  refine r_sald 1767 dL_law_1766 rfl rfl o_8 ?_
  refine r_aload_n 1768 dL_law_1767 rfl rfl ?_
  refine r_iload_n 1769 dL_law_1768 rfl rfl ?_
  refine r_iconst 1770 dL_law_1769 rfl (InR_of rfl) ?_
  refine r_iadd 1771 dL_law_1770 rfl o_9 ?_
  refine r_sald 1772 dL_law_1771 rfl rfl o_10 ?_
  refine r_aload_n 1773 dL_law_1772 rfl rfl ?_
  refine r_iload_n 1774 dL_law_1773 rfl rfl ?_
  refine r_bipush 1776 dL_law_1774 rfl rfl ?_
  refine r_iadd 1777 dL_law_1776 rfl o_11 ?_
  refine r_sald 1778 dL_law_1777 rfl rfl o_12 ?_
  refine r_aload_n 1779 dL_law_1778 rfl rfl ?_
  refine r_iload_n 1780 dL_law_1779 rfl rfl ?_
  refine r_bipush 1782 dL_law_1780 rfl rfl ?_
  refine r_iadd 1783 dL_law_1782 rfl o_13 ?_
  refine r_sald 1784 dL_law_1783 rfl rfl o_14 ?_
  obtain ⟨r_17, M_15, hc_16, h⟩ := h
  refine v_1 (ci := 11) (C := (RX11, TX11, 16)) [vI (gXS G (x3 + 1).toNat), vI (gXS G (x3 + 2).toNat), vI (gXS G (x3 + 3).toNat), vI (gXS G (x3 + 4).toNat), vI (gXS G (x3 + 5).toNat), vI (gXS G (x3 + 6).toNat), vI (gXS G (x3 + 7).toNat)] [] 1787 dL_law_1784 rfl rfl rfl rfl rfl mo_X11_copies ml_NamelessPostLaw_158 rfl rfl hc_16 ?_
  obtain ⟨⟨o_18, o_19, o_20, o_21, o_22, o_23, o_24, o_25, o_26, o_27, o_28, o_29, o_30, o_31⟩, h⟩ := h
  refine r_aload_n 1788 dL_law_1787 rfl rfl ?_
  refine r_aload_n 1789 dL_law_1788 rfl rfl ?_
  refine r_iload_n 1790 dL_law_1789 rfl rfl ?_
  refine r_iconst 1791 dL_law_1790 rfl (InR_of rfl) ?_
  refine r_iadd 1792 dL_law_1791 rfl o_18 ?_
  refine r_sald 1793 dL_law_1792 rfl rfl o_19 ?_
  refine r_aload_n 1794 dL_law_1793 rfl rfl ?_
  refine r_iload_n 1795 dL_law_1794 rfl rfl ?_
  refine r_iconst 1796 dL_law_1795 rfl (InR_of rfl) ?_
  refine r_iadd 1797 dL_law_1796 rfl o_20 ?_
  refine r_sald 1798 dL_law_1797 rfl rfl o_21 ?_
  refine r_aload_n 1799 dL_law_1798 rfl rfl ?_
  refine r_iload_n 1800 dL_law_1799 rfl rfl ?_
  refine r_iconst 1801 dL_law_1800 rfl (InR_of rfl) ?_
  refine r_iadd 1802 dL_law_1801 rfl o_22 ?_
  refine r_sald 1803 dL_law_1802 rfl rfl o_23 ?_
  refine r_aload_n 1804 dL_law_1803 rfl rfl ?_
  refine r_iload_n 1805 dL_law_1804 rfl rfl ?_
  refine r_iconst 1806 dL_law_1805 rfl (InR_of rfl) ?_
  refine r_iadd 1807 dL_law_1806 rfl o_24 ?_
  refine r_sald 1808 dL_law_1807 rfl rfl o_25 ?_
  refine r_aload_n 1809 dL_law_1808 rfl rfl ?_
  refine r_iload_n 1810 dL_law_1809 rfl rfl ?_
  refine r_iconst 1811 dL_law_1810 rfl (InR_of rfl) ?_
  refine r_iadd 1812 dL_law_1811 rfl o_26 ?_
  refine r_sald 1813 dL_law_1812 rfl rfl o_27 ?_
  refine r_aload_n 1814 dL_law_1813 rfl rfl ?_
  refine r_iload_n 1815 dL_law_1814 rfl rfl ?_
  refine r_bipush 1817 dL_law_1815 rfl rfl ?_
  refine r_iadd 1818 dL_law_1817 rfl o_28 ?_
  refine r_sald 1819 dL_law_1818 rfl rfl o_29 ?_
  refine r_aload_n 1820 dL_law_1819 rfl rfl ?_
  refine r_iload_n 1821 dL_law_1820 rfl rfl ?_
  refine r_bipush 1823 dL_law_1821 rfl rfl ?_
  refine r_iadd 1824 dL_law_1823 rfl o_30 ?_
  refine r_sald 1825 dL_law_1824 rfl rfl o_31 ?_
  obtain ⟨r_34, M_32, hc_33, h⟩ := h
  refine v_1 (ci := 12) (C := (RX12, TX12, 68)) [vI (gXS G (x3 + 1).toNat), vI (gXS G (x3 + 2).toNat), vI (gXS G (x3 + 3).toNat), vI (gXS G (x3 + 4).toNat), vI (gXS G (x3 + 5).toNat), vI (gXS G (x3 + 6).toNat), vI (gXS G (x3 + 7).toNat)] [vI r_17] 1828 dL_law_1825 rfl rfl rfl rfl rfl mo_X12_copies ml_NamelessPostLaw_162 rfl rfl hc_33 ?_
  refine r_icmp_eq 1831 1915 dL_law_1828 rfl rfl (fun c => ?_) (fun c => ?_)
  · have h := h.1 (c)
    obtain ⟨o_35, h⟩ := h
    refine r_iinc (ls' := [some (vR (some (0, 0))), some (vR (some (2, k1))), some (vR (some (3, k2))), some (vI (x3 + 8))]) 1918 dL_law_1915 rfl rfl rfl rfl o_35 rfl ?_
    refine r_goto 18 dL_law_1918 rfl ?_
    exact h
  · have h := h.2 (c)
    refine r_iconst 1832 dL_law_1831 rfl (InR_of rfl) ?_
    exact r_iret dL_law_1832 rfl (.inr ⟨rfl, (.inl rfl)⟩) h.1 h.2
set_option maxRecDepth 4000 in
theorem xL_law_1833 {l : Launch} {G : Gt} {d : Nat} {M M' : Mem} {r : Option Vl} {k1 : Nat} {k2 : Nat} {x3 : Int} (h : 
    ∃ (r_3 : Int) (M_1 : Mem), Cl l G d mX11_often [vR (some (2, k1))] M (some (vI r_3)) M_1 ∧ (∃ (r_6 : Int) (M_4 : Mem), Cl l G d mX12_often [vR (some (3, k2))] M_1 (some (vI r_6)) M_4 ∧ ((r_3 = r_6 → (InR (x3 + 8)) ∧ Ex l G (d + 1) mL_law 18 [some (vR (some (0, 0))), some (vR (some (2, k1))), some (vR (some (3, k2))), some (vI (x3 + 8))] [] M_4 r M') ∧ (¬ (r_3 = r_6) → r = some (vI 0) ∧ M' = M_4)))) : Ex l G (d + 1) mL_law 1833 [some (vR (some (0, 0))), some (vR (some (2, k1))), some (vR (some (3, k2))), some (vI x3)] [] M r M' := by
  refine r_aload_n 1834 dL_law_1833 rfl rfl ?_
  obtain ⟨r_3, M_1, hc_2, h⟩ := h
  refine v_1 (ci := 11) (C := (RX11, TX11, 16)) [] [] 1837 dL_law_1834 rfl rfl rfl rfl rfl mo_X11_often ml_NamelessPostLaw_163 rfl rfl hc_2 ?_
  refine r_aload_n 1838 dL_law_1837 rfl rfl ?_
  obtain ⟨r_6, M_4, hc_5, h⟩ := h
  refine v_1 (ci := 12) (C := (RX12, TX12, 68)) [] [vI r_3] 1841 dL_law_1838 rfl rfl rfl rfl rfl mo_X12_often ml_NamelessPostLaw_166 rfl rfl hc_5 ?_
  refine r_icmp_eq 1844 1915 dL_law_1841 rfl rfl (fun c => ?_) (fun c => ?_)
  · have h := h.1 (c)
    obtain ⟨o_7, h⟩ := h
    refine r_iinc (ls' := [some (vR (some (0, 0))), some (vR (some (2, k1))), some (vR (some (3, k2))), some (vI (x3 + 8))]) 1918 dL_law_1915 rfl rfl rfl rfl o_7 rfl ?_
    refine r_goto 18 dL_law_1918 rfl ?_
    exact h
  · have h := h.2 (c)
    refine r_iconst 1845 dL_law_1844 rfl (InR_of rfl) ?_
    exact r_iret dL_law_1845 rfl (.inr ⟨rfl, (.inl rfl)⟩) h.1 h.2
set_option maxRecDepth 4000 in
theorem xL_law_1846 {l : Launch} {G : Gt} {d : Nat} {M M' : Mem} {r : Option Vl} {k1 : Nat} {k2 : Nat} {x3 : Int} (h : 
    (InR (x3 + 1) ∧ (0 ≤ (x3 + 1) ∧ (x3 + 1) < (gXL G : Int))) ∧ (∃ (r_5 : Int) (M_3 : Mem), Cl l G d mX11_count [vR (some (2, k1)), vI (gXS G (x3 + 1).toNat)] M (some (vI r_5)) M_3 ∧ ((InR (x3 + 1) ∧ (0 ≤ (x3 + 1) ∧ (x3 + 1) < (gXL G : Int))) ∧ (∃ (r_10 : Int) (M_8 : Mem), Cl l G d mX12_count [vR (some (3, k2)), vI (gXS G (x3 + 1).toNat)] M_3 (some (vI r_10)) M_8 ∧ ((r_5 = r_10 → (InR (x3 + 8)) ∧ Ex l G (d + 1) mL_law 18 [some (vR (some (0, 0))), some (vR (some (2, k1))), some (vR (some (3, k2))), some (vI (x3 + 8))] [] M_8 r M') ∧ (¬ (r_5 = r_10) → r = some (vI 0) ∧ M' = M_8)))))) : Ex l G (d + 1) mL_law 1846 [some (vR (some (0, 0))), some (vR (some (2, k1))), some (vR (some (3, k2))), some (vI x3)] [] M r M' := by
  obtain ⟨⟨o_1, o_2⟩, h⟩ := h
  refine r_aload_n 1847 dL_law_1846 rfl rfl ?_
  refine r_aload_n 1848 dL_law_1847 rfl rfl ?_
  refine r_iload_n 1849 dL_law_1848 rfl rfl ?_
  refine r_iconst 1850 dL_law_1849 rfl (InR_of rfl) ?_
  refine r_iadd 1851 dL_law_1850 rfl o_1 ?_
  refine r_sald 1852 dL_law_1851 rfl rfl o_2 ?_
  obtain ⟨r_5, M_3, hc_4, h⟩ := h
  refine v_1 (ci := 11) (C := (RX11, TX11, 16)) [vI (gXS G (x3 + 1).toNat)] [] 1855 dL_law_1852 rfl rfl rfl rfl rfl mo_X11_count ml_NamelessPostLaw_167 rfl rfl hc_4 ?_
  obtain ⟨⟨o_6, o_7⟩, h⟩ := h
  refine r_aload_n 1856 dL_law_1855 rfl rfl ?_
  refine r_aload_n 1857 dL_law_1856 rfl rfl ?_
  refine r_iload_n 1858 dL_law_1857 rfl rfl ?_
  refine r_iconst 1859 dL_law_1858 rfl (InR_of rfl) ?_
  refine r_iadd 1860 dL_law_1859 rfl o_6 ?_
  refine r_sald 1861 dL_law_1860 rfl rfl o_7 ?_
  obtain ⟨r_10, M_8, hc_9, h⟩ := h
  refine v_1 (ci := 12) (C := (RX12, TX12, 68)) [vI (gXS G (x3 + 1).toNat)] [vI r_5] 1864 dL_law_1861 rfl rfl rfl rfl rfl mo_X12_count ml_NamelessPostLaw_170 rfl rfl hc_9 ?_
  refine r_icmp_eq 1867 1915 dL_law_1864 rfl rfl (fun c => ?_) (fun c => ?_)
  · have h := h.1 (c)
    obtain ⟨o_11, h⟩ := h
    refine r_iinc (ls' := [some (vR (some (0, 0))), some (vR (some (2, k1))), some (vR (some (3, k2))), some (vI (x3 + 8))]) 1918 dL_law_1915 rfl rfl rfl rfl o_11 rfl ?_
    refine r_goto 18 dL_law_1918 rfl ?_
    exact h
  · have h := h.2 (c)
    refine r_iconst 1868 dL_law_1867 rfl (InR_of rfl) ?_
    exact r_iret dL_law_1868 rfl (.inr ⟨rfl, (.inl rfl)⟩) h.1 h.2
set_option maxRecDepth 4000 in
theorem xL_law_1869 {l : Launch} {G : Gt} {d : Nat} {M M' : Mem} {r : Option Vl} {k1 : Nat} {k2 : Nat} {x3 : Int} (h : 
    (InR (x3 + 1) ∧ (0 ≤ (x3 + 1) ∧ (x3 + 1) < (gXL G : Int))) ∧ (∃ (r_5 : Int) (M_3 : Mem), Cl l G d mX11_image [vR (some (2, k1)), vI (gXS G (x3 + 1).toNat)] M (some (vI r_5)) M_3 ∧ ((InR (x3 + 1) ∧ (0 ≤ (x3 + 1) ∧ (x3 + 1) < (gXL G : Int))) ∧ (∃ (r_10 : Int) (M_8 : Mem), Cl l G d mX12_image [vR (some (3, k2)), vI (gXS G (x3 + 1).toNat)] M_3 (some (vI r_10)) M_8 ∧ ((r_5 = r_10 → (InR (x3 + 8)) ∧ Ex l G (d + 1) mL_law 18 [some (vR (some (0, 0))), some (vR (some (2, k1))), some (vR (some (3, k2))), some (vI (x3 + 8))] [] M_8 r M') ∧ (¬ (r_5 = r_10) → r = some (vI 0) ∧ M' = M_8)))))) : Ex l G (d + 1) mL_law 1869 [some (vR (some (0, 0))), some (vR (some (2, k1))), some (vR (some (3, k2))), some (vI x3)] [] M r M' := by
  obtain ⟨⟨o_1, o_2⟩, h⟩ := h
  refine r_aload_n 1870 dL_law_1869 rfl rfl ?_
  refine r_aload_n 1871 dL_law_1870 rfl rfl ?_
  refine r_iload_n 1872 dL_law_1871 rfl rfl ?_
  refine r_iconst 1873 dL_law_1872 rfl (InR_of rfl) ?_
  refine r_iadd 1874 dL_law_1873 rfl o_1 ?_
  refine r_sald 1875 dL_law_1874 rfl rfl o_2 ?_
  obtain ⟨r_5, M_3, hc_4, h⟩ := h
  refine v_1 (ci := 11) (C := (RX11, TX11, 16)) [vI (gXS G (x3 + 1).toNat)] [] 1878 dL_law_1875 rfl rfl rfl rfl rfl mo_X11_image ml_NamelessPostLaw_171 rfl rfl hc_4 ?_
  obtain ⟨⟨o_6, o_7⟩, h⟩ := h
  refine r_aload_n 1879 dL_law_1878 rfl rfl ?_
  refine r_aload_n 1880 dL_law_1879 rfl rfl ?_
  refine r_iload_n 1881 dL_law_1880 rfl rfl ?_
  refine r_iconst 1882 dL_law_1881 rfl (InR_of rfl) ?_
  refine r_iadd 1883 dL_law_1882 rfl o_6 ?_
  refine r_sald 1884 dL_law_1883 rfl rfl o_7 ?_
  obtain ⟨r_10, M_8, hc_9, h⟩ := h
  refine v_1 (ci := 12) (C := (RX12, TX12, 68)) [vI (gXS G (x3 + 1).toNat)] [vI r_5] 1887 dL_law_1884 rfl rfl rfl rfl rfl mo_X12_image ml_NamelessPostLaw_174 rfl rfl hc_9 ?_
  refine r_icmp_eq 1890 1915 dL_law_1887 rfl rfl (fun c => ?_) (fun c => ?_)
  · have h := h.1 (c)
    obtain ⟨o_11, h⟩ := h
    refine r_iinc (ls' := [some (vR (some (0, 0))), some (vR (some (2, k1))), some (vR (some (3, k2))), some (vI (x3 + 8))]) 1918 dL_law_1915 rfl rfl rfl rfl o_11 rfl ?_
    refine r_goto 18 dL_law_1918 rfl ?_
    exact h
  · have h := h.2 (c)
    refine r_iconst 1891 dL_law_1890 rfl (InR_of rfl) ?_
    exact r_iret dL_law_1891 rfl (.inr ⟨rfl, (.inl rfl)⟩) h.1 h.2
set_option maxRecDepth 4000 in
theorem xL_law_1892 {l : Launch} {G : Gt} {d : Nat} {M M' : Mem} {r : Option Vl} {k1 : Nat} {k2 : Nat} {x3 : Int} (h : 
    (InR (x3 + 1) ∧ (0 ≤ (x3 + 1) ∧ (x3 + 1) < (gXL G : Int))) ∧ (∃ (r_5 : Int) (M_3 : Mem), Cl l G d mX11_back [vR (some (2, k1)), vI (gXS G (x3 + 1).toNat)] M (some (vI r_5)) M_3 ∧ ((InR (x3 + 1) ∧ (0 ≤ (x3 + 1) ∧ (x3 + 1) < (gXL G : Int))) ∧ (∃ (r_10 : Int) (M_8 : Mem), Cl l G d mX12_back [vR (some (3, k2)), vI (gXS G (x3 + 1).toNat)] M_3 (some (vI r_10)) M_8 ∧ ((r_5 = r_10 → (InR (x3 + 8)) ∧ Ex l G (d + 1) mL_law 18 [some (vR (some (0, 0))), some (vR (some (2, k1))), some (vR (some (3, k2))), some (vI (x3 + 8))] [] M_8 r M') ∧ (¬ (r_5 = r_10) → r = some (vI 0) ∧ M' = M_8)))))) : Ex l G (d + 1) mL_law 1892 [some (vR (some (0, 0))), some (vR (some (2, k1))), some (vR (some (3, k2))), some (vI x3)] [] M r M' := by
  obtain ⟨⟨o_1, o_2⟩, h⟩ := h
  refine r_aload_n 1893 dL_law_1892 rfl rfl ?_
  refine r_aload_n 1894 dL_law_1893 rfl rfl ?_
  refine r_iload_n 1895 dL_law_1894 rfl rfl ?_
  refine r_iconst 1896 dL_law_1895 rfl (InR_of rfl) ?_
  refine r_iadd 1897 dL_law_1896 rfl o_1 ?_
  refine r_sald 1898 dL_law_1897 rfl rfl o_2 ?_
  obtain ⟨r_5, M_3, hc_4, h⟩ := h
  refine v_1 (ci := 11) (C := (RX11, TX11, 16)) [vI (gXS G (x3 + 1).toNat)] [] 1901 dL_law_1898 rfl rfl rfl rfl rfl mo_X11_back ml_NamelessPostLaw_175 rfl rfl hc_4 ?_
  obtain ⟨⟨o_6, o_7⟩, h⟩ := h
  refine r_aload_n 1902 dL_law_1901 rfl rfl ?_
  refine r_aload_n 1903 dL_law_1902 rfl rfl ?_
  refine r_iload_n 1904 dL_law_1903 rfl rfl ?_
  refine r_iconst 1905 dL_law_1904 rfl (InR_of rfl) ?_
  refine r_iadd 1906 dL_law_1905 rfl o_6 ?_
  refine r_sald 1907 dL_law_1906 rfl rfl o_7 ?_
  obtain ⟨r_10, M_8, hc_9, h⟩ := h
  refine v_1 (ci := 12) (C := (RX12, TX12, 68)) [vI (gXS G (x3 + 1).toNat)] [vI r_5] 1910 dL_law_1907 rfl rfl rfl rfl rfl mo_X12_back ml_NamelessPostLaw_178 rfl rfl hc_9 ?_
  refine r_icmp_eq 1913 1915 dL_law_1910 rfl rfl (fun c => ?_) (fun c => ?_)
  · have h := h.1 (c)
    obtain ⟨o_11, h⟩ := h
    refine r_iinc (ls' := [some (vR (some (0, 0))), some (vR (some (2, k1))), some (vR (some (3, k2))), some (vI (x3 + 8))]) 1918 dL_law_1915 rfl rfl rfl rfl o_11 rfl ?_
    refine r_goto 18 dL_law_1918 rfl ?_
    exact h
  · have h := h.2 (c)
    refine r_iconst 1914 dL_law_1913 rfl (InR_of rfl) ?_
    exact r_iret dL_law_1914 rfl (.inr ⟨rfl, (.inl rfl)⟩) h.1 h.2

