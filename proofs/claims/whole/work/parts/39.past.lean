/-! Snapshot(int), Past.on -/
set_option maxRecDepth 4000 in
theorem xX7_init_0 {l : Launch} {G : Gt} {d : Nat} {M M' : Mem} {r : Option Vl} {k0 : Nat} {x1 : Int} (h : 
    (∀ M_1 : Mem, newM M 29 10 10 = M_1 → (∀ M_2 : Mem, newM (M_1.1, (upR M_1.2.1 14 k0 1 (some (29, cCnt M.2.2 29))), M_1.2.2) 30 72 72 = M_2 → (∀ M_3 : Mem, newM (M_2.1, (upR M_2.2.1 14 k0 2 (some (30, cCnt M_1.2.2 30))), M_2.2.2) 31 12 12 = M_3 → (∀ M_4 : Mem, newM (M_3.1, (upR M_3.2.1 14 k0 3 (some (31, cCnt M_2.2.2 31))), M_3.2.2) 32 8 8 = M_4 → r = none ∧ M' = ((upI M_4.1 14 k0 0 x1), (upR M_4.2.1 14 k0 4 (some (32, cCnt M_3.2.2 32))), M_4.2.2)))))) : Cl l G (d + 1) mX7_init [vR (some (14, k0)), vI x1] M r M' := by
  show Ex l G (d + 1) mX7_init 0 [some (vR (some (14, k0))), some (vI x1)] [] M r M'
  refine r_aload_n 1 dX7_init_0 rfl rfl ?_
  refine r_objInit 4 dX7_init_1 rfl rfl ⟨(inT3 (List.mem_of_getElem? (i := 208) rfl) rfl), (inT1 (List.mem_of_getElem? (i := 28) rfl) rfl), (inT1 (List.mem_of_getElem? (i := 29) rfl) rfl)⟩ rfl ?_
  refine r_aload_n 5 dX7_init_4 rfl rfl ?_
  refine r_bipush 7 dX7_init_5 rfl rfl ?_
  refine r_newa (f := 29) (k := 1) (n := 10) 9 dX7_init_7 rfl rfl rfl (by decide) (inT1 (List.mem_of_getElem? (i := 104) rfl) rfl) rfl (by decide) (.inl rfl) ?_
  generalize hM_1 : newM M 29 10 10 = M_1
  have h := h M_1 hM_1
  refine p_R 12 dX7_init_9 rfl rfl rfl rfl pf_7_9 (.inr rfl) rfl ?_
  refine r_aload_n 13 dX7_init_12 rfl rfl ?_
  refine r_bipush 15 dX7_init_13 rfl rfl ?_
  refine r_newa (f := 30) (k := 1) (n := 72) 17 dX7_init_15 rfl rfl rfl (by decide) (inT1 (List.mem_of_getElem? (i := 104) rfl) rfl) rfl (by decide) (.inl rfl) ?_
  generalize hM_2 : newM (M_1.1, (upR M_1.2.1 14 k0 1 (some (29, cCnt M.2.2 29))), M_1.2.2) 30 72 72 = M_2
  have h := h M_2 hM_2
  refine p_R 20 dX7_init_17 rfl rfl rfl rfl pf_7_15 (.inr rfl) rfl ?_
  refine r_aload_n 21 dX7_init_20 rfl rfl ?_
  refine r_bipush 23 dX7_init_21 rfl rfl ?_
  refine r_newa (f := 31) (k := 1) (n := 12) 25 dX7_init_23 rfl rfl rfl (by decide) (inT1 (List.mem_of_getElem? (i := 104) rfl) rfl) rfl (by decide) (.inl rfl) ?_
  generalize hM_3 : newM (M_2.1, (upR M_2.2.1 14 k0 2 (some (30, cCnt M_1.2.2 30))), M_2.2.2) 31 12 12 = M_3
  have h := h M_3 hM_3
  refine p_R 28 dX7_init_25 rfl rfl rfl rfl pf_7_18 (.inr rfl) rfl ?_
  refine r_aload_n 29 dX7_init_28 rfl rfl ?_
  refine r_bipush 31 dX7_init_29 rfl rfl ?_
  refine r_newa (f := 32) (k := 1) (n := 8) 33 dX7_init_31 rfl rfl rfl (by decide) (inT1 (List.mem_of_getElem? (i := 104) rfl) rfl) rfl (by decide) (.inl rfl) ?_
  generalize hM_4 : newM (M_3.1, (upR M_3.2.1 14 k0 3 (some (31, cCnt M_2.2.2 31))), M_3.2.2) 32 8 8 = M_4
  have h := h M_4 hM_4
  refine p_R 36 dX7_init_33 rfl rfl rfl rfl pf_7_21 (.inr rfl) rfl ?_
  refine r_aload_n 37 dX7_init_36 rfl rfl ?_
  refine r_iload_n 38 dX7_init_37 rfl rfl ?_
  refine p_I 41 dX7_init_38 rfl rfl rfl rfl pf_7_24 (.inr rfl) rfl ?_
  exact r_vret dX7_init_41 rfl h.1 h.2

set_option maxRecDepth 4000 in
theorem xX6_on_0 {l : Launch} {G : Gt} {d : Nat} {M M' : Mem} {r : Option Vl} {x1 : Int} (h : 
    Ex l G (d + 1) mX6_on 5 [some (vR (some (6, 0))), some (vI x1), some (vI 0), some (vI 32), none] [] M r M') : Cl l G (d + 1) mX6_on [vR (some (6, 0)), vI x1] M r M' := by
  show Ex l G (d + 1) mX6_on 0 [some (vR (some (6, 0))), some (vI x1), none, none, none] [] M r M'
  refine r_iconst 1 dX6_on_0 rfl (InR_of rfl) ?_
  refine r_istore_n (ls' := [some (vR (some (6, 0))), some (vI x1), some (vI 0), none, none]) 2 dX6_on_1 rfl rfl rfl rfl ?_
  refine r_bipush 4 dX6_on_2 rfl rfl ?_
  refine r_istore_n (ls' := [some (vR (some (6, 0))), some (vI x1), some (vI 0), some (vI 32), none]) 5 dX6_on_4 rfl rfl rfl rfl ?_
  exact h
set_option maxRecDepth 4000 in
theorem xX6_on_5 {l : Launch} {G : Gt} {d : Nat} {M M' : Mem} {r : Option Vl} {x1 : Int} {x2 : Int} {x3 : Int} (hS : Sh M.2.1) (h : 
    (x3 ≤ 0 → (InR ((M.1 6 0 2) + 1)) ∧ Ex l G (d + 1) mX6_on 62 [some (vR (some (6, 0))), some (vI x1), some (vI x2), some (vI ((M.1 6 0 2) + 1)), none] [] M r M') ∧ (¬ (x3 ≤ 0) → (InR (x2 + x3)) ∧ (((¬ ((M.1 4 0 4) < (x2 + x3)) → (InR ((x2 + x3) - 1) ∧ (0 ≤ ((x2 + x3) - 1) ∧ ((x2 + x3) - 1) < 60)))) ∧ (0 ≤ x3) ∧ Ex l G (d + 1) mX6_on 5 [some (vR (some (6, 0))), some (vI x1), some (vI (if (M.1 4 0 4) < (x2 + x3) then x2 else (if x1 < (aShr (M.1 35 0 ((x2 + x3) - 1).toNat) 15) then x2 else (x2 + x3) : Int) : Int)), some (vI (x3 / 2)), none] [] M r M'))) : Ex l G (d + 1) mX6_on 5 [some (vR (some (6, 0))), some (vI x1), some (vI x2), some (vI x3), none] [] M r M' := by
  refine r_iload_n 6 dX6_on_5 rfl rfl ?_
  refine r_if_le 9 55 dX6_on_6 rfl rfl (fun c => ?_) (fun c => ?_)
  · have h := h.1 (c)
    obtain ⟨o_1, h⟩ := h
    refine r_aload_n 56 dX6_on_55 rfl rfl ?_
    refine g_I 59 dX6_on_56 rfl rfl rfl fi_6_17 rfl ?_
    refine r_iconst 60 dX6_on_59 rfl (InR_of rfl) ?_
    refine r_iadd 61 dX6_on_60 rfl o_1 ?_
    refine r_istore_n (ls' := [some (vR (some (6, 0))), some (vI x1), some (vI x2), some (vI ((M.1 6 0 2) + 1)), none]) 62 dX6_on_61 rfl rfl rfl rfl ?_
    exact h
  · have h := h.2 (c)
    obtain ⟨o_2, h⟩ := h
    refine r_iload_n 10 dX6_on_9 rfl rfl ?_
    refine r_iload_n 11 dX6_on_10 rfl rfl ?_
    refine r_iadd 12 dX6_on_11 rfl o_2 ?_
    refine r_istore (ls' := [some (vR (some (6, 0))), some (vI x1), some (vI x2), some (vI x3), some (vI (x2 + x3))]) 14 dX6_on_12 rfl rfl rfl rfl ?_
    refine r_iload 16 dX6_on_14 rfl rfl ?_
    refine r_aload_n 17 dX6_on_16 rfl rfl ?_
    refine g_R 20 dX6_on_17 rfl rfl rfl fr_6_21 (sh_6_0 hS) ?_
    refine g_I 23 dX6_on_20 rfl rfl rfl fi_6_31 rfl ?_
    obtain ⟨h0, h⟩ := h
    have hJ_3 : Ex l G (d + 1) mX6_on 48 [some (vR (some (6, 0))), some (vI x1), some (vI (if (M.1 4 0 4) < (x2 + x3) then x2 else (if x1 < (aShr (M.1 35 0 ((x2 + x3) - 1).toNat) 15) then x2 else (x2 + x3) : Int) : Int)), some (vI x3), some (vI (x2 + x3))] [] M r M' := by
      obtain ⟨o_8, h⟩ := h
      refine r_iload_n 49 dX6_on_48 rfl rfl ?_
      refine r_iconst 50 dX6_on_49 rfl (InR_of rfl) ?_
      refine r_idiv 51 dX6_on_50 rfl ⟨o_8, by decide⟩ ?_
      refine r_istore_n (ls' := [some (vR (some (6, 0))), some (vI x1), some (vI (if (M.1 4 0 4) < (x2 + x3) then x2 else (if x1 < (aShr (M.1 35 0 ((x2 + x3) - 1).toNat) 15) then x2 else (x2 + x3) : Int) : Int)), some (vI (x3 / 2)), some (vI (x2 + x3))]) 52 dX6_on_51 rfl rfl rfl rfl ?_
      refine r_goto 5 dX6_on_52 rfl ?_
      exact Ex.weak h ⟨rfl, rfl, rfl, rfl, trivial⟩
    have h := h0
    refine r_icmp_gt 26 48 dX6_on_23 rfl rfl (fun c => ?_) (fun c => ?_)
    · have c_4 := c
      exact (Ex.at hJ_3 (show [some (vR (some (6, 0))), some (vI x1), some (vI x2), some (vI x3), some (vI (x2 + x3))] = [some (vR (some (6, 0))), some (vI x1), some (vI (if (M.1 4 0 4) < (x2 + x3) then x2 else (if x1 < (aShr (M.1 35 0 ((x2 + x3) - 1).toNat) 15) then x2 else (x2 + x3) : Int) : Int)), some (vI x3), some (vI (x2 + x3))] by simp only [if_pos c_4]) rfl rfl)
    · have c_4 := c
      have h := h c_4
      obtain ⟨o_5, o_6⟩ := h
      refine r_aload_n 27 dX6_on_26 rfl rfl ?_
      refine g_R 30 dX6_on_27 rfl rfl rfl fr_6_21 (sh_6_0 hS) ?_
      refine g_R 33 dX6_on_30 rfl rfl rfl fr_6_36 (sh_8_5 hS _) ?_
      refine r_iload 35 dX6_on_33 rfl rfl ?_
      refine r_iconst 36 dX6_on_35 rfl (InR_of rfl) ?_
      refine r_isub 37 dX6_on_36 rfl o_5 ?_
      refine a_I 60 38 dX6_on_37 rfl rfl rfl rfl o_6 rfl ?_
      refine c_1 [vI (M.1 35 0 ((x2 + x3) - 1).toNat)] [] 41 dX6_on_38 rfl rfl mo_X8_dayOfChange ml_6_40 rfl rfl (KX8_dayOfChange) ?_
      refine r_iload_n 42 dX6_on_41 rfl rfl ?_
      refine r_icmp_gt 45 48 dX6_on_42 rfl rfl (fun c => ?_) (fun c => ?_)
      · have c_7 := c
        exact (Ex.at hJ_3 (show [some (vR (some (6, 0))), some (vI x1), some (vI x2), some (vI x3), some (vI (x2 + x3))] = [some (vR (some (6, 0))), some (vI x1), some (vI (if (M.1 4 0 4) < (x2 + x3) then x2 else (if x1 < (aShr (M.1 35 0 ((x2 + x3) - 1).toNat) 15) then x2 else (x2 + x3) : Int) : Int)), some (vI x3), some (vI (x2 + x3))] by simp only [if_neg c_4, if_pos c_7]) rfl rfl)
      · have c_7 := c
        refine r_iload 47 dX6_on_45 rfl rfl ?_
        refine r_istore_n (ls' := [some (vR (some (6, 0))), some (vI x1), some (vI (x2 + x3)), some (vI x3), some (vI (x2 + x3))]) 48 dX6_on_47 rfl rfl rfl rfl ?_
        exact (Ex.at hJ_3 (show [some (vR (some (6, 0))), some (vI x1), some (vI (x2 + x3)), some (vI x3), some (vI (x2 + x3))] = [some (vR (some (6, 0))), some (vI x1), some (vI (if (M.1 4 0 4) < (x2 + x3) then x2 else (if x1 < (aShr (M.1 35 0 ((x2 + x3) - 1).toNat) 15) then x2 else (x2 + x3) : Int) : Int)), some (vI x3), some (vI (x2 + x3))] by simp only [if_neg c_4, if_neg c_7]) rfl rfl)
set_option maxRecDepth 4000 in
theorem xX6_on_62 {l : Launch} {G : Gt} {d : Nat} {M M' : Mem} {r : Option Vl} {x1 : Int} {x2 : Int} {x3 : Int} (hS : Sh M.2.1) (h : 
    (x2 < x3 → ((0 ≤ x2 ∧ x2 < 61)) ∧ r = some (vR (M.2.1 28 0 x2.toNat)) ∧ M' = M) ∧ (¬ (x2 < x3) → ((0 ≤ x3 ∧ x3 < 61)) ∧ ((¬ ((M.2.1 28 0 x3.toNat) = none) → Ex l G (d + 1) mX6_on 90 [some (vR (some (6, 0))), some (vI x1), some (vI x2), some (vI x3), none] [] M r M') ∧ ((M.2.1 28 0 x3.toNat) = none → (∀ M_3 : Mem, newM M 14 0 5 = M_3 → ∃ (M_4 : Mem), Cl l G d mX7_init [vR (some (14, cCnt M.2.2 14)), vI x3] M_3 none M_4 ∧ ((0 ≤ x3 ∧ x3 < 61)) ∧ Ex l G (d + 1) mX6_on 90 [some (vR (some (6, 0))), some (vI x1), some (vI x2), some (vI x3), none] [] (M_4.1, (upR M_4.2.1 28 0 x3.toNat (some (14, cCnt M.2.2 14))), M_4.2.2) r M'))))) : Ex l G (d + 1) mX6_on 62 [some (vR (some (6, 0))), some (vI x1), some (vI x2), some (vI x3), none] [] M r M' := by
  refine r_iload_n 63 dX6_on_62 rfl rfl ?_
  refine r_iload_n 64 dX6_on_63 rfl rfl ?_
  refine r_icmp_gt 67 149 dX6_on_64 rfl rfl (fun c => ?_) (fun c => ?_)
  · have h := h.1 (c)
    obtain ⟨o_1, h⟩ := h
    refine r_aload_n 150 dX6_on_149 rfl rfl ?_
    refine g_R 153 dX6_on_150 rfl rfl rfl fr_6_11 (sh_6_1 hS) ?_
    refine r_iload_n 154 dX6_on_153 rfl rfl ?_
    refine a_R (ci := 7) 61 155 dX6_on_154 rfl rfl rfl rfl rfl o_1 rfl ?_
    exact r_aret dX6_on_155 rfl rfl h.1 h.2
  · have h := h.2 (c)
    obtain ⟨o_2, h⟩ := h
    refine r_aload_n 68 dX6_on_67 rfl rfl ?_
    refine g_R 71 dX6_on_68 rfl rfl rfl fr_6_11 (sh_6_1 hS) ?_
    refine r_iload_n 72 dX6_on_71 rfl rfl ?_
    refine a_R (ci := 7) 61 73 dX6_on_72 rfl rfl rfl rfl rfl o_2 rfl ?_
    refine r_ifnonnull 76 90 dX6_on_73 rfl rfl (fun c => ?_) (fun c => ?_)
    · have h := h.1 (c)
      exact h
    · have h := h.2 (c)
      refine r_aload_n 77 dX6_on_76 rfl rfl ?_
      refine g_R 80 dX6_on_77 rfl rfl rfl fr_6_11 (sh_6_1 hS) ?_
      refine r_iload_n 81 dX6_on_80 rfl rfl ?_
      refine r_new (f := 14) (ci := 7) (C := (RX7, TX7, 5)) 84 dX6_on_81 rfl rfl rfl rfl (inT1 (List.mem_of_getElem? (i := 173) rfl) rfl) (inT3 (List.mem_of_getElem? (i := 204) rfl) rfl) wi_7 ?_
      generalize hM_3 : newM M 14 0 5 = M_3
      have h := h M_3 hM_3
      refine r_dup 85 dX6_on_84 rfl rfl ?_
      refine r_iload_n 86 dX6_on_85 rfl rfl ?_
      obtain ⟨M_4, hc_5, h⟩ := h
      refine r_callI [vI x3] [vR (some (14, cCnt M.2.2 14)), vI x3, vR (some (28, 0))] 89 dX6_on_86 rfl rfl rfl mo_X7_init ⟨rfl, rfl⟩ ml_6_44 rfl rfl hc_5 ?_
      obtain ⟨o_6, h⟩ := h
      refine s_R (ci := 7) 61 90 dX6_on_89 rfl rfl rfl rfl rfl rfl rfl rfl o_6 ?_
      exact h
set_option maxRecDepth 4000 in
theorem xX6_on_90 {l : Launch} {G : Gt} {d : Nat} {M M' : Mem} {r : Option Vl} {x1 : Int} {x2 : Int} {x3 : Int} (hS : Sh M.2.1) (h : 
    (¬ (x3 = 0) → ((0 ≤ x3 ∧ x3 < 61) ∧ InR (x3 - 1) ∧ (0 ≤ (x3 - 1) ∧ (x3 - 1) < 61) ∧ (0 ≤ (x3 - 1) ∧ (x3 - 1) < 60)) ∧ (∃ k_5 : Nat, (M.2.1 28 0 x3.toNat) = some (14, k_5) ∧ (∃ k_7 : Nat, (M.2.1 28 0 (x3 - 1).toNat) = some (14, k_7) ∧ (∃ (M_9 : Mem), Cl l G d mX7_follow [vR (some (14, k_5)), vR (some (14, k_7)), vI (M.1 35 0 (x3 - 1).toNat)] M none M_9 ∧ (InR (x3 + 1)) ∧ Ex l G (d + 1) mX6_on 62 [some (vR (some (6, 0))), some (vI x1), some (vI x2), some (vI (x3 + 1)), none] [] ((upI M_9.1 6 0 2 x3), M_9.2.1, M_9.2.2) r M')))) ∧ (x3 = 0 → ∃ k_12 : Nat, (M.2.1 28 0 0) = some (14, k_12) ∧ (∃ (M_14 : Mem), Cl l G d mX7_beginWith [vR (some (14, k_12)), vR (some (4, 0))] M none M_14 ∧ (InR (x3 + 1)) ∧ Ex l G (d + 1) mX6_on 62 [some (vR (some (6, 0))), some (vI x1), some (vI x2), some (vI (x3 + 1)), none] [] ((upI M_14.1 6 0 2 x3), M_14.2.1, M_14.2.2) r M'))) : Ex l G (d + 1) mX6_on 90 [some (vR (some (6, 0))), some (vI x1), some (vI x2), some (vI x3), none] [] M r M' := by
  refine r_iload_n 91 dX6_on_90 rfl rfl ?_
  refine r_if_ne 94 110 dX6_on_91 rfl rfl (fun c => ?_) (fun c => ?_)
  · have h := h.1 (c)
    obtain ⟨⟨o_1, o_2, o_3, o_4⟩, h⟩ := h
    refine r_aload_n 111 dX6_on_110 rfl rfl ?_
    refine g_R 114 dX6_on_111 rfl rfl rfl fr_6_11 (sh_6_1 hS) ?_
    refine r_iload_n 115 dX6_on_114 rfl rfl ?_
    refine a_R (ci := 7) 61 116 dX6_on_115 rfl rfl rfl rfl rfl o_1 rfl ?_
    refine r_aload_n 117 dX6_on_116 rfl rfl ?_
    refine g_R 120 dX6_on_117 rfl rfl rfl fr_6_11 (sh_6_1 hS) ?_
    refine r_iload_n 121 dX6_on_120 rfl rfl ?_
    refine r_iconst 122 dX6_on_121 rfl (InR_of rfl) ?_
    refine r_isub 123 dX6_on_122 rfl o_2 ?_
    refine a_R (ci := 7) 61 124 dX6_on_123 rfl rfl rfl rfl rfl o_3 rfl ?_
    refine r_aload_n 125 dX6_on_124 rfl rfl ?_
    refine g_R 128 dX6_on_125 rfl rfl rfl fr_6_21 (sh_6_0 hS) ?_
    refine g_R 131 dX6_on_128 rfl rfl rfl fr_6_36 (sh_8_5 hS _) ?_
    refine r_iload_n 132 dX6_on_131 rfl rfl ?_
    refine r_iconst 133 dX6_on_132 rfl (InR_of rfl) ?_
    refine r_isub 134 dX6_on_133 rfl o_2 ?_
    refine a_I 60 135 dX6_on_134 rfl rfl rfl rfl o_4 rfl ?_
    obtain ⟨k_5, e_6, h⟩ := h
    obtain ⟨k_7, e_8, h⟩ := h
    refine Ex.at (st2 := [vI (M.1 35 0 (x3 - 1).toNat), vR (some (14, k_7)), vR (some (14, k_5))]) ?_ rfl (show [vI (M.1 35 0 (x3 - 1).toNat), vR (M.2.1 28 0 (x3 - 1).toNat), vR (M.2.1 28 0 x3.toNat)] = [vI (M.1 35 0 (x3 - 1).toNat), vR (some (14, k_7)), vR (some (14, k_5))] by rw [e_6, e_8]) rfl
    obtain ⟨M_9, hc_10, h⟩ := h
    refine v_0 (ci := 7) (C := (RX7, TX7, 5)) [vR (some (14, k_7)), vI (M.1 35 0 (x3 - 1).toNat)] [] 138 dX6_on_135 rfl rfl rfl rfl rfl mo_X7_follow ml_6_51 rfl rfl hc_10 ?_
    obtain ⟨o_11, h⟩ := h
    refine r_aload_n 139 dX6_on_138 rfl rfl ?_
    refine r_iload_n 140 dX6_on_139 rfl rfl ?_
    refine p_I 143 dX6_on_140 rfl rfl rfl rfl pf_6_17 (.inl rfl) rfl ?_
    refine r_iinc (ls' := [some (vR (some (6, 0))), some (vI x1), some (vI x2), some (vI (x3 + 1)), none]) 146 dX6_on_143 rfl rfl rfl rfl o_11 rfl ?_
    refine r_goto 62 dX6_on_146 rfl ?_
    exact h
  · have h := h.2 (Decidable.not_not.mp c)
    refine r_aload_n 95 dX6_on_94 rfl rfl ?_
    refine g_R 98 dX6_on_95 rfl rfl rfl fr_6_11 (sh_6_1 hS) ?_
    refine r_iconst 99 dX6_on_98 rfl (InR_of rfl) ?_
    refine a_R (ci := 7) 61 100 dX6_on_99 rfl rfl rfl rfl rfl ⟨by decide, by decide⟩ rfl ?_
    refine r_aload_n 101 dX6_on_100 rfl rfl ?_
    refine g_R 104 dX6_on_101 rfl rfl rfl fr_6_21 (sh_6_0 hS) ?_
    obtain ⟨k_12, e_13, h⟩ := h
    refine Ex.at (st2 := [vR (some (4, 0)), vR (some (14, k_12))]) ?_ rfl (show [vR (some (4, 0)), vR (M.2.1 28 0 0)] = [vR (some (4, 0)), vR (some (14, k_12))] by rw [e_13]) rfl
    obtain ⟨M_14, hc_15, h⟩ := h
    refine v_0 (ci := 7) (C := (RX7, TX7, 5)) [vR (some (4, 0))] [] 107 dX6_on_104 rfl rfl rfl rfl rfl mo_X7_beginWith ml_6_47 rfl rfl hc_15 ?_
    obtain ⟨o_16, h⟩ := h
    refine r_goto 138 dX6_on_107 rfl ?_
    refine r_aload_n 139 dX6_on_138 rfl rfl ?_
    refine r_iload_n 140 dX6_on_139 rfl rfl ?_
    refine p_I 143 dX6_on_140 rfl rfl rfl rfl pf_6_17 (.inl rfl) rfl ?_
    refine r_iinc (ls' := [some (vR (some (6, 0))), some (vI x1), some (vI x2), some (vI (x3 + 1)), none]) 146 dX6_on_143 rfl rfl rfl rfl o_16 rfl ?_
    refine r_goto 62 dX6_on_146 rfl ?_
    exact h

theorem newM_c {M M1 : Mem} {f n sl f' : Nat} (h : newM M f n sl = M1) : cCnt M1.2.2 f' = if f' = f then cCnt M.2.2 f' + 1 else cCnt M.2.2 f' := by subst h; rfl
theorem newM_nc {M M1 : Mem} {f n sl : Nat} (h : newM M f n sl = M1) : cNc M1.2.2 = cNc M.2.2 + 1 := by subst h; rfl
theorem newM_ns {M M1 : Mem} {f n sl : Nat} (h : newM M f n sl = M1) : cNs M1.2.2 = cNs M.2.2 + sl := by subst h; rfl
theorem newM_Ik {M M1 : Mem} {f n sl f' k' i' : Nat} (h : newM M f n sl = M1) (hk : k' ≠ cCnt M.2.2 f) : M1.1 f' k' i' = M.1 f' k' i' := by
  subst h
  show seI M.1 f _ _ f' k' i' = _
  rw [seI_o (fun e => hk e.2)]
theorem newM_Rk {M M1 : Mem} {f n sl f' k' i' : Nat} (h : newM M f n sl = M1) (hk : k' ≠ cCnt M.2.2 f) : M1.2.1 f' k' i' = M.2.1 f' k' i' := by
  subst h
  show seR M.2.1 f _ _ f' k' i' = _
  rw [seR_o (fun e => hk e.2)]
theorem newM_In {M M1 : Mem} {f n sl f' k' i' : Nat} (h : newM M f n sl = M1) (hf : f' ≠ f) : M1.1 f' k' i' = M.1 f' k' i' := newM_I h (by rw [← Bool.not_eq_true]; intro h2; exact hf (Nat.eq_of_beq_eq_true h2))
theorem newM_Rn {M M1 : Mem} {f n sl f' k' i' : Nat} (h : newM M f n sl = M1) (hf : f' ≠ f) : M1.2.1 f' k' i' = M.2.1 f' k' i' := newM_R h (by rw [← Bool.not_eq_true]; intro h2; exact hf (Nat.eq_of_beq_eq_true h2))
section PA
variable {l : Launch} {G : Gt} {d : Nat}
theorem KX7_init {M : Mem} {k : Nat} {x : Int} (h1 : cCnt M.2.2 29 = k) (h2 : cCnt M.2.2 30 = k) (h3 : cCnt M.2.2 31 = k) (h4 : cCnt M.2.2 32 = k) :
    ∃ M', Cl l G (d + 1) mX7_init [vR (some (14, k)), vI x] M none M' ∧
      (∀ f j i, ¬ ((f = 29 ∨ f = 30 ∨ f = 31 ∨ f = 32 ∨ f = 14) ∧ j = k) → M'.1 f j i = M.1 f j i) ∧ M'.1 14 k 0 = x ∧
      (∀ f j i, ¬ ((f = 29 ∨ f = 30 ∨ f = 31 ∨ f = 32 ∨ f = 14) ∧ j = k) → M'.2.1 f j i = M.2.1 f j i) ∧
      (M'.2.1 14 k 1 = some (29, k) ∧ M'.2.1 14 k 2 = some (30, k) ∧ M'.2.1 14 k 3 = some (31, k) ∧ M'.2.1 14 k 4 = some (32, k)) ∧
      (∀ f, cCnt M'.2.2 f = if f = 29 ∨ f = 30 ∨ f = 31 ∨ f = 32 then k + 1 else cCnt M.2.2 f) ∧ cNc M'.2.2 = cNc M.2.2 + 4 ∧ cNs M'.2.2 = cNs M.2.2 + 102 := by
  obtain ⟨M1, e1⟩ : ∃ M1, newM M 29 10 10 = M1 := ⟨_, rfl⟩
  obtain ⟨M2, e2⟩ : ∃ M2, newM (M1.1, upR M1.2.1 14 k 1 (some (29, cCnt M.2.2 29)), M1.2.2) 30 72 72 = M2 := ⟨_, rfl⟩
  obtain ⟨M3, e3⟩ : ∃ M3, newM (M2.1, upR M2.2.1 14 k 2 (some (30, cCnt M1.2.2 30)), M2.2.2) 31 12 12 = M3 := ⟨_, rfl⟩
  obtain ⟨M4, e4⟩ : ∃ M4, newM (M3.1, upR M3.2.1 14 k 3 (some (31, cCnt M2.2.2 31)), M3.2.2) 32 8 8 = M4 := ⟨_, rfl⟩
  have c2 : cCnt M1.2.2 30 = k := by rw [newM_c e1]; exact h2
  have c3 : cCnt M2.2.2 31 = k := by rw [newM_c e2]; dsimp only; rw [newM_c e1]; exact h3
  have c4 : cCnt M3.2.2 32 = k := by rw [newM_c e3]; dsimp only; rw [newM_c e2]; dsimp only; rw [newM_c e1]; exact h4
  refine ⟨((upI M4.1 14 k 0 x), (upR M4.2.1 14 k 4 (some (32, cCnt M3.2.2 32))), M4.2.2), xX7_init_0 ?_, fun f j i hn => ?_, mI_0 upI_s, fun f j i hn => ?_, ⟨?_, ?_, ?_, ?_⟩, fun f => ?_, ?_, ?_⟩
  · intro N1 g1 N2 g2 N3 g3 N4 g4
    rw [e1] at g1; subst g1
    rw [e2] at g2; subst g2
    rw [e3] at g3; subst g3
    rw [e4] at g4; subst g4
    exact ⟨rfl, rfl⟩
  · have a : ∀ {N N' : Mem} {g n sl : Nat}, newM N g n sl = N' → (g = 29 ∨ g = 30 ∨ g = 31 ∨ g = 32) → cCnt N.2.2 g = k → N'.1 f j i = N.1 f j i := by
      intro N N' g n sl e hg hc
      by_cases hf : f = g
      · exact newM_Ik e (by rw [hc]; intro e2; exact hn ⟨by omega, e2⟩)
      · exact newM_In e hf
    dsimp only
    rw [upI_o (fun e => hn ⟨by omega, e.2⟩), a e4 (by omega) c4]
    dsimp only
    rw [a e3 (by omega) c3]
    dsimp only
    rw [a e2 (by omega) c2]
    dsimp only
    rw [a e1 (by omega) h1]
  · have a : ∀ {N N' : Mem} {g n sl : Nat}, newM N g n sl = N' → (g = 29 ∨ g = 30 ∨ g = 31 ∨ g = 32) → cCnt N.2.2 g = k → N'.2.1 f j i = N.2.1 f j i := by
      intro N N' g n sl e hg hc
      by_cases hf : f = g
      · exact newM_Rk e (by rw [hc]; intro e2; exact hn ⟨by omega, e2⟩)
      · exact newM_Rn e hf
    have hu : ∀ (R : RM) (q : Nat) (v : Option Nm), upR R 14 k q v f j i = R f j i := fun R q v => by rw [upR_o (fun e => hn ⟨by omega, e.2⟩)]
    dsimp only
    rw [hu, a e4 (by omega) c4]
    dsimp only
    rw [hu, a e3 (by omega) c3]
    dsimp only
    rw [hu, a e2 (by omega) c2]
    dsimp only
    rw [hu, a e1 (by omega) h1]
  · dsimp only
    rw [upR_i (by omega), newM_R e4 rfl]
    dsimp only
    rw [upR_i (by omega), newM_R e3 rfl]
    dsimp only
    rw [upR_i (by omega), newM_R e2 rfl]
    dsimp only
    rw [upR_s, h1]
  · dsimp only
    rw [upR_i (by omega), newM_R e4 rfl]
    dsimp only
    rw [upR_i (by omega), newM_R e3 rfl]
    dsimp only
    rw [upR_s, c2]
  · dsimp only
    rw [upR_i (by omega), newM_R e4 rfl]
    dsimp only
    rw [upR_s, c3]
  · dsimp only
    rw [upR_s, c4]
  · dsimp only
    rw [newM_c e4]; dsimp only
    rw [newM_c e3]; dsimp only
    rw [newM_c e2]; dsimp only
    rw [newM_c e1]
    by_cases f1 : f = 29
    · subst f1; simp [h1]
    · by_cases f2 : f = 30
      · subst f2; simp [h2]
      · by_cases f3 : f = 31
        · subst f3; simp [h3]
        · by_cases f4 : f = 32
          · subst f4; simp [h4]
          · simp [f1, f2, f3, f4]
  · dsimp only
    rw [newM_nc e4]; dsimp only
    rw [newM_nc e3]; dsimp only
    rw [newM_nc e2]; dsimp only
    rw [newM_nc e1]
  · dsimp only
    rw [newM_ns e4]; dsimp only
    rw [newM_ns e3]; dsimp only
    rw [newM_ns e2]; dsimp only
    rw [newM_ns e1]
theorem on_5 {Q : QT} {M : Mem} {x1 : Int} {r : Option Vl} {M' : Mem} {s a : Nat} (hS : Sh M.2.1) (hw : WFc Q) (hC : ClsC Q M.1) (hs : 0 < s) (hs2 : s ≤ 32) (ha : a ≤ dn Q x1) (hb : dn Q x1 < a + 2 * s)
    (K : ∀ a' : Nat, a' ≤ dn Q x1 → dn Q x1 < a' + s → Ex l G (d + 1) mX6_on 5 [some (vR (some (6, 0))), some (vI x1), some (vI (a' : Int)), some (vI ((s : Int) / 2)), none] [] M r M') :
    Ex l G (d + 1) mX6_on 5 [some (vR (some (6, 0))), some (vI x1), some (vI (a : Int)), some (vI (s : Int)), none] [] M r M' := by
  have hdn := dnF_le (fun i => Q 56 (srt Q i)) x1 (nCh Q)
  have hdn' : dn Q x1 ≤ nCh Q := hdn
  have h60 := nCh_le hw
  have hnc := nCh_eq hw
  have hval : (if M.1 4 0 4 < ((a : Int) + (s : Int)) then (a : Int) else (if x1 < aShr (M.1 35 0 (((a : Int) + (s : Int)) - 1).toNat) 15 then (a : Int) else ((a : Int) + (s : Int)))) = ((if a + s ≤ dn Q x1 then a + s else a : Nat) : Int) := by
    rw [hC.2.1, hnc]
    by_cases c : a + s ≤ nCh Q
    · rw [if_neg (by omega), show (((a : Int) + (s : Int)) - 1).toNat = a + s - 1 by omega, hC.2.2.2 _ (by omega), (pkQ_in hw (srt_lt (by omega))).1]
      by_cases c2 : a + s ≤ dn Q x1
      · have := dnF_in (fun i => Q 56 (srt Q i)) x1 (nCh Q) (a + s - 1) (by show _ < dn Q x1; omega)
        rw [if_neg (by simpa using this), if_pos c2]; omega
      · have ho := dnF_out (fun i => Q 56 (srt Q i)) x1 (nCh Q) (by show dn Q x1 < _; omega)
        have hm := srtF_mono (Q 56) (nCh Q) (i := dn Q x1) (j := a + s - 1) (by omega) (by omega)
        have ho' : x1 < Q 56 (srt Q (dn Q x1)) := ho
        have hm' : Q 56 (srt Q (dn Q x1)) ≤ Q 56 (srt Q (a + s - 1)) := hm
        rw [if_pos (by omega), if_neg c2]
    · rw [if_pos (by omega), if_neg (by omega)]
  refine xX6_on_5 hS ⟨fun c => absurd c (by omega), fun _ => ⟨by unfold InR; omega, fun c => ?_, by omega, ?_⟩⟩
  · rw [hC.2.1, hnc] at c
    exact ⟨by unfold InR; omega, by omega⟩
  · rw [hval]
    refine K _ ?_ ?_ <;> (split <;> omega)
end PA
