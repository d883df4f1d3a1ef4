/-! needs: the reference -/
set_option maxRecDepth 4000 in
theorem xX12_isStrange_0 {l : Launch} {G : Gt} {d : Nat} {M M' : Mem} {r : Option Vl} {x1 : Int} (hS : Sh M.2.1) (h : 
    (0 ≤ x1 ∧ InR ((M.1 48 0 0) - 1)) ∧ (((0 ≤ (x1 / 12) ∧ (x1 / 12) < (M.1 48 0 0) → (InR ((M.1 48 0 0) - 1)) ∧ (0 ≤ (x1 % 12) ∧ (x1 % 12) < (M.1 48 0 0) → (¬ ((x1 / 12) = (x1 % 12)) → ((0 ≤ (x1 / 12) ∧ (x1 / 12) < 12) ∧ (0 ≤ (M.1 50 0 (x1 / 12).toNat) ∧ 0 ≤ (x1 % 12) ∧ (x1 % 12) < 32)))))) ∧ ((((if 0 ≤ (x1 / 12) ∧ (x1 / 12) < (M.1 48 0 0) then (if 0 ≤ (x1 % 12) ∧ (x1 % 12) < (M.1 48 0 0) then (if (x1 / 12) = (x1 % 12) then 0 else (if tb (M.1 50 0 (x1 / 12).toNat) (x1 % 12) = true then 0 else 1 : Int) : Int) else 0 : Int) else 0 : Int) = 0 ∨ (if 0 ≤ (x1 / 12) ∧ (x1 / 12) < (M.1 48 0 0) then (if 0 ≤ (x1 % 12) ∧ (x1 % 12) < (M.1 48 0 0) then (if (x1 / 12) = (x1 % 12) then 0 else (if tb (M.1 50 0 (x1 / 12).toNat) (x1 % 12) = true then 0 else 1 : Int) : Int) else 0 : Int) else 0 : Int) = 1)) ∧ r = some (vI (if 0 ≤ (x1 / 12) ∧ (x1 / 12) < (M.1 48 0 0) then (if 0 ≤ (x1 % 12) ∧ (x1 % 12) < (M.1 48 0 0) then (if (x1 / 12) = (x1 % 12) then 0 else (if tb (M.1 50 0 (x1 / 12).toNat) (x1 % 12) = true then 0 else 1 : Int) : Int) else 0 : Int) else 0 : Int)) ∧ M' = M))) : Cl l G (d + 2) mX12_isStrange [vR (some (3, 0)), vI x1] M r M' := by
  show Ex l G (d + 2) mX12_isStrange 0 [some (vR (some (3, 0))), some (vI x1), none, none] [] M r M'
  obtain ⟨⟨o_1, o_2⟩, h⟩ := h
  refine r_iload_n 1 dX12_isStrange_0 rfl rfl ?_
  refine r_bipush 3 dX12_isStrange_1 rfl rfl ?_
  refine r_idiv 4 dX12_isStrange_3 rfl ⟨o_1, by decide⟩ ?_
  refine r_istore_n (ls' := [some (vR (some (3, 0))), some (vI x1), some (vI (x1 / 12)), none]) 5 dX12_isStrange_4 rfl rfl rfl rfl ?_
  refine r_iload_n 6 dX12_isStrange_5 rfl rfl ?_
  refine r_bipush 8 dX12_isStrange_6 rfl rfl ?_
  refine r_irem 9 dX12_isStrange_8 rfl ⟨o_1, by decide⟩ ?_
  refine r_istore_n (ls' := [some (vR (some (3, 0))), some (vI x1), some (vI (x1 / 12)), some (vI (x1 % 12))]) 10 dX12_isStrange_9 rfl rfl rfl rfl ?_
  refine r_aload_n 11 dX12_isStrange_10 rfl rfl ?_
  refine r_iload_n 12 dX12_isStrange_11 rfl rfl ?_
  refine v_1 (ci := 12) (C := (RX12, TX12, 68)) [vI (x1 / 12)] [] 15 dX12_isStrange_12 rfl rfl rfl rfl rfl mo_X12_isPerson ml_12_175 rfl rfl (KX12_isPerson hS o_2) ?_
  obtain ⟨h0, h⟩ := h
  have hJ_3 : Ex l G (d + 2) mX12_isStrange 49 [some (vR (some (3, 0))), some (vI x1), some (vI (x1 / 12)), some (vI (x1 % 12))] [vI (if 0 ≤ (x1 / 12) ∧ (x1 / 12) < (M.1 48 0 0) then (if 0 ≤ (x1 % 12) ∧ (x1 % 12) < (M.1 48 0 0) then (if (x1 / 12) = (x1 % 12) then 0 else (if tb (M.1 50 0 (x1 / 12).toNat) (x1 % 12) = true then 0 else 1 : Int) : Int) else 0 : Int) else 0 : Int)] M r M' := by
    obtain ⟨o_11, h⟩ := h
    exact r_iret dX12_isStrange_49 rfl (.inr ⟨rfl, o_11⟩) h.1 h.2
  have h := h0
  refine r_if_eq 18 48 dX12_isStrange_15 rfl rfl (fun c => ?_) (fun c => ?_)
  · have c_4 := b2_0.mp c
    refine r_iconst 49 dX12_isStrange_48 rfl (InR_of rfl) ?_
    exact (Ex.at hJ_3 rfl (show [vI 0] = [vI (if 0 ≤ (x1 / 12) ∧ (x1 / 12) < (M.1 48 0 0) then (if 0 ≤ (x1 % 12) ∧ (x1 % 12) < (M.1 48 0 0) then (if (x1 / 12) = (x1 % 12) then 0 else (if tb (M.1 50 0 (x1 / 12).toNat) (x1 % 12) = true then 0 else 1 : Int) : Int) else 0 : Int) else 0 : Int)] by simp only [if_neg c_4]) rfl)
  · have c_4 := b2_1.mp c
    have h := h c_4
    obtain ⟨o_5, h⟩ := h
    refine r_aload_n 19 dX12_isStrange_18 rfl rfl ?_
    refine r_iload_n 20 dX12_isStrange_19 rfl rfl ?_
    refine v_1 (ci := 12) (C := (RX12, TX12, 68)) [vI (x1 % 12)] [] 23 dX12_isStrange_20 rfl rfl rfl rfl rfl mo_X12_isPerson ml_12_175 rfl rfl (KX12_isPerson hS o_5) ?_
    refine r_if_eq 26 48 dX12_isStrange_23 rfl rfl (fun c => ?_) (fun c => ?_)
    · have c_6 := b2_0.mp c
      refine r_iconst 49 dX12_isStrange_48 rfl (InR_of rfl) ?_
      exact (Ex.at hJ_3 rfl (show [vI 0] = [vI (if 0 ≤ (x1 / 12) ∧ (x1 / 12) < (M.1 48 0 0) then (if 0 ≤ (x1 % 12) ∧ (x1 % 12) < (M.1 48 0 0) then (if (x1 / 12) = (x1 % 12) then 0 else (if tb (M.1 50 0 (x1 / 12).toNat) (x1 % 12) = true then 0 else 1 : Int) : Int) else 0 : Int) else 0 : Int)] by simp only [if_pos c_4, if_neg c_6]) rfl)
    · have c_6 := b2_1.mp c
      have h := h c_6
      refine r_iload_n 27 dX12_isStrange_26 rfl rfl ?_
      refine r_iload_n 28 dX12_isStrange_27 rfl rfl ?_
      refine r_icmp_eq 31 48 dX12_isStrange_28 rfl rfl (fun c => ?_) (fun c => ?_)
      · have c_7 := c
        refine r_iconst 49 dX12_isStrange_48 rfl (InR_of rfl) ?_
        exact (Ex.at hJ_3 rfl (show [vI 0] = [vI (if 0 ≤ (x1 / 12) ∧ (x1 / 12) < (M.1 48 0 0) then (if 0 ≤ (x1 % 12) ∧ (x1 % 12) < (M.1 48 0 0) then (if (x1 / 12) = (x1 % 12) then 0 else (if tb (M.1 50 0 (x1 / 12).toNat) (x1 % 12) = true then 0 else 1 : Int) : Int) else 0 : Int) else 0 : Int)] by simp only [if_pos c_4, if_pos c_6, if_pos c_7]) rfl)
      · have c_7 := c
        have h := h c_7
        obtain ⟨o_8, o_9⟩ := h
        refine r_aload_n 32 dX12_isStrange_31 rfl rfl ?_
        refine g_R 35 dX12_isStrange_32 rfl rfl rfl fr_12_16 (sh_12_3 hS) ?_
        refine r_iload_n 36 dX12_isStrange_35 rfl rfl ?_
        refine a_I 12 37 dX12_isStrange_36 rfl rfl rfl rfl o_8 rfl ?_
        refine r_iload_n 38 dX12_isStrange_37 rfl rfl ?_
        refine c_1 [vI (M.1 50 0 (x1 / 12).toNat), vI (x1 % 12)] [] 41 dX12_isStrange_38 rfl rfl mo_X12_has ml_12_148 rfl rfl (KX12_has o_9) ?_
        refine r_if_ne 44 48 dX12_isStrange_41 rfl rfl (fun c => ?_) (fun c => ?_)
        · have c_10 := b2_1.mp c
          refine r_iconst 49 dX12_isStrange_48 rfl (InR_of rfl) ?_
          exact (Ex.at hJ_3 rfl (show [vI 0] = [vI (if 0 ≤ (x1 / 12) ∧ (x1 / 12) < (M.1 48 0 0) then (if 0 ≤ (x1 % 12) ∧ (x1 % 12) < (M.1 48 0 0) then (if (x1 / 12) = (x1 % 12) then 0 else (if tb (M.1 50 0 (x1 / 12).toNat) (x1 % 12) = true then 0 else 1 : Int) : Int) else 0 : Int) else 0 : Int)] by simp only [if_pos c_4, if_pos c_6, if_neg c_7, if_pos c_10]) rfl)
        · have c_10 := b2_0.mp (Decidable.not_not.mp c)
          refine r_iconst 45 dX12_isStrange_44 rfl (InR_of rfl) ?_
          refine r_goto 49 dX12_isStrange_45 rfl ?_
          exact (Ex.at hJ_3 rfl (show [vI 1] = [vI (if 0 ≤ (x1 / 12) ∧ (x1 / 12) < (M.1 48 0 0) then (if 0 ≤ (x1 % 12) ∧ (x1 % 12) < (M.1 48 0 0) then (if (x1 / 12) = (x1 % 12) then 0 else (if tb (M.1 50 0 (x1 / 12).toNat) (x1 % 12) = true then 0 else 1 : Int) : Int) else 0 : Int) else 0 : Int)] by simp only [if_pos c_4, if_pos c_6, if_neg c_7, if_neg c_10]) rfl)

set_option maxRecDepth 4000 in
theorem xX12_turns_0 {l : Launch} {G : Gt} {d : Nat} {M M' : Mem} {r : Option Vl} {x1 : Int} (hS : Sh M.2.1) (h : 
    (0 ≤ x1 ∧ (0 ≤ (x1 / 12) ∧ (x1 / 12) < 12) ∧ (0 ≤ (x1 % 12) ∧ (x1 % 12) < 32)) ∧ r = none ∧ M' = ((upI M.1 50 0 (x1 / 12).toNat (aXor (M.1 50 0 (x1 / 12).toNat) (aShl 1 (x1 % 12)))), M.2.1, M.2.2)) : Cl l G d mX12_turns [vR (some (3, 0)), vI x1] M r M' := by
  show Ex l G d mX12_turns 0 [some (vR (some (3, 0))), some (vI x1)] [] M r M'
  obtain ⟨⟨o_1, o_2, o_3⟩, h⟩ := h
  refine r_aload_n 1 dX12_turns_0 rfl rfl ?_
  refine g_R 4 dX12_turns_1 rfl rfl rfl fr_12_16 (sh_12_3 hS) ?_
  refine r_iload_n 5 dX12_turns_4 rfl rfl ?_
  refine r_bipush 7 dX12_turns_5 rfl rfl ?_
  refine r_idiv 8 dX12_turns_7 rfl ⟨o_1, by decide⟩ ?_
  refine r_dup2 9 dX12_turns_8 rfl rfl ?_
  refine a_I 12 10 dX12_turns_9 rfl rfl rfl rfl o_2 rfl ?_
  refine r_iconst 11 dX12_turns_10 rfl (InR_of rfl) ?_
  refine r_iload_n 12 dX12_turns_11 rfl rfl ?_
  refine r_bipush 14 dX12_turns_12 rfl rfl ?_
  refine r_irem 15 dX12_turns_14 rfl ⟨o_1, by decide⟩ ?_
  refine r_ishl 16 dX12_turns_15 rfl o_3 ?_
  refine r_ixor 17 dX12_turns_16 rfl ?_
  refine s_I 12 18 dX12_turns_17 rfl rfl (by decide) rfl rfl o_2 ?_
  exact r_vret dX12_turns_18 rfl h.1 h.2

set_option maxRecDepth 4000 in
theorem xX12_finds_0 {l : Launch} {G : Gt} {d : Nat} {M M' : Mem} {r : Option Vl} {x1 : Int} {x2 : Int} {x3 : Int} {x4 : Int} {x5 : Int} (h : 
    ∃ (r_3 : Int) (M_1 : Mem), Cl l G d mX12_endsRight [vR (some (3, 0)), vI x1, vI x2, vI x3, vI x4, vI x5] ((upI (upI (upI M.1 3 0 61 0) 3 0 62 (-2)) 3 0 63 (-2)), M.2.1, M.2.2) (some (vI r_3)) M_1 ∧ ((r_3 = 0 → Ex l G (d + 1) mX12_finds 40 [some (vR (some (3, 0))), some (vI x1), some (vI x2), some (vI x3), some (vI x4), some (vI x5), some (vI 0), none, none] [] ((upI M_1.1 3 0 61 1), M_1.2.1, M_1.2.2) r M') ∧ (¬ (r_3 = 0) → r = none ∧ M' = M_1))) : Cl l G (d + 1) mX12_finds [vR (some (3, 0)), vI x1, vI x2, vI x3, vI x4, vI x5] M r M' := by
  show Ex l G (d + 1) mX12_finds 0 [some (vR (some (3, 0))), some (vI x1), some (vI x2), some (vI x3), some (vI x4), some (vI x5), none, none, none] [] M r M'
  refine r_aload_n 1 dX12_finds_0 rfl rfl ?_
  refine r_iconst 2 dX12_finds_1 rfl (InR_of rfl) ?_
  refine p_I 5 dX12_finds_2 rfl rfl rfl rfl pf_12_424 (.inl rfl) rfl ?_
  refine r_aload_n 6 dX12_finds_5 rfl rfl ?_
  refine r_bipush 8 dX12_finds_6 rfl rfl ?_
  refine p_I 11 dX12_finds_8 rfl rfl rfl rfl pf_12_427 (.inl rfl) rfl ?_
  refine r_aload_n 12 dX12_finds_11 rfl rfl ?_
  refine r_bipush 14 dX12_finds_12 rfl rfl ?_
  refine p_I 17 dX12_finds_14 rfl rfl rfl rfl pf_12_430 (.inl rfl) rfl ?_
  refine r_aload_n 18 dX12_finds_17 rfl rfl ?_
  refine r_iload_n 19 dX12_finds_18 rfl rfl ?_
  refine r_iload_n 20 dX12_finds_19 rfl rfl ?_
  refine r_iload_n 21 dX12_finds_20 rfl rfl ?_
  refine r_iload 23 dX12_finds_21 rfl rfl ?_
  refine r_iload 25 dX12_finds_23 rfl rfl ?_
  obtain ⟨r_3, M_1, hc_2, h⟩ := h
  refine v_1 (ci := 12) (C := (RX12, TX12, 68)) [vI x1, vI x2, vI x3, vI x4, vI x5] [] 28 dX12_finds_25 rfl rfl rfl rfl rfl mo_X12_endsRight ml_12_433 rfl rfl hc_2 ?_
  refine r_if_eq 31 32 dX12_finds_28 rfl rfl (fun c => ?_) (fun c => ?_)
  · have h := h.1 (c)
    refine r_aload_n 33 dX12_finds_32 rfl rfl ?_
    refine r_iconst 34 dX12_finds_33 rfl (InR_of rfl) ?_
    refine p_I 37 dX12_finds_34 rfl rfl rfl rfl pf_12_424 (.inl rfl) rfl ?_
    refine r_iconst 38 dX12_finds_37 rfl (InR_of rfl) ?_
    refine r_istore (ls' := [some (vR (some (3, 0))), some (vI x1), some (vI x2), some (vI x3), some (vI x4), some (vI x5), some (vI 0), none, none]) 40 dX12_finds_38 rfl rfl rfl rfl ?_
    exact h
  · have h := h.2 (c)
    exact r_vret dX12_finds_31 rfl h.1 h.2
set_option maxRecDepth 4000 in
theorem xX12_finds_40 {l : Launch} {G : Gt} {d : Nat} {M M' : Mem} {r : Option Vl} {x1 : Int} {x2 : Int} {x3 : Int} {x4 : Int} {x5 : Int} {x6 : Int} (h : 
    (144 ≤ x6 → Ex l G (d + 1) mX12_finds 108 [some (vR (some (3, 0))), some (vI x1), some (vI x2), some (vI x3), some (vI x4), some (vI x5), some (vI 0), none, none] [] ((upI M.1 3 0 61 2), M.2.1, M.2.2) r M') ∧ (¬ (144 ≤ x6) → ∃ (r_3 : Int) (M_1 : Mem), Cl l G d mX12_isStrange [vR (some (3, 0)), vI x6] M (some (vI r_3)) M_1 ∧ ((r_3 = 0 → (InR (x6 + 1)) ∧ Ex l G (d + 1) mX12_finds 40 [some (vR (some (3, 0))), some (vI x1), some (vI x2), some (vI x3), some (vI x4), some (vI x5), some (vI (x6 + 1)), none, none] [] M_1 r M') ∧ (¬ (r_3 = 0) → ∃ (M_5 : Mem), Cl l G d mX12_turns [vR (some (3, 0)), vI x6] M_1 none M_5 ∧ (∃ (r_9 : Int) (M_7 : Mem), Cl l G d mX12_endsRight [vR (some (3, 0)), vI x1, vI x2, vI x3, vI x4, vI x5] M_5 (some (vI r_9)) M_7 ∧ (∃ (M_10 : Mem), Cl l G d mX12_turns [vR (some (3, 0)), vI x6] M_7 none M_10 ∧ ((r_9 = 0 → (InR (x6 + 1)) ∧ Ex l G (d + 1) mX12_finds 40 [some (vR (some (3, 0))), some (vI x1), some (vI x2), some (vI x3), some (vI x4), some (vI x5), some (vI (x6 + 1)), none, none] [] M_10 r M') ∧ (¬ (r_9 = 0) → r = none ∧ M' = ((upI M_10.1 3 0 62 x6), M_10.2.1, M_10.2.2))))))))) : Ex l G (d + 1) mX12_finds 40 [some (vR (some (3, 0))), some (vI x1), some (vI x2), some (vI x3), some (vI x4), some (vI x5), some (vI x6), none, none] [] M r M' := by
  refine r_iload 42 dX12_finds_40 rfl rfl ?_
  refine r_sipush 45 dX12_finds_42 rfl rfl ?_
  refine r_icmp_ge 48 100 dX12_finds_45 rfl rfl (fun c => ?_) (fun c => ?_)
  · have h := h.1 (c)
    refine r_aload_n 101 dX12_finds_100 rfl rfl ?_
    refine r_iconst 102 dX12_finds_101 rfl (InR_of rfl) ?_
    refine p_I 105 dX12_finds_102 rfl rfl rfl rfl pf_12_424 (.inl rfl) rfl ?_
    refine r_iconst 106 dX12_finds_105 rfl (InR_of rfl) ?_
    refine r_istore (ls' := [some (vR (some (3, 0))), some (vI x1), some (vI x2), some (vI x3), some (vI x4), some (vI x5), some (vI 0), none, none]) 108 dX12_finds_106 rfl rfl rfl rfl ?_
    exact h
  · have h := h.2 (c)
    refine r_aload_n 49 dX12_finds_48 rfl rfl ?_
    refine r_iload 51 dX12_finds_49 rfl rfl ?_
    obtain ⟨r_3, M_1, hc_2, h⟩ := h
    refine v_1 (ci := 12) (C := (RX12, TX12, 68)) [vI x6] [] 54 dX12_finds_51 rfl rfl rfl rfl rfl mo_X12_isStrange ml_12_437 rfl rfl hc_2 ?_
    refine r_if_eq 57 94 dX12_finds_54 rfl rfl (fun c => ?_) (fun c => ?_)
    · have h := h.1 (c)
      obtain ⟨o_4, h⟩ := h
      refine r_iinc (ls' := [some (vR (some (3, 0))), some (vI x1), some (vI x2), some (vI x3), some (vI x4), some (vI x5), some (vI (x6 + 1)), none, none]) 97 dX12_finds_94 rfl rfl rfl rfl o_4 rfl ?_
      refine r_goto 40 dX12_finds_97 rfl ?_
      exact h
    · have h := h.2 (c)
      refine r_aload_n 58 dX12_finds_57 rfl rfl ?_
      refine r_iload 60 dX12_finds_58 rfl rfl ?_
      obtain ⟨M_5, hc_6, h⟩ := h
      refine v_0 (ci := 12) (C := (RX12, TX12, 68)) [vI x6] [] 63 dX12_finds_60 rfl rfl rfl rfl rfl mo_X12_turns ml_12_440 rfl rfl hc_6 ?_
      refine r_aload_n 64 dX12_finds_63 rfl rfl ?_
      refine r_iload_n 65 dX12_finds_64 rfl rfl ?_
      refine r_iload_n 66 dX12_finds_65 rfl rfl ?_
      refine r_iload_n 67 dX12_finds_66 rfl rfl ?_
      refine r_iload 69 dX12_finds_67 rfl rfl ?_
      refine r_iload 71 dX12_finds_69 rfl rfl ?_
      obtain ⟨r_9, M_7, hc_8, h⟩ := h
      refine v_1 (ci := 12) (C := (RX12, TX12, 68)) [vI x1, vI x2, vI x3, vI x4, vI x5] [] 74 dX12_finds_71 rfl rfl rfl rfl rfl mo_X12_endsRight ml_12_433 rfl rfl hc_8 ?_
      refine r_istore (ls' := [some (vR (some (3, 0))), some (vI x1), some (vI x2), some (vI x3), some (vI x4), some (vI x5), some (vI x6), some (vI r_9), none]) 76 dX12_finds_74 rfl rfl rfl rfl ?_
      refine r_aload_n 77 dX12_finds_76 rfl rfl ?_
      refine r_iload 79 dX12_finds_77 rfl rfl ?_
      obtain ⟨M_10, hc_11, h⟩ := h
      refine v_0 (ci := 12) (C := (RX12, TX12, 68)) [vI x6] [] 82 dX12_finds_79 rfl rfl rfl rfl rfl mo_X12_turns ml_12_440 rfl rfl hc_11 ?_
      refine r_iload 84 dX12_finds_82 rfl rfl ?_
      refine r_if_eq 87 94 dX12_finds_84 rfl rfl (fun c => ?_) (fun c => ?_)
      · have h := h.1 (c)
        obtain ⟨o_12, h⟩ := h
        refine r_iinc (ls' := [some (vR (some (3, 0))), some (vI x1), some (vI x2), some (vI x3), some (vI x4), some (vI x5), some (vI (x6 + 1)), some (vI r_9), none]) 97 dX12_finds_94 rfl rfl rfl rfl o_12 rfl ?_
        refine r_goto 40 dX12_finds_97 rfl ?_
        exact Ex.weak h ⟨rfl, rfl, rfl, rfl, rfl, rfl, rfl, trivial⟩
      · have h := h.2 (c)
        refine r_aload_n 88 dX12_finds_87 rfl rfl ?_
        refine r_iload 90 dX12_finds_88 rfl rfl ?_
        refine p_I 93 dX12_finds_90 rfl rfl rfl rfl pf_12_427 (.inl rfl) rfl ?_
        exact r_vret dX12_finds_93 rfl h.1 h.2
set_option maxRecDepth 4000 in
theorem xX12_finds_108 {l : Launch} {G : Gt} {d : Nat} {M M' : Mem} {r : Option Vl} {x1 : Int} {x2 : Int} {x3 : Int} {x4 : Int} {x5 : Int} {x6 : Int} (h : 
    (144 ≤ x6 → r = none ∧ M' = ((upI M.1 3 0 61 (-2)), M.2.1, M.2.2)) ∧ (¬ (144 ≤ x6) → (InR (x6 + 1)) ∧ Ex l G (d + 1) mX12_finds 122 [some (vR (some (3, 0))), some (vI x1), some (vI x2), some (vI x3), some (vI x4), some (vI x5), some (vI x6), some (vI (x6 + 1)), none] [] M r M')) : Ex l G (d + 1) mX12_finds 108 [some (vR (some (3, 0))), some (vI x1), some (vI x2), some (vI x3), some (vI x4), some (vI x5), some (vI x6), none, none] [] M r M' := by
  refine r_iload 110 dX12_finds_108 rfl rfl ?_
  refine r_sipush 113 dX12_finds_110 rfl rfl ?_
  refine r_icmp_ge 116 215 dX12_finds_113 rfl rfl (fun c => ?_) (fun c => ?_)
  · have h := h.1 (c)
    refine r_aload_n 216 dX12_finds_215 rfl rfl ?_
    refine r_bipush 218 dX12_finds_216 rfl rfl ?_
    refine p_I 221 dX12_finds_218 rfl rfl rfl rfl pf_12_424 (.inl rfl) rfl ?_
    exact r_vret dX12_finds_221 rfl h.1 h.2
  · have h := h.2 (c)
    obtain ⟨o_1, h⟩ := h
    refine r_iload 118 dX12_finds_116 rfl rfl ?_
    refine r_iconst 119 dX12_finds_118 rfl (InR_of rfl) ?_
    refine r_iadd 120 dX12_finds_119 rfl o_1 ?_
    refine r_istore (ls' := [some (vR (some (3, 0))), some (vI x1), some (vI x2), some (vI x3), some (vI x4), some (vI x5), some (vI x6), some (vI (x6 + 1)), none]) 122 dX12_finds_120 rfl rfl rfl rfl ?_
    exact h
set_option maxRecDepth 4000 in
theorem xX12_finds_122 {l : Launch} {G : Gt} {d : Nat} {M M' : Mem} {r : Option Vl} {x1 : Int} {x2 : Int} {x3 : Int} {x4 : Int} {x5 : Int} {x6 : Int} {x7 : Int} (h : 
    (144 ≤ x7 → (InR (x6 + 1)) ∧ Ex l G (d + 1) mX12_finds 108 [some (vR (some (3, 0))), some (vI x1), some (vI x2), some (vI x3), some (vI x4), some (vI x5), some (vI (x6 + 1)), none, none] [] M r M') ∧ (¬ (144 ≤ x7) → ∃ (r_4 : Int) (M_2 : Mem), Cl l G d mX12_isStrange [vR (some (3, 0)), vI x6] M (some (vI r_4)) M_2 ∧ ((r_4 = 0 → (InR (x6 + 1)) ∧ Ex l G (d + 1) mX12_finds 108 [some (vR (some (3, 0))), some (vI x1), some (vI x2), some (vI x3), some (vI x4), some (vI x5), some (vI (x6 + 1)), none, none] [] M_2 r M') ∧ (¬ (r_4 = 0) → ∃ (r_8 : Int) (M_6 : Mem), Cl l G d mX12_isStrange [vR (some (3, 0)), vI x7] M_2 (some (vI r_8)) M_6 ∧ ((r_8 = 0 → (InR (x7 + 1)) ∧ Ex l G (d + 1) mX12_finds 122 [some (vR (some (3, 0))), some (vI x1), some (vI x2), some (vI x3), some (vI x4), some (vI x5), some (vI x6), some (vI (x7 + 1)), none] [] M_6 r M') ∧ (¬ (r_8 = 0) → ∃ (M_10 : Mem), Cl l G d mX12_turns [vR (some (3, 0)), vI x6] M_6 none M_10 ∧ (∃ (M_12 : Mem), Cl l G d mX12_turns [vR (some (3, 0)), vI x7] M_10 none M_12 ∧ (∃ (r_16 : Int) (M_14 : Mem), Cl l G d mX12_endsRight [vR (some (3, 0)), vI x1, vI x2, vI x3, vI x4, vI x5] M_12 (some (vI r_16)) M_14 ∧ (∃ (M_17 : Mem), Cl l G d mX12_turns [vR (some (3, 0)), vI x6] M_14 none M_17 ∧ (∃ (M_19 : Mem), Cl l G d mX12_turns [vR (some (3, 0)), vI x7] M_17 none M_19 ∧ ((r_16 = 0 → (InR (x7 + 1)) ∧ Ex l G (d + 1) mX12_finds 122 [some (vR (some (3, 0))), some (vI x1), some (vI x2), some (vI x3), some (vI x4), some (vI x5), some (vI x6), some (vI (x7 + 1)), none] [] M_19 r M') ∧ (¬ (r_16 = 0) → r = none ∧ M' = ((upI (upI M_19.1 3 0 62 x6) 3 0 63 x7), M_19.2.1, M_19.2.2))))))))))))) : Ex l G (d + 1) mX12_finds 122 [some (vR (some (3, 0))), some (vI x1), some (vI x2), some (vI x3), some (vI x4), some (vI x5), some (vI x6), some (vI x7), none] [] M r M' := by
  refine r_iload 124 dX12_finds_122 rfl rfl ?_
  refine r_sipush 127 dX12_finds_124 rfl rfl ?_
  refine r_icmp_ge 130 209 dX12_finds_127 rfl rfl (fun c => ?_) (fun c => ?_)
  · have h := h.1 (c)
    obtain ⟨o_1, h⟩ := h
    refine r_iinc (ls' := [some (vR (some (3, 0))), some (vI x1), some (vI x2), some (vI x3), some (vI x4), some (vI x5), some (vI (x6 + 1)), some (vI x7), none]) 212 dX12_finds_209 rfl rfl rfl rfl o_1 rfl ?_
    refine r_goto 108 dX12_finds_212 rfl ?_
    exact Ex.weak h ⟨rfl, rfl, rfl, rfl, rfl, rfl, rfl, trivial⟩
  · have h := h.2 (c)
    refine r_aload_n 131 dX12_finds_130 rfl rfl ?_
    refine r_iload 133 dX12_finds_131 rfl rfl ?_
    obtain ⟨r_4, M_2, hc_3, h⟩ := h
    refine v_1 (ci := 12) (C := (RX12, TX12, 68)) [vI x6] [] 136 dX12_finds_133 rfl rfl rfl rfl rfl mo_X12_isStrange ml_12_437 rfl rfl hc_3 ?_
    refine r_if_eq 139 209 dX12_finds_136 rfl rfl (fun c => ?_) (fun c => ?_)
    · have h := h.1 (c)
      obtain ⟨o_5, h⟩ := h
      refine r_iinc (ls' := [some (vR (some (3, 0))), some (vI x1), some (vI x2), some (vI x3), some (vI x4), some (vI x5), some (vI (x6 + 1)), some (vI x7), none]) 212 dX12_finds_209 rfl rfl rfl rfl o_5 rfl ?_
      refine r_goto 108 dX12_finds_212 rfl ?_
      exact Ex.weak h ⟨rfl, rfl, rfl, rfl, rfl, rfl, rfl, trivial⟩
    · have h := h.2 (c)
      refine r_aload_n 140 dX12_finds_139 rfl rfl ?_
      refine r_iload 142 dX12_finds_140 rfl rfl ?_
      obtain ⟨r_8, M_6, hc_7, h⟩ := h
      refine v_1 (ci := 12) (C := (RX12, TX12, 68)) [vI x7] [] 145 dX12_finds_142 rfl rfl rfl rfl rfl mo_X12_isStrange ml_12_437 rfl rfl hc_7 ?_
      refine r_if_eq 148 203 dX12_finds_145 rfl rfl (fun c => ?_) (fun c => ?_)
      · have h := h.1 (c)
        obtain ⟨o_9, h⟩ := h
        refine r_iinc (ls' := [some (vR (some (3, 0))), some (vI x1), some (vI x2), some (vI x3), some (vI x4), some (vI x5), some (vI x6), some (vI (x7 + 1)), none]) 206 dX12_finds_203 rfl rfl rfl rfl o_9 rfl ?_
        refine r_goto 122 dX12_finds_206 rfl ?_
        exact h
      · have h := h.2 (c)
        refine r_aload_n 149 dX12_finds_148 rfl rfl ?_
        refine r_iload 151 dX12_finds_149 rfl rfl ?_
        obtain ⟨M_10, hc_11, h⟩ := h
        refine v_0 (ci := 12) (C := (RX12, TX12, 68)) [vI x6] [] 154 dX12_finds_151 rfl rfl rfl rfl rfl mo_X12_turns ml_12_440 rfl rfl hc_11 ?_
        refine r_aload_n 155 dX12_finds_154 rfl rfl ?_
        refine r_iload 157 dX12_finds_155 rfl rfl ?_
        obtain ⟨M_12, hc_13, h⟩ := h
        refine v_0 (ci := 12) (C := (RX12, TX12, 68)) [vI x7] [] 160 dX12_finds_157 rfl rfl rfl rfl rfl mo_X12_turns ml_12_440 rfl rfl hc_13 ?_
        refine r_aload_n 161 dX12_finds_160 rfl rfl ?_
        refine r_iload_n 162 dX12_finds_161 rfl rfl ?_
        refine r_iload_n 163 dX12_finds_162 rfl rfl ?_
        refine r_iload_n 164 dX12_finds_163 rfl rfl ?_
        refine r_iload 166 dX12_finds_164 rfl rfl ?_
        refine r_iload 168 dX12_finds_166 rfl rfl ?_
        obtain ⟨r_16, M_14, hc_15, h⟩ := h
        refine v_1 (ci := 12) (C := (RX12, TX12, 68)) [vI x1, vI x2, vI x3, vI x4, vI x5] [] 171 dX12_finds_168 rfl rfl rfl rfl rfl mo_X12_endsRight ml_12_433 rfl rfl hc_15 ?_
        refine r_istore (ls' := [some (vR (some (3, 0))), some (vI x1), some (vI x2), some (vI x3), some (vI x4), some (vI x5), some (vI x6), some (vI x7), some (vI r_16)]) 173 dX12_finds_171 rfl rfl rfl rfl ?_
        refine r_aload_n 174 dX12_finds_173 rfl rfl ?_
        refine r_iload 176 dX12_finds_174 rfl rfl ?_
        obtain ⟨M_17, hc_18, h⟩ := h
        refine v_0 (ci := 12) (C := (RX12, TX12, 68)) [vI x6] [] 179 dX12_finds_176 rfl rfl rfl rfl rfl mo_X12_turns ml_12_440 rfl rfl hc_18 ?_
        refine r_aload_n 180 dX12_finds_179 rfl rfl ?_
        refine r_iload 182 dX12_finds_180 rfl rfl ?_
        obtain ⟨M_19, hc_20, h⟩ := h
        refine v_0 (ci := 12) (C := (RX12, TX12, 68)) [vI x7] [] 185 dX12_finds_182 rfl rfl rfl rfl rfl mo_X12_turns ml_12_440 rfl rfl hc_20 ?_
        refine r_iload 187 dX12_finds_185 rfl rfl ?_
        refine r_if_eq 190 203 dX12_finds_187 rfl rfl (fun c => ?_) (fun c => ?_)
        · have h := h.1 (c)
          obtain ⟨o_21, h⟩ := h
          refine r_iinc (ls' := [some (vR (some (3, 0))), some (vI x1), some (vI x2), some (vI x3), some (vI x4), some (vI x5), some (vI x6), some (vI (x7 + 1)), some (vI r_16)]) 206 dX12_finds_203 rfl rfl rfl rfl o_21 rfl ?_
          refine r_goto 122 dX12_finds_206 rfl ?_
          exact Ex.weak h ⟨rfl, rfl, rfl, rfl, rfl, rfl, rfl, rfl, trivial⟩
        · have h := h.2 (c)
          refine r_aload_n 191 dX12_finds_190 rfl rfl ?_
          refine r_iload 193 dX12_finds_191 rfl rfl ?_
          refine p_I 196 dX12_finds_193 rfl rfl rfl rfl pf_12_427 (.inl rfl) rfl ?_
          refine r_aload_n 197 dX12_finds_196 rfl rfl ?_
          refine r_iload 199 dX12_finds_197 rfl rfl ?_
          refine p_I 202 dX12_finds_199 rfl rfl rfl rfl pf_12_430 (.inl rfl) rfl ?_
          exact r_vret dX12_finds_202 rfl h.1 h.2

set_option maxRecDepth 4000 in
theorem xX12_needs_0 {l : Launch} {G : Gt} {d : Nat} {M M' : Mem} {r : Option Vl} {x1 : Int} {x2 : Int} {x3 : Int} {x4 : Int} {x5 : Int} {x6 : Int} (hS : Sh M.2.1) (h : 
    ((InR ((M.1 3 0 33) - 1) ∧ InR ((M.1 48 0 0) - 1))) ∧ ((¬ ((0 ≤ x1 ∧ x1 < (M.1 48 0 0)) ∧ (0 ≤ x2 ∧ x2 < (M.1 3 0 33)) ∧ (0 ≤ x4 ∧ x4 < 8) ∧ (0 ≤ x5 ∧ x5 ≤ 999)) → r = some (vI (-1)) ∧ M' = M) ∧ ((0 ≤ x1 ∧ x1 < (M.1 48 0 0)) ∧ (0 ≤ x2 ∧ x2 < (M.1 3 0 33)) ∧ (0 ≤ x4 ∧ x4 < 8) ∧ (0 ≤ x5 ∧ x5 ≤ 999) → (InR ((M.1 48 0 0) - 1)) ∧ ((¬ (0 ≤ x3 ∧ x3 < (M.1 48 0 0)) → r = some (vI (-1)) ∧ M' = M) ∧ (0 ≤ x3 ∧ x3 < (M.1 48 0 0) → (x3 = x1 → r = some (vI (-1)) ∧ M' = M) ∧ (¬ (x3 = x1) → (0 ≤ x6 ∧ x6 ≤ 2 → ∃ (M_3 : Mem), Cl l G (d + 2) mX12_finds [vR (some (3, 0)), vI x1, vI x2, vI x3, vI x4, vI x5] M none M_3 ∧ r = some (vI (if x6 = 0 then (M_3.1 3 0 61) else (if x6 = 1 then (M_3.1 3 0 62) else (M_3.1 3 0 63) : Int) : Int)) ∧ M' = M_3) ∧ (¬ (0 ≤ x6 ∧ x6 ≤ 2) → r = some (vI (-1)) ∧ M' = M))))))) : Cl l G (d + 3) mX12_needs [vR (some (3, 0)), vI x1, vI x2, vI x3, vI x4, vI x5, vI x6] M r M' := by
  show Ex l G (d + 3) mX12_needs 0 [some (vR (some (3, 0))), some (vI x1), some (vI x2), some (vI x3), some (vI x4), some (vI x5), some (vI x6)] [] M r M'
  obtain ⟨o_1, h⟩ := h
  refine r_aload_n 1 dX12_needs_0 rfl rfl ?_
  refine r_iload_n 2 dX12_needs_1 rfl rfl ?_
  refine r_iload_n 3 dX12_needs_2 rfl rfl ?_
  refine r_iload 5 dX12_needs_3 rfl rfl ?_
  refine r_iload 7 dX12_needs_5 rfl rfl ?_
  refine v_1 (ci := 12) (C := (RX12, TX12, 68)) [vI x1, vI x2, vI x4, vI x5] [] 10 dX12_needs_7 rfl rfl rfl rfl rfl mo_X12_isLetter ml_12_416 rfl rfl (KX12_isLetter hS o_1) ?_
  refine r_if_eq 13 39 dX12_needs_10 rfl rfl (fun c => ?_) (fun c => ?_)
  · have h := h.1 (b2_0.mp c)
    refine r_iconst 40 dX12_needs_39 rfl (InR_of rfl) ?_
    exact r_iret dX12_needs_40 rfl (.inl rfl) h.1 h.2
  · have h := h.2 (b2_1.mp c)
    obtain ⟨o_2, h⟩ := h
    refine r_aload_n 14 dX12_needs_13 rfl rfl ?_
    refine r_iload_n 15 dX12_needs_14 rfl rfl ?_
    refine v_1 (ci := 12) (C := (RX12, TX12, 68)) [vI x3] [] 18 dX12_needs_15 rfl rfl rfl rfl rfl mo_X12_isPerson ml_12_175 rfl rfl (KX12_isPerson hS o_2) ?_
    refine r_if_eq 21 39 dX12_needs_18 rfl rfl (fun c => ?_) (fun c => ?_)
    · have h := h.1 (b2_0.mp c)
      refine r_iconst 40 dX12_needs_39 rfl (InR_of rfl) ?_
      exact r_iret dX12_needs_40 rfl (.inl rfl) h.1 h.2
    · have h := h.2 (b2_1.mp c)
      refine r_iload_n 22 dX12_needs_21 rfl rfl ?_
      refine r_iload_n 23 dX12_needs_22 rfl rfl ?_
      refine r_icmp_eq 26 39 dX12_needs_23 rfl rfl (fun c => ?_) (fun c => ?_)
      · have h := h.1 (c)
        refine r_iconst 40 dX12_needs_39 rfl (InR_of rfl) ?_
        exact r_iret dX12_needs_40 rfl (.inl rfl) h.1 h.2
      · have h := h.2 (c)
        refine r_iload 28 dX12_needs_26 rfl rfl ?_
        refine r_i2l 29 dX12_needs_28 rfl ?_
        refine r_lconst (x := 0) 30 dX12_needs_29 rfl (by decide +kernel) (InR_of rfl) ?_
        refine r_ldc2 (n := 2) 33 dX12_needs_30 rfl (inT6 (List.mem_of_getElem? (i := 103) rfl) rfl) (by decide +kernel) (InR_of rfl) ?_
        refine c_1 [vL x6, vL 0, vL 2] [] 36 dX12_needs_33 rfl rfl mo_X12_in ml_12_154 rfl rfl (KX12_in) ?_
        refine r_if_ne 39 41 dX12_needs_36 rfl rfl (fun c => ?_) (fun c => ?_)
        · have h := h.1 (b2_1.mp c)
          refine r_aload_n 42 dX12_needs_41 rfl rfl ?_
          refine r_iload_n 43 dX12_needs_42 rfl rfl ?_
          refine r_iload_n 44 dX12_needs_43 rfl rfl ?_
          refine r_iload_n 45 dX12_needs_44 rfl rfl ?_
          refine r_iload 47 dX12_needs_45 rfl rfl ?_
          refine r_iload 49 dX12_needs_47 rfl rfl ?_
          obtain ⟨M_3, hc_4, h⟩ := h
          refine v_0 (ci := 12) (C := (RX12, TX12, 68)) [vI x1, vI x2, vI x3, vI x4, vI x5] [] 52 dX12_needs_49 rfl rfl rfl rfl rfl mo_X12_finds ml_12_443 rfl rfl hc_4 ?_
          refine r_iload 54 dX12_needs_52 rfl rfl ?_
          have hJ_5 : Ex l G (d + 3) mX12_needs 81 [some (vR (some (3, 0))), some (vI x1), some (vI x2), some (vI x3), some (vI x4), some (vI x5), some (vI x6)] [vI (if x6 = 0 then (M_3.1 3 0 61) else (if x6 = 1 then (M_3.1 3 0 62) else (M_3.1 3 0 63) : Int) : Int)] M_3 r M' := by
            exact r_iret dX12_needs_81 rfl (.inl rfl) h.1 h.2
          refine r_if_ne 57 64 dX12_needs_54 rfl rfl (fun c => ?_) (fun c => ?_)
          · have c_6 := c
            refine r_iload 66 dX12_needs_64 rfl rfl ?_
            refine r_iconst 67 dX12_needs_66 rfl (InR_of rfl) ?_
            refine r_icmp_ne 70 77 dX12_needs_67 rfl rfl (fun c => ?_) (fun c => ?_)
            · have c_7 := c
              refine r_aload_n 78 dX12_needs_77 rfl rfl ?_
              refine g_I 81 dX12_needs_78 rfl rfl rfl fi_12_430 rfl ?_
              exact (Ex.at hJ_5 rfl (show [vI (M_3.1 3 0 63)] = [vI (if x6 = 0 then (M_3.1 3 0 61) else (if x6 = 1 then (M_3.1 3 0 62) else (M_3.1 3 0 63) : Int) : Int)] by simp only [if_neg c_6, if_neg c_7]) rfl)
            · have c_7 := Decidable.not_not.mp c
              refine r_aload_n 71 dX12_needs_70 rfl rfl ?_
              refine g_I 74 dX12_needs_71 rfl rfl rfl fi_12_427 rfl ?_
              refine r_goto 81 dX12_needs_74 rfl ?_
              exact (Ex.at hJ_5 rfl (show [vI (M_3.1 3 0 62)] = [vI (if x6 = 0 then (M_3.1 3 0 61) else (if x6 = 1 then (M_3.1 3 0 62) else (M_3.1 3 0 63) : Int) : Int)] by simp only [if_neg c_6, if_pos c_7]) rfl)
          · have c_6 := Decidable.not_not.mp c
            refine r_aload_n 58 dX12_needs_57 rfl rfl ?_
            refine g_I 61 dX12_needs_58 rfl rfl rfl fi_12_424 rfl ?_
            refine r_goto 81 dX12_needs_61 rfl ?_
            exact (Ex.at hJ_5 rfl (show [vI (M_3.1 3 0 61)] = [vI (if x6 = 0 then (M_3.1 3 0 61) else (if x6 = 1 then (M_3.1 3 0 62) else (M_3.1 3 0 63) : Int) : Int)] by simp only [if_pos c_6]) rfl)
        · have h := h.2 (b2_0.mp (Decidable.not_not.mp c))
          refine r_iconst 40 dX12_needs_39 rfl (InR_of rfl) ?_
          exact r_iret dX12_needs_40 rfl (.inl rfl) h.1 h.2

section NT
variable {l : Launch} {G : Gt} {d : Nat} {Q : QT} {M : Mem}
theorem tQ_W {a : Nat} (h : WFA Q) (h1 : a / 12 < nPp Q) (h2 : a % 12 < nPp Q) : WFA (tQ Q a) := by
  obtain ⟨hc, hv, hr, hO⟩ := eqD.up (Q := Q) (f := 50) (i := a / 12) (v := aXor (Q 50 (a / 12)) (aShl 1 ((a % 12 : Nat) : Int))) (by omega)
  have h12 := nPp_le h.1.1
  exact h.mk2 (kn_turn (a := a / 12) (b := a % 12) h.1 h1 h2) (WFV_q hv h.2.1) (by unfold tQ; rw [upQ_f (by omega), upQ_f (by omega)]; exact h.2.2.1) (h.2.2.2.1.up (fun _ _ => by unfold lenF; rw [if_neg (by omega), if_pos (by omega)]; omega)) (eqM.of hO) hv.2.2.2.2
theorem tQ_p {a : Nat} : nPp (tQ Q a) = nPp Q := nPp_q (tQ_n (Q := Q) (a := a)).1
theorem tQ_v {a : Nat} : nCv (tQ Q a) = nCv Q := nCv_q (tQ_n (Q := Q) (a := a)).2.1
theorem tQ_tw {a : Nat} (h : InR (Q 50 (a / 12))) : tQ (tQ Q a) a = Q := by
  funext f
  by_cases e : f = 50
  · subst e
    funext i
    unfold tQ
    rw [upQ_c]
    by_cases ei : i = a / 12
    · rw [if_pos ei, upQ_s, aXor_self h, ei]
    · rw [if_neg ei, upQ_i ei]
  · unfold tQ
    rw [upQ_f e, upQ_f e]
theorem tQ_cm {a b : Nat} : tQ (tQ Q a) b = tQ (tQ Q b) a := by
  funext f
  by_cases e : f = 50
  · subst e
    funext i
    unfold tQ
    rw [upQ_c, upQ_c, upQ_c, upQ_c, upQ_c, upQ_c]
    by_cases e1 : i = b / 12
    · by_cases e2 : i = a / 12
      · rw [if_pos e1, if_pos e2, if_pos (show b / 12 = a / 12 by omega), if_pos (show a / 12 = b / 12 by omega), show b / 12 = a / 12 by omega]
        exact aXor_comm3 _ _ _
      · rw [if_pos e1, if_neg e2, if_neg (show ¬ b / 12 = a / 12 by omega), if_pos e1]
    · by_cases e2 : i = a / 12
      · rw [if_neg e1, if_pos e2, if_pos e2, if_neg (show ¬ a / 12 = b / 12 by omega)]
      · rw [if_neg e1, if_neg e2, if_neg e2, if_neg e1]
  · unfold tQ
    rw [upQ_f e, upQ_f e, upQ_f e, upQ_f e]
theorem kn_in (h : WFA Q) {r : Nat} (hr : r < 12) : InR (Q 50 r) := by rw [h.1.2.2.1 r hr]; exact bI_in (by omega) _
theorem tQ_4 {a b : Nat} (h : WFA Q) (ha : a < 144) (hb : b < 144) (hb1 : b / 12 < nPp Q) (hb2 : b % 12 < nPp Q) : tQ (tQ (tQ (tQ Q a) b) a) b = Q := by
  rw [tQ_cm (Q := Q) (a := a) (b := b), tQ_tw (Q := tQ Q b) (a := a) (kn_in (tQ_W h hb1 hb2) (by omega)), tQ_tw (kn_in h (by omega))]
theorem KX12_isStrange {a : Nat} (hS : Sh M.2.1) (hw : WFA Q) (hH : HoldsQ Q M.1) (ha : a < 144) : Cl l G (d + 2) mX12_isStrange [vR (some (3, 0)), vI (a : Int)] M (some (vI (if (a / 12 < nPp Q ∧ a % 12 < nPp Q ∧ ¬ a / 12 = a % 12 ∧ ¬ tb (Q 50 (a / 12)) ((a % 12 : Nat) : Int) = true) then 1 else 0))) M := by
  have h12 := nPp_le hw.1.1
  have e1 := mppl_eq hw.1.1 hH.m
  have ed : ((a : Int) / 12) = ((a / 12 : Nat) : Int) := by omega
  have em : ((a : Int) % 12) = ((a % 12 : Nat) : Int) := by omega
  have ek : M.1 50 0 (a / 12) = Q 50 (a / 12) := hH.1 _ _ (by unfold perF; omega)
  have hk : 0 ≤ Q 50 (a / 12) := by rw [hw.1.2.2.1 (a / 12) (by omega)]; exact bI_nn
  refine xX12_isStrange_0 hS ?_
  rw [ed, em, Int.toNat_natCast, e1, ek]
  have er : (if 0 ≤ ((a / 12 : Nat) : Int) ∧ ((a / 12 : Nat) : Int) < (nPp Q : Int) then (if 0 ≤ ((a % 12 : Nat) : Int) ∧ ((a % 12 : Nat) : Int) < (nPp Q : Int) then (if ((a / 12 : Nat) : Int) = ((a % 12 : Nat) : Int) then 0 else (if tb (Q 50 (a / 12)) ((a % 12 : Nat) : Int) = true then 0 else 1 : Int) : Int) else 0 : Int) else 0 : Int) = if (a / 12 < nPp Q ∧ a % 12 < nPp Q ∧ ¬ a / 12 = a % 12 ∧ ¬ tb (Q 50 (a / 12)) ((a % 12 : Nat) : Int) = true) then 1 else 0 := by
    by_cases c1 : a / 12 < nPp Q
    · rw [if_pos (show 0 ≤ ((a / 12 : Nat) : Int) ∧ ((a / 12 : Nat) : Int) < (nPp Q : Int) by omega)]
      by_cases c2 : a % 12 < nPp Q
      · rw [if_pos (show 0 ≤ ((a % 12 : Nat) : Int) ∧ ((a % 12 : Nat) : Int) < (nPp Q : Int) by omega)]
        by_cases c3 : a / 12 = a % 12
        · rw [if_pos (show ((a / 12 : Nat) : Int) = ((a % 12 : Nat) : Int) by omega), if_neg (fun x => x.2.2.1 c3)]
        · rw [if_neg (show ¬ ((a / 12 : Nat) : Int) = ((a % 12 : Nat) : Int) by omega)]
          by_cases c4 : tb (Q 50 (a / 12)) ((a % 12 : Nat) : Int) = true
          · rw [if_pos c4, if_neg (fun x => x.2.2.2 c4)]
          · rw [if_neg c4, if_pos ⟨c1, c2, c3, c4⟩]
      · rw [if_neg (show ¬ (0 ≤ ((a % 12 : Nat) : Int) ∧ ((a % 12 : Nat) : Int) < (nPp Q : Int)) by omega), if_neg (fun x => c2 x.2.1)]
    · rw [if_neg (show ¬ (0 ≤ ((a / 12 : Nat) : Int) ∧ ((a / 12 : Nat) : Int) < (nPp Q : Int)) by omega), if_neg (fun x => c1 x.1)]
  rw [er]
  exact ⟨⟨by omega, by unfold InR; omega⟩, fun _ => ⟨by unfold InR; omega, fun _ _ => by omega⟩, by split <;> omega, rfl, rfl⟩
theorem KX12_turns {a : Nat} (hS : Sh M.2.1) (hH : HoldsQ Q M.1) (ha : a < 144) : ∃ I', Cl l G d mX12_turns [vR (some (3, 0)), vI (a : Int)] M none (I', M.2.1, M.2.2) ∧ HoldsQ (tQ Q a) I' ∧ (∀ f k i, ¬ f = 50 → I' f k i = M.1 f k i) := by
  have ed : ((a : Int) / 12) = ((a / 12 : Nat) : Int) := by omega
  have em : ((a : Int) % 12) = ((a % 12 : Nat) : Int) := by omega
  have ek : M.1 50 0 (a / 12) = Q 50 (a / 12) := hH.1 _ _ (by unfold perF; omega)
  refine ⟨upI M.1 50 0 (a / 12) (aXor (Q 50 (a / 12)) (aShl 1 ((a % 12 : Nat) : Int))), xX12_turns_0 hS ?_, hH.up (by unfold perF; omega) (by omega), fun f k i hn => by rw [upI_o (fun e => hn e.1)]⟩
  rw [ed, em, Int.toNat_natCast, ek]
  exact ⟨⟨by omega, by omega, by omega⟩, rfl, rfl⟩
/-- two are turned, the letter goes, they are turned back -/
def FndP (x : Int × Int × Int) (I : IM) : Prop := I 3 0 61 = x.1 ∧ I 3 0 62 = x.2.1 ∧ I 3 0 63 = x.2.2
end NT
