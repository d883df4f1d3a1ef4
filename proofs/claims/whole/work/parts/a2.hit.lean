/-! hitting sets: the spec -/
set_option maxRecDepth 4000 in
theorem xX4_clear_0 {l : Launch} {G : Gt} {d : Nat} {M M' : Mem} {r : Option Vl}  (h : 
    r = none ∧ M' = ((upI (upI (upI (upI (upI (upI M.1 11 0 1 0) 11 0 3 0) 11 0 4 0) 11 0 5 0) 11 0 6 10000) 11 0 7 17), M.2.1, M.2.2)) : Cl l G d mX4_clear [vR (some (11, 0))] M r M' := by
  show Ex l G d mX4_clear 0 [some (vR (some (11, 0)))] [] M r M'
  refine r_aload_n 1 dX4_clear_0 rfl rfl ?_
  refine r_iconst 2 dX4_clear_1 rfl (InR_of rfl) ?_
  refine p_I 5 dX4_clear_2 rfl rfl rfl rfl pf_4_18 (.inl rfl) rfl ?_
  refine r_aload_n 6 dX4_clear_5 rfl rfl ?_
  refine r_iconst 7 dX4_clear_6 rfl (InR_of rfl) ?_
  refine p_I 10 dX4_clear_7 rfl rfl rfl rfl pf_4_22 (.inl rfl) rfl ?_
  refine r_aload_n 11 dX4_clear_10 rfl rfl ?_
  refine r_iconst 12 dX4_clear_11 rfl (InR_of rfl) ?_
  refine p_Z 15 dX4_clear_12 rfl rfl rfl rfl pf_4_25 (.inl rfl) rfl (.inl rfl) ?_
  refine r_aload_n 16 dX4_clear_15 rfl rfl ?_
  refine r_iconst 17 dX4_clear_16 rfl (InR_of rfl) ?_
  refine p_I 20 dX4_clear_17 rfl rfl rfl rfl pf_4_29 (.inl rfl) rfl ?_
  refine r_aload_n 21 dX4_clear_20 rfl rfl ?_
  refine r_sipush 24 dX4_clear_21 rfl rfl ?_
  refine p_I 27 dX4_clear_24 rfl rfl rfl rfl pf_4_32 (.inl rfl) rfl ?_
  refine r_aload_n 28 dX4_clear_27 rfl rfl ?_
  refine r_bipush 30 dX4_clear_28 rfl rfl ?_
  refine p_I 33 dX4_clear_30 rfl rfl rfl rfl pf_4_35 (.inl rfl) rfl ?_
  exact r_vret dX4_clear_33 rfl h.1 h.2

set_option maxRecDepth 4000 in
theorem xX4_hardest_0 {l : Launch} {G : Gt} {d : Nat} {M M' : Mem} {r : Option Vl} {x1 : Int} {x2 : Int} (h : 
    Ex l G (d + 1) mX4_hardest 9 [some (vR (some (11, 0))), some (vI x1), some (vI x2), some (vI (-1)), some (vI 17), some (vI 0), none] [] M r M') : Cl l G (d + 1) mX4_hardest [vR (some (11, 0)), vI x1, vI x2] M r M' := by
  show Ex l G (d + 1) mX4_hardest 0 [some (vR (some (11, 0))), some (vI x1), some (vI x2), none, none, none, none] [] M r M'
  refine r_iconst 1 dX4_hardest_0 rfl (InR_of rfl) ?_
  refine r_istore_n (ls' := [some (vR (some (11, 0))), some (vI x1), some (vI x2), some (vI (-1)), none, none, none]) 2 dX4_hardest_1 rfl rfl rfl rfl ?_
  refine r_bipush 4 dX4_hardest_2 rfl rfl ?_
  refine r_istore (ls' := [some (vR (some (11, 0))), some (vI x1), some (vI x2), some (vI (-1)), some (vI 17), none, none]) 6 dX4_hardest_4 rfl rfl rfl rfl ?_
  refine r_iconst 7 dX4_hardest_6 rfl (InR_of rfl) ?_
  refine r_istore (ls' := [some (vR (some (11, 0))), some (vI x1), some (vI x2), some (vI (-1)), some (vI 17), some (vI 0), none]) 9 dX4_hardest_7 rfl rfl rfl rfl ?_
  exact h
set_option maxRecDepth 4000 in
theorem xX4_hardest_9 {l : Launch} {G : Gt} {d : Nat} {M M' : Mem} {r : Option Vl} {x1 : Int} {x2 : Int} {x3 : Int} {x4 : Int} {x5 : Int} (hS : Sh M.2.1) (h : 
    ((M.1 11 0 1) ≤ x5 → r = some (vI x3) ∧ M' = M) ∧ (¬ ((M.1 11 0 1) ≤ x5) → ((0 ≤ x5 ∧ x5 < 512)) ∧ (∃ (r_4 : Int) (M_2 : Mem), Cl l G d mJ6_bitCount_0f7a4 [vI (aAnd (M.1 26 0 x5.toNat) (aXor x2 (-1)))] M (some (vI r_4)) M_2 ∧ Sh M_2.2.1 ∧ ((0 ≤ x5 ∧ x5 < 512)) ∧ (InR (x5 + 1)) ∧ Ex l G (d + 1) mX4_hardest 9 [some (vR (some (11, 0))), some (vI x1), some (vI x2), some (vI (if (aAnd (M_2.1 26 0 x5.toNat) x1) = 0 then (if x4 ≤ r_4 then x3 else x5 : Int) else x3 : Int)), some (vI (if (aAnd (M_2.1 26 0 x5.toNat) x1) = 0 then (if x4 ≤ r_4 then x4 else r_4 : Int) else x4 : Int)), some (vI (x5 + 1)), none] [] M_2 r M'))) : Ex l G (d + 1) mX4_hardest 9 [some (vR (some (11, 0))), some (vI x1), some (vI x2), some (vI x3), some (vI x4), some (vI x5), none] [] M r M' := by
  refine r_iload 11 dX4_hardest_9 rfl rfl ?_
  refine r_aload_n 12 dX4_hardest_11 rfl rfl ?_
  refine g_I 15 dX4_hardest_12 rfl rfl rfl fi_4_18 rfl ?_
  refine r_icmp_ge 18 66 dX4_hardest_15 rfl rfl (fun c => ?_) (fun c => ?_)
  · have h := h.1 (c)
    refine r_iload_n 67 dX4_hardest_66 rfl rfl ?_
    exact r_iret dX4_hardest_67 rfl (.inl rfl) h.1 h.2
  · have h := h.2 (c)
    obtain ⟨o_1, h⟩ := h
    refine r_aload_n 19 dX4_hardest_18 rfl rfl ?_
    refine g_R 22 dX4_hardest_19 rfl rfl rfl fr_4_11 (sh_4_0 hS) ?_
    refine r_iload 24 dX4_hardest_22 rfl rfl ?_
    refine a_I 512 25 dX4_hardest_24 rfl rfl rfl rfl o_1 rfl ?_
    refine r_iload_n 26 dX4_hardest_25 rfl rfl ?_
    refine r_iconst 27 dX4_hardest_26 rfl (InR_of rfl) ?_
    refine r_ixor 28 dX4_hardest_27 rfl ?_
    refine r_iand 29 dX4_hardest_28 rfl ?_
    obtain ⟨r_4, M_2, hc_3, hS, h⟩ := h
    refine c_1 [vI (aAnd (M.1 26 0 x5.toNat) (aXor x2 (-1)))] [] 32 dX4_hardest_29 rfl rfl mo_J6_bitCount_0f7a4 ml_4_38 rfl rfl hc_3 ?_
    obtain ⟨o_5, h⟩ := h
    refine r_istore (ls' := [some (vR (some (11, 0))), some (vI x1), some (vI x2), some (vI x3), some (vI x4), some (vI x5), some (vI r_4)]) 34 dX4_hardest_32 rfl rfl rfl rfl ?_
    refine r_aload_n 35 dX4_hardest_34 rfl rfl ?_
    refine g_R 38 dX4_hardest_35 rfl rfl rfl fr_4_11 (sh_4_0 hS) ?_
    refine r_iload 40 dX4_hardest_38 rfl rfl ?_
    refine a_I 512 41 dX4_hardest_40 rfl rfl rfl rfl o_5 rfl ?_
    refine r_iload_n 42 dX4_hardest_41 rfl rfl ?_
    refine r_iand 43 dX4_hardest_42 rfl ?_
    have hJ_6 : Ex l G (d + 1) mX4_hardest 60 [some (vR (some (11, 0))), some (vI x1), some (vI x2), some (vI (if (aAnd (M_2.1 26 0 x5.toNat) x1) = 0 then (if x4 ≤ r_4 then x3 else x5 : Int) else x3 : Int)), some (vI (if (aAnd (M_2.1 26 0 x5.toNat) x1) = 0 then (if x4 ≤ r_4 then x4 else r_4 : Int) else x4 : Int)), some (vI x5), some (vI r_4)] [] M_2 r M' := by
      obtain ⟨o_9, h⟩ := h
      refine r_iinc (ls' := [some (vR (some (11, 0))), some (vI x1), some (vI x2), some (vI (if (aAnd (M_2.1 26 0 x5.toNat) x1) = 0 then (if x4 ≤ r_4 then x3 else x5 : Int) else x3 : Int)), some (vI (if (aAnd (M_2.1 26 0 x5.toNat) x1) = 0 then (if x4 ≤ r_4 then x4 else r_4 : Int) else x4 : Int)), some (vI (x5 + 1)), some (vI r_4)]) 63 dX4_hardest_60 rfl rfl rfl rfl o_9 rfl ?_
      refine r_goto 9 dX4_hardest_63 rfl ?_
      exact Ex.weak h ⟨rfl, rfl, rfl, rfl, rfl, rfl, trivial⟩
    refine r_if_ne 46 60 dX4_hardest_43 rfl rfl (fun c => ?_) (fun c => ?_)
    · have c_7 := c
      exact (Ex.at hJ_6 (show [some (vR (some (11, 0))), some (vI x1), some (vI x2), some (vI x3), some (vI x4), some (vI x5), some (vI r_4)] = [some (vR (some (11, 0))), some (vI x1), some (vI x2), some (vI (if (aAnd (M_2.1 26 0 x5.toNat) x1) = 0 then (if x4 ≤ r_4 then x3 else x5 : Int) else x3 : Int)), some (vI (if (aAnd (M_2.1 26 0 x5.toNat) x1) = 0 then (if x4 ≤ r_4 then x4 else r_4 : Int) else x4 : Int)), some (vI x5), some (vI r_4)] by simp only [if_neg c_7]) rfl rfl)
    · have c_7 := Decidable.not_not.mp c
      refine r_iload 48 dX4_hardest_46 rfl rfl ?_
      refine r_iload 50 dX4_hardest_48 rfl rfl ?_
      refine r_icmp_ge 53 60 dX4_hardest_50 rfl rfl (fun c => ?_) (fun c => ?_)
      · have c_8 := c
        exact (Ex.at hJ_6 (show [some (vR (some (11, 0))), some (vI x1), some (vI x2), some (vI x3), some (vI x4), some (vI x5), some (vI r_4)] = [some (vR (some (11, 0))), some (vI x1), some (vI x2), some (vI (if (aAnd (M_2.1 26 0 x5.toNat) x1) = 0 then (if x4 ≤ r_4 then x3 else x5 : Int) else x3 : Int)), some (vI (if (aAnd (M_2.1 26 0 x5.toNat) x1) = 0 then (if x4 ≤ r_4 then x4 else r_4 : Int) else x4 : Int)), some (vI x5), some (vI r_4)] by simp only [if_pos c_7, if_pos c_8]) rfl rfl)
      · have c_8 := c
        refine r_iload 55 dX4_hardest_53 rfl rfl ?_
        refine r_istore_n (ls' := [some (vR (some (11, 0))), some (vI x1), some (vI x2), some (vI x5), some (vI x4), some (vI x5), some (vI r_4)]) 56 dX4_hardest_55 rfl rfl rfl rfl ?_
        refine r_iload 58 dX4_hardest_56 rfl rfl ?_
        refine r_istore (ls' := [some (vR (some (11, 0))), some (vI x1), some (vI x2), some (vI x5), some (vI r_4), some (vI x5), some (vI r_4)]) 60 dX4_hardest_58 rfl rfl rfl rfl ?_
        exact (Ex.at hJ_6 (show [some (vR (some (11, 0))), some (vI x1), some (vI x2), some (vI x5), some (vI r_4), some (vI x5), some (vI r_4)] = [some (vR (some (11, 0))), some (vI x1), some (vI x2), some (vI (if (aAnd (M_2.1 26 0 x5.toNat) x1) = 0 then (if x4 ≤ r_4 then x3 else x5 : Int) else x3 : Int)), some (vI (if (aAnd (M_2.1 26 0 x5.toNat) x1) = 0 then (if x4 ≤ r_4 then x4 else r_4 : Int) else x4 : Int)), some (vI x5), some (vI r_4)] by simp only [if_pos c_7, if_neg c_8]) rfl rfl)

set_option maxRecDepth 4000 in
theorem xX4_keepIfBetter_0 {l : Launch} {G : Gt} {d : Nat} {M M' : Mem} {r : Option Vl} {x1 : Int} {x2 : Int} {x3 : Int} (h : 
    ((if x2 = (M.1 11 0 6) then (if x3 < (M.1 11 0 7) then 1 else (if x3 = (M.1 11 0 7) then (if (M.1 11 0 5) ≤ x1 then 0 else 1 : Int) else 0 : Int) : Int) else (if (M.1 11 0 6) ≤ x2 then 0 else 1 : Int) : Int) = 0 → r = none ∧ M' = M) ∧ (¬ ((if x2 = (M.1 11 0 6) then (if x3 < (M.1 11 0 7) then 1 else (if x3 = (M.1 11 0 7) then (if (M.1 11 0 5) ≤ x1 then 0 else 1 : Int) else 0 : Int) : Int) else (if (M.1 11 0 6) ≤ x2 then 0 else 1 : Int) : Int) = 0) → r = none ∧ M' = ((upI (upI (upI M.1 11 0 5 x1) 11 0 6 x2) 11 0 7 x3), M.2.1, M.2.2))) : Cl l G d mX4_keepIfBetter [vR (some (11, 0)), vI x1, vI x2, vI x3] M r M' := by
  show Ex l G d mX4_keepIfBetter 0 [some (vR (some (11, 0))), some (vI x1), some (vI x2), some (vI x3), none] [] M r M'
  refine r_iload_n 1 dX4_keepIfBetter_0 rfl rfl ?_
  refine r_aload_n 2 dX4_keepIfBetter_1 rfl rfl ?_
  refine g_I 5 dX4_keepIfBetter_2 rfl rfl rfl fi_4_32 rfl ?_
  have hJ_1 : Ex l G d mX4_keepIfBetter 13 [some (vR (some (11, 0))), some (vI x1), some (vI x2), some (vI x3), none] [vI (if (M.1 11 0 6) ≤ x2 then 0 else 1 : Int)] M r M' := by
    refine r_istore (ls' := [some (vR (some (11, 0))), some (vI x1), some (vI x2), some (vI x3), some (vI (if (M.1 11 0 6) ≤ x2 then 0 else 1 : Int))]) 15 dX4_keepIfBetter_13 rfl rfl rfl rfl ?_
    refine r_iload_n 16 dX4_keepIfBetter_15 rfl rfl ?_
    refine r_aload_n 17 dX4_keepIfBetter_16 rfl rfl ?_
    refine g_I 20 dX4_keepIfBetter_17 rfl rfl rfl fi_4_32 rfl ?_
    have hJ_3 : Ex l G d mX4_keepIfBetter 54 [some (vR (some (11, 0))), some (vI x1), some (vI x2), some (vI x3), some (vI (if x2 = (M.1 11 0 6) then (if x3 < (M.1 11 0 7) then 1 else (if x3 = (M.1 11 0 7) then (if (M.1 11 0 5) ≤ x1 then 0 else 1 : Int) else 0 : Int) : Int) else (if (M.1 11 0 6) ≤ x2 then 0 else 1 : Int) : Int))] [] M r M' := by
      refine r_iload 56 dX4_keepIfBetter_54 rfl rfl ?_
      refine r_if_eq 59 74 dX4_keepIfBetter_56 rfl rfl (fun c => ?_) (fun c => ?_)
      · have h := h.1 (c)
        exact r_vret dX4_keepIfBetter_74 rfl h.1 h.2
      · have h := h.2 (c)
        refine r_aload_n 60 dX4_keepIfBetter_59 rfl rfl ?_
        refine r_iload_n 61 dX4_keepIfBetter_60 rfl rfl ?_
        refine p_I 64 dX4_keepIfBetter_61 rfl rfl rfl rfl pf_4_29 (.inl rfl) rfl ?_
        refine r_aload_n 65 dX4_keepIfBetter_64 rfl rfl ?_
        refine r_iload_n 66 dX4_keepIfBetter_65 rfl rfl ?_
        refine p_I 69 dX4_keepIfBetter_66 rfl rfl rfl rfl pf_4_32 (.inl rfl) rfl ?_
        refine r_aload_n 70 dX4_keepIfBetter_69 rfl rfl ?_
        refine r_iload_n 71 dX4_keepIfBetter_70 rfl rfl ?_
        refine p_I 74 dX4_keepIfBetter_71 rfl rfl rfl rfl pf_4_35 (.inl rfl) rfl ?_
        exact r_vret dX4_keepIfBetter_74 rfl h.1 h.2
    refine r_icmp_ne 23 54 dX4_keepIfBetter_20 rfl rfl (fun c => ?_) (fun c => ?_)
    · have c_4 := c
      exact (Ex.at hJ_3 (show [some (vR (some (11, 0))), some (vI x1), some (vI x2), some (vI x3), some (vI (if (M.1 11 0 6) ≤ x2 then 0 else 1 : Int))] = [some (vR (some (11, 0))), some (vI x1), some (vI x2), some (vI x3), some (vI (if x2 = (M.1 11 0 6) then (if x3 < (M.1 11 0 7) then 1 else (if x3 = (M.1 11 0 7) then (if (M.1 11 0 5) ≤ x1 then 0 else 1 : Int) else 0 : Int) : Int) else (if (M.1 11 0 6) ≤ x2 then 0 else 1 : Int) : Int))] by simp only [if_neg c_4]) rfl rfl)
    · have c_4 := Decidable.not_not.mp c
      refine r_iload_n 24 dX4_keepIfBetter_23 rfl rfl ?_
      refine r_aload_n 25 dX4_keepIfBetter_24 rfl rfl ?_
      refine g_I 28 dX4_keepIfBetter_25 rfl rfl rfl fi_4_35 rfl ?_
      refine r_icmp_lt 31 47 dX4_keepIfBetter_28 rfl rfl (fun c => ?_) (fun c => ?_)
      · have c_5 := c
        refine r_iconst 48 dX4_keepIfBetter_47 rfl (InR_of rfl) ?_
        refine r_goto 52 dX4_keepIfBetter_48 rfl ?_
        refine r_istore (ls' := [some (vR (some (11, 0))), some (vI x1), some (vI x2), some (vI x3), some (vI 1)]) 54 dX4_keepIfBetter_52 rfl rfl rfl rfl ?_
        exact (Ex.at hJ_3 (show [some (vR (some (11, 0))), some (vI x1), some (vI x2), some (vI x3), some (vI 1)] = [some (vR (some (11, 0))), some (vI x1), some (vI x2), some (vI x3), some (vI (if x2 = (M.1 11 0 6) then (if x3 < (M.1 11 0 7) then 1 else (if x3 = (M.1 11 0 7) then (if (M.1 11 0 5) ≤ x1 then 0 else 1 : Int) else 0 : Int) : Int) else (if (M.1 11 0 6) ≤ x2 then 0 else 1 : Int) : Int))] by simp only [if_pos c_4, if_pos c_5]) rfl rfl)
      · have c_5 := c
        refine r_iload_n 32 dX4_keepIfBetter_31 rfl rfl ?_
        refine r_aload_n 33 dX4_keepIfBetter_32 rfl rfl ?_
        refine g_I 36 dX4_keepIfBetter_33 rfl rfl rfl fi_4_35 rfl ?_
        refine r_icmp_ne 39 51 dX4_keepIfBetter_36 rfl rfl (fun c => ?_) (fun c => ?_)
        · have c_6 := c
          refine r_iconst 52 dX4_keepIfBetter_51 rfl (InR_of rfl) ?_
          refine r_istore (ls' := [some (vR (some (11, 0))), some (vI x1), some (vI x2), some (vI x3), some (vI 0)]) 54 dX4_keepIfBetter_52 rfl rfl rfl rfl ?_
          exact (Ex.at hJ_3 (show [some (vR (some (11, 0))), some (vI x1), some (vI x2), some (vI x3), some (vI 0)] = [some (vR (some (11, 0))), some (vI x1), some (vI x2), some (vI x3), some (vI (if x2 = (M.1 11 0 6) then (if x3 < (M.1 11 0 7) then 1 else (if x3 = (M.1 11 0 7) then (if (M.1 11 0 5) ≤ x1 then 0 else 1 : Int) else 0 : Int) : Int) else (if (M.1 11 0 6) ≤ x2 then 0 else 1 : Int) : Int))] by simp only [if_pos c_4, if_neg c_5, if_neg c_6]) rfl rfl)
        · have c_6 := Decidable.not_not.mp c
          refine r_iload_n 40 dX4_keepIfBetter_39 rfl rfl ?_
          refine r_aload_n 41 dX4_keepIfBetter_40 rfl rfl ?_
          refine g_I 44 dX4_keepIfBetter_41 rfl rfl rfl fi_4_29 rfl ?_
          refine r_icmp_ge 47 51 dX4_keepIfBetter_44 rfl rfl (fun c => ?_) (fun c => ?_)
          · have c_7 := c
            refine r_iconst 52 dX4_keepIfBetter_51 rfl (InR_of rfl) ?_
            refine r_istore (ls' := [some (vR (some (11, 0))), some (vI x1), some (vI x2), some (vI x3), some (vI 0)]) 54 dX4_keepIfBetter_52 rfl rfl rfl rfl ?_
            exact (Ex.at hJ_3 (show [some (vR (some (11, 0))), some (vI x1), some (vI x2), some (vI x3), some (vI 0)] = [some (vR (some (11, 0))), some (vI x1), some (vI x2), some (vI x3), some (vI (if x2 = (M.1 11 0 6) then (if x3 < (M.1 11 0 7) then 1 else (if x3 = (M.1 11 0 7) then (if (M.1 11 0 5) ≤ x1 then 0 else 1 : Int) else 0 : Int) : Int) else (if (M.1 11 0 6) ≤ x2 then 0 else 1 : Int) : Int))] by simp only [if_pos c_4, if_neg c_5, if_pos c_6, if_pos c_7]) rfl rfl)
          · have c_7 := c
            refine r_iconst 48 dX4_keepIfBetter_47 rfl (InR_of rfl) ?_
            refine r_goto 52 dX4_keepIfBetter_48 rfl ?_
            refine r_istore (ls' := [some (vR (some (11, 0))), some (vI x1), some (vI x2), some (vI x3), some (vI 1)]) 54 dX4_keepIfBetter_52 rfl rfl rfl rfl ?_
            exact (Ex.at hJ_3 (show [some (vR (some (11, 0))), some (vI x1), some (vI x2), some (vI x3), some (vI 1)] = [some (vR (some (11, 0))), some (vI x1), some (vI x2), some (vI x3), some (vI (if x2 = (M.1 11 0 6) then (if x3 < (M.1 11 0 7) then 1 else (if x3 = (M.1 11 0 7) then (if (M.1 11 0 5) ≤ x1 then 0 else 1 : Int) else 0 : Int) : Int) else (if (M.1 11 0 6) ≤ x2 then 0 else 1 : Int) : Int))] by simp only [if_pos c_4, if_neg c_5, if_pos c_6, if_neg c_7]) rfl rfl)
  refine r_icmp_ge 8 12 dX4_keepIfBetter_5 rfl rfl (fun c => ?_) (fun c => ?_)
  · have c_2 := c
    refine r_iconst 13 dX4_keepIfBetter_12 rfl (InR_of rfl) ?_
    exact (Ex.at hJ_1 rfl (show [vI 0] = [vI (if (M.1 11 0 6) ≤ x2 then 0 else 1 : Int)] by simp only [if_pos c_2]) rfl)
  · have c_2 := c
    refine r_iconst 9 dX4_keepIfBetter_8 rfl (InR_of rfl) ?_
    refine r_goto 13 dX4_keepIfBetter_9 rfl ?_
    exact (Ex.at hJ_1 rfl (show [vI 1] = [vI (if (M.1 11 0 6) ≤ x2 then 0 else 1 : Int)] by simp only [if_neg c_2]) rfl)

set_option maxRecDepth 4000 in
theorem xX4_search_0 {l : Launch} {G : Gt} {d : Nat} {M M' : Mem} {r : Option Vl} {x1 : Int} {x2 : Int} {x3 : Int} {x4 : Int} (h : 
    ∃ (r_3 : Int) (M_1 : Mem), Cl l G d mX4_hardest [vR (some (11, 0)), vI x1, vI x2] M (some (vI r_3)) M_1 ∧ Sh M_1.2.1 ∧ ((¬ (r_3 = (-1)) → (16 ≤ x4 → r = none ∧ M' = M_1) ∧ (¬ (16 ≤ x4) → ((M_1.1 11 0 6) < x3 → r = none ∧ M' = M_1) ∧ (¬ ((M_1.1 11 0 6) < x3) → (¬ (x3 = (M_1.1 11 0 6)) → ((0 ≤ r_3 ∧ r_3 < 512)) ∧ Ex l G (d + 1) mX4_search 75 [some (vR (some (11, 0))), some (vI x1), some (vI x2), some (vI x3), some (vI x4), some (vI r_3), some (vI (aAnd (M_1.1 26 0 r_3.toNat) (aXor x2 (-1)))), some (vI x2), some (vI 0)] [] M_1 r M') ∧ (x3 = (M_1.1 11 0 6) → (x4 < (M_1.1 11 0 7) → ((0 ≤ r_3 ∧ r_3 < 512)) ∧ Ex l G (d + 1) mX4_search 75 [some (vR (some (11, 0))), some (vI x1), some (vI x2), some (vI x3), some (vI x4), some (vI r_3), some (vI (aAnd (M_1.1 26 0 r_3.toNat) (aXor x2 (-1)))), some (vI x2), some (vI 0)] [] M_1 r M') ∧ (¬ (x4 < (M_1.1 11 0 7)) → r = none ∧ M' = M_1))))) ∧ (r_3 = (-1) → ∃ (M_6 : Mem), Cl l G d mX4_keepIfBetter [vR (some (11, 0)), vI x1, vI x3, vI x4] M_1 none M_6 ∧ r = none ∧ M' = M_6))) : Cl l G (d + 1) mX4_search [vR (some (11, 0)), vI x1, vI x2, vI x3, vI x4] M r M' := by
  show Ex l G (d + 1) mX4_search 0 [some (vR (some (11, 0))), some (vI x1), some (vI x2), some (vI x3), some (vI x4), none, none, none, none] [] M r M'
  refine r_aload_n 1 dX4_search_0 rfl rfl ?_
  refine r_iload_n 2 dX4_search_1 rfl rfl ?_
  refine r_iload_n 3 dX4_search_2 rfl rfl ?_
  obtain ⟨r_3, M_1, hc_2, hS, h⟩ := h
  refine v_1 (ci := 4) (C := (RX4, TX4, 8)) [vI x1, vI x2] [] 6 dX4_search_3 rfl rfl rfl rfl rfl mo_X4_hardest ml_4_48 rfl rfl hc_2 ?_
  refine r_istore (ls' := [some (vR (some (11, 0))), some (vI x1), some (vI x2), some (vI x3), some (vI x4), some (vI r_3), none, none, none]) 8 dX4_search_6 rfl rfl rfl rfl ?_
  refine r_iload 10 dX4_search_8 rfl rfl ?_
  refine r_iconst 11 dX4_search_10 rfl (InR_of rfl) ?_
  refine r_icmp_ne 14 23 dX4_search_11 rfl rfl (fun c => ?_) (fun c => ?_)
  · have h := h.1 (c)
    refine r_iload 25 dX4_search_23 rfl rfl ?_
    refine r_bipush 27 dX4_search_25 rfl rfl ?_
    refine r_icmp_ge 30 55 dX4_search_27 rfl rfl (fun c => ?_) (fun c => ?_)
    · have h := h.1 (c)
      exact r_vret dX4_search_55 rfl h.1 h.2
    · have h := h.2 (c)
      refine r_iload_n 31 dX4_search_30 rfl rfl ?_
      refine r_aload_n 32 dX4_search_31 rfl rfl ?_
      refine g_I 35 dX4_search_32 rfl rfl rfl fi_4_32 rfl ?_
      refine r_icmp_gt 38 55 dX4_search_35 rfl rfl (fun c => ?_) (fun c => ?_)
      · have h := h.1 (c)
        exact r_vret dX4_search_55 rfl h.1 h.2
      · have h := h.2 (c)
        refine r_iload_n 39 dX4_search_38 rfl rfl ?_
        refine r_aload_n 40 dX4_search_39 rfl rfl ?_
        refine g_I 43 dX4_search_40 rfl rfl rfl fi_4_32 rfl ?_
        refine r_icmp_ne 46 56 dX4_search_43 rfl rfl (fun c => ?_) (fun c => ?_)
        · have h := h.1 (c)
          obtain ⟨o_4, h⟩ := h
          refine r_aload_n 57 dX4_search_56 rfl rfl ?_
          refine g_R 60 dX4_search_57 rfl rfl rfl fr_4_11 (sh_4_0 hS) ?_
          refine r_iload 62 dX4_search_60 rfl rfl ?_
          refine a_I 512 63 dX4_search_62 rfl rfl rfl rfl o_4 rfl ?_
          refine r_iload_n 64 dX4_search_63 rfl rfl ?_
          refine r_iconst 65 dX4_search_64 rfl (InR_of rfl) ?_
          refine r_ixor 66 dX4_search_65 rfl ?_
          refine r_iand 67 dX4_search_66 rfl ?_
          refine r_istore (ls' := [some (vR (some (11, 0))), some (vI x1), some (vI x2), some (vI x3), some (vI x4), some (vI r_3), some (vI (aAnd (M_1.1 26 0 r_3.toNat) (aXor x2 (-1)))), none, none]) 69 dX4_search_67 rfl rfl rfl rfl ?_
          refine r_iload_n 70 dX4_search_69 rfl rfl ?_
          refine r_istore (ls' := [some (vR (some (11, 0))), some (vI x1), some (vI x2), some (vI x3), some (vI x4), some (vI r_3), some (vI (aAnd (M_1.1 26 0 r_3.toNat) (aXor x2 (-1)))), some (vI x2), none]) 72 dX4_search_70 rfl rfl rfl rfl ?_
          refine r_iconst 73 dX4_search_72 rfl (InR_of rfl) ?_
          refine r_istore (ls' := [some (vR (some (11, 0))), some (vI x1), some (vI x2), some (vI x3), some (vI x4), some (vI r_3), some (vI (aAnd (M_1.1 26 0 r_3.toNat) (aXor x2 (-1)))), some (vI x2), some (vI 0)]) 75 dX4_search_73 rfl rfl rfl rfl ?_
          exact h
        · have h := h.2 (Decidable.not_not.mp c)
          refine r_iload 48 dX4_search_46 rfl rfl ?_
          refine r_aload_n 49 dX4_search_48 rfl rfl ?_
          refine g_I 52 dX4_search_49 rfl rfl rfl fi_4_35 rfl ?_
          refine r_icmp_lt 55 56 dX4_search_52 rfl rfl (fun c => ?_) (fun c => ?_)
          · have h := h.1 (c)
            obtain ⟨o_5, h⟩ := h
            refine r_aload_n 57 dX4_search_56 rfl rfl ?_
            refine g_R 60 dX4_search_57 rfl rfl rfl fr_4_11 (sh_4_0 hS) ?_
            refine r_iload 62 dX4_search_60 rfl rfl ?_
            refine a_I 512 63 dX4_search_62 rfl rfl rfl rfl o_5 rfl ?_
            refine r_iload_n 64 dX4_search_63 rfl rfl ?_
            refine r_iconst 65 dX4_search_64 rfl (InR_of rfl) ?_
            refine r_ixor 66 dX4_search_65 rfl ?_
            refine r_iand 67 dX4_search_66 rfl ?_
            refine r_istore (ls' := [some (vR (some (11, 0))), some (vI x1), some (vI x2), some (vI x3), some (vI x4), some (vI r_3), some (vI (aAnd (M_1.1 26 0 r_3.toNat) (aXor x2 (-1)))), none, none]) 69 dX4_search_67 rfl rfl rfl rfl ?_
            refine r_iload_n 70 dX4_search_69 rfl rfl ?_
            refine r_istore (ls' := [some (vR (some (11, 0))), some (vI x1), some (vI x2), some (vI x3), some (vI x4), some (vI r_3), some (vI (aAnd (M_1.1 26 0 r_3.toNat) (aXor x2 (-1)))), some (vI x2), none]) 72 dX4_search_70 rfl rfl rfl rfl ?_
            refine r_iconst 73 dX4_search_72 rfl (InR_of rfl) ?_
            refine r_istore (ls' := [some (vR (some (11, 0))), some (vI x1), some (vI x2), some (vI x3), some (vI x4), some (vI r_3), some (vI (aAnd (M_1.1 26 0 r_3.toNat) (aXor x2 (-1)))), some (vI x2), some (vI 0)]) 75 dX4_search_73 rfl rfl rfl rfl ?_
            exact h
          · have h := h.2 (c)
            exact r_vret dX4_search_55 rfl h.1 h.2
  · have h := h.2 (Decidable.not_not.mp c)
    refine r_aload_n 15 dX4_search_14 rfl rfl ?_
    refine r_iload_n 16 dX4_search_15 rfl rfl ?_
    refine r_iload_n 17 dX4_search_16 rfl rfl ?_
    refine r_iload 19 dX4_search_17 rfl rfl ?_
    obtain ⟨M_6, hc_7, h⟩ := h
    refine v_0 (ci := 4) (C := (RX4, TX4, 8)) [vI x1, vI x3, vI x4] [] 22 dX4_search_19 rfl rfl rfl rfl rfl mo_X4_keepIfBetter ml_4_52 rfl rfl hc_7 ?_
    exact r_vret dX4_search_22 rfl h.1 h.2
set_option maxRecDepth 4000 in
theorem xX4_search_75 {l : Launch} {G : Gt} {d : Nat} {M M' : Mem} {r : Option Vl} {x1 : Int} {x2 : Int} {x3 : Int} {x4 : Int} {x5 : Int} {x6 : Int} {x7 : Int} {x8 : Int} (hS : Sh M.2.1) (h : 
    (16 ≤ x8 → r = none ∧ M' = M) ∧ (¬ (16 ≤ x8) → ((0 ≤ x6 ∧ 0 ≤ x8 ∧ x8 < 32)) ∧ ((¬ (tb x6 x8 = true) → (InR (x8 + 1)) ∧ Ex l G (d + 1) mX4_search 75 [some (vR (some (11, 0))), some (vI x1), some (vI x2), some (vI x3), some (vI x4), some (vI x5), some (vI x6), some (vI x7), some (vI (x8 + 1))] [] M r M') ∧ (tb x6 x8 = true → ((0 ≤ x8 ∧ x8 < 32) ∧ (0 ≤ x8 ∧ x8 < 16) ∧ InR (x3 + (M.1 27 0 x8.toNat)) ∧ InR (x4 + 1)) ∧ (∃ (M_7 : Mem), Cl l G d mX4_search [vR (some (11, 0)), vI (aOr x1 (aShl 1 x8)), vI x7, vI (x3 + (M.1 27 0 x8.toNat)), vI (x4 + 1)] M none M_7 ∧ ((0 ≤ x8 ∧ x8 < 32) ∧ InR (x8 + 1)) ∧ Ex l G (d + 1) mX4_search 75 [some (vR (some (11, 0))), some (vI x1), some (vI x2), some (vI x3), some (vI x4), some (vI x5), some (vI x6), some (vI (aOr x7 (aShl 1 x8))), some (vI (x8 + 1))] [] M_7 r M'))))) : Ex l G (d + 1) mX4_search 75 [some (vR (some (11, 0))), some (vI x1), some (vI x2), some (vI x3), some (vI x4), some (vI x5), some (vI x6), some (vI x7), some (vI x8)] [] M r M' := by
  refine r_iload 77 dX4_search_75 rfl rfl ?_
  refine r_bipush 79 dX4_search_77 rfl rfl ?_
  refine r_icmp_ge 82 132 dX4_search_79 rfl rfl (fun c => ?_) (fun c => ?_)
  · have h := h.1 (c)
    exact r_vret dX4_search_132 rfl h.1 h.2
  · have h := h.2 (c)
    obtain ⟨o_1, h⟩ := h
    refine r_iload 84 dX4_search_82 rfl rfl ?_
    refine r_iload 86 dX4_search_84 rfl rfl ?_
    refine n_1 [vI x6, vI x8] [] 89 dX4_search_86 rfl rfl mo_X11_hasBit ml_4_56 rfl rfl (KX11_hasBit o_1) ?_
    refine r_if_eq 92 126 dX4_search_89 rfl rfl (fun c => ?_) (fun c => ?_)
    · have h := h.1 (b2_0.mp c)
      obtain ⟨o_2, h⟩ := h
      refine r_iinc (ls' := [some (vR (some (11, 0))), some (vI x1), some (vI x2), some (vI x3), some (vI x4), some (vI x5), some (vI x6), some (vI x7), some (vI (x8 + 1))]) 129 dX4_search_126 rfl rfl rfl rfl o_2 rfl ?_
      refine r_goto 75 dX4_search_129 rfl ?_
      exact h
    · have h := h.2 (b2_1.mp c)
      obtain ⟨⟨o_3, o_4, o_5, o_6⟩, h⟩ := h
      refine r_aload_n 93 dX4_search_92 rfl rfl ?_
      refine r_iload_n 94 dX4_search_93 rfl rfl ?_
      refine r_iconst 95 dX4_search_94 rfl (InR_of rfl) ?_
      refine r_iload 97 dX4_search_95 rfl rfl ?_
      refine r_ishl 98 dX4_search_97 rfl o_3 ?_
      refine r_ior 99 dX4_search_98 rfl ?_
      refine r_iload 101 dX4_search_99 rfl rfl ?_
      refine r_iload_n 102 dX4_search_101 rfl rfl ?_
      refine r_aload_n 103 dX4_search_102 rfl rfl ?_
      refine g_R 106 dX4_search_103 rfl rfl rfl fr_4_15 (sh_4_2 hS) ?_
      refine r_iload 108 dX4_search_106 rfl rfl ?_
      refine a_I 16 109 dX4_search_108 rfl rfl rfl rfl o_4 rfl ?_
      refine r_iadd 110 dX4_search_109 rfl o_5 ?_
      refine r_iload 112 dX4_search_110 rfl rfl ?_
      refine r_iconst 113 dX4_search_112 rfl (InR_of rfl) ?_
      refine r_iadd 114 dX4_search_113 rfl o_6 ?_
      obtain ⟨M_7, hc_8, h⟩ := h
      refine v_0 (ci := 4) (C := (RX4, TX4, 8)) [vI (aOr x1 (aShl 1 x8)), vI x7, vI (x3 + (M.1 27 0 x8.toNat)), vI (x4 + 1)] [] 117 dX4_search_114 rfl rfl rfl rfl rfl mo_X4_search ml_4_44 rfl rfl hc_8 ?_
      obtain ⟨⟨o_9, o_10⟩, h⟩ := h
      refine r_iload 119 dX4_search_117 rfl rfl ?_
      refine r_iconst 120 dX4_search_119 rfl (InR_of rfl) ?_
      refine r_iload 122 dX4_search_120 rfl rfl ?_
      refine r_ishl 123 dX4_search_122 rfl o_9 ?_
      refine r_ior 124 dX4_search_123 rfl ?_
      refine r_istore (ls' := [some (vR (some (11, 0))), some (vI x1), some (vI x2), some (vI x3), some (vI x4), some (vI x5), some (vI x6), some (vI (aOr x7 (aShl 1 x8))), some (vI x8)]) 126 dX4_search_124 rfl rfl rfl rfl ?_
      refine r_iinc (ls' := [some (vR (some (11, 0))), some (vI x1), some (vI x2), some (vI x3), some (vI x4), some (vI x5), some (vI x6), some (vI (aOr x7 (aShl 1 x8))), some (vI (x8 + 1))]) 129 dX4_search_126 rfl rfl rfl rfl o_10 rfl ?_
      refine r_goto 75 dX4_search_129 rfl ?_
      exact h

set_option maxRecDepth 4000 in
theorem xX4_solve_0 {l : Launch} {G : Gt} {d : Nat} {M M' : Mem} {r : Option Vl}  (h : 
    ∃ (M_1 : Mem), Cl l G d mX4_search [vR (some (11, 0)), vI 0, vI 0, vI 0, vI 0] M none M_1 ∧ r = none ∧ M' = M_1) : Cl l G (d + 1) mX4_solve [vR (some (11, 0))] M r M' := by
  show Ex l G (d + 1) mX4_solve 0 [some (vR (some (11, 0)))] [] M r M'
  refine r_aload_n 1 dX4_solve_0 rfl rfl ?_
  refine r_iconst 2 dX4_solve_1 rfl (InR_of rfl) ?_
  refine r_iconst 3 dX4_solve_2 rfl (InR_of rfl) ?_
  refine r_iconst 4 dX4_solve_3 rfl (InR_of rfl) ?_
  refine r_iconst 5 dX4_solve_4 rfl (InR_of rfl) ?_
  obtain ⟨M_1, hc_2, h⟩ := h
  refine v_0 (ci := 4) (C := (RX4, TX4, 8)) [vI 0, vI 0, vI 0, vI 0] [] 8 dX4_solve_5 rfl rfl rfl rfl rfl mo_X4_search ml_4_44 rfl rfl hc_2 ?_
  exact r_vret dX4_solve_8 rfl h.1 h.2

def prc (w : Nat → Int) (f : Nat → Bool) : Nat → Int
  | 0 => 0
  | n + 1 => prc w f n + (if f n = true then w n else 0)
def leL (w : Nat → Int) (f g : Nat → Bool) : Prop := prc w f 16 < prc w g 16 ∨ (prc w f 16 = prc w g 16 ∧ (cnt f 16 < cnt g 16 ∨ (cnt f 16 = cnt g 16 ∧ bI 16 f ≤ bI 16 g)))
def HitS (F : (Nat → Bool) → Prop) (g : Nat → Bool) : Prop := ∀ u, F u → ∃ k, k < 16 ∧ u k = true ∧ g k = true
def BstS (w : Nat → Int) (F : (Nat → Bool) → Prop) (f : Nat → Bool) : Prop := HitS F f ∧ ∀ g, HitS F g → leL w f g
theorem prc_ext {w : Nat → Int} {f g : Nat → Bool} : ∀ {n : Nat}, (∀ i, i < n → f i = g i) → prc w f n = prc w g n := by
  intro n
  induction n with
  | zero => intro _; rfl
  | succ n ih => intro h; unfold prc; rw [ih (fun i hi => h i (by omega)), h n (by omega)]
theorem prc_mono {w : Nat → Int} {f g : Nat → Bool} : ∀ {n : Nat}, (∀ i, i < n → 0 ≤ w i) → (∀ i, i < n → f i = true → g i = true) → prc w f n ≤ prc w g n := by
  intro n
  induction n with
  | zero => intro _ _; exact Int.le_refl _
  | succ n ih =>
    intro h0 h
    have h1 := ih (fun i hi => h0 i (by omega)) (fun i hi => h i (by omega))
    have h2 := h n (by omega)
    have h3 := h0 n (by omega)
    unfold prc
    by_cases e : f n = true
    · rw [if_pos e, if_pos (h2 e)]; omega
    · rw [if_neg e]
      split <;> omega
theorem prc_in {w : Nat → Int} {f : Nat → Bool} : ∀ {n : Nat}, (∀ i, i < n → 0 ≤ w i ∧ w i ≤ 198) → 0 ≤ prc w f n ∧ prc w f n ≤ 198 * (n : Int) := by
  intro n
  induction n with
  | zero => intro _; exact ⟨Int.le_refl _, by unfold prc; omega⟩
  | succ n ih =>
    intro h
    have h1 := ih (fun i hi => h i (by omega))
    have h2 := h n (by omega)
    unfold prc
    split <;> omega
theorem prc_add {w : Nat → Int} {f : Nat → Bool} {v : Nat} (hf : f v = false) : ∀ {n : Nat}, prc w (fun i => f i || decide (i = v)) n = prc w f n + (if v < n then w v else 0) := by
  intro n
  induction n with
  | zero => unfold prc; rw [if_neg (by omega)]; rfl
  | succ n ih =>
    unfold prc
    rw [ih]
    by_cases e : n = v
    · subst e
      rw [if_neg (show ¬ n < n by omega), if_pos (show n < n + 1 by omega), hf]
      simp
    · by_cases c : v < n
      · rw [if_pos c, if_pos (show v < n + 1 by omega)]
        simp only [e, decide_false, Bool.or_false]
        omega
      · rw [if_neg c, if_neg (show ¬ v < n + 1 by omega)]
        simp only [e, decide_false, Bool.or_false]
        omega
theorem cnt_add {f : Nat → Bool} {v : Nat} (hf : f v = false) : ∀ {n : Nat}, cnt (fun i => f i || decide (i = v)) n = cnt f n + (if v < n then 1 else 0) := by
  intro n
  induction n with
  | zero => unfold cnt; rw [if_neg (by omega)]
  | succ n ih =>
    unfold cnt
    rw [ih]
    by_cases e : n = v
    · subst e
      rw [if_neg (show ¬ n < n by omega), if_pos (show n < n + 1 by omega), hf]
      simp
    · by_cases c : v < n
      · rw [if_pos c, if_pos (show v < n + 1 by omega)]
        simp only [e, decide_false, Bool.or_false]
        omega
      · rw [if_neg c, if_neg (show ¬ v < n + 1 by omega)]
        simp only [e, decide_false, Bool.or_false]
        omega
theorem bI_inj {n : Nat} {f g : Nat → Bool} (hn : n ≤ 31) (h : bI n f = bI n g) : ∀ i, i < n → f i = g i := fun i hi => by
  have e1 := tb_bI hn f i
  have e2 := tb_bI hn g i
  rw [h, e2] at e1
  simpa [hi] using e1.symm
theorem leL_ext {w : Nat → Int} {f g f' g' : Nat → Bool} (h1 : ∀ i, i < 16 → f i = f' i) (h2 : ∀ i, i < 16 → g i = g' i) (h : leL w f g) : leL w f' g' := by
  unfold leL at *
  rw [← prc_ext h1, ← prc_ext h2, ← cnt_ext h1, ← cnt_ext h2, ← bI_ext h1, ← bI_ext h2]
  exact h
theorem sub_leL {w : Nat → Int} {f g : Nat → Bool} (hw : ∀ i, i < 16 → 0 ≤ w i) (h : ∀ i, i < 16 → f i = true → g i = true) : leL w f g := by
  have h1 := prc_mono hw h
  by_cases ex : ∃ j, j < 16 ∧ g j = true ∧ f j = false
  · obtain ⟨j, hj, g1, g2⟩ := ex
    have := cnt_lt h hj g1 g2
    unfold leL
    omega
  · have e : ∀ i, i < 16 → f i = g i := fun i hi => by
      cases e1 : f i with
      | true => exact (h i hi e1).symm
      | false =>
        cases e2 : g i with
        | false => rfl
        | true => exact absurd ⟨i, hi, e2, e1⟩ ex
    unfold leL
    rw [prc_ext e, cnt_ext e, bI_ext e]
    omega
theorem leL_as {w : Nat → Int} {f g : Nat → Bool} (h1 : leL w f g) (h2 : leL w g f) : prc w f 16 = prc w g 16 ∧ ∀ i, i < 16 → f i = g i := by
  unfold leL at *
  exact ⟨by omega, bI_inj (by omega) (by omega)⟩
theorem BstS_u {w : Nat → Int} {F : (Nat → Bool) → Prop} {f g : Nat → Bool} (h1 : BstS w F f) (h2 : BstS w F g) : prc w f 16 = prc w g 16 ∧ ∀ i, i < 16 → f i = g i := leL_as (h1.2 g h2.1) (h2.2 f h1.1)
/-! the search -/
def subS (u v : Nat → Bool) : Prop := ∀ k, k < 16 → u k = true → v k = true
def hitU (u g : Nat → Bool) : Prop := ∃ k, k < 16 ∧ u k = true ∧ g k = true
def HsI (I : IM) (m : Nat) (U : Nat → Nat → Bool) : Prop := I 11 0 1 = (m : Int) ∧ m ≤ 512 ∧ (∀ i, i < m → I 26 0 i = bI 16 (U i)) ∧ ∀ i j, i < m → j < m → i ≠ j → ¬ subS (U i) (U j)
def HmU (m : Nat) (U : Nat → Nat → Bool) (g : Nat → Bool) : Prop := ∀ i, i < m → hitU (U i) g
def leB (w : Nat → Int) (I : IM) (g : Nat → Bool) : Prop := I 11 0 6 < prc w g 16 ∨ (I 11 0 6 = prc w g 16 ∧ (I 11 0 7 < (cnt g 16 : Int) ∨ (I 11 0 7 = (cnt g 16 : Int) ∧ I 11 0 5 ≤ bI 16 g)))
def BsI (w : Nat → Int) (H : (Nat → Bool) → Prop) (I : IM) : Prop := (I 11 0 6 = 10000 ∧ I 11 0 7 = 17 ∧ I 11 0 5 = 0) ∨ ∃ f, H f ∧ I 11 0 5 = bI 16 f ∧ I 11 0 6 = prc w f 16 ∧ I 11 0 7 = (cnt f 16 : Int)
def PrI (w : Nat → Int) (I : IM) : Prop := ∀ k, k < 16 → I 27 0 k = w k ∧ 0 ≤ w k ∧ w k ≤ 198
def frH (I I' : IM) : Prop := ∀ f k i, ¬ (f = 11 ∧ k = 0 ∧ (i = 5 ∨ i = 6 ∨ i = 7)) → I' f k i = I f k i
theorem frH.rf {I : IM} : frH I I := fun _ _ _ _ => rfl
theorem frH.tr {I I' I'' : IM} (h : frH I I') (h' : frH I' I'') : frH I I'' := fun f k i hn => (h' f k i hn).trans (h f k i hn)
theorem HsI.fr {I I' : IM} {m : Nat} {U : Nat → Nat → Bool} (h : HsI I m U) (hf : frH I I') : HsI I' m U := ⟨by rw [hf _ _ _ (by omega)]; exact h.1, h.2.1, fun i hi => by rw [hf _ _ _ (by omega)]; exact h.2.2.1 i hi, h.2.2.2⟩
theorem PrI.fr {w : Nat → Int} {I I' : IM} (h : PrI w I) (hf : frH I I') : PrI w I' := fun k hk => by rw [hf _ _ _ (by omega)]; exact h k hk
theorem hit_and {u c : Nat → Bool} : aAnd (bI 16 u) (bI 16 c) = 0 ↔ ¬ hitU u c := by
  rw [bI_and (by omega), bI_zero_iff (by omega)]
  constructor
  · rintro h ⟨k, hk, a, b⟩
    have := h k hk
    rw [a, b] at this
    cases this
  · intro h i hi
    cases e1 : u i with
    | false => rfl
    | true =>
      cases e2 : c i with
      | false => rfl
      | true => exact absurd ⟨i, hi, e1, e2⟩ h
section HS
variable {l : Launch} {G : Gt} {d : Nat} {M : Mem}
theorem KX4_hardest {m : Nat} {U : Nat → Nat → Bool} {c b : Nat → Bool} (hS : Sh M.2.1) (hH : HsI M.1 m U) : ∃ r : Int, Cl l G (d + 1) mX4_hardest [vR (some (11, 0)), vI (bI 16 c), vI (bI 16 b)] M (some (vI r)) M ∧ ((r = -1 ∧ HmU m U c) ∨ ∃ j, j < m ∧ r = (j : Int) ∧ ¬ hitU (U j) c) := by
  have hm := hH.2.1
  have key : ∀ n i : Nat, n + i = m → ∀ x3 x4 : Int, ((x3 = -1 ∧ x4 = 17 ∧ ∀ i', i' < i → hitU (U i') c) ∨ ∃ j, j < i ∧ x3 = (j : Int) ∧ ¬ hitU (U j) c) → ∃ r : Int, Ex l G (d + 1) mX4_hardest 9 [some (vR (some (11, 0))), some (vI (bI 16 c)), some (vI (bI 16 b)), some (vI x3), some (vI x4), some (vI (i : Int)), none] [] M (some (vI r)) M ∧ ((r = -1 ∧ HmU m U c) ∨ ∃ j, j < m ∧ r = (j : Int) ∧ ¬ hitU (U j) c) := by
    intro n
    induction n with
    | zero =>
      intro i hi x3 x4 h
      have ei : i = m := by omega
      subst ei
      refine ⟨x3, xX4_hardest_9 hS ⟨fun _ => ⟨rfl, rfl⟩, fun c => absurd (by rw [hH.1]; omega) c⟩, ?_⟩
      rcases h with ⟨a, _, c⟩ | h
      · exact .inl ⟨a, c⟩
      · exact .inr h
    | succ n ih =>
      intro i hi x3 x4 h
      have es : M.1 26 0 (i : Int).toNat = bI 16 (U i) := by rw [Int.toNat_natCast]; exact hH.2.2.1 i (by omega)
      have kb := KJ6_bits (l := l) (G := G) (d := d) (M := M) (n := 16) (f := fun k => U i k && !b k) (by omega)
      have hc16 := cnt_le (fun k => U i k && !b k) 16
      have go : ∀ x3' x4' : Int, x3' = (if (aAnd (bI 16 (U i)) (bI 16 c)) = 0 then (if x4 ≤ (cnt (fun k => U i k && !b k) 16 : Int) then x3 else (i : Int) : Int) else x3 : Int) → x4' = (if (aAnd (bI 16 (U i)) (bI 16 c)) = 0 then (if x4 ≤ (cnt (fun k => U i k && !b k) 16 : Int) then x4 else (cnt (fun k => U i k && !b k) 16 : Int) : Int) else x4 : Int) → ((x3' = -1 ∧ x4' = 17 ∧ ∀ i', i' < i + 1 → hitU (U i') c) ∨ ∃ j, j < i + 1 ∧ x3' = (j : Int) ∧ ¬ hitU (U j) c) → ∃ r : Int, Ex l G (d + 1) mX4_hardest 9 [some (vR (some (11, 0))), some (vI (bI 16 c)), some (vI (bI 16 b)), some (vI x3), some (vI x4), some (vI (i : Int)), none] [] M (some (vI r)) M ∧ ((r = -1 ∧ HmU m U c) ∨ ∃ j, j < m ∧ r = (j : Int) ∧ ¬ hitU (U j) c) := by
        intro x3' x4' e3 e4 hinv
        obtain ⟨r, y1, y2⟩ := ih (i + 1) (by omega) x3' x4' hinv
        refine ⟨r, xX4_hardest_9 hS ?_, y2⟩
        rw [hH.1, es, bI_diff (by omega)]
        refine ⟨fun c => by omega, fun _ => ⟨by omega, _, M, kb, hS, by omega, by unfold InR; omega, ?_⟩⟩
        rw [es, ← e3, ← e4]
        exact y1
      refine go _ _ rfl rfl ?_
      by_cases ch : hitU (U i) c
      · have hz : ¬ aAnd (bI 16 (U i)) (bI 16 c) = 0 := fun e => hit_and.mp e ch
        rw [if_neg hz, if_neg hz]
        rcases h with ⟨a, b', c'⟩ | ⟨j, a, b', c'⟩
        · refine .inl ⟨a, b', fun i' hi' => ?_⟩
          by_cases e : i' = i
          · rw [e]; exact ch
          · exact c' i' (by omega)
        · exact .inr ⟨j, by omega, b', c'⟩
      · have hz : aAnd (bI 16 (U i)) (bI 16 c) = 0 := hit_and.mpr ch
        rw [if_pos hz, if_pos hz]
        refine .inr ?_
        rcases h with ⟨a, b', c'⟩ | ⟨j, a, b', c'⟩
        · rw [if_neg (by omega)]
          exact ⟨i, by omega, rfl, ch⟩
        · by_cases e : x4 ≤ (cnt (fun k => U i k && !b k) 16 : Int)
          · rw [if_pos e]; exact ⟨j, by omega, b', c'⟩
          · rw [if_neg e]; exact ⟨i, by omega, rfl, ch⟩
  obtain ⟨r, y1, y2⟩ := key m 0 (by omega) (-1) 17 (.inl ⟨rfl, rfl, fun i' hi' => by omega⟩)
  exact ⟨r, xX4_hardest_0 y1, y2⟩
theorem KX4_keepIfBetter {w : Nat → Int} {H : (Nat → Bool) → Prop} {c : Nat → Bool} (hB : BsI w H M.1) (hc : H c) : ∃ I', Cl l G d mX4_keepIfBetter [vR (some (11, 0)), vI (bI 16 c), vI (prc w c 16), vI (cnt c 16 : Int)] M none (I', M.2.1, M.2.2) ∧ frH M.1 I' ∧ BsI w H I' ∧ (∀ g, leB w M.1 g → leB w I' g) ∧ leB w I' c := by
  by_cases cz : (if prc w c 16 = (M.1 11 0 6) then (if (cnt c 16 : Int) < (M.1 11 0 7) then 1 else (if (cnt c 16 : Int) = (M.1 11 0 7) then (if (M.1 11 0 5) ≤ bI 16 c then 0 else 1 : Int) else 0 : Int) : Int) else (if (M.1 11 0 6) ≤ prc w c 16 then 0 else 1 : Int) : Int) = 0
  · refine ⟨M.1, xX4_keepIfBetter_0 ⟨fun _ => ⟨rfl, rfl⟩, fun n => absurd cz n⟩, frH.rf, hB, fun g h => h, ?_⟩
    unfold leB
    by_cases c1 : prc w c 16 = (M.1 11 0 6)
    · rw [if_pos c1] at cz
      by_cases c2 : (cnt c 16 : Int) < (M.1 11 0 7)
      · rw [if_pos c2] at cz; omega
      · rw [if_neg c2] at cz
        by_cases c3 : (cnt c 16 : Int) = (M.1 11 0 7)
        · rw [if_pos c3] at cz
          by_cases c4 : (M.1 11 0 5) ≤ bI 16 c
          · omega
          · rw [if_neg c4] at cz; omega
        · omega
    · rw [if_neg c1] at cz
      by_cases c2 : (M.1 11 0 6) ≤ prc w c 16
      · omega
      · rw [if_neg c2] at cz; omega
  · have lt : prc w c 16 < M.1 11 0 6 ∨ (prc w c 16 = M.1 11 0 6 ∧ ((cnt c 16 : Int) < M.1 11 0 7 ∨ ((cnt c 16 : Int) = M.1 11 0 7 ∧ bI 16 c < M.1 11 0 5))) := by
      by_cases c1 : prc w c 16 = (M.1 11 0 6)
      · rw [if_pos c1] at cz
        by_cases c2 : (cnt c 16 : Int) < (M.1 11 0 7)
        · omega
        · rw [if_neg c2] at cz
          by_cases c3 : (cnt c 16 : Int) = (M.1 11 0 7)
          · rw [if_pos c3] at cz
            by_cases c4 : (M.1 11 0 5) ≤ bI 16 c
            · rw [if_pos c4] at cz; exact absurd rfl cz
            · omega
          · rw [if_neg c3] at cz; exact absurd rfl cz
      · rw [if_neg c1] at cz
        by_cases c2 : (M.1 11 0 6) ≤ prc w c 16
        · rw [if_pos c2] at cz; exact absurd rfl cz
        · omega
    have e5 : upI (upI (upI M.1 11 0 5 (bI 16 c)) 11 0 6 (prc w c 16)) 11 0 7 (cnt c 16 : Int) 11 0 5 = bI 16 c := by rw [upI_i (by omega), upI_i (by omega), upI_s]
    have e6 : upI (upI (upI M.1 11 0 5 (bI 16 c)) 11 0 6 (prc w c 16)) 11 0 7 (cnt c 16 : Int) 11 0 6 = prc w c 16 := by rw [upI_i (by omega), upI_s]
    have e7 : upI (upI (upI M.1 11 0 5 (bI 16 c)) 11 0 6 (prc w c 16)) 11 0 7 (cnt c 16 : Int) 11 0 7 = (cnt c 16 : Int) := upI_s
    refine ⟨upI (upI (upI M.1 11 0 5 (bI 16 c)) 11 0 6 (prc w c 16)) 11 0 7 (cnt c 16 : Int), xX4_keepIfBetter_0 ⟨fun n => absurd n cz, fun _ => ⟨rfl, rfl⟩⟩, fun f k i hn => ?_, .inr ⟨c, hc, e5, e6, e7⟩, fun g h => ?_, ?_⟩
    · by_cases e : f = 11 ∧ k = 0
      · obtain ⟨rfl, rfl⟩ := e
        rw [upI_i (by omega), upI_i (by omega), upI_i (by omega)]
      · rw [upI_o e, upI_o e, upI_o e]
    · unfold leB at h ⊢
      rw [e5, e6, e7]
      omega
    · unfold leB
      rw [e5, e6, e7]
      omega
theorem KX4_search {m : Nat} {U : Nat → Nat → Bool} {w : Nat → Int} : ∀ n : Nat, ∀ (M : Mem) (c b : Nat → Bool), Sh M.2.1 → HsI M.1 m U → PrI w M.1 → BsI w (HmU m U) M.1 → cnt c 16 + n = 16 → ∃ I', Cl l G (d + 2 + n) mX4_search [vR (some (11, 0)), vI (bI 16 c), vI (bI 16 b), vI (prc w c 16), vI (cnt c 16 : Int)] M none (I', M.2.1, M.2.2) ∧ frH M.1 I' ∧ BsI w (HmU m U) I' ∧ (∀ g, leB w M.1 g → leB w I' g) ∧ ∀ e, HmU m U e → subS c e → (∀ k, k < 16 → b k = true → e k = false) → leB w I' e := by
  intro n
  induction n with
  | zero =>
    intro M c b hS hH hP hB hn
    have h16 := cnt_full (p := c) (n := 16) (by omega)
    obtain ⟨r, k1, k2⟩ := KX4_hardest (l := l) (G := G) (d := d) (c := c) (b := b) hS hH
    rcases k2 with ⟨rfl, k2⟩ | ⟨j, hj, rfl, k2⟩
    · obtain ⟨I', q1, q2, q3, q4, q5⟩ := KX4_keepIfBetter (l := l) (G := G) (d := d + 1) (M := M) hB k2
      refine ⟨I', xX4_search_0 ⟨-1, M, k1, hS, fun c => absurd rfl c, fun _ => ⟨_, q1, rfl, rfl⟩⟩, q2, q3, q4, fun e he hs _ => ?_⟩
      have := sub_leL (w := w) (fun i hi => (hP i hi).2.1) hs
      unfold leL at this
      unfold leB at q5 ⊢
      omega
    · refine ⟨M.1, xX4_search_0 ⟨(j : Int), M, k1, hS, fun _ => ⟨fun _ => ⟨rfl, rfl⟩, fun c => absurd (by omega) c⟩, fun c => by omega⟩, frH.rf, hB, fun g h => h, fun e he hs _ => ?_⟩
      obtain ⟨k, hk, a1, a2⟩ := he j hj
      exact absurd ⟨k, hk, a1, h16 k hk⟩ k2
  | succ n ih =>
    intro M c b hS hH hP hB hn
    have pin := prc_in (w := w) (f := c) (n := 16) (fun i hi => (hP i hi).2)
    obtain ⟨r, k1, k2⟩ := KX4_hardest (l := l) (G := G) (d := d + n + 1) (c := c) (b := b) hS hH
    rcases k2 with ⟨rfl, k2⟩ | ⟨j, hj, rfl, k2⟩
    · obtain ⟨I', q1, q2, q3, q4, q5⟩ := KX4_keepIfBetter (l := l) (G := G) (d := d + n + 2) (M := M) hB k2
      have hx := xX4_search_0 (l := l) (G := G) (d := d + n + 2) (M := M) (M' := (I', M.2.1, M.2.2)) (r := none) (x2 := bI 16 b) ⟨-1, M, k1, hS, fun c => absurd rfl c, fun _ => ⟨_, q1, rfl, rfl⟩⟩
      refine ⟨I', by rw [show d + 2 + (n + 1) = d + n + 2 + 1 by omega]; exact hx, q2, q3, q4, fun e he hs _ => ?_⟩
      have := sub_leL (w := w) (fun i hi => (hP i hi).2.1) hs
      unfold leL at this
      unfold leB at q5 ⊢
      omega
    · have hjm := hH.2.1
      have es : M.1 26 0 (j : Int).toNat = bI 16 (U j) := by rw [Int.toNat_natCast]; exact hH.2.2.1 j hj
      have more : ∀ e, HmU m U e → subS c e → prc w c 16 ≤ prc w e 16 ∧ cnt c 16 + 1 ≤ cnt e 16 := fun e he hs => by
        obtain ⟨k, hk, a1, a2⟩ := he j hj
        refine ⟨prc_mono (fun i hi => (hP i hi).2.1) hs, cnt_lt hs hk a2 ?_⟩
        cases e1 : c k with
        | false => rfl
        | true => exact absurd ⟨k, hk, a1, e1⟩ k2
      have loop : ∀ q v : Nat, q + v = 16 → ∀ I, frH M.1 I → BsI w (HmU m U) I → (∀ g, leB w M.1 g → leB w I g) → (∀ e, HmU m U e → subS c e → (∀ k, k < 16 → b k = true → e k = false) → leB w I e ∨ ∀ k, k < v → (U j k && !b k) = true → e k = false) → ∃ I', Ex l G (d + n + 3) mX4_search 75 [some (vR (some (11, 0))), some (vI (bI 16 c)), some (vI (bI 16 b)), some (vI (prc w c 16)), some (vI (cnt c 16 : Int)), some (vI (j : Int)), some (vI (bI 16 (fun k => U j k && !b k))), some (vI (bI 16 (fun k => b k || (decide (k < v) && (U j k && !b k))))), some (vI (v : Int))] [] (I, M.2.1, M.2.2) none (I', M.2.1, M.2.2) ∧ frH M.1 I' ∧ BsI w (HmU m U) I' ∧ (∀ g, leB w M.1 g → leB w I' g) ∧ ∀ e, HmU m U e → subS c e → (∀ k, k < 16 → b k = true → e k = false) → leB w I' e := by
        intro q
        induction q with
        | zero =>
          intro v hv I hf hB' hmo hall
          have ev : v = 16 := by omega
          subst ev
          refine ⟨I, xX4_search_75 hS ⟨fun _ => ⟨rfl, rfl⟩, fun c => absurd (by omega) c⟩, hf, hB', hmo, fun e he hs hb => ?_⟩
          rcases hall e he hs hb with h | h
          · exact h
          · obtain ⟨k, hk, a1, a2⟩ := he j hj
            have hbk : b k = false := by
              cases e1 : b k with
              | false => rfl
              | true => rw [hb k hk e1] at a2; cases a2
            have := h k hk (by rw [a1, hbk]; rfl)
            rw [this] at a2
            cases a2
        | succ q ihq =>
          intro v hv I hf hB' hmo hall
          have tv : tb (bI 16 (fun k => U j k && !b k)) (v : Int) = (U j v && !b v) := by rw [tb_bI (by omega)]; simp [show v < 16 by omega]
          have nn : 0 ≤ bI 16 (fun k => U j k && !b k) := bI_nn
          cases eo : (U j v && !b v) with
          | false =>
            obtain ⟨I', y1, y2⟩ := ihq (v + 1) (by omega) I hf hB' hmo (fun e he hs hb => (hall e he hs hb).elim .inl fun h => .inr fun k hk ho => by
              by_cases e1 : k = v
              · rw [e1, eo] at ho; cases ho
              · exact h k (by omega) ho)
            have e7 : bI 16 (fun k => b k || (decide (k < v + 1) && (U j k && !b k))) = bI 16 (fun k => b k || (decide (k < v) && (U j k && !b k))) := bI_ext fun i hi => by
              by_cases e1 : i = v
              · subst e1; rw [eo]; simp
              · by_cases c1 : i < v
                · simp [c1, show i < v + 1 by omega]
                · simp [c1, show ¬ i < v + 1 by omega]
            rw [e7] at y1
            refine ⟨I', xX4_search_75 hS ⟨fun c => by omega, fun _ => ⟨⟨nn, by omega, by omega⟩, fun _ => ⟨by unfold InR; omega, y1⟩, fun c => by rw [tv, eo] at c; cases c⟩⟩, y2⟩
          | true =>
            have hU : U j v = true := by
              cases e1 : U j v with
              | true => rfl
              | false => rw [e1] at eo; cases eo
            have hcv : c v = false := by
              cases e1 : c v with
              | false => rfl
              | true => exact absurd ⟨v, by omega, hU, e1⟩ k2
            have hPI := hP.fr hf
            have hpv := (hPI v (by omega)).1
            have hpv2 := (hPI v (by omega)).2
            have ec : aOr (bI 16 c) (aShl 1 (v : Int)) = bI 16 (fun i => c i || decide (i = v)) := by rw [bI_one (n := 16) (by omega) (by omega), bI_or (by omega)]
            have ecn : cnt (fun i => c i || decide (i = v)) 16 = cnt c 16 + 1 := by rw [cnt_add hcv, if_pos (by omega)]
            have epr : prc w (fun i => c i || decide (i = v)) 16 = prc w c 16 + w v := by rw [prc_add hcv, if_pos (by omega)]
            obtain ⟨I2, s1, s2, s3, s4, s5⟩ := ih (I, M.2.1, M.2.2) (fun i => c i || decide (i = v)) (fun k => b k || (decide (k < v) && (U j k && !b k))) hS (hH.fr hf) hPI hB' (by omega)
            rw [← ec, epr, ecn, show d + 2 + n = d + n + 2 by omega, show ((cnt c 16 + 1 : Nat) : Int) = (cnt c 16 : Int) + 1 by omega] at s1
            dsimp only at s2 s4
            obtain ⟨I', y1, y2⟩ := ihq (v + 1) (by omega) I2 (hf.tr s2) s3 (fun g h => s4 g (hmo g h)) (fun e he hs hb => by
              rcases hall e he hs hb with h | h
              · exact .inl (s4 e h)
              · cases e1 : e v with
                | true =>
                  refine .inl (s5 e he (fun k hk hck => ?_) (fun k hk hbk => ?_))
                  · rw [Bool.or_eq_true] at hck
                    rcases hck with hck | hck
                    · exact hs k hk hck
                    · rw [of_decide_eq_true hck]; exact e1
                  · rw [Bool.or_eq_true] at hbk
                    rcases hbk with hbk | hbk
                    · exact hb k hk hbk
                    · rw [Bool.and_eq_true] at hbk
                      exact h k (of_decide_eq_true hbk.1) hbk.2
                | false =>
                  refine .inr fun k hk ho => ?_
                  by_cases e2 : k = v
                  · rw [e2]; exact e1
                  · exact h k (by omega) ho)
            have e7 : aOr (bI 16 (fun k => b k || (decide (k < v) && (U j k && !b k)))) (aShl 1 (v : Int)) = bI 16 (fun k => b k || (decide (k < v + 1) && (U j k && !b k))) := by
              rw [bI_one (n := 16) (by omega) (by omega), bI_or (by omega)]
              refine bI_ext fun i hi => ?_
              by_cases e1 : i = v
              · subst e1; rw [eo]; simp
              · by_cases c1 : i < v
                · simp [c1, show i < v + 1 by omega, e1]
                · simp [c1, show ¬ i < v + 1 by omega, e1]
            rw [← e7] at y1
            have epv : I 27 0 (v : Int).toNat = w v := by rw [Int.toNat_natCast]; exact hpv
            refine ⟨I', xX4_search_75 hS ?_, y2⟩
            dsimp only
            rw [epv]
            exact ⟨fun c => by omega, fun _ => ⟨⟨nn, by omega, by omega⟩, fun c => absurd (by rw [tv]; exact eo) c, fun _ => ⟨⟨by omega, by omega, by unfold InR; omega, by unfold InR; omega⟩, _, s1, ⟨by omega, by unfold InR; omega⟩, y1⟩⟩⟩
      have fin : ∀ I', Cl l G (d + n + 3) mX4_search [vR (some (11, 0)), vI (bI 16 c), vI (bI 16 b), vI (prc w c 16), vI (cnt c 16 : Int)] M none (I', M.2.1, M.2.2) → Cl l G (d + 2 + (n + 1)) mX4_search [vR (some (11, 0)), vI (bI 16 c), vI (bI 16 b), vI (prc w c 16), vI (cnt c 16 : Int)] M none (I', M.2.1, M.2.2) := fun I' h => by rw [show d + 2 + (n + 1) = d + n + 3 by omega]; exact h
      obtain ⟨I', y1, y2⟩ := loop 16 0 rfl M.1 frH.rf hB (fun g h => h) (fun e he hs hb => .inr fun k hk => by omega)
      have e7 : bI 16 (fun k => b k || (decide (k < 0) && (U j k && !b k))) = bI 16 b := bI_ext fun i hi => by simp
      rw [e7] at y1
      have e6 : aAnd (M.1 26 0 (j : Int).toNat) (aXor (bI 16 b) (-1)) = bI 16 (fun k => U j k && !b k) := by rw [es, bI_diff (by omega)]
      have stop : (∀ e, HmU m U e → subS c e → leB w M.1 e) → (Cl l G (d + n + 3) mX4_search [vR (some (11, 0)), vI (bI 16 c), vI (bI 16 b), vI (prc w c 16), vI (cnt c 16 : Int)] M none (M.1, M.2.1, M.2.2)) → ∃ I', Cl l G (d + 2 + (n + 1)) mX4_search [vR (some (11, 0)), vI (bI 16 c), vI (bI 16 b), vI (prc w c 16), vI (cnt c 16 : Int)] M none (I', M.2.1, M.2.2) ∧ frH M.1 I' ∧ BsI w (HmU m U) I' ∧ (∀ g, leB w M.1 g → leB w I' g) ∧ ∀ e, HmU m U e → subS c e → (∀ k, k < 16 → b k = true → e k = false) → leB w I' e := fun h hx => ⟨M.1, fin _ hx, frH.rf, hB, fun g h => h, fun e he hs _ => h e he hs⟩
      by_cases c1 : M.1 11 0 6 < prc w c 16
      · refine stop (fun e he hs => ?_) (xX4_search_0 ⟨(j : Int), M, k1, hS, fun _ => ⟨fun c => by omega, fun _ => ⟨fun _ => ⟨rfl, rfl⟩, fun c => absurd c1 c⟩⟩, fun c => by omega⟩)
        have := (more e he hs).1
        unfold leB
        omega
      · by_cases c2 : prc w c 16 = M.1 11 0 6
        · by_cases c3 : (cnt c 16 : Int) < M.1 11 0 7
          · refine ⟨I', fin _ (xX4_search_0 ⟨(j : Int), M, k1, hS, fun _ => ⟨fun c => by omega, fun _ => ⟨fun c => absurd c c1, fun _ => ⟨fun c => absurd c2 c, fun _ => ⟨fun _ => ⟨by omega, ?_⟩, fun c => absurd c3 c⟩⟩⟩⟩, fun c => by omega⟩), y2⟩
            rw [e6]
            exact y1
          · refine stop (fun e he hs => ?_) (xX4_search_0 ⟨(j : Int), M, k1, hS, fun _ => ⟨fun c => by omega, fun _ => ⟨fun c => absurd c c1, fun _ => ⟨fun c => absurd c2 c, fun _ => ⟨fun c => absurd c c3, fun _ => ⟨rfl, rfl⟩⟩⟩⟩⟩, fun c => by omega⟩)
            have := more e he hs
            unfold leB
            omega
        · refine ⟨I', fin _ (xX4_search_0 ⟨(j : Int), M, k1, hS, fun _ => ⟨fun c => by omega, fun _ => ⟨fun c => absurd c c1, fun _ => ⟨fun _ => ⟨by omega, ?_⟩, fun c => absurd c c2⟩⟩⟩, fun c => by omega⟩), y2⟩
          rw [e6]
          exact y1
/-- the best of all sets that hit -/
theorem KX4_solve {m : Nat} {U : Nat → Nat → Bool} {w : Nat → Int} {F : (Nat → Bool) → Prop} (hS : Sh M.2.1) (hH : HsI M.1 m U) (hP : PrI w M.1) (hB : M.1 11 0 6 = 10000 ∧ M.1 11 0 7 = 17 ∧ M.1 11 0 5 = 0) (hF : ∀ g, HitS F g ↔ HmU m U g) (hex : ∃ g, HitS F g) : ∃ I' f, Cl l G (d + 19) mX4_solve [vR (some (11, 0))] M none (I', M.2.1, M.2.2) ∧ frH M.1 I' ∧ BstS w F f ∧ I' 11 0 5 = bI 16 f ∧ I' 11 0 6 = prc w f 16 := by
  have c0 : cnt (fun _ => false) 16 = 0 := rfl
  have p0 : prc w (fun _ => false) 16 = 0 := rfl
  obtain ⟨I', s1, s2, s3, s4, s5⟩ := KX4_search (l := l) (G := G) (d := d) (m := m) (U := U) (w := w) 16 M (fun _ => false) (fun _ => false) hS hH hP (.inl hB) (by rw [c0])
  rw [c0, p0, bI_false] at s1
  have all : ∀ e, HmU m U e → leB w I' e := fun e he => s5 e he (fun k _ h => by cases h) (fun k _ h => by cases h)
  obtain ⟨g0, hg0⟩ := hex
  rcases s3 with h | ⟨f, hf, e5, e6, e7⟩
  · have := all g0 ((hF g0).mp hg0)
    have pin := prc_in (w := w) (f := g0) (n := 16) (fun i hi => (hP i hi).2)
    unfold leB at this
    omega
  · refine ⟨I', f, xX4_solve_0 ⟨_, s1, rfl, rfl⟩, s2, ⟨(hF f).mpr hf, fun g hg => ?_⟩, e5, e6⟩
    have := all g ((hF g).mp hg)
    unfold leB at this
    unfold leL
    omega
end HS
