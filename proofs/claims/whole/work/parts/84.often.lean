/-! a new row in the class; often -/
set_option maxRecDepth 4000 in
theorem xX12_often_0 {l : Launch} {G : Gt} {d : Nat} {M M' : Mem} {r : Option Vl}  (h : 
    Ex l G d mX12_often 7 [some (vR (some (3, 0))), some (vI (-2)), some (vI 0), some (vI 0), none, none] [] M r M') : Cl l G d mX12_often [vR (some (3, 0))] M r M' := by
  show Ex l G d mX12_often 0 [some (vR (some (3, 0))), none, none, none, none, none] [] M r M'
  refine r_bipush 2 dX12_often_0 rfl rfl ?_
  refine r_istore_n (ls' := [some (vR (some (3, 0))), some (vI (-2)), none, none, none, none]) 3 dX12_often_2 rfl rfl rfl rfl ?_
  refine r_iconst 4 dX12_often_3 rfl (InR_of rfl) ?_
  refine r_istore_n (ls' := [some (vR (some (3, 0))), some (vI (-2)), some (vI 0), none, none, none]) 5 dX12_often_4 rfl rfl rfl rfl ?_
  refine r_iconst 6 dX12_often_5 rfl (InR_of rfl) ?_
  refine r_istore_n (ls' := [some (vR (some (3, 0))), some (vI (-2)), some (vI 0), some (vI 0), none, none]) 7 dX12_often_6 rfl rfl rfl rfl ?_
  exact h
set_option maxRecDepth 4000 in
theorem xX12_often_7 {l : Launch} {G : Gt} {d : Nat} {M M' : Mem} {r : Option Vl} {x1 : Int} {x2 : Int} {x3 : Int} (hS : Sh M.2.1) (h : 
    ((M.1 48 0 0) ≤ x3 → r = some (vI x1) ∧ M' = M) ∧ (¬ ((M.1 48 0 0) ≤ x3) → Ex l G d mX12_often 23 [some (vR (some (3, 0))), some (vI x1), some (vI x2), some (vI x3), some (vI 0), some (vI 0)] [] M r M')) : Ex l G d mX12_often 7 [some (vR (some (3, 0))), some (vI x1), some (vI x2), some (vI x3), none, none] [] M r M' := by
  refine r_iload_n 8 dX12_often_7 rfl rfl ?_
  refine r_aload_n 9 dX12_often_8 rfl rfl ?_
  refine g_R 12 dX12_often_9 rfl rfl rfl fr_12_7 (sh_12_1 hS) ?_
  refine r_iconst 13 dX12_often_12 rfl (InR_of rfl) ?_
  refine a_I 6 14 dX12_often_13 rfl rfl rfl rfl ⟨by decide, by decide⟩ rfl ?_
  refine r_icmp_ge 17 103 dX12_often_14 rfl rfl (fun c => ?_) (fun c => ?_)
  · have h := h.1 (c)
    refine r_iload_n 104 dX12_often_103 rfl rfl ?_
    exact r_iret dX12_often_104 rfl (.inl rfl) h.1 h.2
  · have h := h.2 (c)
    refine r_iconst 18 dX12_often_17 rfl (InR_of rfl) ?_
    refine r_istore (ls' := [some (vR (some (3, 0))), some (vI x1), some (vI x2), some (vI x3), some (vI 0), none]) 20 dX12_often_18 rfl rfl rfl rfl ?_
    refine r_iconst 21 dX12_often_20 rfl (InR_of rfl) ?_
    refine r_istore (ls' := [some (vR (some (3, 0))), some (vI x1), some (vI x2), some (vI x3), some (vI 0), some (vI 0)]) 23 dX12_often_21 rfl rfl rfl rfl ?_
    exact h
set_option maxRecDepth 4000 in
theorem xX12_often_23 {l : Launch} {G : Gt} {d : Nat} {M M' : Mem} {r : Option Vl} {x1 : Int} {x2 : Int} {x3 : Int} {x4 : Int} {x5 : Int} (hS : Sh M.2.1) (h : 
    ((M.1 48 0 3) ≤ x5 → (InR (x3 + 1)) ∧ Ex l G d mX12_often 7 [some (vR (some (3, 0))), some (vI (if x4 ≤ x2 then x1 else x3 : Int)), some (vI (if x4 ≤ x2 then x2 else x4 : Int)), some (vI (x3 + 1)), none, none] [] M r M') ∧ (¬ ((M.1 48 0 3) ≤ x5) → ((0 ≤ x5 ∧ x5 < 8)) ∧ ((((M.1 66 0 x5.toNat) = 1 → ((0 ≤ x5 ∧ x5 < 8)))) ∧ (InR (x4 + (if (M.1 66 0 x5.toNat) = 1 then (if (M.1 69 0 x5.toNat) = x3 then 1 else 0 : Int) else 0 : Int)) ∧ InR (x5 + 1)) ∧ Ex l G d mX12_often 23 [some (vR (some (3, 0))), some (vI x1), some (vI x2), some (vI x3), some (vI (x4 + (if (M.1 66 0 x5.toNat) = 1 then (if (M.1 69 0 x5.toNat) = x3 then 1 else 0 : Int) else 0 : Int))), some (vI (x5 + 1))] [] M r M'))) : Ex l G d mX12_often 23 [some (vR (some (3, 0))), some (vI x1), some (vI x2), some (vI x3), some (vI x4), some (vI x5)] [] M r M' := by
  refine r_iload 25 dX12_often_23 rfl rfl ?_
  refine r_aload_n 26 dX12_often_25 rfl rfl ?_
  refine g_R 29 dX12_often_26 rfl rfl rfl fr_12_7 (sh_12_1 hS) ?_
  refine r_iconst 30 dX12_often_29 rfl (InR_of rfl) ?_
  refine a_I 6 31 dX12_often_30 rfl rfl rfl rfl ⟨by decide, by decide⟩ rfl ?_
  refine r_icmp_ge 34 72 dX12_often_31 rfl rfl (fun c => ?_) (fun c => ?_)
  · have h := h.1 (c)
    refine r_iload 74 dX12_often_72 rfl rfl ?_
    refine r_iload_n 75 dX12_often_74 rfl rfl ?_
    have hJ_1 : Ex l G d mX12_often 83 [some (vR (some (3, 0))), some (vI x1), some (vI x2), some (vI x3), some (vI x4), some (vI x5)] [vI (if x4 ≤ x2 then x1 else x3 : Int)] M r M' := by
      refine r_istore_n (ls' := [some (vR (some (3, 0))), some (vI (if x4 ≤ x2 then x1 else x3 : Int)), some (vI x2), some (vI x3), some (vI x4), some (vI x5)]) 84 dX12_often_83 rfl rfl rfl rfl ?_
      refine r_iload 86 dX12_often_84 rfl rfl ?_
      refine r_iload_n 87 dX12_often_86 rfl rfl ?_
      have hJ_3 : Ex l G d mX12_often 96 [some (vR (some (3, 0))), some (vI (if x4 ≤ x2 then x1 else x3 : Int)), some (vI x2), some (vI x3), some (vI x4), some (vI x5)] [vI (if x4 ≤ x2 then x2 else x4 : Int)] M r M' := by
        obtain ⟨o_5, h⟩ := h
        refine r_istore_n (ls' := [some (vR (some (3, 0))), some (vI (if x4 ≤ x2 then x1 else x3 : Int)), some (vI (if x4 ≤ x2 then x2 else x4 : Int)), some (vI x3), some (vI x4), some (vI x5)]) 97 dX12_often_96 rfl rfl rfl rfl ?_
        refine r_iinc (ls' := [some (vR (some (3, 0))), some (vI (if x4 ≤ x2 then x1 else x3 : Int)), some (vI (if x4 ≤ x2 then x2 else x4 : Int)), some (vI (x3 + 1)), some (vI x4), some (vI x5)]) 100 dX12_often_97 rfl rfl rfl rfl o_5 rfl ?_
        refine r_goto 7 dX12_often_100 rfl ?_
        exact Ex.weak h ⟨rfl, rfl, rfl, rfl, trivial⟩
      refine r_icmp_le 90 95 dX12_often_87 rfl rfl (fun c => ?_) (fun c => ?_)
      · have c_4 := c
        refine r_iload_n 96 dX12_often_95 rfl rfl ?_
        exact (Ex.at hJ_3 rfl (show [vI x2] = [vI (if x4 ≤ x2 then x2 else x4 : Int)] by simp only [if_pos c_4]) rfl)
      · have c_4 := c
        refine r_iload 92 dX12_often_90 rfl rfl ?_
        refine r_goto 96 dX12_often_92 rfl ?_
        exact (Ex.at hJ_3 rfl (show [vI x4] = [vI (if x4 ≤ x2 then x2 else x4 : Int)] by simp only [if_neg c_4]) rfl)
    refine r_icmp_le 78 82 dX12_often_75 rfl rfl (fun c => ?_) (fun c => ?_)
    · have c_2 := c
      refine r_iload_n 83 dX12_often_82 rfl rfl ?_
      exact (Ex.at hJ_1 rfl (show [vI x1] = [vI (if x4 ≤ x2 then x1 else x3 : Int)] by simp only [if_pos c_2]) rfl)
    · have c_2 := c
      refine r_iload_n 79 dX12_often_78 rfl rfl ?_
      refine r_goto 83 dX12_often_79 rfl ?_
      exact (Ex.at hJ_1 rfl (show [vI x3] = [vI (if x4 ≤ x2 then x1 else x3 : Int)] by simp only [if_neg c_2]) rfl)
  · have h := h.2 (c)
    obtain ⟨o_6, h⟩ := h
    refine r_iload 36 dX12_often_34 rfl rfl ?_
    refine r_aload_n 37 dX12_often_36 rfl rfl ?_
    refine g_R 40 dX12_often_37 rfl rfl rfl fr_12_64 (sh_12_19 hS) ?_
    refine r_iload 42 dX12_often_40 rfl rfl ?_
    refine a_I 8 43 dX12_often_42 rfl rfl rfl rfl o_6 rfl ?_
    refine r_iconst 44 dX12_often_43 rfl (InR_of rfl) ?_
    obtain ⟨h0, h⟩ := h
    have hJ_7 : Ex l G d mX12_often 63 [some (vR (some (3, 0))), some (vI x1), some (vI x2), some (vI x3), some (vI x4), some (vI x5)] [vI (if (M.1 66 0 x5.toNat) = 1 then (if (M.1 69 0 x5.toNat) = x3 then 1 else 0 : Int) else 0 : Int), vI x4] M r M' := by
      obtain ⟨⟨o_11, o_12⟩, h⟩ := h
      refine r_iadd 64 dX12_often_63 rfl o_11 ?_
      refine r_istore (ls' := [some (vR (some (3, 0))), some (vI x1), some (vI x2), some (vI x3), some (vI (x4 + (if (M.1 66 0 x5.toNat) = 1 then (if (M.1 69 0 x5.toNat) = x3 then 1 else 0 : Int) else 0 : Int))), some (vI x5)]) 66 dX12_often_64 rfl rfl rfl rfl ?_
      refine r_iinc (ls' := [some (vR (some (3, 0))), some (vI x1), some (vI x2), some (vI x3), some (vI (x4 + (if (M.1 66 0 x5.toNat) = 1 then (if (M.1 69 0 x5.toNat) = x3 then 1 else 0 : Int) else 0 : Int))), some (vI (x5 + 1))]) 69 dX12_often_66 rfl rfl rfl rfl o_12 rfl ?_
      refine r_goto 23 dX12_often_69 rfl ?_
      exact h
    have h := h0
    refine r_icmp_ne 47 62 dX12_often_44 rfl rfl (fun c => ?_) (fun c => ?_)
    · have c_8 := c
      refine r_iconst 63 dX12_often_62 rfl (InR_of rfl) ?_
      exact (Ex.at hJ_7 rfl (show [vI 0, vI x4] = [vI (if (M.1 66 0 x5.toNat) = 1 then (if (M.1 69 0 x5.toNat) = x3 then 1 else 0 : Int) else 0 : Int), vI x4] by simp only [if_neg c_8]) rfl)
    · have c_8 := Decidable.not_not.mp c
      have h := h c_8
      have o_9 := h
      refine r_aload_n 48 dX12_often_47 rfl rfl ?_
      refine g_R 51 dX12_often_48 rfl rfl rfl fr_12_73 (sh_12_22 hS) ?_
      refine r_iload 53 dX12_often_51 rfl rfl ?_
      refine a_I 8 54 dX12_often_53 rfl rfl rfl rfl o_9 rfl ?_
      refine r_iload_n 55 dX12_often_54 rfl rfl ?_
      refine r_icmp_ne 58 62 dX12_often_55 rfl rfl (fun c => ?_) (fun c => ?_)
      · have c_10 := c
        refine r_iconst 63 dX12_often_62 rfl (InR_of rfl) ?_
        exact (Ex.at hJ_7 rfl (show [vI 0, vI x4] = [vI (if (M.1 66 0 x5.toNat) = 1 then (if (M.1 69 0 x5.toNat) = x3 then 1 else 0 : Int) else 0 : Int), vI x4] by simp only [if_pos c_8, if_neg c_10]) rfl)
      · have c_10 := Decidable.not_not.mp c
        refine r_iconst 59 dX12_often_58 rfl (InR_of rfl) ?_
        refine r_goto 63 dX12_often_59 rfl ?_
        exact (Ex.at hJ_7 rfl (show [vI 1, vI x4] = [vI (if (M.1 66 0 x5.toNat) = 1 then (if (M.1 69 0 x5.toNat) = x3 then 1 else 0 : Int) else 0 : Int), vI x4] by simp only [if_pos c_8, if_pos c_10]) rfl)

set_option maxRecDepth 4000 in
theorem xX11_often_0 {l : Launch} {G : Gt} {d : Nat} {M M' : Mem} {r : Option Vl}  (h : 
    (∀ M_1 : Mem, newM M 19 12 12 = M_1 → Ex l G (d + 1) mX11_often 7 [some (vR (some (2, 0))), some (vR (some (19, cCnt M.2.2 19))), some (vI 0), none] [] M_1 r M')) : Cl l G (d + 1) mX11_often [vR (some (2, 0))] M r M' := by
  show Ex l G (d + 1) mX11_often 0 [some (vR (some (2, 0))), none, none, none] [] M r M'
  refine r_bipush 2 dX11_often_0 rfl rfl ?_
  refine r_newa (f := 19) (k := 1) (n := 12) 4 dX11_often_2 rfl rfl rfl (by decide) (inT1 (List.mem_of_getElem? (i := 104) rfl) rfl) rfl (by decide) (.inl rfl) ?_
  generalize hM_1 : newM M 19 12 12 = M_1
  have h := h M_1 hM_1
  refine r_astore_n (ls' := [some (vR (some (2, 0))), some (vR (some (19, cCnt M.2.2 19))), none, none]) 5 dX11_often_4 rfl rfl rfl rfl ?_
  refine r_iconst 6 dX11_often_5 rfl (InR_of rfl) ?_
  refine r_istore_n (ls' := [some (vR (some (2, 0))), some (vR (some (19, cCnt M.2.2 19))), some (vI 0), none]) 7 dX11_often_6 rfl rfl rfl rfl ?_
  exact h
set_option maxRecDepth 4000 in
theorem xX11_often_7 {l : Launch} {G : Gt} {d : Nat} {M M' : Mem} {r : Option Vl} {k1 : Nat} {x2 : Int} (hS : Sh M.2.1) (h : 
    ((M.1 4 0 8) ≤ x2 → Ex l G (d + 1) mX11_often 57 [some (vR (some (2, 0))), some (vR (some (19, k1))), some (vI (-2)), some (vI 0)] [] M r M') ∧ (¬ ((M.1 4 0 8) ≤ x2) → ((0 ≤ x2 ∧ x2 < 8)) ∧ (∃ k_2 : Nat, (M.2.1 38 0 x2.toNat) = some (5, k_2) ∧ ((¬ (0 ≤ (M.1 5 k_2 8) ∧ (M.1 5 k_2 8) < (M.1 4 0 0)) → (InR (x2 + 1)) ∧ Ex l G (d + 1) mX11_often 7 [some (vR (some (2, 0))), some (vR (some (19, k1))), some (vI (x2 + 1)), none] [] M r M') ∧ (0 ≤ (M.1 5 k_2 8) ∧ (M.1 5 k_2 8) < (M.1 4 0 0) → ((0 ≤ (M.1 5 k_2 8) ∧ (M.1 5 k_2 8) < 12) ∧ InR ((M.1 19 k1 (M.1 5 k_2 8).toNat) + 1) ∧ InR (x2 + 1)) ∧ Ex l G (d + 1) mX11_often 7 [some (vR (some (2, 0))), some (vR (some (19, k1))), some (vI (x2 + 1)), none] [] ((upI M.1 19 k1 (M.1 5 k_2 8).toNat ((M.1 19 k1 (M.1 5 k_2 8).toNat) + 1)), M.2.1, M.2.2) r M'))))) : Ex l G (d + 1) mX11_often 7 [some (vR (some (2, 0))), some (vR (some (19, k1))), some (vI x2), none] [] M r M' := by
  refine r_iload_n 8 dX11_often_7 rfl rfl ?_
  refine r_aload_n 9 dX11_often_8 rfl rfl ?_
  refine g_R 12 dX11_often_9 rfl rfl rfl fr_11_12 (sh_11_0 hS) ?_
  refine g_I 15 dX11_often_12 rfl rfl rfl fi_11_218 rfl ?_
  refine r_icmp_ge 18 52 dX11_often_15 rfl rfl (fun c => ?_) (fun c => ?_)
  · have h := h.1 (c)
    refine r_bipush 54 dX11_often_52 rfl rfl ?_
    refine r_istore_n (ls' := [some (vR (some (2, 0))), some (vR (some (19, k1))), some (vI (-2)), none]) 55 dX11_often_54 rfl rfl rfl rfl ?_
    refine r_iconst 56 dX11_often_55 rfl (InR_of rfl) ?_
    refine r_istore_n (ls' := [some (vR (some (2, 0))), some (vR (some (19, k1))), some (vI (-2)), some (vI 0)]) 57 dX11_often_56 rfl rfl rfl rfl ?_
    exact h
  · have h := h.2 (c)
    obtain ⟨o_1, h⟩ := h
    refine r_aload_n 19 dX11_often_18 rfl rfl ?_
    refine g_R 22 dX11_often_19 rfl rfl rfl fr_11_12 (sh_11_0 hS) ?_
    refine g_R 25 dX11_often_22 rfl rfl rfl fr_11_221 (sh_8_9 hS _) ?_
    refine r_iload_n 26 dX11_often_25 rfl rfl ?_
    refine a_R (ci := 5) 8 27 dX11_often_26 rfl rfl rfl rfl rfl o_1 rfl ?_
    obtain ⟨k_2, e_3, h⟩ := h
    refine g_I 30 dX11_often_27 rfl e_3 rfl fi_11_246 rfl ?_
    refine r_istore_n (ls' := [some (vR (some (2, 0))), some (vR (some (19, k1))), some (vI x2), some (vI (M.1 5 k_2 8))]) 31 dX11_often_30 rfl rfl rfl rfl ?_
    refine r_aload_n 32 dX11_often_31 rfl rfl ?_
    refine r_iload_n 33 dX11_often_32 rfl rfl ?_
    refine v_1 (ci := 11) (C := (RX11, TX11, 14)) [vI (M.1 5 k_2 8)] [] 36 dX11_often_33 rfl rfl rfl rfl rfl mo_X11_isPerson ml_11_121 rfl rfl (KX11_isPerson hS) ?_
    refine r_if_eq 39 46 dX11_often_36 rfl rfl (fun c => ?_) (fun c => ?_)
    · have h := h.1 (b2_0.mp c)
      obtain ⟨o_4, h⟩ := h
      refine r_iinc (ls' := [some (vR (some (2, 0))), some (vR (some (19, k1))), some (vI (x2 + 1)), some (vI (M.1 5 k_2 8))]) 49 dX11_often_46 rfl rfl rfl rfl o_4 rfl ?_
      refine r_goto 7 dX11_often_49 rfl ?_
      exact Ex.weak h ⟨rfl, rfl, rfl, trivial⟩
    · have h := h.2 (b2_1.mp c)
      obtain ⟨⟨o_5, o_6, o_7⟩, h⟩ := h
      refine r_aload_n 40 dX11_often_39 rfl rfl ?_
      refine r_iload_n 41 dX11_often_40 rfl rfl ?_
      refine r_dup2 42 dX11_often_41 rfl rfl ?_
      refine a_I 12 43 dX11_often_42 rfl rfl rfl rfl o_5 rfl ?_
      refine r_iconst 44 dX11_often_43 rfl (InR_of rfl) ?_
      refine r_iadd 45 dX11_often_44 rfl o_6 ?_
      refine s_I 12 46 dX11_often_45 rfl rfl (by decide) rfl rfl o_5 ?_
      refine r_iinc (ls' := [some (vR (some (2, 0))), some (vR (some (19, k1))), some (vI (x2 + 1)), some (vI (M.1 5 k_2 8))]) 49 dX11_often_46 rfl rfl rfl rfl o_7 rfl ?_
      refine r_goto 7 dX11_often_49 rfl ?_
      exact Ex.weak h ⟨rfl, rfl, rfl, trivial⟩
set_option maxRecDepth 4000 in
theorem xX11_often_57 {l : Launch} {G : Gt} {d : Nat} {M M' : Mem} {r : Option Vl} {k1 : Nat} {x2 : Int} {x3 : Int} (hS : Sh M.2.1) (h : 
    ((M.1 4 0 0) ≤ x3 → r = some (vI x2) ∧ M' = M) ∧ (¬ ((M.1 4 0 0) ≤ x3) → ((0 ≤ x3 ∧ x3 < 12)) ∧ (((¬ (x2 = (-2)) → ((0 ≤ x2 ∧ x2 < 12)))) ∧ (InR (x3 + 1)) ∧ Ex l G (d + 1) mX11_often 57 [some (vR (some (2, 0))), some (vR (some (19, k1))), some (vI (if (M.1 19 k1 x3.toNat) ≤ (if x2 = (-2) then 0 else (M.1 19 k1 x2.toNat) : Int) then x2 else x3 : Int)), some (vI (x3 + 1))] [] M r M'))) : Ex l G (d + 1) mX11_often 57 [some (vR (some (2, 0))), some (vR (some (19, k1))), some (vI x2), some (vI x3)] [] M r M' := by
  refine r_iload_n 58 dX11_often_57 rfl rfl ?_
  refine r_aload_n 59 dX11_often_58 rfl rfl ?_
  refine g_R 62 dX11_often_59 rfl rfl rfl fr_11_12 (sh_11_0 hS) ?_
  refine g_I 65 dX11_often_62 rfl rfl rfl fi_11_105 rfl ?_
  refine r_icmp_ge 68 95 dX11_often_65 rfl rfl (fun c => ?_) (fun c => ?_)
  · have h := h.1 (c)
    refine r_iload_n 96 dX11_often_95 rfl rfl ?_
    exact r_iret dX11_often_96 rfl (.inl rfl) h.1 h.2
  · have h := h.2 (c)
    obtain ⟨o_1, h⟩ := h
    refine r_aload_n 69 dX11_often_68 rfl rfl ?_
    refine r_iload_n 70 dX11_often_69 rfl rfl ?_
    refine a_I 12 71 dX11_often_70 rfl rfl rfl rfl o_1 rfl ?_
    refine r_iload_n 72 dX11_often_71 rfl rfl ?_
    refine r_bipush 74 dX11_often_72 rfl rfl ?_
    obtain ⟨h0, h⟩ := h
    have hJ_2 : Ex l G (d + 1) mX11_often 84 [some (vR (some (2, 0))), some (vR (some (19, k1))), some (vI x2), some (vI x3)] [vI (if x2 = (-2) then 0 else (M.1 19 k1 x2.toNat) : Int), vI (M.1 19 k1 x3.toNat)] M r M' := by
      have hJ_5 : Ex l G (d + 1) mX11_often 89 [some (vR (some (2, 0))), some (vR (some (19, k1))), some (vI (if (M.1 19 k1 x3.toNat) ≤ (if x2 = (-2) then 0 else (M.1 19 k1 x2.toNat) : Int) then x2 else x3 : Int)), some (vI x3)] [] M r M' := by
        obtain ⟨o_7, h⟩ := h
        refine r_iinc (ls' := [some (vR (some (2, 0))), some (vR (some (19, k1))), some (vI (if (M.1 19 k1 x3.toNat) ≤ (if x2 = (-2) then 0 else (M.1 19 k1 x2.toNat) : Int) then x2 else x3 : Int)), some (vI (x3 + 1))]) 92 dX11_often_89 rfl rfl rfl rfl o_7 rfl ?_
        refine r_goto 57 dX11_often_92 rfl ?_
        exact h
      refine r_icmp_le 87 89 dX11_often_84 rfl rfl (fun c => ?_) (fun c => ?_)
      · have c_6 := c
        exact (Ex.at hJ_5 (show [some (vR (some (2, 0))), some (vR (some (19, k1))), some (vI x2), some (vI x3)] = [some (vR (some (2, 0))), some (vR (some (19, k1))), some (vI (if (M.1 19 k1 x3.toNat) ≤ (if x2 = (-2) then 0 else (M.1 19 k1 x2.toNat) : Int) then x2 else x3 : Int)), some (vI x3)] by simp only [if_pos c_6]) rfl rfl)
      · have c_6 := c
        refine r_iload_n 88 dX11_often_87 rfl rfl ?_
        refine r_istore_n (ls' := [some (vR (some (2, 0))), some (vR (some (19, k1))), some (vI x3), some (vI x3)]) 89 dX11_often_88 rfl rfl rfl rfl ?_
        exact (Ex.at hJ_5 (show [some (vR (some (2, 0))), some (vR (some (19, k1))), some (vI x3), some (vI x3)] = [some (vR (some (2, 0))), some (vR (some (19, k1))), some (vI (if (M.1 19 k1 x3.toNat) ≤ (if x2 = (-2) then 0 else (M.1 19 k1 x2.toNat) : Int) then x2 else x3 : Int)), some (vI x3)] by simp only [if_neg c_6]) rfl rfl)
    have h := h0
    refine r_icmp_ne 77 81 dX11_often_74 rfl rfl (fun c => ?_) (fun c => ?_)
    · have c_3 := c
      have h := h c_3
      have o_4 := h
      refine r_aload_n 82 dX11_often_81 rfl rfl ?_
      refine r_iload_n 83 dX11_often_82 rfl rfl ?_
      refine a_I 12 84 dX11_often_83 rfl rfl rfl rfl o_4 rfl ?_
      exact (Ex.at hJ_2 rfl (show [vI (M.1 19 k1 x2.toNat), vI (M.1 19 k1 x3.toNat)] = [vI (if x2 = (-2) then 0 else (M.1 19 k1 x2.toNat) : Int), vI (M.1 19 k1 x3.toNat)] by simp only [if_neg c_3]) rfl)
    · have c_3 := Decidable.not_not.mp c
      refine r_iconst 78 dX11_often_77 rfl (InR_of rfl) ?_
      refine r_goto 84 dX11_often_78 rfl ?_
      exact (Ex.at hJ_2 rfl (show [vI 0, vI (M.1 19 k1 x3.toNat)] = [vI (if x2 = (-2) then 0 else (M.1 19 k1 x2.toNat) : Int), vI (M.1 19 k1 x3.toNat)] by simp only [if_pos c_3]) rfl)

theorem shp_lt {f i : Nat} (h : shp f i = true) : f ≤ 14 ∧ ¬ f = 5 := by
  unfold shp at h
  have h2 := List.contains_iff_mem.mp h
  have h3 : ∀ q ∈ ([(9, 0), (9, 1), (9, 2), (9, 3), (9, 12), (13, 1), (12, 8), (8, 0), (8, 1), (8, 2), (11, 0), (11, 2), (6, 0), (6, 1), (14, 1), (14, 2), (14, 3), (14, 4), (4, 1), (4, 3), (4, 5), (4, 6), (4, 7), (4, 9), (4, 12), (10, 0), (10, 1), (10, 2), (10, 3), (10, 4), (7, 0), (7, 1), (2, 0), (2, 1), (2, 2), (2, 3), (2, 4), (2, 5), (2, 6), (2, 7), (2, 8), (2, 9), (2, 11), (2, 13), (3, 1), (3, 2), (3, 3), (3, 4), (3, 5), (3, 6), (3, 7), (3, 8), (3, 9), (3, 10), (3, 11), (3, 12), (3, 13), (3, 14), (3, 15), (3, 16), (3, 17), (3, 18), (3, 19), (3, 20), (3, 21), (3, 22), (3, 23), (3, 24), (3, 25), (3, 26), (3, 27), (3, 28), (3, 39), (3, 40), (3, 41), (3, 42), (3, 43), (3, 44), (3, 45), (3, 46), (3, 47), (3, 51), (3, 52), (3, 53), (3, 54), (3, 55), (3, 64), (3, 65)] : List (Nat × Nat)), q.1 ≤ 14 ∧ ¬ q.1 = 5 := by decide
  exact h3 (f, i) h2
section NW
variable {l : Launch} {G : Gt} {d : Nat} {Q : QT} {M M1 M' : Mem}
theorem RelC.nw {f n sl : Nat} (h : RelC Q M) (hw : WFA Q) (e : newM M f n sl = M1) (hf : f = 18 ∨ f = 19) : RelC Q M1 := by
  have hI : ∀ f' k' i', ¬ f' = f → M1.1 f' k' i' = M.1 f' k' i' := fun f' k' i' hn => newM_In e hn
  have hR : ∀ f' k' i', ¬ f' = f → M1.2.1 f' k' i' = M.2.1 f' k' i' := fun f' k' i' hn => newM_Rn e hn
  have hc : ∀ f', ¬ f' = f → cCnt M1.2.2 f' = cCnt M.2.2 f' := fun f' hn => by rw [newM_c e, if_neg hn]
  have hl : CLe M.2.2 M1.2.2 := by subst e; exact newC_le _ _ _ _
  have hB : RelB Q M1 := ⟨h.1.1.oth (fun f' k i hr => hI _ _ _ (by unfold relF at hr; omega)) (fun f' k i hr => hR _ _ _ (by
      rcases hr with hr | hr | hr
      · omega
      · omega
      · have := shp_lt hr; omega)) (fun f' hr => hc _ (by omega)) hl, ⟨fun a b ha hb => by rw [hI _ _ _ (by omega)]; exact h.1.2.1.1 a b ha hb, fun a b ha hb => by rw [hI _ _ _ (by omega)]; exact h.1.2.1.2 a b ha hb⟩, fun a b ha hb => by rw [hI _ _ _ (by omega)]; exact h.1.2.2 a b ha hb⟩
  exact h.one hw hB (h.2.1.fr hw.l.n8 (fun i => hI _ _ _ (by omega)) (fun f' i hh => hI _ _ _ (by omega)) (fun i => hR _ _ _ (by omega)) (fun i hi => ⟨fun x => hI _ _ _ (by omega), hR _ _ _ (by omega)⟩)) (h.2.2.1.fr rfl rfl (hI _ _ _ (by omega)) (fun i => hI _ _ _ (by omega))) ⟨rfl, rfl, rfl⟩ (fun f' k i hh => hI _ _ _ (by omega)) (fun f' k i hh => hR _ _ _ (by omega)) (fun f' hh => hc _ (by omega))
theorem frK.nw {f n sl : Nat} (e : newM M f n sl = M1) (hf : f = 18 ∨ f = 19) (hs : sl ≤ 12) (hB : frB M1 M') (hR : RelB Q M') : frK M M' := by
  have hI : ∀ f' k' i', ¬ f' = f → M1.1 f' k' i' = M.1 f' k' i' := fun f' k' i' hn => newM_In e hn
  have hc : ∀ f', ¬ f' = f → cCnt M1.2.2 f' = cCnt M.2.2 f' := fun f' hn => by rw [newM_c e, if_neg hn]
  have h1 := hB.2.2.2.2.1
  have h2 := hB.2.2.2.2.2
  have h3 := hR.1.2.2.1.2.1
  have n1 := newM_nc e
  have n2 := newM_ns e
  exact ⟨fun f' k i hh => by rw [hB.1 f' k i (by unfold scC; omega)]; exact hI _ _ _ (by omega), ⟨by rw [hB.2.2.1 _ (by omega)]; exact hc _ (by omega), by rw [hB.2.2.1 _ (by omega)]; exact hc _ (by omega)⟩, by omega, by omega⟩
end NW
def opnN (Q : QT) (q : Nat) (k : Nat) : Int := cntF (fun k => Q 66 k = 1 ∧ Q 69 k = (q : Int)) k
def oftF (Q : QT) : Nat → Int × Int
  | 0 => (-2, 0)
  | q + 1 => if opnN Q q (nLt Q) ≤ (oftF Q q).2 then oftF Q q else ((q : Int), opnN Q q (nLt Q))
def oftenV (Q : QT) : Int := (oftF Q (nPp Q)).1
theorem oftF_or (Q : QT) : ∀ k, ((oftF Q k).1 = -2 ∧ (oftF Q k).2 = 0) ∨ ∃ v : Nat, v < k ∧ (oftF Q k).1 = (v : Int) ∧ (oftF Q k).2 = opnN Q v (nLt Q) := by
  intro k
  induction k with
  | zero => exact .inl ⟨rfl, rfl⟩
  | succ k ih =>
    unfold oftF
    split
    · rcases ih with h | ⟨v, h1, h2⟩
      · exact .inl h
      · exact .inr ⟨v, by omega, h2⟩
    · exact .inr ⟨k, by omega, rfl, rfl⟩
section OF
variable {l : Launch} {G : Gt} {d : Nat} {Q : QT} {M : Mem}
theorem KX12_often (hS : Sh M.2.1) (hw : WFA Q) (hH : HoldsQ Q M.1) : Cl l G d mX12_often [vR (some (3, 0))] M (some (vI (oftenV Q))) M := by
  have h12 := nPp_le hw.1.1
  have h8 := hw.l.n8
  have e1 := mppl_eq hw.1.1 hH.m
  have e3 : M.1 48 0 3 = (nLt Q : Int) := (hH.1 _ _ (by unfold perF; omega)).trans (nLt_eq hw.l)
  refine xX12_often_0 ?_
  refine loopUp (P := fun q : Nat => Ex l G d mX12_often 7 [some (vR (some (3, 0))), some (vI (oftF Q q).1), some (vI (oftF Q q).2), some (vI (q : Int)), none, none] [] M (some (vI (oftenV Q))) M) 0 (nPp Q) (by omega) ?_ ?_
  · intro q _ hqn ih
    refine xX12_often_7 hS ⟨fun c => by omega, fun _ => ?_⟩
    refine loopUp (P := fun k : Nat => Ex l G d mX12_often 23 [some (vR (some (3, 0))), some (vI (oftF Q q).1), some (vI (oftF Q q).2), some (vI (q : Int)), some (vI (opnN Q q k)), some (vI (k : Int))] [] M (some (vI (oftenV Q))) M) 0 (nLt Q) (by omega) ?_ ?_
    · intro k _ hk ih2
      have hc := cntF_in (fun k => Q 66 k = 1 ∧ Q 69 k = (q : Int)) k
      have es : opnN Q q (k + 1) = opnN Q q k + (if Q 66 k = 1 ∧ Q 69 k = (q : Int) then 1 else 0) := rfl
      have ho : 0 ≤ opnN Q q k ∧ opnN Q q k ≤ k := hc
      refine xX12_often_23 hS ⟨fun c => by omega, fun _ => ⟨by omega, ?_⟩⟩
      rw [Int.toNat_natCast, hH.1 66 k (by unfold perF; omega), hH.1 69 k (by unfold perF; omega)]
      by_cases c1 : Q 66 k = 1
      · by_cases c2 : Q 69 k = (q : Int)
        · rw [if_pos ⟨c1, c2⟩] at es
          rw [if_pos c1, if_pos c2]
          rw [es] at ih2
          exact ⟨fun _ => by omega, ⟨by unfold InR; omega, by unfold InR; omega⟩, ih2⟩
        · rw [if_neg (fun x => c2 x.2)] at es
          rw [if_pos c1, if_neg c2]
          rw [es] at ih2
          exact ⟨fun _ => by omega, ⟨by unfold InR; omega, by unfold InR; omega⟩, ih2⟩
      · rw [if_neg (fun x => c1 x.1)] at es
        rw [if_neg c1]
        rw [es] at ih2
        exact ⟨fun _ => by omega, ⟨by unfold InR; omega, by unfold InR; omega⟩, ih2⟩
    · refine xX12_often_23 hS ⟨fun _ => ⟨by unfold InR; omega, ?_⟩, fun c => absurd (by omega) c⟩
      have eo : oftF Q (q + 1) = if opnN Q q (nLt Q) ≤ (oftF Q q).2 then oftF Q q else ((q : Int), opnN Q q (nLt Q)) := rfl
      by_cases c : opnN Q q (nLt Q) ≤ (oftF Q q).2
      · rw [if_pos c] at eo
        rw [if_pos c, if_pos c]
        rw [eo] at ih
        exact ih
      · rw [if_neg c] at eo
        rw [if_neg c, if_neg c]
        rw [eo] at ih
        exact ih
  · exact xX12_often_7 hS ⟨fun _ => ⟨rfl, rfl⟩, fun c => absurd (by omega) c⟩
theorem often_7 {k1 : Nat} (hw : WFA Q) (hR : RelC Q M) : ∀ k : Nat, k ≤ nLt Q → ∀ I, (∀ f j i, ¬ (f = 19 ∧ j = k1) → I f j i = M.1 f j i) → (∀ q : Nat, q < nPp Q → I 19 k1 q = opnN Q q (nLt Q - k)) → ∃ I', Ex l G (d + 1) mX11_often 7 [some (vR (some (2, 0))), some (vR (some (19, k1))), some (vI ((nLt Q - k : Nat) : Int)), none] [] (I, M.2.1, M.2.2) (some (vI (oftenV Q))) (I', M.2.1, M.2.2) ∧ ∀ f j i, ¬ (f = 19 ∧ j = k1) → I' f j i = M.1 f j i := by
  have h12 := nPp_le hw.1.1
  have h8 := hw.l.n8
  have hS := hR.1.1.1
  have hL := hR.2.1.2.2.2.2.2.2.2
  intro k
  induction k with
  | zero =>
    intro _ I hI hO
    have e1 : I 4 0 0 = (nPp Q : Int) := by rw [hI _ _ _ (by omega)]; exact cppl_eq hw.1.1 hR.1.1
    have e3 : I 4 0 8 = (nLt Q : Int) := by rw [hI _ _ _ (by omega)]; exact hL.1.1.trans (nLt_eq hw.l)
    refine ⟨I, xX11_often_7 hS ⟨fun _ => ?_, fun c => absurd (by dsimp only; omega) c⟩, hI⟩
    refine loopUp (P := fun q : Nat => Ex l G (d + 1) mX11_often 57 [some (vR (some (2, 0))), some (vR (some (19, k1))), some (vI (oftF Q q).1), some (vI (q : Int))] [] (I, M.2.1, M.2.2) (some (vI (oftenV Q))) (I, M.2.1, M.2.2)) 0 (nPp Q) (by omega) ?_ ?_
    · intro q _ hqn ih
      have eo : oftF Q (q + 1) = if opnN Q q (nLt Q) ≤ (oftF Q q).2 then oftF Q q else ((q : Int), opnN Q q (nLt Q)) := rfl
      have oq : I 19 k1 (q : Int).toNat = opnN Q q (nLt Q) := by rw [Int.toNat_natCast]; exact hO q hqn
      refine xX11_often_57 hS ⟨fun c => by dsimp only at c; omega, fun _ => ⟨by omega, ?_⟩⟩
      have em : (if (oftF Q q).1 = -2 then 0 else I 19 k1 (oftF Q q).1.toNat : Int) = (oftF Q q).2 := by
        rcases oftF_or Q q with ⟨a, b⟩ | ⟨v, a, b, c⟩
        · rw [if_pos a, b]
        · rw [if_neg (by omega), b, c, Int.toNat_natCast]; exact hO v (by omega)
      dsimp only
      simp only [em, oq]
      refine ⟨fun c => ?_, by unfold InR; omega, ?_⟩
      · rcases oftF_or Q q with ⟨a, b⟩ | ⟨v, a, b, c⟩
        · exact absurd a c
        · omega
      · by_cases c : opnN Q q (nLt Q) ≤ (oftF Q q).2
        · rw [if_pos c] at eo ⊢
          rw [eo] at ih
          exact ih
        · rw [if_neg c] at eo ⊢
          rw [eo] at ih
          exact ih
    · exact xX11_often_57 hS ⟨fun _ => ⟨rfl, rfl⟩, fun c => absurd (by dsimp only; omega) c⟩
  | succ k ih =>
    intro hk I hI hO
    have e1 : I 4 0 0 = (nPp Q : Int) := by rw [hI _ _ _ (by omega)]; exact cppl_eq hw.1.1 hR.1.1
    have e3 : I 4 0 8 = (nLt Q : Int) := by rw [hI _ _ _ (by omega)]; exact hL.1.1.trans (nLt_eq hw.l)
    obtain ⟨j, hj⟩ : ∃ j, nLt Q - (k + 1) = j := ⟨_, rfl⟩
    rw [hj] at hO ⊢
    have hjn : nLt Q - k = j + 1 := by omega
    rw [hjn] at ih
    obtain ⟨_, b1, b2, b3, b4, b5, b6, b7, b8⟩ := hL.2.2 j (by omega)
    have e8 : I 5 j 8 = Q 69 j := by rw [hI _ _ _ (by omega)]; exact b7
    have hp : M.2.1 38 0 (j : Int).toNat = some (5, j) := by rw [Int.toNat_natCast]; exact hL.2.1 j (by omega)
    have hst := (hw.l.2.2 j (by omega)).2.2.2.2.2
    have es : ∀ q : Nat, opnN Q q (j + 1) = opnN Q q j + (if Q 66 j = 1 ∧ Q 69 j = (q : Int) then 1 else 0) := fun q => rfl
    by_cases c : 0 ≤ Q 69 j ∧ Q 69 j < nPp Q
    · have c1 : Q 66 j = 1 := by omega
      have ev := hO (Q 69 j).toNat (by omega)
      have hc := cntF_in (fun k => Q 66 k = 1 ∧ Q 69 k = (((Q 69 j).toNat : Nat) : Int)) j
      have ho : 0 ≤ opnN Q (Q 69 j).toNat j ∧ opnN Q (Q 69 j).toNat j ≤ j := hc
      obtain ⟨I', x1, x2⟩ := ih (by omega) (upI I 19 k1 (Q 69 j).toNat (opnN Q (Q 69 j).toNat j + 1)) (fun f j' i hn => by rw [upI_o hn]; exact hI f j' i hn) (fun q hqn => by
        rw [es q, upI_c]
        by_cases cq : q = (Q 69 j).toNat
        · rw [if_pos cq, if_pos ⟨c1, by omega⟩, cq]
        · rw [if_neg cq, if_neg (by omega), hO q hqn]; omega)
      refine ⟨I', xX11_often_7 hS ⟨fun c => by dsimp only at c; omega, fun _ => ⟨by omega, j, hp, ?_⟩⟩, x2⟩
      dsimp only
      rw [e8, e1, ev]
      exact ⟨fun c2 => absurd c c2, fun _ => ⟨⟨by omega, by unfold InR; omega, by unfold InR; omega⟩, x1⟩⟩
    · obtain ⟨I', x1, x2⟩ := ih (by omega) I hI (fun q hqn => by
        rw [es q, if_neg (fun x => c (by omega)), hO q hqn]; omega)
      refine ⟨I', xX11_often_7 hS ⟨fun c => by dsimp only at c; omega, fun _ => ⟨by omega, j, hp, ?_⟩⟩, x2⟩
      dsimp only
      rw [e8, e1]
      exact ⟨fun _ => ⟨by unfold InR; omega, x1⟩, fun c2 => absurd c2 c⟩
theorem KX11_often (hR : RelC Q M) (hw : WFA Q) : ∃ M', Cl l G (d + 1) mX11_often [vR (some (2, 0))] M (some (vI (oftenV Q))) M' ∧ RelC Q M' ∧ frK M M' := by
  obtain ⟨M1, e⟩ : ∃ M1, newM M 19 12 12 = M1 := ⟨_, rfl⟩
  have R1 := hR.nw hw e (.inr rfl)
  obtain ⟨I', x1, x2⟩ := often_7 (l := l) (G := G) (d := d) (k1 := cCnt M.2.2 19) hw R1 (nLt Q) (Nat.le_refl _) M1.1 (fun _ _ _ _ => rfl) (fun q hq => by
    rw [Nat.sub_self]
    subst e
    show seI M.1 19 (cCnt M.2.2 19) (fun _ => 0) 19 (cCnt M.2.2 19) q = 0
    rw [seI_s])
  rw [Nat.sub_self] at x1
  have fB : frB M1 (I', M1.2.1, M1.2.2) := frB.I fun f k i hn => x2 f k i (fun c => hn (by unfold scC; omega))
  have RB : RelB Q (I', M1.2.1, M1.2.2) := R1.1.fr (R1.1.1.I fun f k i hr => x2 f k i (by unfold relF at hr; omega)) fB
  exact ⟨_, xX11_often_0 (fun M2 e2 => by rw [e] at e2; subst e2; exact x1), R1.fr hw RB fB, frK.nw e (.inr rfl) (by omega) fB RB⟩
end OF
