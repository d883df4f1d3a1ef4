/-! often -/
set_option maxRecDepth 4000 in
theorem xX12_often_0 {l : Launch} {G : Gt} {d : Nat} {M M' : Mem} {r : Option Vl}  (h : 
    Ex l G d mX12_often 7 [some (vR (some (3, 0))), some (vI (-2)), some (vI 0), some (vI 0), none, none] [] M r M') : Cl l G d mX12_often [vR (some (3, 0))] M r M' := by
  show Ex l G d mX12_often 0 [some (vR (some (3, 0))), none, none, none, none, none] [] M r M'
  refine r_bipush 2 dX12_often_0 rfl rfl ?_
  refine r_istore_n (ls' := [some (vR (some (3, 0))), some (vI (-2)), none, none, none, none]) 3 dX12_often_2 rfl rfl rfl rfl ?_
  refine r_iconst 4 dX12_often_3 rfl (InR_of rfl) ?_
  refine r_istore_n (ls' := [some (vR (some (3, 0))), some (vI (-2)), some (vI 0), none, none, none]) 5 dX12_often_4 rfl rfl rfl rfl ?_
  refine r_iconst 6 dX12_often_5 rfl (InR_of rfl) ?_
  refine r_istore_n (ls' := [some (vR (some (3, 0))), some (vI (-2)), some (vI 0), some (vI 0), none, none]) 7 dX12_often_6 rfl rfl rfl rfl ?_
  exact h
set_option maxRecDepth 4000 in
theorem xX12_often_7 {l : Launch} {G : Gt} {d : Nat} {M M' : Mem} {r : Option Vl} {x1 : Int} {x2 : Int} {x3 : Int} (hS : Sh M.2.1) (h : 
    ((M.1 48 0 0) ≤ x3 → r = some (vI x1) ∧ M' = M) ∧ (¬ ((M.1 48 0 0) ≤ x3) → Ex l G d mX12_often 23 [some (vR (some (3, 0))), some (vI x1), some (vI x2), some (vI x3), some (vI 0), some (vI 0)] [] M r M')) : Ex l G d mX12_often 7 [some (vR (some (3, 0))), some (vI x1), some (vI x2), some (vI x3), none, none] [] M r M' := by
  refine r_iload_n 8 dX12_often_7 rfl rfl ?_
  refine r_aload_n 9 dX12_often_8 rfl rfl ?_
  refine g_R 12 dX12_often_9 rfl rfl rfl fr_12_7 (sh_12_1 hS) ?_
  refine r_iconst 13 dX12_often_12 rfl (InR_of rfl) ?_
  refine a_I 6 14 dX12_often_13 rfl rfl rfl rfl ⟨by decide, by decide⟩ rfl ?_
  refine r_icmp_ge 17 103 dX12_often_14 rfl rfl (fun c => ?_) (fun c => ?_)
  · have h := h.1 (c)
    refine r_iload_n 104 dX12_often_103 rfl rfl ?_
    exact r_iret dX12_often_104 rfl (.inl rfl) h.1 h.2
  · have h := h.2 (c)
    refine r_iconst 18 dX12_often_17 rfl (InR_of rfl) ?_
    refine r_istore (ls' := [some (vR (some (3, 0))), some (vI x1), some (vI x2), some (vI x3), some (vI 0), none]) 20 dX12_often_18 rfl rfl rfl rfl ?_
    refine r_iconst 21 dX12_often_20 rfl (InR_of rfl) ?_
    refine r_istore (ls' := [some (vR (some (3, 0))), some (vI x1), some (vI x2), some (vI x3), some (vI 0), some (vI 0)]) 23 dX12_often_21 rfl rfl rfl rfl ?_
    exact h
set_option maxRecDepth 4000 in
theorem xX12_often_23 {l : Launch} {G : Gt} {d : Nat} {M M' : Mem} {r : Option Vl} {x1 : Int} {x2 : Int} {x3 : Int} {x4 : Int} {x5 : Int} (hS : Sh M.2.1) (h : 
    ((M.1 48 0 3) ≤ x5 → (InR (x3 + 1)) ∧ Ex l G d mX12_often 7 [some (vR (some (3, 0))), some (vI (if x4 ≤ x2 then x1 else x3 : Int)), some (vI (if x4 ≤ x2 then x2 else x4 : Int)), some (vI (x3 + 1)), none, none] [] M r M') ∧ (¬ ((M.1 48 0 3) ≤ x5) → ((0 ≤ x5 ∧ x5 < 8)) ∧ ((((M.1 66 0 x5.toNat) = 1 → ((0 ≤ x5 ∧ x5 < 8)))) ∧ (InR (x4 + (if (M.1 66 0 x5.toNat) = 1 then (if (M.1 69 0 x5.toNat) = x3 then 1 else 0 : Int) else 0 : Int)) ∧ InR (x5 + 1)) ∧ Ex l G d mX12_often 23 [some (vR (some (3, 0))), some (vI x1), some (vI x2), some (vI x3), some (vI (x4 + (if (M.1 66 0 x5.toNat) = 1 then (if (M.1 69 0 x5.toNat) = x3 then 1 else 0 : Int) else 0 : Int))), some (vI (x5 + 1))] [] M r M'))) : Ex l G d mX12_often 23 [some (vR (some (3, 0))), some (vI x1), some (vI x2), some (vI x3), some (vI x4), some (vI x5)] [] M r M' := by
  refine r_iload 25 dX12_often_23 rfl rfl ?_
  refine r_aload_n 26 dX12_often_25 rfl rfl ?_
  refine g_R 29 dX12_often_26 rfl rfl rfl fr_12_7 (sh_12_1 hS) ?_
  refine r_iconst 30 dX12_often_29 rfl (InR_of rfl) ?_
  refine a_I 6 31 dX12_often_30 rfl rfl rfl rfl ⟨by decide, by decide⟩ rfl ?_
  refine r_icmp_ge 34 72 dX12_often_31 rfl rfl (fun c => ?_) (fun c => ?_)
  · have h := h.1 (c)
    refine r_iload 74 dX12_often_72 rfl rfl ?_
    refine r_iload_n 75 dX12_often_74 rfl rfl ?_
    have hJ_1 : Ex l G d mX12_often 83 [some (vR (some (3, 0))), some (vI x1), some (vI x2), some (vI x3), some (vI x4), some (vI x5)] [vI (if x4 ≤ x2 then x1 else x3 : Int)] M r M' := by
      refine r_istore_n (ls' := [some (vR (some (3, 0))), some (vI (if x4 ≤ x2 then x1 else x3 : Int)), some (vI x2), some (vI x3), some (vI x4), some (vI x5)]) 84 dX12_often_83 rfl rfl rfl rfl ?_
      refine r_iload 86 dX12_often_84 rfl rfl ?_
      refine r_iload_n 87 dX12_often_86 rfl rfl ?_
      have hJ_3 : Ex l G d mX12_often 96 [some (vR (some (3, 0))), some (vI (if x4 ≤ x2 then x1 else x3 : Int)), some (vI x2), some (vI x3), some (vI x4), some (vI x5)] [vI (if x4 ≤ x2 then x2 else x4 : Int)] M r M' := by
        obtain ⟨o_5, h⟩ := h
        refine r_istore_n (ls' := [some (vR (some (3, 0))), some (vI (if x4 ≤ x2 then x1 else x3 : Int)), some (vI (if x4 ≤ x2 then x2 else x4 : Int)), some (vI x3), some (vI x4), some (vI x5)]) 97 dX12_often_96 rfl rfl rfl rfl ?_
        refine r_iinc (ls' := [some (vR (some (3, 0))), some (vI (if x4 ≤ x2 then x1 else x3 : Int)), some (vI (if x4 ≤ x2 then x2 else x4 : Int)), some (vI (x3 + 1)), some (vI x4), some (vI x5)]) 100 dX12_often_97 rfl rfl rfl rfl o_5 rfl ?_
        refine r_goto 7 dX12_often_100 rfl ?_
        exact Ex.weak h ⟨rfl, rfl, rfl, rfl, trivial⟩
      refine r_icmp_le 90 95 dX12_often_87 rfl rfl (fun c => ?_) (fun c => ?_)
      · have c_4 := c
        refine r_iload_n 96 dX12_often_95 rfl rfl ?_
        exact (Ex.at hJ_3 rfl (show [vI x2] = [vI (if x4 ≤ x2 then x2 else x4 : Int)] by simp only [if_pos c_4]) rfl)
      · have c_4 := c
        refine r_iload 92 dX12_often_90 rfl rfl ?_
        refine r_goto 96 dX12_often_92 rfl ?_
        exact (Ex.at hJ_3 rfl (show [vI x4] = [vI (if x4 ≤ x2 then x2 else x4 : Int)] by simp only [if_neg c_4]) rfl)
    refine r_icmp_le 78 82 dX12_often_75 rfl rfl (fun c => ?_) (fun c => ?_)
    · have c_2 := c
      refine r_iload_n 83 dX12_often_82 rfl rfl ?_
      exact (Ex.at hJ_1 rfl (show [vI x1] = [vI (if x4 ≤ x2 then x1 else x3 : Int)] by simp only [if_pos c_2]) rfl)
    · have c_2 := c
      refine r_iload_n 79 dX12_often_78 rfl rfl ?_
      refine r_goto 83 dX12_often_79 rfl ?_
      exact (Ex.at hJ_1 rfl (show [vI x3] = [vI (if x4 ≤ x2 then x1 else x3 : Int)] by simp only [if_neg c_2]) rfl)
  · have h := h.2 (c)
    obtain ⟨o_6, h⟩ := h
    refine r_iload 36 dX12_often_34 rfl rfl ?_
    refine r_aload_n 37 dX12_often_36 rfl rfl ?_
    refine g_R 40 dX12_often_37 rfl rfl rfl fr_12_64 (sh_12_19 hS) ?_
    refine r_iload 42 dX12_often_40 rfl rfl ?_
    refine a_I 8 43 dX12_often_42 rfl rfl rfl rfl o_6 rfl ?_
    refine r_iconst 44 dX12_often_43 rfl (InR_of rfl) ?_
    obtain ⟨h0, h⟩ := h
    have hJ_7 : Ex l G d mX12_often 63 [some (vR (some (3, 0))), some (vI x1), some (vI x2), some (vI x3), some (vI x4), some (vI x5)] [vI (if (M.1 66 0 x5.toNat) = 1 then (if (M.1 69 0 x5.toNat) = x3 then 1 else 0 : Int) else 0 : Int), vI x4] M r M' := by
      obtain ⟨⟨o_11, o_12⟩, h⟩ := h
      refine r_iadd 64 dX12_often_63 rfl o_11 ?_
      refine r_istore (ls' := [some (vR (some (3, 0))), some (vI x1), some (vI x2), some (vI x3), some (vI (x4 + (if (M.1 66 0 x5.toNat) = 1 then (if (M.1 69 0 x5.toNat) = x3 then 1 else 0 : Int) else 0 : Int))), some (vI x5)]) 66 dX12_often_64 rfl rfl rfl rfl ?_
      refine r_iinc (ls' := [some (vR (some (3, 0))), some (vI x1), some (vI x2), some (vI x3), some (vI (x4 + (if (M.1 66 0 x5.toNat) = 1 then (if (M.1 69 0 x5.toNat) = x3 then 1 else 0 : Int) else 0 : Int))), some (vI (x5 + 1))]) 69 dX12_often_66 rfl rfl rfl rfl o_12 rfl ?_
      refine r_goto 23 dX12_often_69 rfl ?_
      exact h
    have h := h0
    refine r_icmp_ne 47 62 dX12_often_44 rfl rfl (fun c => ?_) (fun c => ?_)
    · have c_8 := c
      refine r_iconst 63 dX12_often_62 rfl (InR_of rfl) ?_
      exact (Ex.at hJ_7 rfl (show [vI 0, vI x4] = [vI (if (M.1 66 0 x5.toNat) = 1 then (if (M.1 69 0 x5.toNat) = x3 then 1 else 0 : Int) else 0 : Int), vI x4] by simp only [if_neg c_8]) rfl)
    · have c_8 := Decidable.not_not.mp c
      have h := h c_8
      have o_9 := h
      refine r_aload_n 48 dX12_often_47 rfl rfl ?_
      refine g_R 51 dX12_often_48 rfl rfl rfl fr_12_73 (sh_12_22 hS) ?_
      refine r_iload 53 dX12_often_51 rfl rfl ?_
      refine a_I 8 54 dX12_often_53 rfl rfl rfl rfl o_9 rfl ?_
      refine r_iload_n 55 dX12_often_54 rfl rfl ?_
      refine r_icmp_ne 58 62 dX12_often_55 rfl rfl (fun c => ?_) (fun c => ?_)
      · have c_10 := c
        refine r_iconst 63 dX12_often_62 rfl (InR_of rfl) ?_
        exact (Ex.at hJ_7 rfl (show [vI 0, vI x4] = [vI (if (M.1 66 0 x5.toNat) = 1 then (if (M.1 69 0 x5.toNat) = x3 then 1 else 0 : Int) else 0 : Int), vI x4] by simp only [if_pos c_8, if_neg c_10]) rfl)
      · have c_10 := Decidable.not_not.mp c
        refine r_iconst 59 dX12_often_58 rfl (InR_of rfl) ?_
        refine r_goto 63 dX12_often_59 rfl ?_
        exact (Ex.at hJ_7 rfl (show [vI 1, vI x4] = [vI (if (M.1 66 0 x5.toNat) = 1 then (if (M.1 69 0 x5.toNat) = x3 then 1 else 0 : Int) else 0 : Int), vI x4] by simp only [if_pos c_8, if_pos c_10]) rfl)

set_option maxRecDepth 4000 in
theorem xX11_often_0 {l : Launch} {G : Gt} {d : Nat} {M M' : Mem} {r : Option Vl}  (hS : Sh M.2.1) (h : 
    Ex l G (d + 1) mX11_often 10 [some (vR (some (2, 0))), some (vI 0), none] [] ((flI M.1 19 0 12 0), M.2.1, M.2.2) r M') : Cl l G (d + 1) mX11_often [vR (some (2, 0))] M r M' := by
  show Ex l G (d + 1) mX11_often 0 [some (vR (some (2, 0))), none, none] [] M r M'
  refine r_aload_n 1 dX11_often_0 rfl rfl ?_
  refine g_R 4 dX11_often_1 rfl rfl rfl fr_11_93 (sh_11_15 hS) ?_
  refine r_iconst 5 dX11_often_4 rfl (InR_of rfl) ?_
  refine c_0 [vR (some (19, 0)), vI 0] [] 8 dX11_often_5 rfl rfl mo_J7_fill_53178 ml_11_316 rfl rfl (KJ7_fl (n := 12) rfl (by decide) rfl (by decide)) ?_
  refine r_iconst 9 dX11_often_8 rfl (InR_of rfl) ?_
  refine r_istore_n (ls' := [some (vR (some (2, 0))), some (vI 0), none]) 10 dX11_often_9 rfl rfl rfl rfl ?_
  exact h
set_option maxRecDepth 4000 in
theorem xX11_often_10 {l : Launch} {G : Gt} {d : Nat} {M M' : Mem} {r : Option Vl} {x1 : Int} (hS : Sh M.2.1) (h : 
    ((M.1 4 0 8) ≤ x1 → Ex l G (d + 1) mX11_often 63 [some (vR (some (2, 0))), some (vI (-2)), some (vI 0)] [] M r M') ∧ (¬ ((M.1 4 0 8) ≤ x1) → ((0 ≤ x1 ∧ x1 < 8)) ∧ (∃ k_2 : Nat, (M.2.1 38 0 x1.toNat) = some (5, k_2) ∧ ((¬ (0 ≤ (M.1 5 k_2 8) ∧ (M.1 5 k_2 8) < (M.1 4 0 0)) → (InR (x1 + 1)) ∧ Ex l G (d + 1) mX11_often 10 [some (vR (some (2, 0))), some (vI (x1 + 1)), none] [] M r M') ∧ (0 ≤ (M.1 5 k_2 8) ∧ (M.1 5 k_2 8) < (M.1 4 0 0) → ((0 ≤ (M.1 5 k_2 8) ∧ (M.1 5 k_2 8) < 12) ∧ InR ((M.1 19 0 (M.1 5 k_2 8).toNat) + 1) ∧ InR (x1 + 1)) ∧ Ex l G (d + 1) mX11_often 10 [some (vR (some (2, 0))), some (vI (x1 + 1)), none] [] ((upI M.1 19 0 (M.1 5 k_2 8).toNat ((M.1 19 0 (M.1 5 k_2 8).toNat) + 1)), M.2.1, M.2.2) r M'))))) : Ex l G (d + 1) mX11_often 10 [some (vR (some (2, 0))), some (vI x1), none] [] M r M' := by
  refine r_iload_n 11 dX11_often_10 rfl rfl ?_
  refine r_aload_n 12 dX11_often_11 rfl rfl ?_
  refine g_R 15 dX11_often_12 rfl rfl rfl fr_11_12 (sh_11_0 hS) ?_
  refine g_I 18 dX11_often_15 rfl rfl rfl fi_11_224 rfl ?_
  refine r_icmp_ge 21 58 dX11_often_18 rfl rfl (fun c => ?_) (fun c => ?_)
  · have h := h.1 (c)
    refine r_bipush 60 dX11_often_58 rfl rfl ?_
    refine r_istore_n (ls' := [some (vR (some (2, 0))), some (vI (-2)), none]) 61 dX11_often_60 rfl rfl rfl rfl ?_
    refine r_iconst 62 dX11_often_61 rfl (InR_of rfl) ?_
    refine r_istore_n (ls' := [some (vR (some (2, 0))), some (vI (-2)), some (vI 0)]) 63 dX11_often_62 rfl rfl rfl rfl ?_
    exact h
  · have h := h.2 (c)
    obtain ⟨o_1, h⟩ := h
    refine r_aload_n 22 dX11_often_21 rfl rfl ?_
    refine g_R 25 dX11_often_22 rfl rfl rfl fr_11_12 (sh_11_0 hS) ?_
    refine g_R 28 dX11_often_25 rfl rfl rfl fr_11_227 (sh_8_9 hS _) ?_
    refine r_iload_n 29 dX11_often_28 rfl rfl ?_
    refine a_R (ci := 5) 8 30 dX11_often_29 rfl rfl rfl rfl rfl o_1 rfl ?_
    obtain ⟨k_2, e_3, h⟩ := h
    refine g_I 33 dX11_often_30 rfl e_3 rfl fi_11_252 rfl ?_
    refine r_istore_n (ls' := [some (vR (some (2, 0))), some (vI x1), some (vI (M.1 5 k_2 8))]) 34 dX11_often_33 rfl rfl rfl rfl ?_
    refine r_aload_n 35 dX11_often_34 rfl rfl ?_
    refine r_iload_n 36 dX11_often_35 rfl rfl ?_
    refine v_1 (ci := 11) (C := (RX11, TX11, 16)) [vI (M.1 5 k_2 8)] [] 39 dX11_often_36 rfl rfl rfl rfl rfl mo_X11_isPerson ml_11_127 rfl rfl (KX11_isPerson hS) ?_
    refine r_if_eq 42 52 dX11_often_39 rfl rfl (fun c => ?_) (fun c => ?_)
    · have h := h.1 (b2_0.mp c)
      obtain ⟨o_4, h⟩ := h
      refine r_iinc (ls' := [some (vR (some (2, 0))), some (vI (x1 + 1)), some (vI (M.1 5 k_2 8))]) 55 dX11_often_52 rfl rfl rfl rfl o_4 rfl ?_
      refine r_goto 10 dX11_often_55 rfl ?_
      exact Ex.weak h ⟨rfl, rfl, trivial⟩
    · have h := h.2 (b2_1.mp c)
      obtain ⟨⟨o_5, o_6, o_7⟩, h⟩ := h
      refine r_aload_n 43 dX11_often_42 rfl rfl ?_
      refine g_R 46 dX11_often_43 rfl rfl rfl fr_11_93 (sh_11_15 hS) ?_
      refine r_iload_n 47 dX11_often_46 rfl rfl ?_
      refine r_dup2 48 dX11_often_47 rfl rfl ?_
      refine a_I 12 49 dX11_often_48 rfl rfl rfl rfl o_5 rfl ?_
      refine r_iconst 50 dX11_often_49 rfl (InR_of rfl) ?_
      refine r_iadd 51 dX11_often_50 rfl o_6 ?_
      refine s_I 12 52 dX11_often_51 rfl rfl (by decide) rfl rfl o_5 ?_
      refine r_iinc (ls' := [some (vR (some (2, 0))), some (vI (x1 + 1)), some (vI (M.1 5 k_2 8))]) 55 dX11_often_52 rfl rfl rfl rfl o_7 rfl ?_
      refine r_goto 10 dX11_often_55 rfl ?_
      exact Ex.weak h ⟨rfl, rfl, trivial⟩
set_option maxRecDepth 4000 in
theorem xX11_often_63 {l : Launch} {G : Gt} {d : Nat} {M M' : Mem} {r : Option Vl} {x1 : Int} {x2 : Int} (hS : Sh M.2.1) (h : 
    ((M.1 4 0 0) ≤ x2 → r = some (vI x1) ∧ M' = M) ∧ (¬ ((M.1 4 0 0) ≤ x2) → ((0 ≤ x2 ∧ x2 < 12)) ∧ (((¬ (x1 = (-2)) → ((0 ≤ x1 ∧ x1 < 12)))) ∧ (InR (x2 + 1)) ∧ Ex l G (d + 1) mX11_often 63 [some (vR (some (2, 0))), some (vI (if (M.1 19 0 x2.toNat) ≤ (if x1 = (-2) then 0 else (M.1 19 0 x1.toNat) : Int) then x1 else x2 : Int)), some (vI (x2 + 1))] [] M r M'))) : Ex l G (d + 1) mX11_often 63 [some (vR (some (2, 0))), some (vI x1), some (vI x2)] [] M r M' := by
  refine r_iload_n 64 dX11_often_63 rfl rfl ?_
  refine r_aload_n 65 dX11_often_64 rfl rfl ?_
  refine g_R 68 dX11_often_65 rfl rfl rfl fr_11_12 (sh_11_0 hS) ?_
  refine g_I 71 dX11_often_68 rfl rfl rfl fi_11_111 rfl ?_
  refine r_icmp_ge 74 107 dX11_often_71 rfl rfl (fun c => ?_) (fun c => ?_)
  · have h := h.1 (c)
    refine r_iload_n 108 dX11_often_107 rfl rfl ?_
    exact r_iret dX11_often_108 rfl (.inl rfl) h.1 h.2
  · have h := h.2 (c)
    obtain ⟨o_1, h⟩ := h
    refine r_aload_n 75 dX11_often_74 rfl rfl ?_
    refine g_R 78 dX11_often_75 rfl rfl rfl fr_11_93 (sh_11_15 hS) ?_
    refine r_iload_n 79 dX11_often_78 rfl rfl ?_
    refine a_I 12 80 dX11_often_79 rfl rfl rfl rfl o_1 rfl ?_
    refine r_iload_n 81 dX11_often_80 rfl rfl ?_
    refine r_bipush 83 dX11_often_81 rfl rfl ?_
    obtain ⟨h0, h⟩ := h
    have hJ_2 : Ex l G (d + 1) mX11_often 96 [some (vR (some (2, 0))), some (vI x1), some (vI x2)] [vI (if x1 = (-2) then 0 else (M.1 19 0 x1.toNat) : Int), vI (M.1 19 0 x2.toNat)] M r M' := by
      have hJ_5 : Ex l G (d + 1) mX11_often 101 [some (vR (some (2, 0))), some (vI (if (M.1 19 0 x2.toNat) ≤ (if x1 = (-2) then 0 else (M.1 19 0 x1.toNat) : Int) then x1 else x2 : Int)), some (vI x2)] [] M r M' := by
        obtain ⟨o_7, h⟩ := h
        refine r_iinc (ls' := [some (vR (some (2, 0))), some (vI (if (M.1 19 0 x2.toNat) ≤ (if x1 = (-2) then 0 else (M.1 19 0 x1.toNat) : Int) then x1 else x2 : Int)), some (vI (x2 + 1))]) 104 dX11_often_101 rfl rfl rfl rfl o_7 rfl ?_
        refine r_goto 63 dX11_often_104 rfl ?_
        exact h
      refine r_icmp_le 99 101 dX11_often_96 rfl rfl (fun c => ?_) (fun c => ?_)
      · have c_6 := c
        exact (Ex.at hJ_5 (show [some (vR (some (2, 0))), some (vI x1), some (vI x2)] = [some (vR (some (2, 0))), some (vI (if (M.1 19 0 x2.toNat) ≤ (if x1 = (-2) then 0 else (M.1 19 0 x1.toNat) : Int) then x1 else x2 : Int)), some (vI x2)] by simp only [if_pos c_6]) rfl rfl)
      · have c_6 := c
        refine r_iload_n 100 dX11_often_99 rfl rfl ?_
        refine r_istore_n (ls' := [some (vR (some (2, 0))), some (vI x2), some (vI x2)]) 101 dX11_often_100 rfl rfl rfl rfl ?_
        exact (Ex.at hJ_5 (show [some (vR (some (2, 0))), some (vI x2), some (vI x2)] = [some (vR (some (2, 0))), some (vI (if (M.1 19 0 x2.toNat) ≤ (if x1 = (-2) then 0 else (M.1 19 0 x1.toNat) : Int) then x1 else x2 : Int)), some (vI x2)] by simp only [if_neg c_6]) rfl rfl)
    have h := h0
    refine r_icmp_ne 86 90 dX11_often_83 rfl rfl (fun c => ?_) (fun c => ?_)
    · have c_3 := c
      have h := h c_3
      have o_4 := h
      refine r_aload_n 91 dX11_often_90 rfl rfl ?_
      refine g_R 94 dX11_often_91 rfl rfl rfl fr_11_93 (sh_11_15 hS) ?_
      refine r_iload_n 95 dX11_often_94 rfl rfl ?_
      refine a_I 12 96 dX11_often_95 rfl rfl rfl rfl o_4 rfl ?_
      exact (Ex.at hJ_2 rfl (show [vI (M.1 19 0 x1.toNat), vI (M.1 19 0 x2.toNat)] = [vI (if x1 = (-2) then 0 else (M.1 19 0 x1.toNat) : Int), vI (M.1 19 0 x2.toNat)] by simp only [if_neg c_3]) rfl)
    · have c_3 := Decidable.not_not.mp c
      refine r_iconst 87 dX11_often_86 rfl (InR_of rfl) ?_
      refine r_goto 96 dX11_often_87 rfl ?_
      exact (Ex.at hJ_2 rfl (show [vI 0, vI (M.1 19 0 x2.toNat)] = [vI (if x1 = (-2) then 0 else (M.1 19 0 x1.toNat) : Int), vI (M.1 19 0 x2.toNat)] by simp only [if_pos c_3]) rfl)

theorem shp_lt {f i : Nat} (h : shp f i = true) : f ≤ 14 ∧ ¬ f = 5 := by
  unfold shp at h
  have h2 := List.contains_iff_mem.mp h
  have h3 : ∀ q ∈ ([(9, 0), (9, 1), (9, 2), (9, 3), (9, 12), (13, 1), (12, 8), (8, 0), (8, 1), (8, 2), (11, 0), (11, 2), (6, 0), (6, 1), (14, 1), (14, 2), (14, 3), (14, 4), (4, 1), (4, 3), (4, 5), (4, 6), (4, 7), (4, 9), (4, 12), (10, 0), (10, 1), (10, 2), (10, 3), (10, 4), (7, 0), (7, 1), (2, 0), (2, 1), (2, 2), (2, 3), (2, 4), (2, 5), (2, 6), (2, 7), (2, 8), (2, 9), (2, 11), (2, 13), (2, 14), (2, 15), (3, 1), (3, 2), (3, 3), (3, 4), (3, 5), (3, 6), (3, 7), (3, 8), (3, 9), (3, 10), (3, 11), (3, 12), (3, 13), (3, 14), (3, 15), (3, 16), (3, 17), (3, 18), (3, 19), (3, 20), (3, 21), (3, 22), (3, 23), (3, 24), (3, 25), (3, 26), (3, 27), (3, 28), (3, 39), (3, 40), (3, 41), (3, 42), (3, 43), (3, 44), (3, 45), (3, 46), (3, 47), (3, 51), (3, 52), (3, 53), (3, 54), (3, 55), (3, 64), (3, 65)] : List (Nat × Nat)), q.1 ≤ 14 ∧ ¬ q.1 = 5 := by decide
  exact h3 (f, i) h2
def opnN (Q : QT) (q : Nat) (k : Nat) : Int := cntF (fun k => Q 66 k = 1 ∧ Q 69 k = (q : Int)) k
def oftF (Q : QT) : Nat → Int × Int
  | 0 => (-2, 0)
  | q + 1 => if opnN Q q (nLt Q) ≤ (oftF Q q).2 then oftF Q q else ((q : Int), opnN Q q (nLt Q))
def oftenV (Q : QT) : Int := (oftF Q (nPp Q)).1
theorem oftF_or (Q : QT) : ∀ k, ((oftF Q k).1 = -2 ∧ (oftF Q k).2 = 0) ∨ ∃ v : Nat, v < k ∧ (oftF Q k).1 = (v : Int) ∧ (oftF Q k).2 = opnN Q v (nLt Q) := by
  intro k
  induction k with
  | zero => exact .inl ⟨rfl, rfl⟩
  | succ k ih =>
    unfold oftF
    split
    · rcases ih with h | ⟨v, h1, h2⟩
      · exact .inl h
      · exact .inr ⟨v, by omega, h2⟩
    · exact .inr ⟨k, by omega, rfl, rfl⟩
section OF
variable {l : Launch} {G : Gt} {d : Nat} {Q : QT} {M : Mem}
theorem KX12_often (hS : Sh M.2.1) (hw : WFA Q) (hH : HoldsQ Q M.1) : Cl l G d mX12_often [vR (some (3, 0))] M (some (vI (oftenV Q))) M := by
  have h12 := nPp_le hw.1.1
  have h8 := hw.l.n8
  have e1 := mppl_eq hw.1.1 hH.m
  have e3 : M.1 48 0 3 = (nLt Q : Int) := (hH.1 _ _ (by unfold perF; omega)).trans (nLt_eq hw.l)
  refine xX12_often_0 ?_
  refine loopUp (P := fun q : Nat => Ex l G d mX12_often 7 [some (vR (some (3, 0))), some (vI (oftF Q q).1), some (vI (oftF Q q).2), some (vI (q : Int)), none, none] [] M (some (vI (oftenV Q))) M) 0 (nPp Q) (by omega) ?_ ?_
  · intro q _ hqn ih
    refine xX12_often_7 hS ⟨fun c => by omega, fun _ => ?_⟩
    refine loopUp (P := fun k : Nat => Ex l G d mX12_often 23 [some (vR (some (3, 0))), some (vI (oftF Q q).1), some (vI (oftF Q q).2), some (vI (q : Int)), some (vI (opnN Q q k)), some (vI (k : Int))] [] M (some (vI (oftenV Q))) M) 0 (nLt Q) (by omega) ?_ ?_
    · intro k _ hk ih2
      have hc := cntF_in (fun k => Q 66 k = 1 ∧ Q 69 k = (q : Int)) k
      have es : opnN Q q (k + 1) = opnN Q q k + (if Q 66 k = 1 ∧ Q 69 k = (q : Int) then 1 else 0) := rfl
      have ho : 0 ≤ opnN Q q k ∧ opnN Q q k ≤ k := hc
      refine xX12_often_23 hS ⟨fun c => by omega, fun _ => ⟨by omega, ?_⟩⟩
      rw [Int.toNat_natCast, hH.1 66 k (by unfold perF; omega), hH.1 69 k (by unfold perF; omega)]
      by_cases c1 : Q 66 k = 1
      · by_cases c2 : Q 69 k = (q : Int)
        · rw [if_pos ⟨c1, c2⟩] at es
          rw [if_pos c1, if_pos c2]
          rw [es] at ih2
          exact ⟨fun _ => by omega, ⟨by unfold InR; omega, by unfold InR; omega⟩, ih2⟩
        · rw [if_neg (fun x => c2 x.2)] at es
          rw [if_pos c1, if_neg c2]
          rw [es] at ih2
          exact ⟨fun _ => by omega, ⟨by unfold InR; omega, by unfold InR; omega⟩, ih2⟩
      · rw [if_neg (fun x => c1 x.1)] at es
        rw [if_neg c1]
        rw [es] at ih2
        exact ⟨fun _ => by omega, ⟨by unfold InR; omega, by unfold InR; omega⟩, ih2⟩
    · refine xX12_often_23 hS ⟨fun _ => ⟨by unfold InR; omega, ?_⟩, fun c => absurd (by omega) c⟩
      have eo : oftF Q (q + 1) = if opnN Q q (nLt Q) ≤ (oftF Q q).2 then oftF Q q else ((q : Int), opnN Q q (nLt Q)) := rfl
      by_cases c : opnN Q q (nLt Q) ≤ (oftF Q q).2
      · rw [if_pos c] at eo
        rw [if_pos c, if_pos c]
        rw [eo] at ih
        exact ih
      · rw [if_neg c] at eo
        rw [if_neg c, if_neg c]
        rw [eo] at ih
        exact ih
  · exact xX12_often_7 hS ⟨fun _ => ⟨rfl, rfl⟩, fun c => absurd (by omega) c⟩
theorem often_10 (hw : WFA Q) (hR : RelC Q M) : ∀ k : Nat, k ≤ nLt Q → ∀ I, (∀ f j i, ¬ (f = 19 ∧ j = 0) → I f j i = M.1 f j i) → (∀ q : Nat, q < nPp Q → I 19 0 q = opnN Q q (nLt Q - k)) → ∃ I', Ex l G (d + 1) mX11_often 10 [some (vR (some (2, 0))), some (vI ((nLt Q - k : Nat) : Int)), none] [] (I, M.2.1, M.2.2) (some (vI (oftenV Q))) (I', M.2.1, M.2.2) ∧ ∀ f j i, ¬ (f = 19 ∧ j = 0) → I' f j i = M.1 f j i := by
  have h12 := nPp_le hw.1.1
  have h8 := hw.l.n8
  have hS := hR.1.1.1
  have hL := hR.2.1.2.2.2.2.2.2.2
  intro k
  induction k with
  | zero =>
    intro _ I hI hO
    have e1 : I 4 0 0 = (nPp Q : Int) := by rw [hI _ _ _ (by omega)]; exact cppl_eq hw.1.1 hR.1.1
    have e3 : I 4 0 8 = (nLt Q : Int) := by rw [hI _ _ _ (by omega)]; exact hL.1.1.trans (nLt_eq hw.l)
    refine ⟨I, xX11_often_10 hS ⟨fun _ => ?_, fun c => absurd (by dsimp only; omega) c⟩, hI⟩
    refine loopUp (P := fun q : Nat => Ex l G (d + 1) mX11_often 63 [some (vR (some (2, 0))), some (vI (oftF Q q).1), some (vI (q : Int))] [] (I, M.2.1, M.2.2) (some (vI (oftenV Q))) (I, M.2.1, M.2.2)) 0 (nPp Q) (by omega) ?_ ?_
    · intro q _ hqn ih
      have eo : oftF Q (q + 1) = if opnN Q q (nLt Q) ≤ (oftF Q q).2 then oftF Q q else ((q : Int), opnN Q q (nLt Q)) := rfl
      have oq : I 19 0 (q : Int).toNat = opnN Q q (nLt Q) := by rw [Int.toNat_natCast]; exact hO q hqn
      refine xX11_often_63 hS ⟨fun c => by dsimp only at c; omega, fun _ => ⟨by omega, ?_⟩⟩
      have em : (if (oftF Q q).1 = -2 then 0 else I 19 0 (oftF Q q).1.toNat : Int) = (oftF Q q).2 := by
        rcases oftF_or Q q with ⟨a, b⟩ | ⟨v, a, b, c⟩
        · rw [if_pos a, b]
        · rw [if_neg (by omega), b, c, Int.toNat_natCast]; exact hO v (by omega)
      dsimp only
      simp only [em, oq]
      refine ⟨fun c => ?_, by unfold InR; omega, ?_⟩
      · rcases oftF_or Q q with ⟨a, b⟩ | ⟨v, a, b, c⟩
        · exact absurd a c
        · omega
      · by_cases c : opnN Q q (nLt Q) ≤ (oftF Q q).2
        · rw [if_pos c] at eo ⊢
          rw [eo] at ih
          exact ih
        · rw [if_neg c] at eo ⊢
          rw [eo] at ih
          exact ih
    · exact xX11_often_63 hS ⟨fun _ => ⟨rfl, rfl⟩, fun c => absurd (by dsimp only; omega) c⟩
  | succ k ih =>
    intro hk I hI hO
    have e1 : I 4 0 0 = (nPp Q : Int) := by rw [hI _ _ _ (by omega)]; exact cppl_eq hw.1.1 hR.1.1
    have e3 : I 4 0 8 = (nLt Q : Int) := by rw [hI _ _ _ (by omega)]; exact hL.1.1.trans (nLt_eq hw.l)
    obtain ⟨j, hj⟩ : ∃ j, nLt Q - (k + 1) = j := ⟨_, rfl⟩
    rw [hj] at hO ⊢
    have hjn : nLt Q - k = j + 1 := by omega
    rw [hjn] at ih
    obtain ⟨_, b1, b2, b3, b4, b5, b6, b7, b8⟩ := hL.2.2 j (by omega)
    have e8 : I 5 j 8 = Q 69 j := by rw [hI _ _ _ (by omega)]; exact b7
    have hp : M.2.1 38 0 (j : Int).toNat = some (5, j) := by rw [Int.toNat_natCast]; exact hL.2.1 j (by omega)
    have hst := (hw.l.2.2 j (by omega)).2.2.2.2.2
    have es : ∀ q : Nat, opnN Q q (j + 1) = opnN Q q j + (if Q 66 j = 1 ∧ Q 69 j = (q : Int) then 1 else 0) := fun q => rfl
    by_cases c : 0 ≤ Q 69 j ∧ Q 69 j < nPp Q
    · have c1 : Q 66 j = 1 := by omega
      have ev := hO (Q 69 j).toNat (by omega)
      have hc := cntF_in (fun k => Q 66 k = 1 ∧ Q 69 k = (((Q 69 j).toNat : Nat) : Int)) j
      have ho : 0 ≤ opnN Q (Q 69 j).toNat j ∧ opnN Q (Q 69 j).toNat j ≤ j := hc
      obtain ⟨I', x1, x2⟩ := ih (by omega) (upI I 19 0 (Q 69 j).toNat (opnN Q (Q 69 j).toNat j + 1)) (fun f j' i hn => by rw [upI_o hn]; exact hI f j' i hn) (fun q hqn => by
        rw [es q, upI_c]
        by_cases cq : q = (Q 69 j).toNat
        · rw [if_pos cq, if_pos ⟨c1, by omega⟩, cq]
        · rw [if_neg cq, if_neg (by omega), hO q hqn]; omega)
      refine ⟨I', xX11_often_10 hS ⟨fun c => by dsimp only at c; omega, fun _ => ⟨by omega, j, hp, ?_⟩⟩, x2⟩
      dsimp only
      rw [e8, e1, ev]
      exact ⟨fun c2 => absurd c c2, fun _ => ⟨⟨by omega, by unfold InR; omega, by unfold InR; omega⟩, x1⟩⟩
    · obtain ⟨I', x1, x2⟩ := ih (by omega) I hI (fun q hqn => by
        rw [es q, if_neg (fun x => c (by omega)), hO q hqn]; omega)
      refine ⟨I', xX11_often_10 hS ⟨fun c => by dsimp only at c; omega, fun _ => ⟨by omega, j, hp, ?_⟩⟩, x2⟩
      dsimp only
      rw [e8, e1]
      exact ⟨fun _ => ⟨by unfold InR; omega, x1⟩, fun c2 => absurd c2 c⟩
theorem KX11_often (hR : RelC Q M) (hw : WFA Q) : ∃ M', Cl l G (d + 1) mX11_often [vR (some (2, 0))] M (some (vI (oftenV Q))) M' ∧ RelB Q M' ∧ frB M M' := by
  obtain ⟨I', x1, x2⟩ := often_10 (l := l) (G := G) (d := d) hw hR (nLt Q) (Nat.le_refl _) (flI M.1 19 0 12 0) (fun f j i hn => by unfold flI; rw [seI_o hn]) (fun q hq => by
    have h12 := nPp_le hw.1.1
    rw [Nat.sub_self, flI_s, if_pos (by omega)]
    rfl)
  rw [Nat.sub_self] at x1
  have fB : frB M (I', M.2.1, M.2.2) := frB.I fun f k i hn => x2 f k i (fun c => hn (by unfold scC; omega))
  have RB : RelB Q (I', M.2.1, M.2.2) := hR.1.fr (hR.1.1.I fun f k i hr => x2 f k i (by unfold relF at hr; omega)) fB
  exact ⟨_, xX11_often_0 hR.1.1.1 x1, RB, fB⟩
end OF
