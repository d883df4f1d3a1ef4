/-! days on the reference, to the end; letters on the class -/
set_option maxRecDepth 4000 in
theorem xX0_oneDay_0 {l : Launch} {G : Gt} {d : Nat} {M M' : Mem} {r : Option Vl}  (h : 
    Ex l G (d + 1) mX0_oneDay 2 [some (vR (some (9, 0))), some (vI 0), none, none] [] M r M') : Cl l G (d + 1) mX0_oneDay [vR (some (9, 0))] M r M' := by
  show Ex l G (d + 1) mX0_oneDay 0 [some (vR (some (9, 0))), none, none, none] [] M r M'
  refine r_iconst 1 dX0_oneDay_0 rfl (InR_of rfl) ?_
  refine r_istore_n (ls' := [some (vR (some (9, 0))), some (vI 0), none, none]) 2 dX0_oneDay_1 rfl rfl rfl rfl ?_
  exact h
set_option maxRecDepth 4000 in
theorem xX0_oneDay_2 {l : Launch} {G : Gt} {d : Nat} {M M' : Mem} {r : Option Vl} {x1 : Int} (hS : Sh M.2.1) (h : 
    ((M.1 4 0 8) ≤ x1 → (InR ((M.1 4 0 10) + 1)) ∧ r = none ∧ M' = ((upI M.1 4 0 10 ((M.1 4 0 10) + 1)), M.2.1, M.2.2)) ∧ (¬ ((M.1 4 0 8) ≤ x1) → ((0 ≤ x1 ∧ x1 < 8)) ∧ (∃ k_3 : Nat, (M.2.1 38 0 x1.toNat) = some (5, k_3) ∧ ((¬ ((M.1 5 k_3 5) = 0) → (InR (x1 + 1)) ∧ Ex l G (d + 1) mX0_oneDay 2 [some (vR (some (9, 0))), some (vI (x1 + 1)), none, none] [] M r M') ∧ ((M.1 5 k_3 5) = 0 → (¬ ((M.1 5 k_3 7) = (M.1 4 0 10)) → (InR (x1 + 1)) ∧ Ex l G (d + 1) mX0_oneDay 2 [some (vR (some (9, 0))), some (vI (x1 + 1)), none, none] [] M r M') ∧ ((M.1 5 k_3 7) = (M.1 4 0 10) → ∃ (r_9 : Int) (M_7 : Mem), Cl l G d mX0_askOn [vR (some (9, 0)), vR (some (5, k_3))] M (some (vI r_9)) M_7 ∧ ((r_9 = (-1) → (InR (x1 + 1)) ∧ Ex l G (d + 1) mX0_oneDay 2 [some (vR (some (9, 0))), some (vI (x1 + 1)), none, none] [] M_7 r M') ∧ (¬ (r_9 = (-1)) → ∃ (M_11 : Mem), Cl l G d mX0_goTo [vR (some (9, 0)), vR (some (5, k_3)), vI r_9] M_7 none M_11 ∧ (InR (x1 + 1)) ∧ Ex l G (d + 1) mX0_oneDay 2 [some (vR (some (9, 0))), some (vI (x1 + 1)), none, none] [] M_11 r M')))))))) : Ex l G (d + 1) mX0_oneDay 2 [some (vR (some (9, 0))), some (vI x1), none, none] [] M r M' := by
  refine r_iload_n 3 dX0_oneDay_2 rfl rfl ?_
  refine r_aload_n 4 dX0_oneDay_3 rfl rfl ?_
  refine g_R 7 dX0_oneDay_4 rfl rfl rfl fr_0_15 (sh_0_0 hS) ?_
  refine g_I 10 dX0_oneDay_7 rfl rfl rfl fi_0_143 rfl ?_
  refine r_icmp_ge 13 67 dX0_oneDay_10 rfl rfl (fun c => ?_) (fun c => ?_)
  · have h := h.1 (c)
    obtain ⟨o_1, h⟩ := h
    refine r_aload_n 68 dX0_oneDay_67 rfl rfl ?_
    refine g_R 71 dX0_oneDay_68 rfl rfl rfl fr_0_15 (sh_0_0 hS) ?_
    refine r_dup 72 dX0_oneDay_71 rfl rfl ?_
    refine g_I 75 dX0_oneDay_72 rfl rfl rfl fi_0_150 rfl ?_
    refine r_iconst 76 dX0_oneDay_75 rfl (InR_of rfl) ?_
    refine r_iadd 77 dX0_oneDay_76 rfl o_1 ?_
    refine p_I 80 dX0_oneDay_77 rfl rfl rfl rfl pf_0_150 (.inl rfl) rfl ?_
    exact r_vret dX0_oneDay_80 rfl h.1 h.2
  · have h := h.2 (c)
    obtain ⟨o_2, h⟩ := h
    refine r_aload_n 14 dX0_oneDay_13 rfl rfl ?_
    refine g_R 17 dX0_oneDay_14 rfl rfl rfl fr_0_15 (sh_0_0 hS) ?_
    refine g_R 20 dX0_oneDay_17 rfl rfl rfl fr_0_146 (sh_8_9 hS _) ?_
    refine r_iload_n 21 dX0_oneDay_20 rfl rfl ?_
    refine a_R (ci := 5) 8 22 dX0_oneDay_21 rfl rfl rfl rfl rfl o_2 rfl ?_
    refine r_astore_n (ls' := [some (vR (some (9, 0))), some (vI x1), some (vR (M.2.1 38 0 x1.toNat)), none]) 23 dX0_oneDay_22 rfl rfl rfl rfl ?_
    refine r_aload_n 24 dX0_oneDay_23 rfl rfl ?_
    obtain ⟨k_3, e_4, h⟩ := h
    refine g_I 27 dX0_oneDay_24 rfl e_4 rfl fi_0_124 rfl ?_
    refine r_if_ne 30 61 dX0_oneDay_27 rfl rfl (fun c => ?_) (fun c => ?_)
    · have h := h.1 (c)
      obtain ⟨o_5, h⟩ := h
      refine r_iinc (ls' := [some (vR (some (9, 0))), some (vI (x1 + 1)), some (vR (M.2.1 38 0 x1.toNat)), none]) 64 dX0_oneDay_61 rfl rfl rfl rfl o_5 rfl ?_
      refine r_goto 2 dX0_oneDay_64 rfl ?_
      exact Ex.weak (Ex.at h rfl rfl rfl) ⟨rfl, rfl, trivial⟩
    · have h := h.2 (Decidable.not_not.mp c)
      refine r_aload_n 31 dX0_oneDay_30 rfl rfl ?_
      refine g_I 34 dX0_oneDay_31 rfl e_4 rfl fi_0_113 rfl ?_
      refine r_aload_n 35 dX0_oneDay_34 rfl rfl ?_
      refine g_R 38 dX0_oneDay_35 rfl rfl rfl fr_0_15 (sh_0_0 hS) ?_
      refine g_I 41 dX0_oneDay_38 rfl rfl rfl fi_0_150 rfl ?_
      refine r_icmp_ne 44 61 dX0_oneDay_41 rfl rfl (fun c => ?_) (fun c => ?_)
      · have h := h.1 (c)
        obtain ⟨o_6, h⟩ := h
        refine r_iinc (ls' := [some (vR (some (9, 0))), some (vI (x1 + 1)), some (vR (M.2.1 38 0 x1.toNat)), none]) 64 dX0_oneDay_61 rfl rfl rfl rfl o_6 rfl ?_
        refine r_goto 2 dX0_oneDay_64 rfl ?_
        exact Ex.weak (Ex.at h rfl rfl rfl) ⟨rfl, rfl, trivial⟩
      · have h := h.2 (Decidable.not_not.mp c)
        refine r_aload_n 45 dX0_oneDay_44 rfl rfl ?_
        refine r_aload_n 46 dX0_oneDay_45 rfl rfl ?_
        refine Ex.at (st2 := [vR (some (5, k_3)), vR (some (9, 0))]) ?_ rfl (show [vR (M.2.1 38 0 x1.toNat), vR (some (9, 0))] = [vR (some (5, k_3)), vR (some (9, 0))] by rw [e_4]) rfl
        obtain ⟨r_9, M_7, hc_8, h⟩ := h
        refine v_1 (ci := 0) (C := (RX0, TX0, 13)) [vR (some (5, k_3))] [] 49 dX0_oneDay_46 rfl rfl rfl rfl rfl mo_X0_askOn ml_0_153 rfl rfl hc_8 ?_
        refine r_istore_n (ls' := [some (vR (some (9, 0))), some (vI x1), some (vR (M.2.1 38 0 x1.toNat)), some (vI r_9)]) 50 dX0_oneDay_49 rfl rfl rfl rfl ?_
        refine r_iload_n 51 dX0_oneDay_50 rfl rfl ?_
        refine r_iconst 52 dX0_oneDay_51 rfl (InR_of rfl) ?_
        refine r_icmp_eq 55 61 dX0_oneDay_52 rfl rfl (fun c => ?_) (fun c => ?_)
        · have h := h.1 (c)
          obtain ⟨o_10, h⟩ := h
          refine r_iinc (ls' := [some (vR (some (9, 0))), some (vI (x1 + 1)), some (vR (M.2.1 38 0 x1.toNat)), some (vI r_9)]) 64 dX0_oneDay_61 rfl rfl rfl rfl o_10 rfl ?_
          refine r_goto 2 dX0_oneDay_64 rfl ?_
          exact Ex.weak (Ex.at h rfl rfl rfl) ⟨rfl, rfl, trivial⟩
        · have h := h.2 (c)
          refine r_aload_n 56 dX0_oneDay_55 rfl rfl ?_
          refine r_aload_n 57 dX0_oneDay_56 rfl rfl ?_
          refine r_iload_n 58 dX0_oneDay_57 rfl rfl ?_
          refine Ex.at (st2 := [vI r_9, vR (some (5, k_3)), vR (some (9, 0))]) ?_ rfl (show [vI r_9, vR (M.2.1 38 0 x1.toNat), vR (some (9, 0))] = [vI r_9, vR (some (5, k_3)), vR (some (9, 0))] by rw [e_4]) rfl
          obtain ⟨M_11, hc_12, h⟩ := h
          refine v_0 (ci := 0) (C := (RX0, TX0, 13)) [vR (some (5, k_3)), vI r_9] [] 61 dX0_oneDay_58 rfl rfl rfl rfl rfl mo_X0_goTo ml_0_156 rfl rfl hc_12 ?_
          obtain ⟨o_13, h⟩ := h
          refine r_iinc (ls' := [some (vR (some (9, 0))), some (vI (x1 + 1)), some (vR (M.2.1 38 0 x1.toNat)), some (vI r_9)]) 64 dX0_oneDay_61 rfl rfl rfl rfl o_13 rfl ?_
          refine r_goto 2 dX0_oneDay_64 rfl ?_
          exact Ex.weak (Ex.at h rfl rfl rfl) ⟨rfl, rfl, trivial⟩

set_option maxRecDepth 4000 in
theorem xX8_howManyAre_0 {l : Launch} {G : Gt} {d : Nat} {M M' : Mem} {r : Option Vl} {k0 : Nat} {x1 : Int} (h : 
    Ex l G d mX8_howManyAre 4 [some (vR (some (4, k0))), some (vI x1), some (vI 0), some (vI 0)] [] M r M') : Cl l G d mX8_howManyAre [vR (some (4, k0)), vI x1] M r M' := by
  show Ex l G d mX8_howManyAre 0 [some (vR (some (4, k0))), some (vI x1), none, none] [] M r M'
  refine r_iconst 1 dX8_howManyAre_0 rfl (InR_of rfl) ?_
  refine r_istore_n (ls' := [some (vR (some (4, k0))), some (vI x1), some (vI 0), none]) 2 dX8_howManyAre_1 rfl rfl rfl rfl ?_
  refine r_iconst 3 dX8_howManyAre_2 rfl (InR_of rfl) ?_
  refine r_istore_n (ls' := [some (vR (some (4, k0))), some (vI x1), some (vI 0), some (vI 0)]) 4 dX8_howManyAre_3 rfl rfl rfl rfl ?_
  exact h
set_option maxRecDepth 4000 in
theorem xX8_howManyAre_4 {l : Launch} {G : Gt} {d : Nat} {M M' : Mem} {r : Option Vl} {k0 : Nat} {x1 : Int} {x2 : Int} {x3 : Int} (hS : Sh M.2.1) (h : 
    ((M.1 4 k0 8) ≤ x3 → r = some (vI x2) ∧ M' = M) ∧ (¬ ((M.1 4 k0 8) ≤ x3) → ((0 ≤ x3 ∧ x3 < 8)) ∧ (∃ k_2 : Nat, (M.2.1 38 k0 x3.toNat) = some (5, k_2) ∧ (InR (x2 + (if (M.1 5 k_2 5) = x1 then 1 else 0 : Int)) ∧ InR (x3 + 1)) ∧ Ex l G d mX8_howManyAre 4 [some (vR (some (4, k0))), some (vI x1), some (vI (x2 + (if (M.1 5 k_2 5) = x1 then 1 else 0 : Int))), some (vI (x3 + 1))] [] M r M'))) : Ex l G d mX8_howManyAre 4 [some (vR (some (4, k0))), some (vI x1), some (vI x2), some (vI x3)] [] M r M' := by
  refine r_iload_n 5 dX8_howManyAre_4 rfl rfl ?_
  refine r_aload_n 6 dX8_howManyAre_5 rfl rfl ?_
  refine g_I 9 dX8_howManyAre_6 rfl rfl rfl fi_8_53 rfl ?_
  refine r_icmp_ge 12 39 dX8_howManyAre_9 rfl rfl (fun c => ?_) (fun c => ?_)
  · have h := h.1 (c)
    refine r_iload_n 40 dX8_howManyAre_39 rfl rfl ?_
    exact r_iret dX8_howManyAre_40 rfl (.inl rfl) h.1 h.2
  · have h := h.2 (c)
    obtain ⟨o_1, h⟩ := h
    refine r_iload_n 13 dX8_howManyAre_12 rfl rfl ?_
    refine r_aload_n 14 dX8_howManyAre_13 rfl rfl ?_
    refine g_R 17 dX8_howManyAre_14 rfl rfl rfl fr_8_29 (sh_8_9 hS _) ?_
    refine r_iload_n 18 dX8_howManyAre_17 rfl rfl ?_
    refine a_R (ci := 5) 8 19 dX8_howManyAre_18 rfl rfl rfl rfl rfl o_1 rfl ?_
    obtain ⟨k_2, e_3, h⟩ := h
    refine g_I 22 dX8_howManyAre_19 rfl e_3 rfl fi_8_76 rfl ?_
    refine r_iload_n 23 dX8_howManyAre_22 rfl rfl ?_
    have hJ_4 : Ex l G d mX8_howManyAre 31 [some (vR (some (4, k0))), some (vI x1), some (vI x2), some (vI x3)] [vI (if (M.1 5 k_2 5) = x1 then 1 else 0 : Int), vI x2] M r M' := by
      obtain ⟨⟨o_6, o_7⟩, h⟩ := h
      refine r_iadd 32 dX8_howManyAre_31 rfl o_6 ?_
      refine r_istore_n (ls' := [some (vR (some (4, k0))), some (vI x1), some (vI (x2 + (if (M.1 5 k_2 5) = x1 then 1 else 0 : Int))), some (vI x3)]) 33 dX8_howManyAre_32 rfl rfl rfl rfl ?_
      refine r_iinc (ls' := [some (vR (some (4, k0))), some (vI x1), some (vI (x2 + (if (M.1 5 k_2 5) = x1 then 1 else 0 : Int))), some (vI (x3 + 1))]) 36 dX8_howManyAre_33 rfl rfl rfl rfl o_7 rfl ?_
      refine r_goto 4 dX8_howManyAre_36 rfl ?_
      exact h
    refine r_icmp_ne 26 30 dX8_howManyAre_23 rfl rfl (fun c => ?_) (fun c => ?_)
    · have c_5 := c
      refine r_iconst 31 dX8_howManyAre_30 rfl (InR_of rfl) ?_
      exact (Ex.at hJ_4 rfl (show [vI 0, vI x2] = [vI (if (M.1 5 k_2 5) = x1 then 1 else 0 : Int), vI x2] by simp only [if_neg c_5]) rfl)
    · have c_5 := Decidable.not_not.mp c
      refine r_iconst 27 dX8_howManyAre_26 rfl (InR_of rfl) ?_
      refine r_goto 31 dX8_howManyAre_27 rfl ?_
      exact (Ex.at hJ_4 rfl (show [vI 1, vI x2] = [vI (if (M.1 5 k_2 5) = x1 then 1 else 0 : Int), vI x2] by simp only [if_pos c_5]) rfl)

set_option maxRecDepth 4000 in
theorem xX11_days_0 {l : Launch} {G : Gt} {d : Nat} {M M' : Mem} {r : Option Vl} {x1 : Int} (hS : Sh M.2.1) (h : 
    (x1 < 1 → r = some (vI (-1)) ∧ M' = M) ∧ (¬ (x1 < 1) → (60 < x1 → r = some (vI (-1)) ∧ M' = M) ∧ (¬ (60 < x1) → (InR ((M.1 4 0 10) + x1)) ∧ ((((M.1 4 0 10) + x1) ≤ 999 → Ex l G (d + 1) mX11_days 30 [some (vR (some (2, 0))), some (vI x1), some (vI 0)] [] M r M') ∧ (¬ (((M.1 4 0 10) + x1) ≤ 999) → r = some (vI (-1)) ∧ M' = M))))) : Cl l G (d + 1) mX11_days [vR (some (2, 0)), vI x1] M r M' := by
  show Ex l G (d + 1) mX11_days 0 [some (vR (some (2, 0))), some (vI x1), none] [] M r M'
  refine r_iload_n 1 dX11_days_0 rfl rfl ?_
  refine r_iconst 2 dX11_days_1 rfl (InR_of rfl) ?_
  refine r_icmp_lt 5 26 dX11_days_2 rfl rfl (fun c => ?_) (fun c => ?_)
  · have h := h.1 (c)
    refine r_iconst 27 dX11_days_26 rfl (InR_of rfl) ?_
    exact r_iret dX11_days_27 rfl (.inl rfl) h.1 h.2
  · have h := h.2 (c)
    refine r_iload_n 6 dX11_days_5 rfl rfl ?_
    refine r_bipush 8 dX11_days_6 rfl rfl ?_
    refine r_icmp_gt 11 26 dX11_days_8 rfl rfl (fun c => ?_) (fun c => ?_)
    · have h := h.1 (c)
      refine r_iconst 27 dX11_days_26 rfl (InR_of rfl) ?_
      exact r_iret dX11_days_27 rfl (.inl rfl) h.1 h.2
    · have h := h.2 (c)
      obtain ⟨o_1, h⟩ := h
      refine r_aload_n 12 dX11_days_11 rfl rfl ?_
      refine g_R 15 dX11_days_12 rfl rfl rfl fr_11_12 (sh_11_0 hS) ?_
      refine g_I 18 dX11_days_15 rfl rfl rfl fi_11_231 rfl ?_
      refine r_iload_n 19 dX11_days_18 rfl rfl ?_
      refine r_iadd 20 dX11_days_19 rfl o_1 ?_
      refine r_sipush 23 dX11_days_20 rfl rfl ?_
      refine r_icmp_le 26 28 dX11_days_23 rfl rfl (fun c => ?_) (fun c => ?_)
      · have h := h.1 (c)
        refine r_iconst 29 dX11_days_28 rfl (InR_of rfl) ?_
        refine r_istore_n (ls' := [some (vR (some (2, 0))), some (vI x1), some (vI 0)]) 30 dX11_days_29 rfl rfl rfl rfl ?_
        exact h
      · have h := h.2 (c)
        refine r_iconst 27 dX11_days_26 rfl (InR_of rfl) ?_
        exact r_iret dX11_days_27 rfl (.inl rfl) h.1 h.2
set_option maxRecDepth 4000 in
theorem xX11_days_30 {l : Launch} {G : Gt} {d : Nat} {M M' : Mem} {r : Option Vl} {x1 : Int} {x2 : Int} (hS : Sh M.2.1) (h : 
    (x1 ≤ x2 → ∃ (r_3 : Int) (M_1 : Mem), Cl l G d mX8_howManyAre [vR (some (4, 0)), vI 0] M (some (vI r_3)) M_1 ∧ r = some (vI r_3) ∧ M' = M_1) ∧ (¬ (x1 ≤ x2) → ∃ (M_4 : Mem), Cl l G d mX0_oneDay [vR (some (9, 0))] M none M_4 ∧ (InR (x2 + 1)) ∧ Ex l G (d + 1) mX11_days 30 [some (vR (some (2, 0))), some (vI x1), some (vI (x2 + 1))] [] M_4 r M')) : Ex l G (d + 1) mX11_days 30 [some (vR (some (2, 0))), some (vI x1), some (vI x2)] [] M r M' := by
  refine r_iload_n 31 dX11_days_30 rfl rfl ?_
  refine r_iload_n 32 dX11_days_31 rfl rfl ?_
  refine r_icmp_ge 35 48 dX11_days_32 rfl rfl (fun c => ?_) (fun c => ?_)
  · have h := h.1 (c)
    refine r_aload_n 49 dX11_days_48 rfl rfl ?_
    refine g_R 52 dX11_days_49 rfl rfl rfl fr_11_12 (sh_11_0 hS) ?_
    refine r_iconst 53 dX11_days_52 rfl (InR_of rfl) ?_
    obtain ⟨r_3, M_1, hc_2, h⟩ := h
    refine v_1 (ci := 8) (C := (RX8, TX8, 13)) [vI 0] [] 56 dX11_days_53 rfl rfl rfl rfl rfl mo_X8_howManyAre ml_11_240 rfl rfl hc_2 ?_
    exact r_iret dX11_days_56 rfl (.inl rfl) h.1 h.2
  · have h := h.2 (c)
    refine r_aload_n 36 dX11_days_35 rfl rfl ?_
    refine g_R 39 dX11_days_36 rfl rfl rfl fr_11_44 (sh_11_4 hS) ?_
    obtain ⟨M_4, hc_5, h⟩ := h
    refine v_0 (ci := 0) (C := (RX0, TX0, 13)) [] [] 42 dX11_days_39 rfl rfl rfl rfl rfl mo_X0_oneDay ml_11_237 rfl rfl hc_5 ?_
    obtain ⟨o_6, h⟩ := h
    refine r_iinc (ls' := [some (vR (some (2, 0))), some (vI x1), some (vI (x2 + 1))]) 45 dX11_days_42 rfl rfl rfl rfl o_6 rfl ?_
    refine r_goto 30 dX11_days_45 rfl ?_
    exact h

theorem dayQ_c {Q : QT} : eqC Q (dayQ Q) := by
  have h := (dayF_T (Q := Q) (nLt Q))
  have hc := h.c
  refine ⟨?_, ?_, ?_, ?_, ?_, ?_, ?_, ?_, ?_⟩
  · unfold dayQ; rw [upQ_i (by omega)]; exact hc.1
  · unfold dayQ; rw [upQ_i (by omega)]; exact hc.2.1
  · unfold dayQ; rw [upQ_f (by omega)]; exact hc.2.2.1
  · unfold dayQ; rw [upQ_f (by omega)]; exact hc.2.2.2.1
  · unfold dayQ; rw [upQ_f (by omega)]; exact hc.2.2.2.2.1
  · unfold dayQ; rw [upQ_f (by omega)]; exact hc.2.2.2.2.2.1
  · unfold dayQ; rw [upQ_f (by omega)]; exact hc.2.2.2.2.2.2.1
  · unfold dayQ; rw [upQ_f (by omega)]; exact hc.2.2.2.2.2.2.2.1
  · unfold dayQ; rw [upQ_f (by omega)]; exact hc.2.2.2.2.2.2.2.2
theorem dayQ_v {Q : QT} : eqV Q (dayQ Q) := by
  have hc := (dayF_T (Q := Q) (nLt Q)).v
  refine ⟨?_, ?_, ?_, ?_, ?_, ?_⟩
  · unfold dayQ; rw [upQ_f (by omega)]; exact hc.1
  · unfold dayQ; rw [upQ_f (by omega)]; exact hc.2.1
  · unfold dayQ; rw [upQ_f (by omega)]; exact hc.2.2.1
  · unfold dayQ; rw [upQ_f (by omega)]; exact hc.2.2.2.1
  · unfold dayQ; rw [upQ_f (by omega)]; exact hc.2.2.2.2.1
  · unfold dayQ; rw [upQ_f (by omega)]; exact hc.2.2.2.2.2
theorem dayQ_r {Q : QT} : eqR Q (dayQ Q) := by
  have hc := (dayF_T (Q := Q) (nLt Q)).r
  refine ⟨?_, ?_, ?_, ?_⟩
  · unfold dayQ; rw [upQ_i (by omega)]; exact hc.1
  · unfold dayQ; rw [upQ_f (by omega)]; exact hc.2.1
  · unfold dayQ; rw [upQ_f (by omega)]; exact hc.2.2.1
  · unfold dayQ; rw [upQ_f (by omega)]; exact hc.2.2.2
theorem dayQ_k {Q : QT} : dayQ Q 50 = Q 50 := by unfold dayQ; rw [upQ_f (by omega)]; exact dayF_T (Q := Q) (nLt Q) _ (by omega)
theorem dayQ_q {Q : QT} (hq : WFQ Q) : WFQ (dayQ Q) := WFQ_q dayQ_c dayQ_v dayQ_r dayQ_k hq
theorem dayQ_n {Q : QT} : nLt (dayQ Q) = nLt Q ∧ dayQ Q 48 3 = Q 48 3 ∧ dayQ Q 48 5 = Q 48 5 + 1 := by
  have e3 : dayQ Q 48 3 = Q 48 3 := by unfold dayQ; rw [upQ_i (by omega), dayF_T (Q := Q) (nLt Q) _ (by omega)]
  exact ⟨by unfold nLt; rw [e3], e3, by unfold dayQ; rw [upQ_s]⟩
theorem dayQ_l {Q : QT} (hq : WFQ Q) (hl : WFl Q) (h9 : Q 48 5 < 999) : WFl (dayQ Q) := by
  have hW := dayF_W hq hl (nLt Q) (Nat.le_refl _)
  have en : nLt (dayF Q (nLt Q)) = nLt Q := by show (dayF Q (nLt Q) 48 3).toNat = (Q 48 3).toNat; rw [dayF_T (Q := Q) (nLt Q) 48 (by omega)]
  obtain ⟨d1, d2, d3⟩ := dayQ_n (Q := Q)
  have ep : nPp (dayQ Q) = nPp (dayF Q (nLt Q)) := by rw [nPp_q dayQ_c, nPp_q (dayF_T (nLt Q)).c]
  have ec : nCv (dayQ Q) = nCv (dayF Q (nLt Q)) := by rw [nCv_q dayQ_v, nCv_q (dayF_T (nLt Q)).v]
  refine ⟨by rw [d2]; exact hl.1, by rw [d3]; have := hl.2.1; omega, fun i hi => ?_⟩
  rw [d1] at hi
  have := hW.2.2 i (by omega)
  rw [ep, ec]
  unfold dayQ
  rw [upQ_f (by omega), upQ_f (by omega), upQ_f (by omega), upQ_f (by omega), upQ_f (by omega), upQ_f (by omega), upQ_f (by omega)]
  exact this
theorem daysF_W {Q : QT} (hq : WFQ Q) (hl : WFl Q) : ∀ n : Nat, Q 48 5 + n ≤ 999 → WFQ (daysF Q n) ∧ WFl (daysF Q n) ∧ daysF Q n 48 5 = Q 48 5 + n := by
  intro n
  induction n with
  | zero => intro _; exact ⟨hq, hl, by show Q 48 5 = _; omega⟩
  | succ n ih =>
    intro h
    obtain ⟨h1, h2, h3⟩ := ih (by omega)
    exact ⟨dayQ_q h1, dayQ_l h1 h2 (by omega), by show dayQ (daysF Q n) 48 5 = _; rw [dayQ_n.2.2, h3]; omega⟩
section DD
variable {l : Launch} {G : Gt} {d : Nat} {Q : QT} {M : Mem}
theorem KX12_days {n : Int} (hS : Sh M.2.1) (hq : WFQ Q) (hl : WFl Q) (hH : HoldsQ Q M.1) : ∃ I', Cl l G (d + 5) mX12_days [vR (some (3, 0)), vI n] M (some (vI (daysV Q n))) (I', M.2.1, M.2.2) ∧ HoldsQ (daysQ Q n) I' ∧ frR M.1 I' := by
  have e5 : M.1 48 0 5 = Q 48 5 := hH.1 _ _ (by unfold perF; omega)
  have hnow := hl.2.1
  by_cases g : (1 ≤ n ∧ n ≤ 60) ∧ Q 48 5 + n ≤ 999
  · have ev : daysV Q n = undV (daysF Q n.toNat) := by unfold daysV; rw [if_pos g]
    have eq : daysQ Q n = daysF Q n.toNat := by unfold daysQ; rw [if_pos g]
    have key := loopUp (P := fun k : Nat => ∀ I, HoldsQ (daysF Q k) I → frR M.1 I → ∃ M', Ex l G (d + 5) mX12_days 30 [some (vR (some (3, 0))), some (vI n), some (vI (k : Int)), none] [] (I, M.2.1, M.2.2) (some (vI (undV (daysF Q n.toNat)))) M' ∧ ∃ I', M' = (I', M.2.1, M.2.2) ∧ HoldsQ (daysF Q n.toNat) I' ∧ frR M.1 I') 0 n.toNat (by omega) (by
      intro k _ hk ih I hI hfI
      obtain ⟨w1, w2, w3⟩ := daysF_W hq hl k (by omega)
      obtain ⟨M', x1, x2⟩ := days_37 (l := l) (G := G) (d := d) (M := (I, M.2.1, M.2.2)) (x1 := n) (x2 := (k : Int)) (k0 := 0) (r := some (vI (undV (daysF Q n.toNat)))) (Post := fun M' => ∃ I', M' = (I', M.2.1, M.2.2) ∧ HoldsQ (daysF Q n.toNat) I' ∧ frR M.1 I') hS w1 w2 (by unfold InR; omega) (fun I2 h2 h3 => ih I2 h2 (hfI.tr h3)) hI
      exact ⟨M', xX12_days_30 ⟨fun c => by omega, fun _ => x1⟩, x2⟩) (by
      intro I hI hfI
      obtain ⟨w1, w2, w3⟩ := daysF_W hq hl n.toNat (by omega)
      have u := KX12_underWay (l := l) (G := G) (d := d + 4) (M := (I, M.2.1, M.2.2)) hS w2 hI
      exact ⟨_, xX12_days_30 ⟨fun _ => ⟨_, _, u, rfl, rfl⟩, fun c => absurd (by omega) c⟩, I, rfl, hI, hfI⟩)
    obtain ⟨M', x1, I', rfl, x2⟩ := key M.1 hH frR.rf
    rw [ev, eq]
    refine ⟨I', xX12_days_0 hS ⟨fun c => absurd g.1 c, fun _ => ?_⟩, x2⟩
    rw [e5]
    exact ⟨by unfold InR; omega, fun _ => x1, fun c => absurd g.2 c⟩
  · have ev : daysV Q n = -1 := by unfold daysV; rw [if_neg g]
    have eq : daysQ Q n = Q := by unfold daysQ; rw [if_neg g]
    rw [ev, eq]
    refine ⟨M.1, xX12_days_0 hS ⟨fun _ => ⟨rfl, rfl⟩, fun c => ?_⟩, hH, frR.rf⟩
    rw [e5]
    exact ⟨by unfold InR; omega, fun c2 => absurd ⟨c, c2⟩ g, fun _ => ⟨rfl, rfl⟩⟩
end DD
/-! letters on the class -/
def lti (j i : Nat) : Nat := match j with
  | 0 => i
  | j + 1 => 9 + 8 * j + i
def LtC (Q : QT) (i : Nat) (L : Nat → Int) : Prop := L 1 = Q 62 i ∧ L 2 = Q 64 i ∧ L 4 = Q 65 i ∧ L 5 = Q 66 i ∧ L 6 = Q 67 i ∧ L 7 = Q 68 i ∧ L 8 = Q 69 i ∧ L 9 = Q 70 i ∧ 0 ≤ L 10 ∧ L 10 ≤ L 7
def LetsC (Q : QT) (M : Mem) (j : Nat) : Prop := (M.1 4 j 8 = Q 48 3 ∧ M.1 4 j 10 = Q 48 5) ∧ (∀ i, i < 8 → M.2.1 38 j i = some (5, lti j i)) ∧ ∀ i, i < nLt Q → M.2.1 5 (lti j i) 0 = some (13, (Q 63 i).toNat) ∧ LtC Q i (M.1 5 (lti j i))
theorem LtC.WL {Q : QT} (h : WFl Q) {i : Nat} (hi : i < nLt Q) {L : Nat → Int} (hL : LtC Q i L) : WL Q L := by
  obtain ⟨a1, a2, a3, a4, a5, a6⟩ := h.2.2 i hi
  obtain ⟨b1, b2, b3, b4, b5, b6, b7, b8, b9, b10⟩ := hL
  refine ⟨by rw [b1]; exact a1, by rw [b5]; exact a3, ?_, by rw [b6]; omega, ⟨b9, b10⟩⟩
  unfold lw
  rw [b8]
  exact a5
theorem LtC.st {Q : QT} {i : Nat} {L : Nat → Int} (hL : LtC Q i L) : stpL Q (Q 63 i).toNat L = stQ Q i := by
  obtain ⟨b1, b2, b3, b4, b5, b6, b7, b8, b9, b10⟩ := hL
  unfold stQ stpL lw
  rw [b1, b3, b5, b6, b8]
  rfl
def scD (f k i : Nat) : Prop := scK f k i ∨ (f = 5 ∧ k < 8) ∨ (f = 4 ∧ k = 0 ∧ i = 10)
section LD
variable {l : Launch} {G : Gt} {d : Nat} {Q : QT} {M : Mem}
theorem LetsC.step {M' : Mem} {i : Nat} (h : LetsC Q M 0) (hf : frG (scL i) M M') (hL : i < nLt Q → LtC (stepQ Q i) i (M'.1 5 i)) : LetsC (stepQ Q i) M' 0 := by
  have hT := stepQ_T (Q := Q) (i := i)
  have es : stepQ Q i 48 = Q 48 := hT _ (by omega)
  have en : nLt (stepQ Q i) = nLt Q := by unfold nLt; rw [es]
  refine ⟨⟨?_, ?_⟩, fun j hj => ?_, fun j hj => ?_⟩
  · rw [hf.1 _ _ _ (by unfold scL scK scA; omega), es]; exact h.1.1
  · rw [hf.1 _ _ _ (by unfold scL scK scA; omega), es]; exact h.1.2
  · rw [hf.2.1 _ _ _ (by omega)]; exact h.2.1 j hj
  · rw [en] at hj
    refine ⟨?_, ?_⟩
    · rw [hf.2.1 _ _ _ (by omega), hT 63 (by omega)]; exact (h.2.2 j hj).1
    · by_cases e : j = i
      · subst e; exact hL hj
      · have h2 := (h.2.2 j hj).2
        have e1 : M'.1 5 (lti 0 j) = M.1 5 (lti 0 j) := funext fun x => hf.1 _ _ _ (by show ¬ scL i 5 j x; unfold scL scK scA; omega)
        rw [e1]
        unfold LtC at *
        rw [stepQ_o e, stepQ_o e, stepQ_o e, stepQ_o e, stepQ_o e, stepQ_o e, stepQ_o e, stepQ_o e]
        exact h2
theorem scL_D {i f k x : Nat} (hi : i < 8) (h : scL i f k x) : scD f k x := by
  rcases h with h | h
  · exact .inl h
  · exact .inr (.inl ⟨h.1, by omega⟩)
theorem one_step {i : Nat} (hR : RelB Q M) (hq : WFQ Q) (hl : WFl Q) (hC : LetsC Q M 0) (hi : i < nLt Q) (hs : Q 66 i = 0) (hd : Q 68 i = Q 48 5) : ∃ r M7, Cl l G (d + 4) mX0_askOn [vR (some (9, 0)), vR (some (5, i))] M (some (vI r)) M7 ∧ ((r = -1 ∧ RelB (stepQ Q i) M7 ∧ LetsC (stepQ Q i) M7 0 ∧ frG scD M M7) ∨ (¬ r = -1 ∧ ∃ M11, Cl l G (d + 4) mX0_goTo [vR (some (9, 0)), vR (some (5, i)), vI r] M7 none M11 ∧ RelB (stepQ Q i) M11 ∧ LetsC (stepQ Q i) M11 0 ∧ frG scD M M11)) := by
  have h8 : nLt Q ≤ 8 := by have := hl.1; unfold nLt; omega
  obtain ⟨hT, hL⟩ := hC.2.2 i hi
  have hW := hL.WL hl hi
  have a2 := (hl.2.2 i hi).2.1
  obtain ⟨M7, c7, R7, f7, e7⟩ := KX0_askOn (l := l) (G := G) (d := d) (k1 := i) hR hq hT (by omega) rfl hW
  have eS := hL.st
  have hTq := stepQ_T (Q := Q) (i := i)
  have hQ7 : ∀ M', RelB Q M' → RelB (stepQ Q i) M' := fun M' w => RelB_q hTq.c hTq.v hTq.r (hTq _ (by omega)) w
  rw [show M.1 5 i = M.1 5 (lti 0 i) from rfl, eS] at c7 e7
  obtain ⟨b1, b2, b3, b4, b5, b6, b7, b8, b9, b10⟩ := hL
  rcases stQ_or hq hl hi with ⟨s1, v, s2, s3⟩ | ⟨s1, s2⟩ | ⟨s1, v, s2, s3, s4⟩
  · refine ⟨_, M7, c7, .inl ⟨by unfold toL; rw [if_neg (by omega)], hQ7 _ R7, hC.step f7 (fun _ => ?_), f7.mo fun _ _ _ => scL_D (by omega)⟩⟩
    rw [e7]
    unfold stepQ
    rw [if_pos s1]
    refine ⟨b1, b2, b3, ?_, b5, b6, ?_, b8, b9, b10⟩
    · rw [upQ_f (by omega), upQ_s]
      show (if (stQ Q i).1 = 0 then _ else (stQ Q i).1) = 1
      rw [if_neg (by omega), s1]
    · rw [upQ_s]
      show (if (stQ Q i).1 = 1 then (stQ Q i).2 else _) = _
      rw [if_pos s1]
  · refine ⟨_, M7, c7, .inl ⟨by unfold toL; rw [if_neg (by omega)], hQ7 _ R7, hC.step f7 (fun _ => ?_), f7.mo fun _ _ _ => scL_D (by omega)⟩⟩
    rw [e7]
    unfold stepQ
    rw [if_neg (by omega), if_pos s1]
    refine ⟨b1, b2, b3, ?_, b5, b6, ?_, b8, b9, b10⟩
    · rw [upQ_s]
      show (if (stQ Q i).1 = 0 then _ else (stQ Q i).1) = 2
      rw [if_neg (by omega), s1]
    · rw [upQ_f (by omega)]
      show (if (stQ Q i).1 = 1 then (stQ Q i).2 else _) = _
      rw [if_neg (by omega)]
      exact b7
  · have et : toL (stQ Q i) = (v : Int) := by unfold toL; rw [if_pos s1, s3]
    rw [et] at c7
    obtain ⟨M11, c11, R11, f11, e11, _⟩ := KX0_goTo (l := l) (G := G) (d := d + 4) (v := v) R7 hq e7 (hW.ask _ _) s2
    refine ⟨_, M7, c7, .inr ⟨by omega, M11, c11, hQ7 _ R11, hC.step (f7.tr f11) (fun _ => ?_), (f7.tr f11).mo fun _ _ _ => scL_D (by omega)⟩⟩
    rw [e11]
    unfold stepQ
    rw [if_neg (by omega), if_neg (by omega), s3]
    have hr : M.1 5 i 7 + rd Q (M.1 5 i 6) (v : Int) = Q 48 5 + rd Q (Q 67 i) v := by
      rw [show M.1 5 i 7 = Q 48 5 from b6.trans hd, show M.1 5 i 6 = Q 67 i from b5]
    refine ⟨b1, b2, b3, ?_, ?_, ?_, ?_, ?_, ?_, ?_⟩
    · rw [upQ_f (by omega), upQ_f (by omega), upQ_f (by omega)]
      show (if (stQ Q i).1 = 0 then M.1 5 i 5 else (stQ Q i).1) = _
      rw [if_pos s1]
      exact b4
    · rw [upQ_f (by omega), upQ_s]; rfl
    · rw [upQ_f (by omega), upQ_f (by omega), upQ_s]
      exact hr
    · rw [upQ_f (by omega), upQ_f (by omega), upQ_f (by omega)]
      show (if (stQ Q i).1 = 1 then (stQ Q i).2 else M.1 5 i 8) = _
      rw [if_neg (by omega)]
      exact b7
    · rw [upQ_s]
      show aOr (M.1 5 i 9) (aShl 1 (v : Int)) = _
      rw [show M.1 5 i 9 = Q 70 i from b8]
    · show 0 ≤ M.1 5 i 10 + 1
      have := b9
      show 0 ≤ M.1 5 (lti 0 i) 10 + 1
      omega
    · show M.1 5 i 10 + 1 ≤ M.1 5 i 7 + rd Q (M.1 5 i 6) (v : Int)
      have q1 := b10
      have q2 : rd Q (M.1 5 i 6) (v : Int) = rd Q (Q 67 i) v := by rw [show M.1 5 i 6 = Q 67 i from b5]
      rw [q2]
      show M.1 5 (lti 0 i) 10 + 1 ≤ M.1 5 (lti 0 i) 7 + _
      omega
end LD
