/-! needs: the class -/
set_option maxRecDepth 4000 in
theorem xX0_turnKnown_0 {l : Launch} {G : Gt} {d : Nat} {M M' : Mem} {r : Option Vl} {x1 : Int} (hS : Sh M.2.1) (h : 
    (x1 < 0 → r = none ∧ M' = M) ∧ (¬ (x1 < 0) → (144 ≤ x1 → r = none ∧ M' = M) ∧ (¬ (144 ≤ x1) → (0 ≤ x1 ∧ (0 ≤ (x1 / 12) ∧ (x1 / 12) < 12) ∧ (0 ≤ (x1 % 12) ∧ (x1 % 12) < 32)) ∧ r = none ∧ M' = ((upI M.1 36 0 (x1 / 12).toNat (aXor (M.1 36 0 (x1 / 12).toNat) (aShl 1 (x1 % 12)))), M.2.1, M.2.2)))) : Cl l G d mX0_turnKnown [vR (some (9, 0)), vI x1] M r M' := by
  show Ex l G d mX0_turnKnown 0 [some (vR (some (9, 0))), some (vI x1)] [] M r M'
  refine r_iload_n 1 dX0_turnKnown_0 rfl rfl ?_
  refine r_if_lt 4 32 dX0_turnKnown_1 rfl rfl (fun c => ?_) (fun c => ?_)
  · have h := h.1 (c)
    exact r_vret dX0_turnKnown_32 rfl h.1 h.2
  · have h := h.2 (c)
    refine r_iload_n 5 dX0_turnKnown_4 rfl rfl ?_
    refine r_sipush 8 dX0_turnKnown_5 rfl rfl ?_
    refine r_icmp_ge 11 32 dX0_turnKnown_8 rfl rfl (fun c => ?_) (fun c => ?_)
    · have h := h.1 (c)
      exact r_vret dX0_turnKnown_32 rfl h.1 h.2
    · have h := h.2 (c)
      obtain ⟨⟨o_1, o_2, o_3⟩, h⟩ := h
      refine r_aload_n 12 dX0_turnKnown_11 rfl rfl ?_
      refine g_R 15 dX0_turnKnown_12 rfl rfl rfl fr_0_15 (sh_0_0 hS) ?_
      refine g_R 18 dX0_turnKnown_15 rfl rfl rfl fr_0_70 (sh_8_6 hS _) ?_
      refine r_iload_n 19 dX0_turnKnown_18 rfl rfl ?_
      refine r_bipush 21 dX0_turnKnown_19 rfl rfl ?_
      refine r_idiv 22 dX0_turnKnown_21 rfl ⟨o_1, by decide⟩ ?_
      refine r_dup2 23 dX0_turnKnown_22 rfl rfl ?_
      refine a_I 12 24 dX0_turnKnown_23 rfl rfl rfl rfl o_2 rfl ?_
      refine r_iconst 25 dX0_turnKnown_24 rfl (InR_of rfl) ?_
      refine r_iload_n 26 dX0_turnKnown_25 rfl rfl ?_
      refine r_bipush 28 dX0_turnKnown_26 rfl rfl ?_
      refine r_irem 29 dX0_turnKnown_28 rfl ⟨o_1, by decide⟩ ?_
      refine r_ishl 30 dX0_turnKnown_29 rfl o_3 ?_
      refine r_ixor 31 dX0_turnKnown_30 rfl ?_
      refine s_I 12 32 dX0_turnKnown_31 rfl rfl (by decide) rfl rfl o_2 ?_
      exact r_vret dX0_turnKnown_32 rfl h.1 h.2

set_option maxRecDepth 4000 in
theorem xX0_endsRight_0 {l : Launch} {G : Gt} {d : Nat} {M M' : Mem} {r : Option Vl} {k1 : Nat} {x2 : Int} {x3 : Int} (h : 
    ∃ (M_1 : Mem), Cl l G d mX0_turnKnown [vR (some (9, 0)), vI x2] M none M_1 ∧ (∃ (M_3 : Mem), Cl l G d mX0_turnKnown [vR (some (9, 0)), vI x3] M_1 none M_3 ∧ (∃ (M_5 : Mem), Cl l G d mX5_beginAgain [vR (some (5, k1))] M_3 none M_5 ∧ (∃ (M_7 : Mem), Cl l G d mX0_goToEnd [vR (some (9, 0)), vR (some (5, k1))] M_5 none M_7 ∧ (∃ (M_9 : Mem), Cl l G d mX0_turnKnown [vR (some (9, 0)), vI x2] M_7 none M_9 ∧ (∃ (M_11 : Mem), Cl l G d mX0_turnKnown [vR (some (9, 0)), vI x3] M_9 none M_11 ∧ r = some (vI (if (M_11.1 5 k1 5) = 1 ∧ (M_11.1 5 k1 8) = (M_11.1 5 k1 2) then 1 else 0 : Int)) ∧ M' = M_11)))))) : Cl l G (d + 1) mX0_endsRight [vR (some (9, 0)), vR (some (5, k1)), vI x2, vI x3] M r M' := by
  show Ex l G (d + 1) mX0_endsRight 0 [some (vR (some (9, 0))), some (vR (some (5, k1))), some (vI x2), some (vI x3)] [] M r M'
  refine r_aload_n 1 dX0_endsRight_0 rfl rfl ?_
  refine r_iload_n 2 dX0_endsRight_1 rfl rfl ?_
  obtain ⟨M_1, hc_2, h⟩ := h
  refine v_0 (ci := 0) (C := (RX0, TX0, 13)) [vI x2] [] 5 dX0_endsRight_2 rfl rfl rfl rfl rfl mo_X0_turnKnown ml_0_178 rfl rfl hc_2 ?_
  refine r_aload_n 6 dX0_endsRight_5 rfl rfl ?_
  refine r_iload_n 7 dX0_endsRight_6 rfl rfl ?_
  obtain ⟨M_3, hc_4, h⟩ := h
  refine v_0 (ci := 0) (C := (RX0, TX0, 13)) [vI x3] [] 10 dX0_endsRight_7 rfl rfl rfl rfl rfl mo_X0_turnKnown ml_0_178 rfl rfl hc_4 ?_
  refine r_aload_n 11 dX0_endsRight_10 rfl rfl ?_
  obtain ⟨M_5, hc_6, h⟩ := h
  refine v_0 (ci := 5) (C := (RX5, TX5, 12)) [] [] 14 dX0_endsRight_11 rfl rfl rfl rfl rfl mo_X5_beginAgain ml_0_182 rfl rfl hc_6 ?_
  refine r_aload_n 15 dX0_endsRight_14 rfl rfl ?_
  refine r_aload_n 16 dX0_endsRight_15 rfl rfl ?_
  obtain ⟨M_7, hc_8, h⟩ := h
  refine v_0 (ci := 0) (C := (RX0, TX0, 13)) [vR (some (5, k1))] [] 19 dX0_endsRight_16 rfl rfl rfl rfl rfl mo_X0_goToEnd ml_0_185 rfl rfl hc_8 ?_
  refine r_aload_n 20 dX0_endsRight_19 rfl rfl ?_
  refine r_iload_n 21 dX0_endsRight_20 rfl rfl ?_
  obtain ⟨M_9, hc_10, h⟩ := h
  refine v_0 (ci := 0) (C := (RX0, TX0, 13)) [vI x2] [] 24 dX0_endsRight_21 rfl rfl rfl rfl rfl mo_X0_turnKnown ml_0_178 rfl rfl hc_10 ?_
  refine r_aload_n 25 dX0_endsRight_24 rfl rfl ?_
  refine r_iload_n 26 dX0_endsRight_25 rfl rfl ?_
  obtain ⟨M_11, hc_12, h⟩ := h
  refine v_0 (ci := 0) (C := (RX0, TX0, 13)) [vI x3] [] 29 dX0_endsRight_26 rfl rfl rfl rfl rfl mo_X0_turnKnown ml_0_178 rfl rfl hc_12 ?_
  refine r_aload_n 30 dX0_endsRight_29 rfl rfl ?_
  refine v_1 (ci := 5) (C := (RX5, TX5, 12)) [] [] 33 dX0_endsRight_30 rfl rfl rfl rfl rfl mo_X5_isRight ml_0_189 rfl rfl (KX5_isRight) ?_
  exact r_iret dX0_endsRight_33 rfl (.inr ⟨rfl, b2_z⟩) h.1 h.2

set_option maxRecDepth 4000 in
theorem xX0_isNotKnown_0 {l : Launch} {G : Gt} {d : Nat} {M M' : Mem} {r : Option Vl} {x1 : Int} (hS : Sh M.2.1) (h : 
    (0 ≤ x1) ∧ (((¬ ((if (M.1 4 0 0) ≤ (x1 / 12) then 0 else (if (M.1 4 0 0) ≤ (x1 % 12) then 0 else (if (x1 / 12) = (x1 % 12) then 0 else 1 : Int) : Int) : Int) = 0) → ((0 ≤ (x1 / 12) ∧ (x1 / 12) < 12) ∧ (0 ≤ (M.1 36 0 (x1 / 12).toNat) ∧ 0 ≤ (x1 % 12) ∧ (x1 % 12) < 32)))) ∧ ((((if (if (M.1 4 0 0) ≤ (x1 / 12) then 0 else (if (M.1 4 0 0) ≤ (x1 % 12) then 0 else (if (x1 / 12) = (x1 % 12) then 0 else 1 : Int) : Int) : Int) = 0 then 0 else (if tb (M.1 36 0 (x1 / 12).toNat) (x1 % 12) = true then 0 else 1 : Int) : Int) = 0 ∨ (if (if (M.1 4 0 0) ≤ (x1 / 12) then 0 else (if (M.1 4 0 0) ≤ (x1 % 12) then 0 else (if (x1 / 12) = (x1 % 12) then 0 else 1 : Int) : Int) : Int) = 0 then 0 else (if tb (M.1 36 0 (x1 / 12).toNat) (x1 % 12) = true then 0 else 1 : Int) : Int) = 1)) ∧ r = some (vI (if (if (M.1 4 0 0) ≤ (x1 / 12) then 0 else (if (M.1 4 0 0) ≤ (x1 % 12) then 0 else (if (x1 / 12) = (x1 % 12) then 0 else 1 : Int) : Int) : Int) = 0 then 0 else (if tb (M.1 36 0 (x1 / 12).toNat) (x1 % 12) = true then 0 else 1 : Int) : Int)) ∧ M' = M))) : Cl l G (d + 1) mX0_isNotKnown [vR (some (9, 0)), vI x1] M r M' := by
  show Ex l G (d + 1) mX0_isNotKnown 0 [some (vR (some (9, 0))), some (vI x1), none, none, none] [] M r M'
  obtain ⟨o_1, h⟩ := h
  refine r_iload_n 1 dX0_isNotKnown_0 rfl rfl ?_
  refine r_bipush 3 dX0_isNotKnown_1 rfl rfl ?_
  refine r_idiv 4 dX0_isNotKnown_3 rfl ⟨o_1, by decide⟩ ?_
  refine r_istore_n (ls' := [some (vR (some (9, 0))), some (vI x1), some (vI (x1 / 12)), none, none]) 5 dX0_isNotKnown_4 rfl rfl rfl rfl ?_
  refine r_iload_n 6 dX0_isNotKnown_5 rfl rfl ?_
  refine r_bipush 8 dX0_isNotKnown_6 rfl rfl ?_
  refine r_irem 9 dX0_isNotKnown_8 rfl ⟨o_1, by decide⟩ ?_
  refine r_istore_n (ls' := [some (vR (some (9, 0))), some (vI x1), some (vI (x1 / 12)), some (vI (x1 % 12)), none]) 10 dX0_isNotKnown_9 rfl rfl rfl rfl ?_
  refine r_iload_n 11 dX0_isNotKnown_10 rfl rfl ?_
  refine r_aload_n 12 dX0_isNotKnown_11 rfl rfl ?_
  refine g_R 15 dX0_isNotKnown_12 rfl rfl rfl fr_0_15 (sh_0_0 hS) ?_
  refine g_I 18 dX0_isNotKnown_15 rfl rfl rfl fi_0_56 rfl ?_
  have hJ_2 : Ex l G (d + 1) mX0_isNotKnown 42 [some (vR (some (9, 0))), some (vI x1), some (vI (x1 / 12)), some (vI (x1 % 12)), none] [vI (if (M.1 4 0 0) ≤ (x1 / 12) then 0 else (if (M.1 4 0 0) ≤ (x1 % 12) then 0 else (if (x1 / 12) = (x1 % 12) then 0 else 1 : Int) : Int) : Int)] M r M' := by
    refine r_istore (ls' := [some (vR (some (9, 0))), some (vI x1), some (vI (x1 / 12)), some (vI (x1 % 12)), some (vI (if (M.1 4 0 0) ≤ (x1 / 12) then 0 else (if (M.1 4 0 0) ≤ (x1 % 12) then 0 else (if (x1 / 12) = (x1 % 12) then 0 else 1 : Int) : Int) : Int))]) 44 dX0_isNotKnown_42 rfl rfl rfl rfl ?_
    refine r_iload 46 dX0_isNotKnown_44 rfl rfl ?_
    obtain ⟨h0, h⟩ := h
    have hJ_6 : Ex l G (d + 1) mX0_isNotKnown 70 [some (vR (some (9, 0))), some (vI x1), some (vI (x1 / 12)), some (vI (x1 % 12)), some (vI (if (M.1 4 0 0) ≤ (x1 / 12) then 0 else (if (M.1 4 0 0) ≤ (x1 % 12) then 0 else (if (x1 / 12) = (x1 % 12) then 0 else 1 : Int) : Int) : Int))] [vI (if (if (M.1 4 0 0) ≤ (x1 / 12) then 0 else (if (M.1 4 0 0) ≤ (x1 % 12) then 0 else (if (x1 / 12) = (x1 % 12) then 0 else 1 : Int) : Int) : Int) = 0 then 0 else (if tb (M.1 36 0 (x1 / 12).toNat) (x1 % 12) = true then 0 else 1 : Int) : Int)] M r M' := by
      obtain ⟨o_11, h⟩ := h
      exact r_iret dX0_isNotKnown_70 rfl (.inr ⟨rfl, o_11⟩) h.1 h.2
    have h := h0
    refine r_if_eq 49 69 dX0_isNotKnown_46 rfl rfl (fun c => ?_) (fun c => ?_)
    · have c_7 := c
      refine r_iconst 70 dX0_isNotKnown_69 rfl (InR_of rfl) ?_
      exact (Ex.at hJ_6 rfl (show [vI 0] = [vI (if (if (M.1 4 0 0) ≤ (x1 / 12) then 0 else (if (M.1 4 0 0) ≤ (x1 % 12) then 0 else (if (x1 / 12) = (x1 % 12) then 0 else 1 : Int) : Int) : Int) = 0 then 0 else (if tb (M.1 36 0 (x1 / 12).toNat) (x1 % 12) = true then 0 else 1 : Int) : Int)] by simp only [if_pos c_7]) rfl)
    · have c_7 := c
      have h := h c_7
      obtain ⟨o_8, o_9⟩ := h
      refine r_aload_n 50 dX0_isNotKnown_49 rfl rfl ?_
      refine g_R 53 dX0_isNotKnown_50 rfl rfl rfl fr_0_15 (sh_0_0 hS) ?_
      refine g_R 56 dX0_isNotKnown_53 rfl rfl rfl fr_0_70 (sh_8_6 hS _) ?_
      refine r_iload_n 57 dX0_isNotKnown_56 rfl rfl ?_
      refine a_I 12 58 dX0_isNotKnown_57 rfl rfl rfl rfl o_8 rfl ?_
      refine r_iload_n 59 dX0_isNotKnown_58 rfl rfl ?_
      refine n_1 [vI (M.1 36 0 (x1 / 12).toNat), vI (x1 % 12)] [] 62 dX0_isNotKnown_59 rfl rfl mo_X11_hasBit ml_0_66 rfl rfl (KX11_hasBit o_9) ?_
      refine r_if_ne 65 69 dX0_isNotKnown_62 rfl rfl (fun c => ?_) (fun c => ?_)
      · have c_10 := b2_1.mp c
        refine r_iconst 70 dX0_isNotKnown_69 rfl (InR_of rfl) ?_
        exact (Ex.at hJ_6 rfl (show [vI 0] = [vI (if (if (M.1 4 0 0) ≤ (x1 / 12) then 0 else (if (M.1 4 0 0) ≤ (x1 % 12) then 0 else (if (x1 / 12) = (x1 % 12) then 0 else 1 : Int) : Int) : Int) = 0 then 0 else (if tb (M.1 36 0 (x1 / 12).toNat) (x1 % 12) = true then 0 else 1 : Int) : Int)] by simp only [if_neg c_7, if_pos c_10]) rfl)
      · have c_10 := b2_0.mp (Decidable.not_not.mp c)
        refine r_iconst 66 dX0_isNotKnown_65 rfl (InR_of rfl) ?_
        refine r_goto 70 dX0_isNotKnown_66 rfl ?_
        exact (Ex.at hJ_6 rfl (show [vI 1] = [vI (if (if (M.1 4 0 0) ≤ (x1 / 12) then 0 else (if (M.1 4 0 0) ≤ (x1 % 12) then 0 else (if (x1 / 12) = (x1 % 12) then 0 else 1 : Int) : Int) : Int) = 0 then 0 else (if tb (M.1 36 0 (x1 / 12).toNat) (x1 % 12) = true then 0 else 1 : Int) : Int)] by simp only [if_neg c_7, if_neg c_10]) rfl)
  refine r_icmp_ge 21 41 dX0_isNotKnown_18 rfl rfl (fun c => ?_) (fun c => ?_)
  · have c_3 := c
    refine r_iconst 42 dX0_isNotKnown_41 rfl (InR_of rfl) ?_
    exact (Ex.at hJ_2 rfl (show [vI 0] = [vI (if (M.1 4 0 0) ≤ (x1 / 12) then 0 else (if (M.1 4 0 0) ≤ (x1 % 12) then 0 else (if (x1 / 12) = (x1 % 12) then 0 else 1 : Int) : Int) : Int)] by simp only [if_pos c_3]) rfl)
  · have c_3 := c
    refine r_iload_n 22 dX0_isNotKnown_21 rfl rfl ?_
    refine r_aload_n 23 dX0_isNotKnown_22 rfl rfl ?_
    refine g_R 26 dX0_isNotKnown_23 rfl rfl rfl fr_0_15 (sh_0_0 hS) ?_
    refine g_I 29 dX0_isNotKnown_26 rfl rfl rfl fi_0_56 rfl ?_
    refine r_icmp_ge 32 41 dX0_isNotKnown_29 rfl rfl (fun c => ?_) (fun c => ?_)
    · have c_4 := c
      refine r_iconst 42 dX0_isNotKnown_41 rfl (InR_of rfl) ?_
      exact (Ex.at hJ_2 rfl (show [vI 0] = [vI (if (M.1 4 0 0) ≤ (x1 / 12) then 0 else (if (M.1 4 0 0) ≤ (x1 % 12) then 0 else (if (x1 / 12) = (x1 % 12) then 0 else 1 : Int) : Int) : Int)] by simp only [if_neg c_3, if_pos c_4]) rfl)
    · have c_4 := c
      refine r_iload_n 33 dX0_isNotKnown_32 rfl rfl ?_
      refine r_iload_n 34 dX0_isNotKnown_33 rfl rfl ?_
      refine r_icmp_eq 37 41 dX0_isNotKnown_34 rfl rfl (fun c => ?_) (fun c => ?_)
      · have c_5 := c
        refine r_iconst 42 dX0_isNotKnown_41 rfl (InR_of rfl) ?_
        exact (Ex.at hJ_2 rfl (show [vI 0] = [vI (if (M.1 4 0 0) ≤ (x1 / 12) then 0 else (if (M.1 4 0 0) ≤ (x1 % 12) then 0 else (if (x1 / 12) = (x1 % 12) then 0 else 1 : Int) : Int) : Int)] by simp only [if_neg c_3, if_neg c_4, if_pos c_5]) rfl)
      · have c_5 := c
        refine r_iconst 38 dX0_isNotKnown_37 rfl (InR_of rfl) ?_
        refine r_goto 42 dX0_isNotKnown_38 rfl ?_
        exact (Ex.at hJ_2 rfl (show [vI 1] = [vI (if (M.1 4 0 0) ≤ (x1 / 12) then 0 else (if (M.1 4 0 0) ≤ (x1 % 12) then 0 else (if (x1 / 12) = (x1 % 12) then 0 else 1 : Int) : Int) : Int)] by simp only [if_neg c_3, if_neg c_4, if_neg c_5]) rfl)

set_option maxRecDepth 4000 in
theorem xX0_findNeeds_0 {l : Launch} {G : Gt} {d : Nat} {M M' : Mem} {r : Option Vl} {k1 : Nat} (h : 
    ∃ (r_3 : Int) (M_1 : Mem), Cl l G d mX0_endsRight [vR (some (9, 0)), vR (some (5, k1)), vI (-1), vI (-1)] ((upI (upI M.1 9 0 10 (-2)) 9 0 11 (-2)), M.2.1, M.2.2) (some (vI r_3)) M_1 ∧ ((r_3 = 0 → Ex l G (d + 1) mX0_findNeeds 30 [some (vR (some (9, 0))), some (vR (some (5, k1))), some (vI 144), some (vI 0), none, none] [] M_1 r M') ∧ (¬ (r_3 = 0) → r = some (vI 0) ∧ M' = M_1))) : Cl l G (d + 1) mX0_findNeeds [vR (some (9, 0)), vR (some (5, k1))] M r M' := by
  show Ex l G (d + 1) mX0_findNeeds 0 [some (vR (some (9, 0))), some (vR (some (5, k1))), none, none, none, none] [] M r M'
  refine r_aload_n 1 dX0_findNeeds_0 rfl rfl ?_
  refine r_bipush 3 dX0_findNeeds_1 rfl rfl ?_
  refine p_I 6 dX0_findNeeds_3 rfl rfl rfl rfl pf_0_164 (.inl rfl) rfl ?_
  refine r_aload_n 7 dX0_findNeeds_6 rfl rfl ?_
  refine r_bipush 9 dX0_findNeeds_7 rfl rfl ?_
  refine p_I 12 dX0_findNeeds_9 rfl rfl rfl rfl pf_0_167 (.inl rfl) rfl ?_
  refine r_aload_n 13 dX0_findNeeds_12 rfl rfl ?_
  refine r_aload_n 14 dX0_findNeeds_13 rfl rfl ?_
  refine r_iconst 15 dX0_findNeeds_14 rfl (InR_of rfl) ?_
  refine r_iconst 16 dX0_findNeeds_15 rfl (InR_of rfl) ?_
  obtain ⟨r_3, M_1, hc_2, h⟩ := h
  refine v_1 (ci := 0) (C := (RX0, TX0, 13)) [vR (some (5, k1)), vI (-1), vI (-1)] [] 19 dX0_findNeeds_16 rfl rfl rfl rfl rfl mo_X0_endsRight ml_0_170 rfl rfl hc_2 ?_
  refine r_if_eq 22 24 dX0_findNeeds_19 rfl rfl (fun c => ?_) (fun c => ?_)
  · have h := h.1 (c)
    refine r_sipush 27 dX0_findNeeds_24 rfl rfl ?_
    refine r_istore_n (ls' := [some (vR (some (9, 0))), some (vR (some (5, k1))), some (vI 144), none, none, none]) 28 dX0_findNeeds_27 rfl rfl rfl rfl ?_
    refine r_iconst 29 dX0_findNeeds_28 rfl (InR_of rfl) ?_
    refine r_istore_n (ls' := [some (vR (some (9, 0))), some (vR (some (5, k1))), some (vI 144), some (vI 0), none, none]) 30 dX0_findNeeds_29 rfl rfl rfl rfl ?_
    exact h
  · have h := h.2 (c)
    refine r_iconst 23 dX0_findNeeds_22 rfl (InR_of rfl) ?_
    exact r_iret dX0_findNeeds_23 rfl (.inl rfl) h.1 h.2
set_option maxRecDepth 4000 in
theorem xX0_findNeeds_30 {l : Launch} {G : Gt} {d : Nat} {M M' : Mem} {r : Option Vl} {k1 : Nat} {x2 : Int} {x3 : Int} (hS : Sh M.2.1) (h : 
    (x2 ≤ x3 → Ex l G (d + 1) mX0_findNeeds 85 [some (vR (some (9, 0))), some (vR (some (5, k1))), some (vI x2), some (vI 0), none, none] [] M r M') ∧ (¬ (x2 ≤ x3) → ((0 ≤ x3 ∧ x3 < 144)) ∧ (∃ (r_4 : Int) (M_2 : Mem), Cl l G d mX0_isNotKnown [vR (some (9, 0)), vI x3] ((upI M.1 20 0 x3.toNat 0), M.2.1, M.2.2) (some (vI r_4)) M_2 ∧ ((r_4 = 0 → (InR (x3 + 1)) ∧ Ex l G (d + 1) mX0_findNeeds 30 [some (vR (some (9, 0))), some (vR (some (5, k1))), some (vI x2), some (vI (x3 + 1)), none, none] [] M_2 r M') ∧ (¬ (r_4 = 0) → ∃ (r_8 : Int) (M_6 : Mem), Cl l G d mX0_endsRight [vR (some (9, 0)), vR (some (5, k1)), vI x3, vI (-1)] M_2 (some (vI r_8)) M_6 ∧ Sh M_6.2.1 ∧ ((r_8 = 0 → ((0 ≤ x3 ∧ x3 < 144) ∧ InR (x3 + 1)) ∧ Ex l G (d + 1) mX0_findNeeds 30 [some (vR (some (9, 0))), some (vR (some (5, k1))), some (vI x2), some (vI (x3 + 1)), none, none] [] ((upI M_6.1 20 0 x3.toNat (M_6.1 5 k1 11)), M_6.2.1, M_6.2.2) r M') ∧ (¬ (r_8 = 0) → r = some (vI 1) ∧ M' = ((upI M_6.1 9 0 10 x3), M_6.2.1, M_6.2.2)))))))) : Ex l G (d + 1) mX0_findNeeds 30 [some (vR (some (9, 0))), some (vR (some (5, k1))), some (vI x2), some (vI x3), none, none] [] M r M' := by
  refine r_iload_n 31 dX0_findNeeds_30 rfl rfl ?_
  refine r_iload_n 32 dX0_findNeeds_31 rfl rfl ?_
  refine r_icmp_ge 35 83 dX0_findNeeds_32 rfl rfl (fun c => ?_) (fun c => ?_)
  · have h := h.1 (c)
    refine r_iconst 84 dX0_findNeeds_83 rfl (InR_of rfl) ?_
    refine r_istore_n (ls' := [some (vR (some (9, 0))), some (vR (some (5, k1))), some (vI x2), some (vI 0), none, none]) 85 dX0_findNeeds_84 rfl rfl rfl rfl ?_
    exact h
  · have h := h.2 (c)
    obtain ⟨o_1, h⟩ := h
    refine r_aload_n 36 dX0_findNeeds_35 rfl rfl ?_
    refine g_R 39 dX0_findNeeds_36 rfl rfl rfl fr_0_9 (sh_0_12 hS) ?_
    refine r_iload_n 40 dX0_findNeeds_39 rfl rfl ?_
    refine r_iconst 41 dX0_findNeeds_40 rfl (InR_of rfl) ?_
    refine s_I 144 42 dX0_findNeeds_41 rfl rfl (by decide) rfl rfl o_1 ?_
    refine r_aload_n 43 dX0_findNeeds_42 rfl rfl ?_
    refine r_iload_n 44 dX0_findNeeds_43 rfl rfl ?_
    obtain ⟨r_4, M_2, hc_3, h⟩ := h
    refine v_1 (ci := 0) (C := (RX0, TX0, 13)) [vI x3] [] 47 dX0_findNeeds_44 rfl rfl rfl rfl rfl mo_X0_isNotKnown ml_0_174 rfl rfl hc_3 ?_
    refine r_if_eq 50 77 dX0_findNeeds_47 rfl rfl (fun c => ?_) (fun c => ?_)
    · have h := h.1 (c)
      obtain ⟨o_5, h⟩ := h
      refine r_iinc (ls' := [some (vR (some (9, 0))), some (vR (some (5, k1))), some (vI x2), some (vI (x3 + 1)), none, none]) 80 dX0_findNeeds_77 rfl rfl rfl rfl o_5 rfl ?_
      refine r_goto 30 dX0_findNeeds_80 rfl ?_
      exact h
    · have h := h.2 (c)
      refine r_aload_n 51 dX0_findNeeds_50 rfl rfl ?_
      refine r_aload_n 52 dX0_findNeeds_51 rfl rfl ?_
      refine r_iload_n 53 dX0_findNeeds_52 rfl rfl ?_
      refine r_iconst 54 dX0_findNeeds_53 rfl (InR_of rfl) ?_
      obtain ⟨r_8, M_6, hc_7, hS, h⟩ := h
      refine v_1 (ci := 0) (C := (RX0, TX0, 13)) [vR (some (5, k1)), vI x3, vI (-1)] [] 57 dX0_findNeeds_54 rfl rfl rfl rfl rfl mo_X0_endsRight ml_0_170 rfl rfl hc_7 ?_
      refine r_if_eq 60 67 dX0_findNeeds_57 rfl rfl (fun c => ?_) (fun c => ?_)
      · have h := h.1 (c)
        obtain ⟨⟨o_9, o_10⟩, h⟩ := h
        refine r_aload_n 68 dX0_findNeeds_67 rfl rfl ?_
        refine g_R 71 dX0_findNeeds_68 rfl rfl rfl fr_0_9 (sh_0_12 hS) ?_
        refine r_iload_n 72 dX0_findNeeds_71 rfl rfl ?_
        refine r_aload_n 73 dX0_findNeeds_72 rfl rfl ?_
        refine g_I 76 dX0_findNeeds_73 rfl rfl rfl fi_0_123 rfl ?_
        refine s_I 144 77 dX0_findNeeds_76 rfl rfl (by decide) rfl rfl o_9 ?_
        refine r_iinc (ls' := [some (vR (some (9, 0))), some (vR (some (5, k1))), some (vI x2), some (vI (x3 + 1)), none, none]) 80 dX0_findNeeds_77 rfl rfl rfl rfl o_10 rfl ?_
        refine r_goto 30 dX0_findNeeds_80 rfl ?_
        exact h
      · have h := h.2 (c)
        refine r_aload_n 61 dX0_findNeeds_60 rfl rfl ?_
        refine r_iload_n 62 dX0_findNeeds_61 rfl rfl ?_
        refine p_I 65 dX0_findNeeds_62 rfl rfl rfl rfl pf_0_164 (.inl rfl) rfl ?_
        refine r_iconst 66 dX0_findNeeds_65 rfl (InR_of rfl) ?_
        exact r_iret dX0_findNeeds_66 rfl (.inl rfl) h.1 h.2
set_option maxRecDepth 4000 in
theorem xX0_findNeeds_85 {l : Launch} {G : Gt} {d : Nat} {M M' : Mem} {r : Option Vl} {k1 : Nat} {x2 : Int} {x3 : Int} (h : 
    (x2 ≤ x3 → r = some (vI (-2)) ∧ M' = M) ∧ (¬ (x2 ≤ x3) → (InR (x3 + 1)) ∧ Ex l G (d + 1) mX0_findNeeds 95 [some (vR (some (9, 0))), some (vR (some (5, k1))), some (vI x2), some (vI x3), some (vI (x3 + 1)), none] [] M r M')) : Ex l G (d + 1) mX0_findNeeds 85 [some (vR (some (9, 0))), some (vR (some (5, k1))), some (vI x2), some (vI x3), none, none] [] M r M' := by
  refine r_iload_n 86 dX0_findNeeds_85 rfl rfl ?_
  refine r_iload_n 87 dX0_findNeeds_86 rfl rfl ?_
  refine r_icmp_ge 90 183 dX0_findNeeds_87 rfl rfl (fun c => ?_) (fun c => ?_)
  · have h := h.1 (c)
    refine r_bipush 185 dX0_findNeeds_183 rfl rfl ?_
    exact r_iret dX0_findNeeds_185 rfl (.inl rfl) h.1 h.2
  · have h := h.2 (c)
    obtain ⟨o_1, h⟩ := h
    refine r_iload_n 91 dX0_findNeeds_90 rfl rfl ?_
    refine r_iconst 92 dX0_findNeeds_91 rfl (InR_of rfl) ?_
    refine r_iadd 93 dX0_findNeeds_92 rfl o_1 ?_
    refine r_istore (ls' := [some (vR (some (9, 0))), some (vR (some (5, k1))), some (vI x2), some (vI x3), some (vI (x3 + 1)), none]) 95 dX0_findNeeds_93 rfl rfl rfl rfl ?_
    exact h
set_option maxRecDepth 4000 in
theorem xX0_findNeeds_95 {l : Launch} {G : Gt} {d : Nat} {M M' : Mem} {r : Option Vl} {k1 : Nat} {x2 : Int} {x3 : Int} {x4 : Int} (hS : Sh M.2.1) (h : 
    (x2 ≤ x4 → (InR (x3 + 1)) ∧ Ex l G (d + 1) mX0_findNeeds 85 [some (vR (some (9, 0))), some (vR (some (5, k1))), some (vI x2), some (vI (x3 + 1)), none, none] [] M r M') ∧ (¬ (x2 ≤ x4) → ((0 ≤ x3 ∧ x3 < 144) ∧ 0 ≤ x4 ∧ (0 ≤ (M.1 20 0 x3.toNat) ∧ 0 ≤ (x4 / 12) ∧ (x4 / 12) < 32)) ∧ (((tb (M.1 20 0 x3.toNat) (x4 / 12) = true → ((0 ≤ x4 ∧ x4 < 144) ∧ 0 ≤ x3 ∧ (0 ≤ (M.1 20 0 x4.toNat) ∧ 0 ≤ (x3 / 12) ∧ (x3 / 12) < 32)))) ∧ (((if tb (M.1 20 0 x3.toNat) (x4 / 12) = true then (if tb (M.1 20 0 x4.toNat) (x3 / 12) = true then 1 else 0 : Int) else 0 : Int) = 0 → (InR (x4 + 1)) ∧ Ex l G (d + 1) mX0_findNeeds 95 [some (vR (some (9, 0))), some (vR (some (5, k1))), some (vI x2), some (vI x3), some (vI (x4 + 1)), none] [] M r M') ∧ (¬ ((if tb (M.1 20 0 x3.toNat) (x4 / 12) = true then (if tb (M.1 20 0 x4.toNat) (x3 / 12) = true then 1 else 0 : Int) else 0 : Int) = 0) → ∃ (r_14 : Int) (M_12 : Mem), Cl l G d mX0_endsRight [vR (some (9, 0)), vR (some (5, k1)), vI x3, vI x4] M (some (vI r_14)) M_12 ∧ ((r_14 = 0 → (InR (x4 + 1)) ∧ Ex l G (d + 1) mX0_findNeeds 95 [some (vR (some (9, 0))), some (vR (some (5, k1))), some (vI x2), some (vI x3), some (vI (x4 + 1)), none] [] M_12 r M') ∧ (¬ (r_14 = 0) → r = some (vI 2) ∧ M' = ((upI (upI M_12.1 9 0 10 x3) 9 0 11 x4), M_12.2.1, M_12.2.2)))))))) : Ex l G (d + 1) mX0_findNeeds 95 [some (vR (some (9, 0))), some (vR (some (5, k1))), some (vI x2), some (vI x3), some (vI x4), none] [] M r M' := by
  refine r_iload 97 dX0_findNeeds_95 rfl rfl ?_
  refine r_iload_n 98 dX0_findNeeds_97 rfl rfl ?_
  refine r_icmp_ge 101 177 dX0_findNeeds_98 rfl rfl (fun c => ?_) (fun c => ?_)
  · have h := h.1 (c)
    obtain ⟨o_1, h⟩ := h
    refine r_iinc (ls' := [some (vR (some (9, 0))), some (vR (some (5, k1))), some (vI x2), some (vI (x3 + 1)), some (vI x4), none]) 180 dX0_findNeeds_177 rfl rfl rfl rfl o_1 rfl ?_
    refine r_goto 85 dX0_findNeeds_180 rfl ?_
    exact Ex.weak h ⟨rfl, rfl, rfl, rfl, trivial⟩
  · have h := h.2 (c)
    obtain ⟨⟨o_2, o_3, o_4⟩, h⟩ := h
    refine r_aload_n 102 dX0_findNeeds_101 rfl rfl ?_
    refine g_R 105 dX0_findNeeds_102 rfl rfl rfl fr_0_9 (sh_0_12 hS) ?_
    refine r_iload_n 106 dX0_findNeeds_105 rfl rfl ?_
    refine a_I 144 107 dX0_findNeeds_106 rfl rfl rfl rfl o_2 rfl ?_
    refine r_iload 109 dX0_findNeeds_107 rfl rfl ?_
    refine r_bipush 111 dX0_findNeeds_109 rfl rfl ?_
    refine r_idiv 112 dX0_findNeeds_111 rfl ⟨o_3, by decide⟩ ?_
    refine n_1 [vI (M.1 20 0 x3.toNat), vI (x4 / 12)] [] 115 dX0_findNeeds_112 rfl rfl mo_X11_hasBit ml_0_66 rfl rfl (KX11_hasBit o_4) ?_
    obtain ⟨h0, h⟩ := h
    have hJ_5 : Ex l G (d + 1) mX0_findNeeds 140 [some (vR (some (9, 0))), some (vR (some (5, k1))), some (vI x2), some (vI x3), some (vI x4), none] [vI (if tb (M.1 20 0 x3.toNat) (x4 / 12) = true then (if tb (M.1 20 0 x4.toNat) (x3 / 12) = true then 1 else 0 : Int) else 0 : Int)] M r M' := by
      refine r_istore (ls' := [some (vR (some (9, 0))), some (vR (some (5, k1))), some (vI x2), some (vI x3), some (vI x4), some (vI (if tb (M.1 20 0 x3.toNat) (x4 / 12) = true then (if tb (M.1 20 0 x4.toNat) (x3 / 12) = true then 1 else 0 : Int) else 0 : Int))]) 142 dX0_findNeeds_140 rfl rfl rfl rfl ?_
      refine r_iload 144 dX0_findNeeds_142 rfl rfl ?_
      refine r_if_eq 147 171 dX0_findNeeds_144 rfl rfl (fun c => ?_) (fun c => ?_)
      · have h := h.1 (c)
        obtain ⟨o_11, h⟩ := h
        refine r_iinc (ls' := [some (vR (some (9, 0))), some (vR (some (5, k1))), some (vI x2), some (vI x3), some (vI (x4 + 1)), some (vI (if tb (M.1 20 0 x3.toNat) (x4 / 12) = true then (if tb (M.1 20 0 x4.toNat) (x3 / 12) = true then 1 else 0 : Int) else 0 : Int))]) 174 dX0_findNeeds_171 rfl rfl rfl rfl o_11 rfl ?_
        refine r_goto 95 dX0_findNeeds_174 rfl ?_
        exact Ex.weak h ⟨rfl, rfl, rfl, rfl, rfl, trivial⟩
      · have h := h.2 (c)
        refine r_aload_n 148 dX0_findNeeds_147 rfl rfl ?_
        refine r_aload_n 149 dX0_findNeeds_148 rfl rfl ?_
        refine r_iload_n 150 dX0_findNeeds_149 rfl rfl ?_
        refine r_iload 152 dX0_findNeeds_150 rfl rfl ?_
        obtain ⟨r_14, M_12, hc_13, h⟩ := h
        refine v_1 (ci := 0) (C := (RX0, TX0, 13)) [vR (some (5, k1)), vI x3, vI x4] [] 155 dX0_findNeeds_152 rfl rfl rfl rfl rfl mo_X0_endsRight ml_0_170 rfl rfl hc_13 ?_
        refine r_if_eq 158 171 dX0_findNeeds_155 rfl rfl (fun c => ?_) (fun c => ?_)
        · have h := h.1 (c)
          obtain ⟨o_15, h⟩ := h
          refine r_iinc (ls' := [some (vR (some (9, 0))), some (vR (some (5, k1))), some (vI x2), some (vI x3), some (vI (x4 + 1)), some (vI (if tb (M.1 20 0 x3.toNat) (x4 / 12) = true then (if tb (M.1 20 0 x4.toNat) (x3 / 12) = true then 1 else 0 : Int) else 0 : Int))]) 174 dX0_findNeeds_171 rfl rfl rfl rfl o_15 rfl ?_
          refine r_goto 95 dX0_findNeeds_174 rfl ?_
          exact Ex.weak h ⟨rfl, rfl, rfl, rfl, rfl, trivial⟩
        · have h := h.2 (c)
          refine r_aload_n 159 dX0_findNeeds_158 rfl rfl ?_
          refine r_iload_n 160 dX0_findNeeds_159 rfl rfl ?_
          refine p_I 163 dX0_findNeeds_160 rfl rfl rfl rfl pf_0_164 (.inl rfl) rfl ?_
          refine r_aload_n 164 dX0_findNeeds_163 rfl rfl ?_
          refine r_iload 166 dX0_findNeeds_164 rfl rfl ?_
          refine p_I 169 dX0_findNeeds_166 rfl rfl rfl rfl pf_0_167 (.inl rfl) rfl ?_
          refine r_iconst 170 dX0_findNeeds_169 rfl (InR_of rfl) ?_
          exact r_iret dX0_findNeeds_170 rfl (.inl rfl) h.1 h.2
    have h := h0
    refine r_if_eq 118 139 dX0_findNeeds_115 rfl rfl (fun c => ?_) (fun c => ?_)
    · have c_6 := b2_0.mp c
      refine r_iconst 140 dX0_findNeeds_139 rfl (InR_of rfl) ?_
      exact (Ex.at hJ_5 rfl (show [vI 0] = [vI (if tb (M.1 20 0 x3.toNat) (x4 / 12) = true then (if tb (M.1 20 0 x4.toNat) (x3 / 12) = true then 1 else 0 : Int) else 0 : Int)] by simp only [if_neg c_6]) rfl)
    · have c_6 := b2_1.mp c
      have h := h c_6
      obtain ⟨o_7, o_8, o_9⟩ := h
      refine r_aload_n 119 dX0_findNeeds_118 rfl rfl ?_
      refine g_R 122 dX0_findNeeds_119 rfl rfl rfl fr_0_9 (sh_0_12 hS) ?_
      refine r_iload 124 dX0_findNeeds_122 rfl rfl ?_
      refine a_I 144 125 dX0_findNeeds_124 rfl rfl rfl rfl o_7 rfl ?_
      refine r_iload_n 126 dX0_findNeeds_125 rfl rfl ?_
      refine r_bipush 128 dX0_findNeeds_126 rfl rfl ?_
      refine r_idiv 129 dX0_findNeeds_128 rfl ⟨o_8, by decide⟩ ?_
      refine n_1 [vI (M.1 20 0 x4.toNat), vI (x3 / 12)] [] 132 dX0_findNeeds_129 rfl rfl mo_X11_hasBit ml_0_66 rfl rfl (KX11_hasBit o_9) ?_
      refine r_if_eq 135 139 dX0_findNeeds_132 rfl rfl (fun c => ?_) (fun c => ?_)
      · have c_10 := b2_0.mp c
        refine r_iconst 140 dX0_findNeeds_139 rfl (InR_of rfl) ?_
        exact (Ex.at hJ_5 rfl (show [vI 0] = [vI (if tb (M.1 20 0 x3.toNat) (x4 / 12) = true then (if tb (M.1 20 0 x4.toNat) (x3 / 12) = true then 1 else 0 : Int) else 0 : Int)] by simp only [if_pos c_6, if_neg c_10]) rfl)
      · have c_10 := b2_1.mp c
        refine r_iconst 136 dX0_findNeeds_135 rfl (InR_of rfl) ?_
        refine r_goto 140 dX0_findNeeds_136 rfl ?_
        exact (Ex.at hJ_5 rfl (show [vI 1] = [vI (if tb (M.1 20 0 x3.toNat) (x4 / 12) = true then (if tb (M.1 20 0 x4.toNat) (x3 / 12) = true then 1 else 0 : Int) else 0 : Int)] by simp only [if_pos c_6, if_pos c_10]) rfl)

set_option maxRecDepth 4000 in
theorem xX11_needs_0 {l : Launch} {G : Gt} {d : Nat} {M M' : Mem} {r : Option Vl} {x1 : Int} {x2 : Int} {x3 : Int} {x4 : Int} {x5 : Int} {x6 : Int} (h : 
    ∃ (o_3 : Option Nm) (M_1 : Mem), Cl l G (d + 1) mX11_coverOf [vR (some (2, 0)), vI x2] M (some (vR o_3)) M_1 ∧ Sh M_1.2.1 ∧ ((o_3 = none → r = some (vI (-1)) ∧ M' = M_1) ∧ (¬ (o_3 = none) → (¬ ((0 ≤ x1 ∧ x1 < (M_1.1 4 0 0)) ∧ (0 ≤ x3 ∧ x3 < (M_1.1 4 0 0)) ∧ ¬ x1 = x3) → r = some (vI (-1)) ∧ M' = M_1) ∧ ((0 ≤ x1 ∧ x1 < (M_1.1 4 0 0)) ∧ (0 ≤ x3 ∧ x3 < (M_1.1 4 0 0)) ∧ ¬ x1 = x3 → (¬ (0 ≤ x4 ∧ x4 < 8) → r = some (vI (-1)) ∧ M' = M_1) ∧ (0 ≤ x4 ∧ x4 < 8 → (0 ≤ x5 ∧ x5 ≤ 999 → (x6 < 0 → r = some (vI (-1)) ∧ M' = M_1) ∧ (¬ (x6 < 0) → (x6 ≤ 2 → ∃ k_4 : Nat, o_3 = some (13, k_4) ∧ (∃ (M_6 : Mem), Cl l G (d + 1) mX5_begin [vR (some (5, 8)), vR (some (13, k_4)), vI x1, vI x3, vI x4, vI x5] M_1 none M_6 ∧ Sh M_6.2.1 ∧ (∃ (r_10 : Int) (M_8 : Mem), Cl l G (d + 1) mX0_findNeeds [vR (some (9, 0)), vR (some (5, 8))] M_6 (some (vI r_10)) M_8 ∧ Sh M_8.2.1 ∧ ((¬ (x6 = 0) → r = some (vI (if x6 = 1 then (M_8.1 9 0 10) else (M_8.1 9 0 11) : Int)) ∧ M' = M_8) ∧ (x6 = 0 → r = some (vI r_10) ∧ M' = M_8))))) ∧ (¬ (x6 ≤ 2) → r = some (vI (-1)) ∧ M' = M_1))) ∧ (¬ (0 ≤ x5 ∧ x5 ≤ 999) → r = some (vI (-1)) ∧ M' = M_1)))))) : Cl l G (d + 2) mX11_needs [vR (some (2, 0)), vI x1, vI x2, vI x3, vI x4, vI x5, vI x6] M r M' := by
  show Ex l G (d + 2) mX11_needs 0 [some (vR (some (2, 0))), some (vI x1), some (vI x2), some (vI x3), some (vI x4), some (vI x5), some (vI x6), none, none] [] M r M'
  refine r_aload_n 1 dX11_needs_0 rfl rfl ?_
  refine r_iload_n 2 dX11_needs_1 rfl rfl ?_
  obtain ⟨o_3, M_1, hc_2, hS, h⟩ := h
  refine v_1 (ci := 11) (C := (RX11, TX11, 16)) [vI x2] [] 5 dX11_needs_2 rfl rfl rfl rfl rfl mo_X11_coverOf ml_11_187 rfl rfl hc_2 ?_
  refine r_astore (ls' := [some (vR (some (2, 0))), some (vI x1), some (vI x2), some (vI x3), some (vI x4), some (vI x5), some (vI x6), some (vR o_3), none]) 7 dX11_needs_5 rfl rfl rfl rfl ?_
  refine r_aload 9 dX11_needs_7 rfl rfl ?_
  refine r_ifnull 12 37 dX11_needs_9 rfl rfl (fun c => ?_) (fun c => ?_)
  · have h := h.1 (c)
    refine r_iconst 38 dX11_needs_37 rfl (InR_of rfl) ?_
    exact r_iret dX11_needs_38 rfl (.inl rfl) h.1 h.2
  · have h := h.2 (c)
    refine r_aload_n 13 dX11_needs_12 rfl rfl ?_
    refine r_iload_n 14 dX11_needs_13 rfl rfl ?_
    refine r_iload_n 15 dX11_needs_14 rfl rfl ?_
    refine v_1 (ci := 11) (C := (RX11, TX11, 16)) [vI x1, vI x3] [] 18 dX11_needs_15 rfl rfl rfl rfl rfl mo_X11_areTwo ml_11_130 rfl rfl (KX11_areTwo hS) ?_
    refine r_if_eq 21 37 dX11_needs_18 rfl rfl (fun c => ?_) (fun c => ?_)
    · have h := h.1 (b2_0.mp c)
      refine r_iconst 38 dX11_needs_37 rfl (InR_of rfl) ?_
      exact r_iret dX11_needs_38 rfl (.inl rfl) h.1 h.2
    · have h := h.2 (b2_1.mp c)
      refine r_iload 23 dX11_needs_21 rfl rfl ?_
      refine c_1 [vI x4] [] 26 dX11_needs_23 rfl rfl mo_X11_isPlace ml_11_96 rfl rfl (KX11_isPlace) ?_
      refine r_if_eq 29 37 dX11_needs_26 rfl rfl (fun c => ?_) (fun c => ?_)
      · have h := h.1 (b2_0.mp c)
        refine r_iconst 38 dX11_needs_37 rfl (InR_of rfl) ?_
        exact r_iret dX11_needs_38 rfl (.inl rfl) h.1 h.2
      · have h := h.2 (b2_1.mp c)
        refine r_iload 31 dX11_needs_29 rfl rfl ?_
        refine c_1 [vI x5] [] 34 dX11_needs_31 rfl rfl mo_X11_isDay ml_11_124 rfl rfl (KX11_isDay) ?_
        refine r_if_ne 37 39 dX11_needs_34 rfl rfl (fun c => ?_) (fun c => ?_)
        · have h := h.1 (b2_1.mp c)
          refine r_iload 41 dX11_needs_39 rfl rfl ?_
          refine r_if_lt 44 50 dX11_needs_41 rfl rfl (fun c => ?_) (fun c => ?_)
          · have h := h.1 (c)
            refine r_iconst 51 dX11_needs_50 rfl (InR_of rfl) ?_
            exact r_iret dX11_needs_51 rfl (.inl rfl) h.1 h.2
          · have h := h.2 (c)
            refine r_iload 46 dX11_needs_44 rfl rfl ?_
            refine r_iconst 47 dX11_needs_46 rfl (InR_of rfl) ?_
            refine r_icmp_le 50 52 dX11_needs_47 rfl rfl (fun c => ?_) (fun c => ?_)
            · have h := h.1 (c)
              refine r_aload_n 53 dX11_needs_52 rfl rfl ?_
              refine g_R 56 dX11_needs_53 rfl rfl rfl fr_11_72 (sh_11_8 hS) ?_
              refine r_aload 58 dX11_needs_56 rfl rfl ?_
              refine r_iload_n 59 dX11_needs_58 rfl rfl ?_
              refine r_iload_n 60 dX11_needs_59 rfl rfl ?_
              refine r_iload 62 dX11_needs_60 rfl rfl ?_
              refine r_iload 64 dX11_needs_62 rfl rfl ?_
              obtain ⟨k_4, e_5, h⟩ := h
              refine Ex.at (st2 := [vI x5, vI x4, vI x3, vI x1, vR (some (13, k_4)), vR (some (5, 8))]) ?_ rfl (show [vI x5, vI x4, vI x3, vI x1, vR o_3, vR (some (5, 8))] = [vI x5, vI x4, vI x3, vI x1, vR (some (13, k_4)), vR (some (5, 8))] by rw [e_5]) rfl
              obtain ⟨M_6, hc_7, hS, h⟩ := h
              refine v_0 (ci := 5) (C := (RX5, TX5, 12)) [vR (some (13, k_4)), vI x1, vI x3, vI x4, vI x5] [] 67 dX11_needs_64 rfl rfl rfl rfl rfl mo_X5_begin ml_11_234 rfl rfl hc_7 ?_
              refine r_aload_n 68 dX11_needs_67 rfl rfl ?_
              refine g_R 71 dX11_needs_68 rfl rfl rfl fr_11_44 (sh_11_4 hS) ?_
              refine r_aload_n 72 dX11_needs_71 rfl rfl ?_
              refine g_R 75 dX11_needs_72 rfl rfl rfl fr_11_72 (sh_11_8 hS) ?_
              obtain ⟨r_10, M_8, hc_9, hS, h⟩ := h
              refine v_1 (ci := 0) (C := (RX0, TX0, 13)) [vR (some (5, 8))] [] 78 dX11_needs_75 rfl rfl rfl rfl rfl mo_X0_findNeeds ml_11_304 rfl rfl hc_9 ?_
              refine r_istore (ls' := [some (vR (some (2, 0))), some (vI x1), some (vI x2), some (vI x3), some (vI x4), some (vI x5), some (vI x6), some (vR o_3), some (vI r_10)]) 80 dX11_needs_78 rfl rfl rfl rfl ?_
              refine r_iload 82 dX11_needs_80 rfl rfl ?_
              refine r_if_ne 85 88 dX11_needs_82 rfl rfl (fun c => ?_) (fun c => ?_)
              · have h := h.1 (c)
                refine r_iload 90 dX11_needs_88 rfl rfl ?_
                refine r_iconst 91 dX11_needs_90 rfl (InR_of rfl) ?_
                have hJ_11 : Ex l G (d + 2) mX11_needs 111 [some (vR (some (2, 0))), some (vI x1), some (vI x2), some (vI x3), some (vI x4), some (vI x5), some (vI x6), some (vR o_3), some (vI r_10)] [vI (if x6 = 1 then (M_8.1 9 0 10) else (M_8.1 9 0 11) : Int)] M_8 r M' := by
                  exact r_iret dX11_needs_111 rfl (.inl rfl) h.1 h.2
                refine r_icmp_ne 94 104 dX11_needs_91 rfl rfl (fun c => ?_) (fun c => ?_)
                · have c_12 := c
                  refine r_aload_n 105 dX11_needs_104 rfl rfl ?_
                  refine g_R 108 dX11_needs_105 rfl rfl rfl fr_11_44 (sh_11_4 hS) ?_
                  refine g_I 111 dX11_needs_108 rfl rfl rfl fi_11_310 rfl ?_
                  exact (Ex.at hJ_11 rfl (show [vI (M_8.1 9 0 11)] = [vI (if x6 = 1 then (M_8.1 9 0 10) else (M_8.1 9 0 11) : Int)] by simp only [if_neg c_12]) rfl)
                · have c_12 := Decidable.not_not.mp c
                  refine r_aload_n 95 dX11_needs_94 rfl rfl ?_
                  refine g_R 98 dX11_needs_95 rfl rfl rfl fr_11_44 (sh_11_4 hS) ?_
                  refine g_I 101 dX11_needs_98 rfl rfl rfl fi_11_307 rfl ?_
                  refine r_goto 111 dX11_needs_101 rfl ?_
                  exact (Ex.at hJ_11 rfl (show [vI (M_8.1 9 0 10)] = [vI (if x6 = 1 then (M_8.1 9 0 10) else (M_8.1 9 0 11) : Int)] by simp only [if_pos c_12]) rfl)
              · have h := h.2 (Decidable.not_not.mp c)
                refine r_iload 87 dX11_needs_85 rfl rfl ?_
                exact r_iret dX11_needs_87 rfl (.inl rfl) h.1 h.2
            · have h := h.2 (c)
              refine r_iconst 51 dX11_needs_50 rfl (InR_of rfl) ?_
              exact r_iret dX11_needs_51 rfl (.inl rfl) h.1 h.2
        · have h := h.2 (b2_0.mp (Decidable.not_not.mp c))
          refine r_iconst 38 dX11_needs_37 rfl (InR_of rfl) ?_
          exact r_iret dX11_needs_38 rfl (.inl rfl) h.1 h.2

def qT (Q : QT) (x : Int) : QT := if x = -1 then Q else tQ Q x.toNat
def TW (Q : QT) (x : Int) : Prop := x = -1 ∨ (0 ≤ x ∧ x < 144 ∧ x.toNat / 12 < nPp Q ∧ x.toNat % 12 < nPp Q)
def LB (M : Mem) (cv : Nat) (s p pl day : Int) : Prop := M.2.1 5 8 0 = some (13, cv) ∧ M.1 5 8 1 = s ∧ M.1 5 8 2 = p ∧ M.1 5 8 3 = pl ∧ M.1 5 8 4 = day
/-- as eqL, and who was asked -/
def eqE (L L' : Nat → Int) : Prop := ∀ i, ¬ (i = 0 ∨ i = 2 ∨ i = 3 ∨ 12 ≤ i) → L i = L' i
theorem eqE.l {L L' : Nat → Int} (h : eqE L L') : eqL L L' := fun i hi => h i (by omega)
theorem akL_ext {Q : QT} {cv : Nat} {L L' : Nat → Int} (h : eqE L L') : akL Q cv L = akL Q cv L' := by
  unfold akL
  rw [h 1 (by omega), h 4 (by omega), h 7 (by omega), h 6 (by omega)]
theorem askL_ext {Q : QT} {cv : Nat} {L L' : Nat → Int} (h : eqE L L') : eqE (askL (stpL Q cv L) (bI 12 (akL Q cv L)) L) (askL (stpL Q cv L') (bI 12 (akL Q cv L')) L') := fun i hi => by
  unfold askL
  rw [stpL_ext h.l, akL_ext h, h 5 (by omega), h 8 (by omega), h 11 (by omega), h i hi]
theorem endL_ext2 {Q : QT} {cv : Nat} : ∀ {n : Nat} {L L' : Nat → Int}, eqE L L' → eqE (endL Q cv n L) (endL Q cv n L') := by
  intro n
  induction n with
  | zero => intro L L' h; exact h
  | succ n ih =>
    intro L L' h
    have ha := askL_ext (Q := Q) (cv := cv) h
    unfold endL
    rw [stpL_ext h.l, akL_ext h, h 7 (by omega), h 6 (by omega)]
    rw [stpL_ext h.l, akL_ext h] at ha
    split
    · refine ih fun i hi => ?_
      have e7 := ha 7 (by omega)
      have e6 := ha 6 (by omega)
      have e9 := ha 9 (by omega)
      have e10 := ha 10 (by omega)
      have ei := ha i hi
      unfold goL
      rw [e7, e6, e9, e10, ei]
    · exact ha
theorem endL_c {Q : QT} {cv i : Nat} (hi : i = 1 ∨ i = 2 ∨ i = 3 ∨ i = 4) : ∀ {n : Nat} {L : Nat → Int}, endL Q cv n L i = L i := by
  intro n
  induction n with
  | zero => intro L; rfl
  | succ n ih =>
    intro L
    unfold endL
    split
    · rw [ih]; rcases hi with rfl | rfl | rfl | rfl <;> rfl
    · rcases hi with rfl | rfl | rfl | rfl <;> rfl
theorem endV_eqE {Q : QT} {c s pl day p : Int} {g : Nat → Int} : eqE (endL Q c.toNat 100 (begL g s p pl day)) (endV Q c s pl day) := endL_ext2 fun i hi => by unfold begL; ((repeat' split) <;> first | rfl | (exfalso; omega) | (congr 1; omega) | congr 1)
section NC
variable {l : Launch} {G : Gt} {d : Nat} {Q : QT} {M : Mem}
theorem qT_W {x : Int} (h : WFA Q) (hx : TW Q x) : WFA (qT Q x) := by
  unfold qT
  rcases hx with e | ⟨_, _, a, b⟩
  · rw [if_pos e]; exact h
  · rw [if_neg (by omega)]; exact tQ_W h a b
theorem qT_p {x : Int} : nPp (qT Q x) = nPp Q := by
  unfold qT
  split
  · rfl
  · exact tQ_p
theorem qT_v {x : Int} : nCv (qT Q x) = nCv Q := by
  unfold qT
  split
  · rfl
  · exact tQ_v
theorem qT_n {a : Nat} : qT Q (a : Int) = tQ Q a := by unfold qT; rw [if_neg (by omega), Int.toNat_natCast]
theorem qT_1 : qT Q (-1) = Q := by unfold qT; rw [if_pos rfl]
theorem TW.q {x y : Int} (h : TW Q x) : TW (qT Q y) x := by unfold TW at *; rw [qT_p]; exact h
theorem qT_4 {x y : Int} (h : WFA Q) (hx : TW Q x) (hy : TW Q y) : qT (qT (qT (qT Q x) y) x) y = Q := by
  unfold qT
  rcases hx with e | ⟨a1, a2, a3, a4⟩
  · rcases hy with e' | ⟨b1, b2, b3, b4⟩
    · simp only [if_pos e, if_pos e']
    · simp only [if_pos e, if_neg (show ¬ y = -1 by omega)]
      exact tQ_tw (kn_in h (by omega))
  · rcases hy with e' | ⟨b1, b2, b3, b4⟩
    · simp only [if_pos e', if_neg (show ¬ x = -1 by omega)]
      exact tQ_tw (kn_in h (by omega))
    · simp only [if_neg (show ¬ y = -1 by omega), if_neg (show ¬ x = -1 by omega)]
      exact tQ_4 h (by omega) (by omega) b3 b4
theorem KX0_turnKnown {x : Int} (hR : RelB Q M) (hw : WFA Q) (hx : TW Q x) : ∃ M', Cl l G d mX0_turnKnown [vR (some (9, 0)), vI x] M none M' ∧ RelB (qT Q x) M' ∧ M'.2 = M.2 ∧ ∀ f k i, ¬ (f = 36 ∧ k = 0 ∧ i < 12) → M'.1 f k i = M.1 f k i := by
  have h12 := nPp_le hw.1.1
  rcases hx with e | ⟨a1, a2, a3, a4⟩
  · refine ⟨M, xX0_turnKnown_0 hR.1.1 ⟨fun _ => ⟨rfl, rfl⟩, fun c => absurd (by omega) c⟩, ?_, rfl, fun _ _ _ _ => rfl⟩
    unfold qT
    rw [if_pos e]
    exact hR
  · obtain ⟨a, rfl⟩ : ∃ a : Nat, x = (a : Int) := ⟨x.toNat, by omega⟩
    rw [Int.toNat_natCast] at a3 a4
    have ed : ((a : Int) / 12) = ((a / 12 : Nat) : Int) := by omega
    have em : ((a : Int) % 12) = ((a % 12 : Nat) : Int) := by omega
    have ek : M.1 36 0 (a / 12) = Q 50 (a / 12) := hR.1.2.2.2.2.2 _ (by omega)
    refine ⟨(upI M.1 36 0 (a / 12) (aXor (Q 50 (a / 12)) (aShl 1 ((a % 12 : Nat) : Int))), M.2.1, M.2.2), xX0_turnKnown_0 hR.1.1 ?_, ?_, rfl, fun f k i hn => ?_⟩
    · rw [ed, em, Int.toNat_natCast, ek]
      exact ⟨fun c => by omega, fun _ => ⟨fun c => by omega, fun _ => ⟨⟨by omega, by omega, by omega⟩, rfl, rfl⟩⟩⟩
    · rw [qT_n]
      obtain ⟨n1, n2, n3, n4⟩ := tQ_n (Q := Q) (a := a)
      refine hR.kn n1 n2 n3 (fun f k i hn => by dsimp only; rw [upI_o (fun e => hn e.1)]) rfl (fun r hr => ?_)
      dsimp only
      unfold tQ
      rw [upI_c, upQ_c]
      split
      · rfl
      · exact hR.1.2.2.2.2.2 r hr
    · dsimp only
      by_cases e : f = 36 ∧ k = 0
      · obtain ⟨rfl, rfl⟩ := e
        rw [upI_i (fun e => hn ⟨rfl, rfl, by omega⟩)]
      · rw [upI_o e]
theorem KX5_beginAgain {k0 : Nat} (hpl : 0 ≤ M.1 5 k0 3 ∧ M.1 5 k0 3 < 8) : Cl l G d mX5_beginAgain [vR (some (5, k0))] M none (seI M.1 5 k0 (begL (M.1 5 k0) (M.1 5 k0 1) (M.1 5 k0 2) (M.1 5 k0 3) (M.1 5 k0 4)), M.2.1, M.2.2) := by
  refine xX5_beginAgain_0 ⟨by omega, rfl, ?_⟩
  rw [upI_eq (I := M.1), upI_seI, upI_seI, upI_seI, upI_seI, upI_seI, upI_seI]
  refine congrArg (fun x => (x, M.2.1, M.2.2)) (congrArg (seI M.1 5 k0) (funext fun j => ?_))
  unfold begL
  by_cases h1 : j = 1
  · subst h1; rfl
  by_cases h2 : j = 2
  · subst h2; rfl
  by_cases h3 : j = 3
  · subst h3; rfl
  by_cases h4 : j = 4
  · subst h4; rfl
  by_cases h5 : j = 5
  · subst h5; rfl
  by_cases h6 : j = 6
  · subst h6; rfl
  by_cases h7 : j = 7
  · subst h7; rfl
  by_cases h8 : j = 8
  · subst h8; rfl
  by_cases h9 : j = 9
  · subst h9; rfl
  by_cases h10 : j = 10
  · subst h10; rfl
  by_cases h11 : j = 11
  · subst h11; rfl
  simp only [h1, h2, h3, h4, h5, h6, h7, h8, h9, h10, h11, if_false]
theorem KX0_endsRight {s p c pl day x y : Int} (hR : RelB Q M) (hw : WFA Q) (hL : LB M c.toNat s p pl day) (h1 : 0 ≤ s ∧ s < nPp Q) (h2 : 0 ≤ c ∧ c < nCv Q) (h3 : 0 ≤ pl ∧ pl < 8) (h4 : 0 ≤ day ∧ day ≤ 999) (hx : TW Q x) (hy : TW Q y) : ∃ M', Cl l G (d + 6) mX0_endsRight [vR (some (9, 0)), vR (some (5, 8)), vI x, vI y] M (some (vI (if endV (qT (qT Q x) y) c s pl day 5 = 1 ∧ endV (qT (qT Q x) y) c s pl day 8 = p then 1 else 0))) M' ∧ RelB Q M' ∧ frG (scL 8) M M' ∧ LB M' c.toNat s p pl day ∧ M'.1 5 8 11 = endV (qT (qT Q x) y) c s pl day 11 := by
  obtain ⟨M1, t1, R1, e1, f1⟩ := KX0_turnKnown (l := l) (G := G) (d := d + 5) hR hw hx
  have w1 := qT_W hw hx
  obtain ⟨M2, t2, R2, e2, f2⟩ := KX0_turnKnown (l := l) (G := G) (d := d + 5) R1 w1 (hy.q (y := x))
  have w2 := qT_W w1 (hy.q (y := x))
  have g : ∀ i, M2.1 5 8 i = M.1 5 8 i := fun i => (f2 _ _ _ (by omega)).trans (f1 _ _ _ (by omega))
  have e22 : M2.2 = M.2 := e2.trans e1
  have b := KX5_beginAgain (l := l) (G := G) (d := d + 5) (M := M2) (k0 := 8) (by rw [g, hL.2.2.2.1]; exact h3)
  rw [g 1, g 2, g 3, g 4, hL.2.1, hL.2.2.1, hL.2.2.2.1, hL.2.2.2.2] at b
  have R3 : RelB (qT (qT Q x) y) (seI M2.1 5 8 (begL (M2.1 5 8) s p pl day), M2.2.1, M2.2.2) := R2.lt
  obtain ⟨M4, k1, k2, k3, k4⟩ := KX0_goToEnd (l := l) (G := G) (d := d) (k1 := 8) (cv := c.toNat) (L := begL (M2.1 5 8) s p pl day) R3 w2.q (by dsimp only; rw [e22]; exact hL.1) (by rw [qT_v, qT_v]; omega) (by dsimp only; rw [seI_s]) (begL_WL (by rw [qT_p, qT_p]; exact h1) h3 h4) h4.2
  have hx2 := (hx.q (y := x)).q (y := y)
  obtain ⟨M5, t5, R5, e5, f5⟩ := KX0_turnKnown (l := l) (G := G) (d := d + 5) k2 w2 hx2
  have w5 := qT_W w2 hx2
  obtain ⟨M6, t6, R6, e6, f6⟩ := KX0_turnKnown (l := l) (G := G) (d := d + 5) R5 w5 (((hy.q (y := x)).q (y := y)).q (y := x))
  rw [qT_4 hw hx hy] at R6
  have e26 : M6.2 = M4.2 := e6.trans e5
  have gl : ∀ i, M6.1 5 8 i = M4.1 5 8 i := fun i => (f6 _ _ _ (by omega)).trans (f5 _ _ _ (by omega))
  have hE : eqE (M4.1 5 8) (endV (qT (qT Q x) y) c s pl day) := by rw [k4]; exact endV_eqE
  obtain ⟨q1, q2, q3, q4, q5, q6⟩ := k3
  dsimp only at q2 q3 q4 q5 q6
  rw [e22] at q2 q3 q4 q5 q6
  rw [← e26] at q2 q3 q4 q5 q6
  have r5 : M6.1 5 8 5 = endV (qT (qT Q x) y) c s pl day 5 := (gl 5).trans (hE 5 (by omega))
  have r8 : M6.1 5 8 8 = endV (qT (qT Q x) y) c s pl day 8 := (gl 8).trans (hE 8 (by omega))
  have r1 : M6.1 5 8 1 = s := by rw [gl, k4, endL_c (by omega)]; rfl
  have r2 : M6.1 5 8 2 = p := by rw [gl, k4, endL_c (by omega)]; rfl
  have r3 : M6.1 5 8 3 = pl := by rw [gl, k4, endL_c (by omega)]; rfl
  have r4 : M6.1 5 8 4 = day := by rw [gl, k4, endL_c (by omega)]; rfl
  refine ⟨M6, xX0_endsRight_0 ⟨M1, t1, M2, t2, _, b, M4, k1, M5, t5, M6, t6, ?_, rfl⟩, R6, ⟨fun f k i hn => ?_, q2, q3, q4, q5, q6⟩, ⟨by rw [q2 _ _ _ (by omega)]; exact hL.1, r1, r2, r3, r4⟩, (gl 11).trans (hE 11 (by omega))⟩
  · rw [r5, r8, r2]
  · by_cases e : f = 36 ∧ k = 0 ∧ i < 12
    · obtain ⟨rfl, rfl, hi⟩ := e
      rw [R6.1.2.2.2.2.2 i hi, hR.1.2.2.2.2.2 i hi]
    · rw [f6 _ _ _ e, f5 _ _ _ e, q1 _ _ _ hn]
      dsimp only
      rw [let_up _ _ _ hn, f2 _ _ _ e, f1 _ _ _ e]
theorem KX0_isNotKnown {a : Nat} (hR : RelB Q M) (hw : WFA Q) (ha : a < 144) : Cl l G (d + 1) mX0_isNotKnown [vR (some (9, 0)), vI (a : Int)] M (some (vI (if (a / 12 < nPp Q ∧ a % 12 < nPp Q ∧ ¬ a / 12 = a % 12 ∧ ¬ tb (Q 50 (a / 12)) ((a % 12 : Nat) : Int) = true) then 1 else 0))) M := by
  have h12 := nPp_le hw.1.1
  have e1 := cppl_eq hw.1.1 hR.1
  have ed : ((a : Int) / 12) = ((a / 12 : Nat) : Int) := by omega
  have em : ((a : Int) % 12) = ((a % 12 : Nat) : Int) := by omega
  have ek : M.1 36 0 (a / 12) = Q 50 (a / 12) := hR.1.2.2.2.2.2 _ (by omega)
  have hk : 0 ≤ Q 50 (a / 12) := by rw [hw.1.2.2.1 (a / 12) (by omega)]; exact bI_nn
  refine xX0_isNotKnown_0 hR.1.1 ?_
  rw [ed, em, Int.toNat_natCast, e1, ek]
  have er : (if (if (nPp Q : Int) ≤ ((a / 12 : Nat) : Int) then 0 else (if (nPp Q : Int) ≤ ((a % 12 : Nat) : Int) then 0 else (if ((a / 12 : Nat) : Int) = ((a % 12 : Nat) : Int) then 0 else 1 : Int) : Int) : Int) = 0 then 0 else (if tb (Q 50 (a / 12)) ((a % 12 : Nat) : Int) = true then 0 else 1 : Int) : Int) = if (a / 12 < nPp Q ∧ a % 12 < nPp Q ∧ ¬ a / 12 = a % 12 ∧ ¬ tb (Q 50 (a / 12)) ((a % 12 : Nat) : Int) = true) then 1 else 0 := by
    by_cases c1 : a / 12 < nPp Q
    · rw [if_neg (show ¬ (nPp Q : Int) ≤ ((a / 12 : Nat) : Int) by omega)]
      by_cases c2 : a % 12 < nPp Q
      · rw [if_neg (show ¬ (nPp Q : Int) ≤ ((a % 12 : Nat) : Int) by omega)]
        by_cases c3 : a / 12 = a % 12
        · rw [if_pos (show ((a / 12 : Nat) : Int) = ((a % 12 : Nat) : Int) by omega), if_pos rfl, if_neg (fun x => x.2.2.1 c3)]
        · rw [if_neg (show ¬ ((a / 12 : Nat) : Int) = ((a % 12 : Nat) : Int) by omega), if_neg (show ¬ (1 : Int) = 0 by omega)]
          by_cases c4 : tb (Q 50 (a / 12)) ((a % 12 : Nat) : Int) = true
          · rw [if_pos c4, if_neg (fun x => x.2.2.2 c4)]
          · rw [if_neg c4, if_pos ⟨c1, c2, c3, c4⟩]
      · rw [if_pos (show (nPp Q : Int) ≤ ((a % 12 : Nat) : Int) by omega), if_pos rfl, if_neg (fun x => c2 x.2.1)]
    · rw [if_pos (show (nPp Q : Int) ≤ ((a / 12 : Nat) : Int) by omega), if_pos rfl, if_neg (fun x => c1 x.1)]
  rw [er]
  exact ⟨by omega, fun _ => ⟨by omega, by omega, by omega, by omega⟩, by split <;> omega, rfl, rfl⟩
theorem RelB.scr {f k i : Nat} {v : Int} (h : RelB Q M) (hn : ¬ relF f i) (hs : scC f k i) : RelB Q (upI M.1 f k i v, M.2.1, M.2.2) := h.fr (h.1.up hn) (frB.up hs)
end NC
/-- who was asked, if a two more were known -/
def awV (Q : QT) (c s pl day : Int) (a : Nat) : Int := if (a / 12 < nPp Q ∧ a % 12 < nPp Q ∧ ¬ a / 12 = a % 12 ∧ ¬ tb (Q 50 (a / 12)) ((a % 12 : Nat) : Int) = true) then endV (tQ Q a) c s pl day 11 else 0
def ndC (a : Nat) (x : Option Nat) (y : Int × Int × Int) : Int × Int × Int := match x with
  | some b => (2, (a : Int), (b : Int))
  | none => y
section NC2
variable {l : Launch} {G : Gt} {d : Nat} {Q : QT} {M0 : Mem}
theorem awV_b {c s pl day : Int} {a : Nat} : ∃ p, awV Q c s pl day a = bI 12 p := by
  unfold awV
  split
  · unfold endV
    exact endL_11b 100 _ ⟨fun _ => false, by rw [bI_false]; rfl⟩
  · exact ⟨fun _ => false, bI_false.symm⟩
theorem noM {c s p pl day : Int} (hN : ∀ i, i < 144 → (i / 12 < nPp Q ∧ i % 12 < nPp Q ∧ ¬ i / 12 = i % 12 ∧ ¬ tb (Q 50 (i / 12)) ((i % 12 : Nat) : Int) = true) → ¬ (endV (tQ Q i) c s pl day 5 = 1 ∧ endV (tQ Q i) c s pl day 8 = p)) {a b : Nat} (ha : a < 144) (hb : b < 144) (sa : (a / 12 < nPp Q ∧ a % 12 < nPp Q ∧ ¬ a / 12 = a % 12 ∧ ¬ tb (Q 50 (a / 12)) ((a % 12 : Nat) : Int) = true)) (sb : (b / 12 < nPp Q ∧ b % 12 < nPp Q ∧ ¬ b / 12 = b % 12 ∧ ¬ tb (Q 50 (b / 12)) ((b % 12 : Nat) : Int) = true)) (hm : ¬ (tb (endV (tQ Q a) c s pl day 11) ((b / 12 : Nat) : Int) = true ∧ tb (endV (tQ Q b) c s pl day 11) ((a / 12 : Nat) : Int) = true)) : ¬ (endV (tQ (tQ Q a) b) c s pl day 5 = 1 ∧ endV (tQ (tQ Q a) b) c s pl day 8 = p) := by
  by_cases h : tb (endV (tQ Q a) c s pl day 11) ((b / 12 : Nat) : Int) = true
  · have h' : tb (endV (tQ Q b) c s pl day 11) ((a / 12 : Nat) : Int) = false := by
      cases e : tb (endV (tQ Q b) c s pl day 11) ((a / 12 : Nat) : Int) with
      | false => rfl
      | true => exact absurd ⟨h, e⟩ hm
    have e : endV (tQ (tQ Q a) b) c s pl day = endV (tQ Q b) c s pl day := by
      rw [tQ_cm]
      unfold endV at h' ⊢
      exact endL_n tQ_n (by omega) 100 _ h'
    rw [e]
    exact hN b hb sb
  · have h' : tb (endV (tQ Q a) c s pl day 11) ((b / 12 : Nat) : Int) = false := by
      cases e : tb (endV (tQ Q a) c s pl day 11) ((b / 12 : Nat) : Int) with
      | false => rfl
      | true => exact absurd e h
    have e : endV (tQ (tQ Q a) b) c s pl day = endV (tQ Q a) c s pl day := by
      unfold endV at h' ⊢
      exact endL_n tQ_n (by omega) 100 _ h'
    rw [e]
    exact hN a ha sa
def FnI (Q : QT) (c s p pl day : Int) (n : Nat) (M0 M : Mem) : Prop := RelB Q M ∧ LB M c.toNat s p pl day ∧ (∀ i, i < n → M.1 20 0 i = awV Q c s pl day i) ∧ (M.1 9 0 10 = -2 ∧ M.1 9 0 11 = -2) ∧ frB M0 M
def FnP (Q : QT) (M0 M : Mem) (x : Int × Int × Int) : Prop := RelB Q M ∧ frB M0 M ∧ M.1 9 0 10 = x.2.1 ∧ M.1 9 0 11 = x.2.2
theorem ndC_n {a : Nat} {y : Int × Int × Int} : ndC a none y = y := rfl
theorem fn_95 {s c p pl day : Int} {a : Nat} {y : Int × Int × Int} (hw : WFA Q) (h1 : 0 ≤ s ∧ s < nPp Q) (h2 : 0 ≤ c ∧ c < nCv Q) (h3 : 0 ≤ pl ∧ pl < 8) (h4 : 0 ≤ day ∧ day ≤ 999) (ha : a < 144)
    (hN : ∀ i, i < 144 → (i / 12 < nPp Q ∧ i % 12 < nPp Q ∧ ¬ i / 12 = i % 12 ∧ ¬ tb (Q 50 (i / 12)) ((i % 12 : Nat) : Int) = true) → ¬ (endV (tQ Q i) c s pl day 5 = 1 ∧ endV (tQ Q i) c s pl day 8 = p))
    (K : ∀ M, FnI Q c s p pl day 144 M0 M → ∃ M', Ex l G (d + 7) mX0_findNeeds 85 [some (vR (some (9, 0))), some (vR (some (5, 8))), some (vI 144), some (vI ((a : Int) + 1)), none, none] [] M (some (vI y.1)) M' ∧ FnP Q M0 M' y) :
    ∀ n b, n + b = 144 → a < b → ∀ M, FnI Q c s p pl day 144 M0 M → ∃ M', Ex l G (d + 7) mX0_findNeeds 95 [some (vR (some (9, 0))), some (vR (some (5, 8))), some (vI 144), some (vI (a : Int)), some (vI (b : Int)), none] [] M (some (vI (ndC a (if (a / 12 < nPp Q ∧ a % 12 < nPp Q ∧ ¬ a / 12 = a % 12 ∧ ¬ tb (Q 50 (a / 12)) ((a % 12 : Nat) : Int) = true) then nd2 Q (fun Q => endV Q c s pl day 5 = 1 ∧ endV Q c s pl day 8 = p) a n b else none) y).1)) M' ∧ FnP Q M0 M' (ndC a (if (a / 12 < nPp Q ∧ a % 12 < nPp Q ∧ ¬ a / 12 = a % 12 ∧ ¬ tb (Q 50 (a / 12)) ((a % 12 : Nat) : Int) = true) then nd2 Q (fun Q => endV Q c s pl day 5 = 1 ∧ endV Q c s pl day 8 = p) a n b else none) y) := by
  have h12 := nPp_le hw.1.1
  intro n
  induction n with
  | zero =>
    intro b hb hab M hM
    obtain ⟨M', x1, x2⟩ := K M hM
    have e0 : (if (a / 12 < nPp Q ∧ a % 12 < nPp Q ∧ ¬ a / 12 = a % 12 ∧ ¬ tb (Q 50 (a / 12)) ((a % 12 : Nat) : Int) = true) then nd2 Q (fun Q => endV Q c s pl day 5 = 1 ∧ endV Q c s pl day 8 = p) a 0 b else none) = none := by split <;> rfl
    rw [e0, ndC_n]
    exact ⟨M', xX0_findNeeds_95 hM.1.1.1 ⟨fun _ => ⟨by unfold InR; omega, x1⟩, fun c => absurd (by omega) c⟩, x2⟩
  | succ n ih =>
    intro b hb hab M hM
    have en : nd2 Q (fun Q => endV Q c s pl day 5 = 1 ∧ endV Q c s pl day 8 = p) a (n + 1) b = if (b / 12 < nPp Q ∧ b % 12 < nPp Q ∧ ¬ b / 12 = b % 12 ∧ ¬ tb (Q 50 (b / 12)) ((b % 12 : Nat) : Int) = true) ∧ (endV (tQ (tQ Q a) b) c s pl day 5 = 1 ∧ endV (tQ (tQ Q a) b) c s pl day 8 = p) then some b else nd2 Q (fun Q => endV Q c s pl day 5 = 1 ∧ endV Q c s pl day 8 = p) a n (b + 1) := rfl
    have ea := hM.2.2.1 a ha
    have eb := hM.2.2.1 b (by omega)
    obtain ⟨pa, hpa⟩ := awV_b (Q := Q) (c := c) (s := s) (pl := pl) (day := day) (a := a)
    obtain ⟨pb, hpb⟩ := awV_b (Q := Q) (c := c) (s := s) (pl := pl) (day := day) (a := b)
    have na : 0 ≤ awV Q c s pl day a := by rw [hpa]; exact bI_nn
    have nb : 0 ≤ awV Q c s pl day b := by rw [hpb]; exact bI_nn
    have ed : ((b : Int) / 12) = ((b / 12 : Nat) : Int) := by omega
    have ed' : ((a : Int) / 12) = ((a / 12 : Nat) : Int) := by omega
    by_cases cm : tb (awV Q c s pl day a) ((b / 12 : Nat) : Int) = true ∧ tb (awV Q c s pl day b) ((a / 12 : Nat) : Int) = true
    · have sa : (a / 12 < nPp Q ∧ a % 12 < nPp Q ∧ ¬ a / 12 = a % 12 ∧ ¬ tb (Q 50 (a / 12)) ((a % 12 : Nat) : Int) = true) := by
        by_cases sa : (a / 12 < nPp Q ∧ a % 12 < nPp Q ∧ ¬ a / 12 = a % 12 ∧ ¬ tb (Q 50 (a / 12)) ((a % 12 : Nat) : Int) = true)
        · exact sa
        · exfalso; have := cm.1; unfold awV at this; rw [if_neg sa, tb_zero] at this; cases this
      have sb : (b / 12 < nPp Q ∧ b % 12 < nPp Q ∧ ¬ b / 12 = b % 12 ∧ ¬ tb (Q 50 (b / 12)) ((b % 12 : Nat) : Int) = true) := by
        by_cases sb : (b / 12 < nPp Q ∧ b % 12 < nPp Q ∧ ¬ b / 12 = b % 12 ∧ ¬ tb (Q 50 (b / 12)) ((b % 12 : Nat) : Int) = true)
        · exact sb
        · exfalso; have := cm.2; unfold awV at this; rw [if_neg sb, tb_zero] at this; cases this
      obtain ⟨M2, t2, R2, f2, L2, _⟩ := KX0_endsRight (l := l) (G := G) (d := d) (s := s) (p := p) (c := c) (pl := pl) (day := day) (x := (a : Int)) (y := (b : Int)) hM.1 hw hM.2.1 h1 h2 h3 h4 (.inr ⟨by omega, by omega, by rw [Int.toNat_natCast]; exact sa.1, by rw [Int.toNat_natCast]; exact sa.2.1⟩) (.inr ⟨by omega, by omega, by rw [Int.toNat_natCast]; exact sb.1, by rw [Int.toNat_natCast]; exact sb.2.1⟩)
      rw [qT_n, qT_n] at t2
      have fB : frB M0 M2 := hM.2.2.2.2.tr (f2.b fun _ _ _ => scL.c)
      by_cases cr : endV (tQ (tQ Q a) b) c s pl day 5 = 1 ∧ endV (tQ (tQ Q a) b) c s pl day 8 = p
      · rw [if_pos cr] at t2
        rw [if_pos sa, en, if_pos ⟨sb, cr⟩]
        refine ⟨(upI (upI M2.1 9 0 10 (a : Int)) 9 0 11 (b : Int), M2.2.1, M2.2.2), xX0_findNeeds_95 hM.1.1.1 ?_, ⟨?_, ?_, ?_, ?_⟩⟩
        · rw [Int.toNat_natCast, Int.toNat_natCast, ea, eb, ed, ed', if_pos cm.1, if_pos cm.2]
          exact ⟨fun c => by omega, fun _ => ⟨⟨by omega, by omega, by omega⟩, fun _ => ⟨by omega, by omega, by omega⟩, fun c => by omega, fun _ => ⟨_, _, t2, fun c => by omega, fun _ => ⟨rfl, rfl⟩⟩⟩⟩
        · exact (R2.scr (f := 9) (k := 0) (i := 10) (v := (a : Int)) (by unfold relF; omega) (by unfold scC; omega)).scr (by unfold relF; omega) (by unfold scC; omega)
        · exact (fB.tr (frB.up (f := 9) (k := 0) (i := 10) (v := (a : Int)) (by unfold scC; omega))).tr (frB.up (by unfold scC; omega))
        · dsimp only
          rw [upI_i (by omega), upI_s]; rfl
        · dsimp only
          rw [upI_s]; rfl
      · rw [if_neg cr] at t2
        rw [if_pos sa, en, if_neg (fun x => cr x.2)]
        have i2 : FnI Q c s p pl day 144 M0 M2 := ⟨R2, L2, fun i hi => by rw [f2.1 _ _ _ (by unfold scL scK scA; omega)]; exact hM.2.2.1 i hi, ⟨by rw [f2.1 _ _ _ (by unfold scL scK scA; omega)]; exact hM.2.2.2.1.1, by rw [f2.1 _ _ _ (by unfold scL scK scA; omega)]; exact hM.2.2.2.1.2⟩, fB⟩
        obtain ⟨M', x1, x2⟩ := ih (b + 1) (by omega) (by omega) M2 i2
        rw [if_pos sa] at x1 x2
        refine ⟨M', xX0_findNeeds_95 hM.1.1.1 ?_, x2⟩
        rw [Int.toNat_natCast, Int.toNat_natCast, ea, eb, ed, ed', if_pos cm.1, if_pos cm.2]
        exact ⟨fun c => by omega, fun _ => ⟨⟨by omega, by omega, by omega⟩, fun _ => ⟨by omega, by omega, by omega⟩, fun c => by omega, fun _ => ⟨_, _, t2, fun _ => ⟨by unfold InR; omega, x1⟩, fun c => absurd rfl c⟩⟩⟩
    · have e2 : (if (a / 12 < nPp Q ∧ a % 12 < nPp Q ∧ ¬ a / 12 = a % 12 ∧ ¬ tb (Q 50 (a / 12)) ((a % 12 : Nat) : Int) = true) then nd2 Q (fun Q => endV Q c s pl day 5 = 1 ∧ endV Q c s pl day 8 = p) a (n + 1) b else none) = (if (a / 12 < nPp Q ∧ a % 12 < nPp Q ∧ ¬ a / 12 = a % 12 ∧ ¬ tb (Q 50 (a / 12)) ((a % 12 : Nat) : Int) = true) then nd2 Q (fun Q => endV Q c s pl day 5 = 1 ∧ endV Q c s pl day 8 = p) a n (b + 1) else none) := by
        by_cases sa : (a / 12 < nPp Q ∧ a % 12 < nPp Q ∧ ¬ a / 12 = a % 12 ∧ ¬ tb (Q 50 (a / 12)) ((a % 12 : Nat) : Int) = true)
        · rw [if_pos sa, if_pos sa, en]
          by_cases sb : (b / 12 < nPp Q ∧ b % 12 < nPp Q ∧ ¬ b / 12 = b % 12 ∧ ¬ tb (Q 50 (b / 12)) ((b % 12 : Nat) : Int) = true)
          · refine if_neg fun x => noM hN ha (by omega) sa sb ?_ x.2
            unfold awV at cm
            rw [if_pos sa, if_pos sb] at cm
            exact cm
          · exact if_neg fun x => sb x.1
        · rw [if_neg sa, if_neg sa]
      rw [e2]
      obtain ⟨M', x1, x2⟩ := ih (b + 1) (by omega) (by omega) M hM
      refine ⟨M', xX0_findNeeds_95 hM.1.1.1 ?_, x2⟩
      rw [Int.toNat_natCast, Int.toNat_natCast, ea, eb, ed, ed']
      have ez : (if tb (awV Q c s pl day a) ((b / 12 : Nat) : Int) = true then (if tb (awV Q c s pl day b) ((a / 12 : Nat) : Int) = true then 1 else 0 : Int) else 0 : Int) = 0 := by
        by_cases q1 : tb (awV Q c s pl day a) ((b / 12 : Nat) : Int) = true
        · rw [if_pos q1, if_neg (fun q2 => cm ⟨q1, q2⟩)]
        · rw [if_neg q1]
      rw [ez]
      exact ⟨fun c => by omega, fun _ => ⟨⟨by omega, by omega, by omega⟩, fun _ => ⟨by omega, by omega, by omega⟩, fun _ => ⟨by unfold InR; omega, x1⟩, fun c => absurd rfl c⟩⟩
theorem ndB_s {P : QT → Prop} [DecidablePred P] {n a : Nat} : ndB (nd3 Q P (n + 1) a) = ndC a (if (a / 12 < nPp Q ∧ a % 12 < nPp Q ∧ ¬ a / 12 = a % 12 ∧ ¬ tb (Q 50 (a / 12)) ((a % 12 : Nat) : Int) = true) then nd2 Q P a (143 - a) (a + 1) else none) (ndB (nd3 Q P n (a + 1))) := by
  have en : nd3 Q P (n + 1) a = match (if (a / 12 < nPp Q ∧ a % 12 < nPp Q ∧ ¬ a / 12 = a % 12 ∧ ¬ tb (Q 50 (a / 12)) ((a % 12 : Nat) : Int) = true) then nd2 Q P a (143 - a) (a + 1) else none) with
      | some b => some (a, b)
      | none => nd3 Q P n (a + 1) := rfl
  rw [en]
  cases (if (a / 12 < nPp Q ∧ a % 12 < nPp Q ∧ ¬ a / 12 = a % 12 ∧ ¬ tb (Q 50 (a / 12)) ((a % 12 : Nat) : Int) = true) then nd2 Q P a (143 - a) (a + 1) else none) with
  | none => rfl
  | some b => rfl
theorem fn_85 {s c p pl day : Int} (hw : WFA Q) (h1 : 0 ≤ s ∧ s < nPp Q) (h2 : 0 ≤ c ∧ c < nCv Q) (h3 : 0 ≤ pl ∧ pl < 8) (h4 : 0 ≤ day ∧ day ≤ 999)
    (hN : ∀ i, i < 144 → (i / 12 < nPp Q ∧ i % 12 < nPp Q ∧ ¬ i / 12 = i % 12 ∧ ¬ tb (Q 50 (i / 12)) ((i % 12 : Nat) : Int) = true) → ¬ (endV (tQ Q i) c s pl day 5 = 1 ∧ endV (tQ Q i) c s pl day 8 = p)) :
    ∀ n a : Nat, n + a = 144 → ∀ M, FnI Q c s p pl day 144 M0 M → ∃ M', Ex l G (d + 7) mX0_findNeeds 85 [some (vR (some (9, 0))), some (vR (some (5, 8))), some (vI 144), some (vI (a : Int)), none, none] [] M (some (vI (ndB (nd3 Q (fun Q => endV Q c s pl day 5 = 1 ∧ endV Q c s pl day 8 = p) n a)).1)) M' ∧ FnP Q M0 M' (ndB (nd3 Q (fun Q => endV Q c s pl day 5 = 1 ∧ endV Q c s pl day 8 = p) n a)) := by
  intro n
  induction n with
  | zero =>
    intro a ha M hM
    exact ⟨M, xX0_findNeeds_85 ⟨fun _ => ⟨rfl, rfl⟩, fun c => absurd (by omega) c⟩, hM.1, hM.2.2.2.2, hM.2.2.2.1.1, hM.2.2.2.1.2⟩
  | succ n ih =>
    intro a ha M hM
    rw [ndB_s]
    obtain ⟨M', x1, x2⟩ := fn_95 (l := l) (G := G) (d := d) (M0 := M0) (s := s) (c := c) (p := p) (pl := pl) (day := day) (a := a) (y := ndB (nd3 Q (fun Q => endV Q c s pl day 5 = 1 ∧ endV Q c s pl day 8 = p) n (a + 1))) hw h1 h2 h3 h4 (by omega) hN (fun M hM => ih (a + 1) (by omega) M hM) (143 - a) (a + 1) (by omega) (by omega) M hM
    exact ⟨M', xX0_findNeeds_85 ⟨fun c => by omega, fun _ => ⟨by unfold InR; omega, x1⟩⟩, x2⟩
theorem fn_30 {s c p pl day : Int} {y : Int × Int × Int} (hw : WFA Q) (h1 : 0 ≤ s ∧ s < nPp Q) (h2 : 0 ≤ c ∧ c < nCv Q) (h3 : 0 ≤ pl ∧ pl < 8) (h4 : 0 ≤ day ∧ day ≤ 999)
    (K : (∀ i, i < 144 → (i / 12 < nPp Q ∧ i % 12 < nPp Q ∧ ¬ i / 12 = i % 12 ∧ ¬ tb (Q 50 (i / 12)) ((i % 12 : Nat) : Int) = true) → ¬ (endV (tQ Q i) c s pl day 5 = 1 ∧ endV (tQ Q i) c s pl day 8 = p)) → ∀ M, FnI Q c s p pl day 144 M0 M → ∃ M', Ex l G (d + 7) mX0_findNeeds 85 [some (vR (some (9, 0))), some (vR (some (5, 8))), some (vI 144), some (vI 0), none, none] [] M (some (vI y.1)) M' ∧ FnP Q M0 M' y) :
    ∀ n a : Nat, n + a = 144 → (∀ i, i < a → (i / 12 < nPp Q ∧ i % 12 < nPp Q ∧ ¬ i / 12 = i % 12 ∧ ¬ tb (Q 50 (i / 12)) ((i % 12 : Nat) : Int) = true) → ¬ (endV (tQ Q i) c s pl day 5 = 1 ∧ endV (tQ Q i) c s pl day 8 = p)) → ∀ M, FnI Q c s p pl day a M0 M → ∃ M', Ex l G (d + 7) mX0_findNeeds 30 [some (vR (some (9, 0))), some (vR (some (5, 8))), some (vI 144), some (vI (a : Int)), none, none] [] M (some (vI (ndA (nd1 Q (fun Q => endV Q c s pl day 5 = 1 ∧ endV Q c s pl day 8 = p) n a) y).1)) M' ∧ FnP Q M0 M' (ndA (nd1 Q (fun Q => endV Q c s pl day 5 = 1 ∧ endV Q c s pl day 8 = p) n a) y) := by
  have h12 := nPp_le hw.1.1
  intro n
  induction n with
  | zero =>
    intro a ha hN M hM
    have ea : a = 144 := by omega
    subst ea
    have e0 : nd1 Q (fun Q => endV Q c s pl day 5 = 1 ∧ endV Q c s pl day 8 = p) 0 144 = none := rfl
    rw [e0, ndA_n]
    obtain ⟨M', x1, x2⟩ := K hN M hM
    exact ⟨M', xX0_findNeeds_30 hM.1.1.1 ⟨fun _ => x1, fun c => absurd (by omega) c⟩, x2⟩
  | succ n ih =>
    intro a ha hN M hM
    have en : nd1 Q (fun Q => endV Q c s pl day 5 = 1 ∧ endV Q c s pl day 8 = p) (n + 1) a = if (a / 12 < nPp Q ∧ a % 12 < nPp Q ∧ ¬ a / 12 = a % 12 ∧ ¬ tb (Q 50 (a / 12)) ((a % 12 : Nat) : Int) = true) ∧ (endV (tQ Q a) c s pl day 5 = 1 ∧ endV (tQ Q a) c s pl day 8 = p) then some a else nd1 Q (fun Q => endV Q c s pl day 5 = 1 ∧ endV Q c s pl day 8 = p) n (a + 1) := rfl
    have R1 : RelB Q (upI M.1 20 0 a 0, M.2.1, M.2.2) := hM.1.scr (by unfold relF; omega) (by unfold scC; omega)
    have f1 : frB M0 (upI M.1 20 0 a 0, M.2.1, M.2.2) := hM.2.2.2.2.tr (frB.up (by unfold scC; omega))
    have sa' := KX0_isNotKnown (l := l) (G := G) (d := d + 5) (a := a) R1 hw (by omega)
    have L1 : LB (upI M.1 20 0 a 0, M.2.1, M.2.2) c.toNat s p pl day := by
      obtain ⟨l0, l1, l2, l3, l4⟩ := hM.2.1
      exact ⟨l0, by dsimp only; rw [upI_o (by omega)]; exact l1, by dsimp only; rw [upI_o (by omega)]; exact l2, by dsimp only; rw [upI_o (by omega)]; exact l3, by dsimp only; rw [upI_o (by omega)]; exact l4⟩
    by_cases sa : (a / 12 < nPp Q ∧ a % 12 < nPp Q ∧ ¬ a / 12 = a % 12 ∧ ¬ tb (Q 50 (a / 12)) ((a % 12 : Nat) : Int) = true)
    · rw [if_pos sa] at sa'
      obtain ⟨M2, t2, R2, f2, L2, w2⟩ := KX0_endsRight (l := l) (G := G) (d := d) (s := s) (p := p) (c := c) (pl := pl) (day := day) (x := (a : Int)) (y := -1) R1 hw L1 h1 h2 h3 h4 (.inr ⟨by omega, by omega, by rw [Int.toNat_natCast]; exact sa.1, by rw [Int.toNat_natCast]; exact sa.2.1⟩) (.inl rfl)
      rw [qT_n, qT_1] at t2 w2
      have fB : frB M0 M2 := f1.tr (f2.b fun _ _ _ => scL.c)
      have g10 : M2.1 9 0 10 = -2 := by rw [f2.1 _ _ _ (by unfold scL scK scA; omega)]; dsimp only; rw [upI_o (by omega)]; exact hM.2.2.2.1.1
      have g11 : M2.1 9 0 11 = -2 := by rw [f2.1 _ _ _ (by unfold scL scK scA; omega)]; dsimp only; rw [upI_o (by omega)]; exact hM.2.2.2.1.2
      by_cases cr : endV (tQ Q a) c s pl day 5 = 1 ∧ endV (tQ Q a) c s pl day 8 = p
      · rw [if_pos cr] at t2
        rw [en, if_pos ⟨sa, cr⟩]
        refine ⟨(upI M2.1 9 0 10 (a : Int), M2.2.1, M2.2.2), xX0_findNeeds_30 hM.1.1.1 ?_, ⟨?_, ?_, ?_, ?_⟩⟩
        · rw [Int.toNat_natCast]
          exact ⟨fun c => by omega, fun _ => ⟨by omega, _, _, sa', fun c => by omega, fun _ => ⟨_, _, t2, R2.1.1, fun c => by omega, fun _ => ⟨rfl, rfl⟩⟩⟩⟩
        · exact R2.scr (by unfold relF; omega) (by unfold scC; omega)
        · exact fB.tr (frB.up (by unfold scC; omega))
        · dsimp only
          rw [upI_s]; rfl
        · dsimp only
          rw [upI_i (by omega), g11]; rfl
      · rw [if_neg cr] at t2
        rw [en, if_neg (fun x => cr x.2)]
        have i3 : FnI Q c s p pl day (a + 1) M0 (upI M2.1 20 0 a (M2.1 5 8 11), M2.2.1, M2.2.2) := by
          refine ⟨R2.scr (by unfold relF; omega) (by unfold scC; omega), ?_, fun i hi => ?_, ⟨?_, ?_⟩, fB.tr (frB.up (by unfold scC; omega))⟩
          · obtain ⟨l0, l1, l2, l3, l4⟩ := L2
            exact ⟨l0, by dsimp only; rw [upI_o (by omega)]; exact l1, by dsimp only; rw [upI_o (by omega)]; exact l2, by dsimp only; rw [upI_o (by omega)]; exact l3, by dsimp only; rw [upI_o (by omega)]; exact l4⟩
          · dsimp only
            by_cases e : i = a
            · subst e
              rw [upI_s, w2]
              unfold awV
              rw [if_pos sa]
            · rw [upI_i e, f2.1 _ _ _ (by unfold scL scK scA; omega)]
              dsimp only
              rw [upI_i e]
              exact hM.2.2.1 i (by omega)
          · dsimp only
            rw [upI_o (by omega)]; exact g10
          · dsimp only
            rw [upI_o (by omega)]; exact g11
        obtain ⟨M', x1, x2⟩ := ih (a + 1) (by omega) (fun i hi si => by
          by_cases e : i = a
          · rw [e]; exact cr
          · exact hN i (by omega) si) _ i3
        refine ⟨M', xX0_findNeeds_30 hM.1.1.1 ?_, x2⟩
        rw [Int.toNat_natCast]
        exact ⟨fun c => by omega, fun _ => ⟨by omega, _, _, sa', fun c => by omega, fun _ => ⟨_, _, t2, R2.1.1, fun _ => ⟨⟨by omega, by unfold InR; omega⟩, x1⟩, fun c => absurd rfl c⟩⟩⟩
    · rw [if_neg sa] at sa'
      rw [en, if_neg (fun x => sa x.1)]
      have i3 : FnI Q c s p pl day (a + 1) M0 (upI M.1 20 0 a 0, M.2.1, M.2.2) := by
        refine ⟨R1, L1, fun i hi => ?_, ⟨?_, ?_⟩, f1⟩
        · dsimp only
          by_cases e : i = a
          · subst e
            rw [upI_s]
            unfold awV
            rw [if_neg sa]
          · rw [upI_i e]
            exact hM.2.2.1 i (by omega)
        · dsimp only
          rw [upI_o (by omega)]; exact hM.2.2.2.1.1
        · dsimp only
          rw [upI_o (by omega)]; exact hM.2.2.2.1.2
      obtain ⟨M', x1, x2⟩ := ih (a + 1) (by omega) (fun i hi si => by
        by_cases e : i = a
        · rw [e] at si; exact absurd si sa
        · exact hN i (by omega) si) _ i3
      refine ⟨M', xX0_findNeeds_30 hM.1.1.1 ?_, x2⟩
      rw [Int.toNat_natCast]
      exact ⟨fun c => by omega, fun _ => ⟨by omega, _, _, sa', fun _ => ⟨by unfold InR; omega, x1⟩, fun c => absurd rfl c⟩⟩
theorem KX0_findNeeds {s c p pl day : Int} {M : Mem} (hR : RelB Q M) (hw : WFA Q) (hL : LB M c.toNat s p pl day) (h1 : 0 ≤ s ∧ s < nPp Q) (h2 : 0 ≤ c ∧ c < nCv Q) (h3 : 0 ≤ pl ∧ pl < 8) (h4 : 0 ≤ day ∧ day ≤ 999) : ∃ M', Cl l G (d + 7) mX0_findNeeds [vR (some (9, 0)), vR (some (5, 8))] M (some (vI (ndV Q (fun Q => endV Q c s pl day 5 = 1 ∧ endV Q c s pl day 8 = p)).1)) M' ∧ FnP Q M M' (ndV Q (fun Q => endV Q c s pl day 5 = 1 ∧ endV Q c s pl day 8 = p)) := by
  have R1 : RelB Q (upI (upI M.1 9 0 10 (-2)) 9 0 11 (-2), M.2.1, M.2.2) := (hR.scr (f := 9) (k := 0) (i := 10) (v := -2) (by unfold relF; omega) (by unfold scC; omega)).scr (by unfold relF; omega) (by unfold scC; omega)
  have f1 : frB M (upI (upI M.1 9 0 10 (-2)) 9 0 11 (-2), M.2.1, M.2.2) := (frB.up (f := 9) (k := 0) (i := 10) (v := -2) (by unfold scC; omega)).tr (frB.up (by unfold scC; omega))
  have L1 : LB (upI (upI M.1 9 0 10 (-2)) 9 0 11 (-2), M.2.1, M.2.2) c.toNat s p pl day := by
    obtain ⟨l0, l1, l2, l3, l4⟩ := hL
    exact ⟨l0, by dsimp only; rw [upI_o (by omega), upI_o (by omega)]; exact l1, by dsimp only; rw [upI_o (by omega), upI_o (by omega)]; exact l2, by dsimp only; rw [upI_o (by omega), upI_o (by omega)]; exact l3, by dsimp only; rw [upI_o (by omega), upI_o (by omega)]; exact l4⟩
  obtain ⟨M2, t2, R2, f2, L2, _⟩ := KX0_endsRight (l := l) (G := G) (d := d) (s := s) (p := p) (c := c) (pl := pl) (day := day) (x := -1) (y := -1) R1 hw L1 h1 h2 h3 h4 (.inl rfl) (.inl rfl)
  rw [qT_1, qT_1] at t2
  have fB : frB M M2 := f1.tr (f2.b fun _ _ _ => scL.c)
  have g10 : M2.1 9 0 10 = -2 := by rw [f2.1 _ _ _ (by unfold scL scK scA; omega)]; dsimp only; rw [upI_i (by omega), upI_s]
  have g11 : M2.1 9 0 11 = -2 := by rw [f2.1 _ _ _ (by unfold scL scK scA; omega)]; dsimp only; rw [upI_s]
  unfold ndV
  by_cases cr : endV Q c s pl day 5 = 1 ∧ endV Q c s pl day 8 = p
  · rw [if_pos cr] at t2
    rw [if_pos cr]
    exact ⟨M2, xX0_findNeeds_0 ⟨_, _, t2, fun c => by omega, fun _ => ⟨rfl, rfl⟩⟩, R2, fB, g10, g11⟩
  · rw [if_neg cr] at t2
    rw [if_neg cr]
    obtain ⟨M', x1, x2⟩ := fn_30 (l := l) (G := G) (d := d) (M0 := M) (s := s) (c := c) (p := p) (pl := pl) (day := day) (y := ndB (nd3 Q (fun Q => endV Q c s pl day 5 = 1 ∧ endV Q c s pl day 8 = p) 144 0)) hw h1 h2 h3 h4 (fun hN M' hM => fn_85 (l := l) (G := G) (d := d) (M0 := M) hw h1 h2 h3 h4 hN 144 0 rfl M' hM) 144 0 rfl (fun i hi => by omega) M2 ⟨R2, L2, fun i hi => by omega, ⟨g10, g11⟩, fB⟩
    exact ⟨M', xX0_findNeeds_0 ⟨_, _, t2, fun _ => x1, fun c => absurd rfl c⟩, x2⟩
theorem KX11_needs {s c p pl day what : Int} {M : Mem} (hR : RelB Q M) (hw : WFA Q) : ∃ M', Cl l G (d + 8) mX11_needs [vR (some (2, 0)), vI s, vI c, vI p, vI pl, vI day, vI what] M (some (vI (needsV Q s c p pl day what))) M' ∧ RelB Q M' ∧ frB M M' := by
  have hq := hw.q
  have h12 := nPp_le hq.1
  have e1 := cppl_eq hq.1 hR.1
  have hco := KX11_coverOf (l := l) (G := G) (d := d + 7) (c := c) hR.1 hq.2.2.2.2
  unfold needsV
  by_cases g : (0 ≤ s ∧ s < nPp Q) ∧ (0 ≤ c ∧ c < nCv Q) ∧ (0 ≤ p ∧ p < nPp Q) ∧ ¬ s = p ∧ (0 ≤ pl ∧ pl < 8) ∧ (0 ≤ day ∧ day ≤ 999) ∧ (0 ≤ what ∧ what ≤ 2)
  · rw [if_pos g]
    obtain ⟨g1, g2, g3, g4, g5, g6, g7⟩ := g
    rw [if_pos g2] at hco
    have b := KX5_begin (l := l) (G := G) (d := d + 6) (M := M) (k0 := 8) (cv := c.toNat) (s := s) (p := p) (pl := pl) (day := day) g5
    have R1 : RelB Q (seI M.1 5 8 (begL (M.1 5 8) s p pl day), upR M.2.1 5 8 0 (some (13, c.toNat)), M.2.2) := hR.beg
    have L1 : LB (seI M.1 5 8 (begL (M.1 5 8) s p pl day), upR M.2.1 5 8 0 (some (13, c.toNat)), M.2.2) c.toNat s p pl day := ⟨by dsimp only; rw [upR_s], by dsimp only; rw [seI_s]; rfl, by dsimp only; rw [seI_s]; rfl, by dsimp only; rw [seI_s]; rfl, by dsimp only; rw [seI_s]; rfl⟩
    obtain ⟨M', k1, k2, k3, k4, k5⟩ := KX0_findNeeds (l := l) (G := G) (d := d) (s := s) (c := c) (p := p) (pl := pl) (day := day) R1 hw L1 g1 g2 g5 g6
    refine ⟨M', xX11_needs_0 ⟨_, M, hco, hR.1.1, fun a => absurd a (by simp), fun _ => ?_⟩, k2, frB.beg.tr k3⟩
    rw [e1]
    refine ⟨fun a => absurd ⟨g1, g3, g4⟩ a, fun _ => ⟨fun a => absurd g5 a, fun _ => ⟨fun _ => ⟨fun a => by omega, fun _ => ⟨fun _ => ⟨c.toNat, rfl, _, b, R1.1.1, _, M', k1, k2.1.1, fun w => ⟨?_, rfl⟩, fun w => ⟨?_, rfl⟩⟩, fun a => by omega⟩⟩, fun a => absurd g6 a⟩⟩⟩
    · rw [if_neg w, k4, k5]
    · rw [if_pos w]
  · rw [if_neg g]
    refine ⟨M, xX11_needs_0 ⟨_, M, hco, hR.1.1, fun _ => ⟨rfl, rfl⟩, fun a => ?_⟩, hR, frB.rf⟩
    rw [e1]
    have g2 : 0 ≤ c ∧ c < nCv Q := by
      by_cases g2 : 0 ≤ c ∧ c < nCv Q
      · exact g2
      · rw [if_neg g2] at a; exact absurd rfl a
    exact ⟨fun _ => ⟨rfl, rfl⟩, fun g1 => ⟨fun _ => ⟨rfl, rfl⟩, fun g3 => ⟨fun g4 => ⟨fun _ => ⟨rfl, rfl⟩, fun g5 => ⟨fun g6 => absurd ⟨g1.1, g2, g1.2.1, g1.2.2, g3, g4, by omega⟩ g, fun _ => ⟨rfl, rfl⟩⟩⟩, fun _ => ⟨rfl, rfl⟩⟩⟩⟩
end NC2
