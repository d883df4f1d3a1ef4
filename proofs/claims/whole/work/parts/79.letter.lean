/-! letters, letter, count, end -/
set_option maxRecDepth 4000 in
theorem xX12_letters_0 {l : Launch} {G : Gt} {d : Nat} {M M' : Mem} {r : Option Vl} {x1 : Int} {x2 : Int} (hS : Sh M.2.1) (h : 
    (InR ((M.1 48 0 3) - 1)) ∧ ((0 ≤ x1 ∧ x1 ≤ ((M.1 48 0 3) - 1) → (x2 < 0 ∨ 5 < x2 → r = some (vI (-2)) ∧ M' = M) ∧ (x2 = 0 → ((0 ≤ x1 ∧ x1 < 8)) ∧ r = some (vI (M.1 66 0 x1.toNat)) ∧ M' = M) ∧ (x2 = 1 → ((0 ≤ x1 ∧ x1 < 8)) ∧ r = some (vI (M.1 67 0 x1.toNat)) ∧ M' = M) ∧ (x2 = 2 → ((0 ≤ x1 ∧ x1 < 8)) ∧ r = some (vI (M.1 68 0 x1.toNat)) ∧ M' = M) ∧ (x2 = 3 → ((0 ≤ x1 ∧ x1 < 8)) ∧ r = some (vI (M.1 69 0 x1.toNat)) ∧ M' = M) ∧ (x2 = 4 → ((0 ≤ x1 ∧ x1 < 8)) ∧ r = some (vI (if (M.1 66 0 x1.toNat) = 1 ∧ (M.1 69 0 x1.toNat) = (M.1 64 0 x1.toNat) then 1 else 0 : Int)) ∧ M' = M) ∧ (x2 = 5 → ((0 ≤ x1 ∧ x1 < 8)) ∧ r = some (vI (M.1 70 0 x1.toNat)) ∧ M' = M)) ∧ (¬ (0 ≤ x1 ∧ x1 ≤ ((M.1 48 0 3) - 1)) → r = some (vI (-2)) ∧ M' = M))) : Cl l G (d + 1) mX12_letters [vR (some (3, 0)), vI x1, vI x2] M r M' := by
  show Ex l G (d + 1) mX12_letters 0 [some (vR (some (3, 0))), some (vI x1), some (vI x2)] [] M r M'
  obtain ⟨o_1, h⟩ := h
  refine r_iload_n 1 dX12_letters_0 rfl rfl ?_
  refine r_i2l 2 dX12_letters_1 rfl ?_
  refine r_lconst (x := 0) 3 dX12_letters_2 rfl (by decide +kernel) (InR_of rfl) ?_
  refine r_aload_n 4 dX12_letters_3 rfl rfl ?_
  refine g_R 7 dX12_letters_4 rfl rfl rfl fr_12_7 (sh_12_1 hS) ?_
  refine r_iconst 8 dX12_letters_7 rfl (InR_of rfl) ?_
  refine a_I 6 9 dX12_letters_8 rfl rfl rfl rfl ⟨by decide, by decide⟩ rfl ?_
  refine r_iconst 10 dX12_letters_9 rfl (InR_of rfl) ?_
  refine r_isub 11 dX12_letters_10 rfl o_1 ?_
  refine r_i2l 12 dX12_letters_11 rfl ?_
  refine c_1 [vL x1, vL 0, vL ((M.1 48 0 3) - 1)] [] 15 dX12_letters_12 rfl rfl mo_X12_in ml_12_154 rfl rfl (KX12_in) ?_
  refine r_if_ne 18 21 dX12_letters_15 rfl rfl (fun c => ?_) (fun c => ?_)
  · have h := h.1 (b2_1.mp c)
    refine r_iload_n 22 dX12_letters_21 rfl rfl ?_
    by_cases hsw : x2 < 0 ∨ 5 < x2
    · have h := h.1 hsw
      refine r_tswOut 109 dX12_letters_22 hsw rfl ?_
      refine r_bipush 111 dX12_letters_109 rfl rfl ?_
      exact r_iret dX12_letters_111 rfl (.inl rfl) h.1 h.2
    · have hsw2 : x2 = 0 ∨ x2 = 1 ∨ x2 = 2 ∨ x2 = 3 ∨ x2 = 4 ∨ x2 = 5 := by omega
      rcases hsw2 with c | c | c | c | c | c
      · have h := h.2.1 c
        refine r_tswIn 60 dX12_letters_22 0 c rfl rfl rfl ?_
        obtain ⟨o_2, h⟩ := h
        refine r_aload_n 61 dX12_letters_60 rfl rfl ?_
        refine g_R 64 dX12_letters_61 rfl rfl rfl fr_12_64 (sh_12_19 hS) ?_
        refine r_iload_n 65 dX12_letters_64 rfl rfl ?_
        refine a_I 8 66 dX12_letters_65 rfl rfl rfl rfl o_2 rfl ?_
        exact r_iret dX12_letters_66 rfl (.inl rfl) h.1 h.2
      · have h := h.2.2.1 c
        refine r_tswIn 67 dX12_letters_22 1 c rfl rfl rfl ?_
        obtain ⟨o_3, h⟩ := h
        refine r_aload_n 68 dX12_letters_67 rfl rfl ?_
        refine g_R 71 dX12_letters_68 rfl rfl rfl fr_12_67 (sh_12_20 hS) ?_
        refine r_iload_n 72 dX12_letters_71 rfl rfl ?_
        refine a_I 8 73 dX12_letters_72 rfl rfl rfl rfl o_3 rfl ?_
        exact r_iret dX12_letters_73 rfl (.inl rfl) h.1 h.2
      · have h := h.2.2.2.1 c
        refine r_tswIn 74 dX12_letters_22 2 c rfl rfl rfl ?_
        obtain ⟨o_4, h⟩ := h
        refine r_aload_n 75 dX12_letters_74 rfl rfl ?_
        refine g_R 78 dX12_letters_75 rfl rfl rfl fr_12_70 (sh_12_21 hS) ?_
        refine r_iload_n 79 dX12_letters_78 rfl rfl ?_
        refine a_I 8 80 dX12_letters_79 rfl rfl rfl rfl o_4 rfl ?_
        exact r_iret dX12_letters_80 rfl (.inl rfl) h.1 h.2
      · have h := h.2.2.2.2.1 c
        refine r_tswIn 81 dX12_letters_22 3 c rfl rfl rfl ?_
        obtain ⟨o_5, h⟩ := h
        refine r_aload_n 82 dX12_letters_81 rfl rfl ?_
        refine g_R 85 dX12_letters_82 rfl rfl rfl fr_12_73 (sh_12_22 hS) ?_
        refine r_iload_n 86 dX12_letters_85 rfl rfl ?_
        refine a_I 8 87 dX12_letters_86 rfl rfl rfl rfl o_5 rfl ?_
        exact r_iret dX12_letters_87 rfl (.inl rfl) h.1 h.2
      · have h := h.2.2.2.2.2.1 c
        refine r_tswIn 88 dX12_letters_22 4 c rfl rfl rfl ?_
        obtain ⟨o_6, h⟩ := h
        refine r_aload_n 89 dX12_letters_88 rfl rfl ?_
        refine r_iload_n 90 dX12_letters_89 rfl rfl ?_
        refine v_1 (ci := 12) (C := (RX12, TX12, 68)) [vI x1] [] 93 dX12_letters_90 rfl rfl rfl rfl rfl mo_X12_isRight ml_12_366 rfl rfl (KX12_isRight hS o_6) ?_
        have hJ_7 : Ex l G (d + 1) mX12_letters 101 [some (vR (some (3, 0))), some (vI x1), some (vI x2)] [vI (if (M.1 66 0 x1.toNat) = 1 ∧ (M.1 69 0 x1.toNat) = (M.1 64 0 x1.toNat) then 1 else 0 : Int)] M r M' := by
          exact r_iret dX12_letters_101 rfl (.inl rfl) h.1 h.2
        refine r_if_eq 96 100 dX12_letters_93 rfl rfl (fun c => ?_) (fun c => ?_)
        · have c_8 := b2_0.mp c
          refine r_iconst 101 dX12_letters_100 rfl (InR_of rfl) ?_
          exact (Ex.at hJ_7 rfl (show [vI 0] = [vI (if (M.1 66 0 x1.toNat) = 1 ∧ (M.1 69 0 x1.toNat) = (M.1 64 0 x1.toNat) then 1 else 0 : Int)] by simp only [if_neg c_8]) rfl)
        · have c_8 := b2_1.mp c
          refine r_iconst 97 dX12_letters_96 rfl (InR_of rfl) ?_
          refine r_goto 101 dX12_letters_97 rfl ?_
          exact (Ex.at hJ_7 rfl (show [vI 1] = [vI (if (M.1 66 0 x1.toNat) = 1 ∧ (M.1 69 0 x1.toNat) = (M.1 64 0 x1.toNat) then 1 else 0 : Int)] by simp only [if_pos c_8]) rfl)
      · have h := h.2.2.2.2.2.2 c
        refine r_tswIn 102 dX12_letters_22 5 c rfl rfl rfl ?_
        obtain ⟨o_9, h⟩ := h
        refine r_aload_n 103 dX12_letters_102 rfl rfl ?_
        refine g_R 106 dX12_letters_103 rfl rfl rfl fr_12_76 (sh_12_23 hS) ?_
        refine r_iload_n 107 dX12_letters_106 rfl rfl ?_
        refine a_I 8 108 dX12_letters_107 rfl rfl rfl rfl o_9 rfl ?_
        exact r_iret dX12_letters_108 rfl (.inl rfl) h.1 h.2
  · have h := h.2 (b2_0.mp (Decidable.not_not.mp c))
    refine r_bipush 20 dX12_letters_18 rfl rfl ?_
    exact r_iret dX12_letters_20 rfl (.inl rfl) h.1 h.2

set_option maxRecDepth 4000 in
theorem xX11_letters_0 {l : Launch} {G : Gt} {d : Nat} {M M' : Mem} {r : Option Vl} {x1 : Int} {x2 : Int} (hS : Sh M.2.1) (h : 
    (x1 < 0 → r = some (vI (-2)) ∧ M' = M) ∧ (¬ (x1 < 0) → (x1 < (M.1 4 0 8) → ((0 ≤ x1 ∧ x1 < 8)) ∧ ((x2 < 0 ∨ 5 < x2 → r = some (vI (-2)) ∧ M' = M) ∧ (x2 = 0 → ∃ k_2 : Nat, (M.2.1 38 0 x1.toNat) = some (5, k_2) ∧ r = some (vI (M.1 5 k_2 5)) ∧ M' = M) ∧ (x2 = 1 → ∃ k_4 : Nat, (M.2.1 38 0 x1.toNat) = some (5, k_4) ∧ r = some (vI (M.1 5 k_4 6)) ∧ M' = M) ∧ (x2 = 2 → ∃ k_6 : Nat, (M.2.1 38 0 x1.toNat) = some (5, k_6) ∧ r = some (vI (M.1 5 k_6 7)) ∧ M' = M) ∧ (x2 = 3 → ∃ k_8 : Nat, (M.2.1 38 0 x1.toNat) = some (5, k_8) ∧ r = some (vI (M.1 5 k_8 8)) ∧ M' = M) ∧ (x2 = 4 → ∃ k_10 : Nat, (M.2.1 38 0 x1.toNat) = some (5, k_10) ∧ r = some (vI (if (M.1 5 k_10 5) = 1 ∧ (M.1 5 k_10 8) = (M.1 5 k_10 2) then 1 else 0 : Int)) ∧ M' = M) ∧ (x2 = 5 → ∃ k_14 : Nat, (M.2.1 38 0 x1.toNat) = some (5, k_14) ∧ r = some (vI (M.1 5 k_14 9)) ∧ M' = M))) ∧ (¬ (x1 < (M.1 4 0 8)) → r = some (vI (-2)) ∧ M' = M))) : Cl l G (d + 1) mX11_letters [vR (some (2, 0)), vI x1, vI x2] M r M' := by
  show Ex l G (d + 1) mX11_letters 0 [some (vR (some (2, 0))), some (vI x1), some (vI x2), none] [] M r M'
  refine r_iload_n 1 dX11_letters_0 rfl rfl ?_
  refine r_if_lt 4 15 dX11_letters_1 rfl rfl (fun c => ?_) (fun c => ?_)
  · have h := h.1 (c)
    refine r_bipush 17 dX11_letters_15 rfl rfl ?_
    exact r_iret dX11_letters_17 rfl (.inl rfl) h.1 h.2
  · have h := h.2 (c)
    refine r_iload_n 5 dX11_letters_4 rfl rfl ?_
    refine r_aload_n 6 dX11_letters_5 rfl rfl ?_
    refine g_R 9 dX11_letters_6 rfl rfl rfl fr_11_12 (sh_11_0 hS) ?_
    refine g_I 12 dX11_letters_9 rfl rfl rfl fi_11_224 rfl ?_
    refine r_icmp_lt 15 18 dX11_letters_12 rfl rfl (fun c => ?_) (fun c => ?_)
    · have h := h.1 (c)
      obtain ⟨o_1, h⟩ := h
      refine r_aload_n 19 dX11_letters_18 rfl rfl ?_
      refine g_R 22 dX11_letters_19 rfl rfl rfl fr_11_12 (sh_11_0 hS) ?_
      refine g_R 25 dX11_letters_22 rfl rfl rfl fr_11_227 (sh_8_9 hS _) ?_
      refine r_iload_n 26 dX11_letters_25 rfl rfl ?_
      refine a_R (ci := 5) 8 27 dX11_letters_26 rfl rfl rfl rfl rfl o_1 rfl ?_
      refine r_astore_n (ls' := [some (vR (some (2, 0))), some (vI x1), some (vI x2), some (vR (M.2.1 38 0 x1.toNat))]) 28 dX11_letters_27 rfl rfl rfl rfl ?_
      refine r_iload_n 29 dX11_letters_28 rfl rfl ?_
      by_cases hsw : x2 < 0 ∨ 5 < x2
      · have h := h.1 hsw
        refine r_tswOut 106 dX11_letters_29 hsw rfl ?_
        refine r_bipush 108 dX11_letters_106 rfl rfl ?_
        exact r_iret dX11_letters_108 rfl (.inl rfl) h.1 h.2
      · have hsw2 : x2 = 0 ∨ x2 = 1 ∨ x2 = 2 ∨ x2 = 3 ∨ x2 = 4 ∨ x2 = 5 := by omega
        rcases hsw2 with c | c | c | c | c | c
        · have h := h.2.1 c
          refine r_tswIn 68 dX11_letters_29 0 c rfl rfl rfl ?_
          refine r_aload_n 69 dX11_letters_68 rfl rfl ?_
          obtain ⟨k_2, e_3, h⟩ := h
          refine g_I 72 dX11_letters_69 rfl e_3 rfl fi_11_243 rfl ?_
          exact r_iret dX11_letters_72 rfl (.inl rfl) h.1 h.2
        · have h := h.2.2.1 c
          refine r_tswIn 73 dX11_letters_29 1 c rfl rfl rfl ?_
          refine r_aload_n 74 dX11_letters_73 rfl rfl ?_
          obtain ⟨k_4, e_5, h⟩ := h
          refine g_I 77 dX11_letters_74 rfl e_5 rfl fi_11_246 rfl ?_
          exact r_iret dX11_letters_77 rfl (.inl rfl) h.1 h.2
        · have h := h.2.2.2.1 c
          refine r_tswIn 78 dX11_letters_29 2 c rfl rfl rfl ?_
          refine r_aload_n 79 dX11_letters_78 rfl rfl ?_
          obtain ⟨k_6, e_7, h⟩ := h
          refine g_I 82 dX11_letters_79 rfl e_7 rfl fi_11_249 rfl ?_
          exact r_iret dX11_letters_82 rfl (.inl rfl) h.1 h.2
        · have h := h.2.2.2.2.1 c
          refine r_tswIn 83 dX11_letters_29 3 c rfl rfl rfl ?_
          refine r_aload_n 84 dX11_letters_83 rfl rfl ?_
          obtain ⟨k_8, e_9, h⟩ := h
          refine g_I 87 dX11_letters_84 rfl e_9 rfl fi_11_252 rfl ?_
          exact r_iret dX11_letters_87 rfl (.inl rfl) h.1 h.2
        · have h := h.2.2.2.2.2.1 c
          refine r_tswIn 88 dX11_letters_29 4 c rfl rfl rfl ?_
          refine r_aload_n 89 dX11_letters_88 rfl rfl ?_
          obtain ⟨k_10, e_11, h⟩ := h
          refine Ex.at (st2 := [vR (some (5, k_10))]) ?_ rfl (show [vR (M.2.1 38 0 x1.toNat)] = [vR (some (5, k_10))] by rw [e_11]) rfl
          refine v_1 (ci := 5) (C := (RX5, TX5, 12)) [] [] 92 dX11_letters_89 rfl rfl rfl rfl rfl mo_X5_isRight ml_11_255 rfl rfl (KX5_isRight) ?_
          have hJ_12 : Ex l G (d + 1) mX11_letters 100 [some (vR (some (2, 0))), some (vI x1), some (vI x2), some (vR (M.2.1 38 0 x1.toNat))] [vI (if (M.1 5 k_10 5) = 1 ∧ (M.1 5 k_10 8) = (M.1 5 k_10 2) then 1 else 0 : Int)] M r M' := by
            exact r_iret dX11_letters_100 rfl (.inl rfl) h.1 h.2
          refine r_if_eq 95 99 dX11_letters_92 rfl rfl (fun c => ?_) (fun c => ?_)
          · have c_13 := b2_0.mp c
            refine r_iconst 100 dX11_letters_99 rfl (InR_of rfl) ?_
            exact (Ex.at hJ_12 rfl (show [vI 0] = [vI (if (M.1 5 k_10 5) = 1 ∧ (M.1 5 k_10 8) = (M.1 5 k_10 2) then 1 else 0 : Int)] by simp only [if_neg c_13]) rfl)
          · have c_13 := b2_1.mp c
            refine r_iconst 96 dX11_letters_95 rfl (InR_of rfl) ?_
            refine r_goto 100 dX11_letters_96 rfl ?_
            exact (Ex.at hJ_12 rfl (show [vI 1] = [vI (if (M.1 5 k_10 5) = 1 ∧ (M.1 5 k_10 8) = (M.1 5 k_10 2) then 1 else 0 : Int)] by simp only [if_pos c_13]) rfl)
        · have h := h.2.2.2.2.2.2 c
          refine r_tswIn 101 dX11_letters_29 5 c rfl rfl rfl ?_
          refine r_aload_n 102 dX11_letters_101 rfl rfl ?_
          obtain ⟨k_14, e_15, h⟩ := h
          refine g_I 105 dX11_letters_102 rfl e_15 rfl fi_11_259 rfl ?_
          exact r_iret dX11_letters_105 rfl (.inl rfl) h.1 h.2
    · have h := h.2 (c)
      refine r_bipush 17 dX11_letters_15 rfl rfl ?_
      exact r_iret dX11_letters_17 rfl (.inl rfl) h.1 h.2

set_option maxRecDepth 4000 in
theorem xX12_letter_0 {l : Launch} {G : Gt} {d : Nat} {M M' : Mem} {r : Option Vl} {x1 : Int} {x2 : Int} {x3 : Int} {x4 : Int} (hS : Sh M.2.1) (h : 
    ((M.1 48 0 3) = 8 → r = some (vI (-1)) ∧ M' = M) ∧ (¬ ((M.1 48 0 3) = 8) → (InR ((M.1 48 0 0) - 1)) ∧ ((¬ (0 ≤ x1 ∧ x1 < (M.1 48 0 0)) → r = some (vI (-1)) ∧ M' = M) ∧ (0 ≤ x1 ∧ x1 < (M.1 48 0 0) → (InR ((M.1 3 0 33) - 1)) ∧ ((¬ (0 ≤ x2 ∧ x2 < (M.1 3 0 33)) → r = some (vI (-1)) ∧ M' = M) ∧ (0 ≤ x2 ∧ x2 < (M.1 3 0 33) → (InR ((M.1 48 0 0) - 1)) ∧ ((¬ (0 ≤ x3 ∧ x3 < (M.1 48 0 0)) → r = some (vI (-1)) ∧ M' = M) ∧ (0 ≤ x3 ∧ x3 < (M.1 48 0 0) → (x3 = x1 → r = some (vI (-1)) ∧ M' = M) ∧ (¬ (x3 = x1) → (0 ≤ x4 ∧ x4 < 8 → ((0 ≤ (M.1 48 0 3) ∧ (M.1 48 0 3) < 8) ∧ (0 ≤ x4 ∧ x4 < 32) ∧ InR ((M.1 48 0 3) + 1)) ∧ r = some (vI (M.1 48 0 3)) ∧ M' = ((upI (upI (upI (upI (upI (upI (upI (upI (upI (upI M.1 62 0 (M.1 48 0 3).toNat x1) 63 0 (M.1 48 0 3).toNat x2) 64 0 (M.1 48 0 3).toNat x3) 65 0 (M.1 48 0 3).toNat (M.1 48 0 5)) 66 0 (M.1 48 0 3).toNat 0) 67 0 (M.1 48 0 3).toNat x4) 68 0 (M.1 48 0 3).toNat (M.1 48 0 5)) 69 0 (M.1 48 0 3).toNat (-1)) 70 0 (M.1 48 0 3).toNat (aShl 1 x4)) 48 0 3 ((M.1 48 0 3) + 1)), M.2.1, M.2.2)) ∧ (¬ (0 ≤ x4 ∧ x4 < 8) → r = some (vI (-1)) ∧ M' = M)))))))))) : Cl l G (d + 2) mX12_letter [vR (some (3, 0)), vI x1, vI x2, vI x3, vI x4] M r M' := by
  show Ex l G (d + 2) mX12_letter 0 [some (vR (some (3, 0))), some (vI x1), some (vI x2), some (vI x3), some (vI x4), none] [] M r M'
  refine r_aload_n 1 dX12_letter_0 rfl rfl ?_
  refine g_R 4 dX12_letter_1 rfl rfl rfl fr_12_7 (sh_12_1 hS) ?_
  refine r_iconst 5 dX12_letter_4 rfl (InR_of rfl) ?_
  refine a_I 6 6 dX12_letter_5 rfl rfl rfl rfl ⟨by decide, by decide⟩ rfl ?_
  refine r_istore (ls' := [some (vR (some (3, 0))), some (vI x1), some (vI x2), some (vI x3), some (vI x4), some (vI (M.1 48 0 3))]) 8 dX12_letter_6 rfl rfl rfl rfl ?_
  refine r_iload 10 dX12_letter_8 rfl rfl ?_
  refine r_bipush 12 dX12_letter_10 rfl rfl ?_
  refine r_icmp_eq 15 52 dX12_letter_12 rfl rfl (fun c => ?_) (fun c => ?_)
  · have h := h.1 (c)
    refine r_iconst 53 dX12_letter_52 rfl (InR_of rfl) ?_
    exact r_iret dX12_letter_53 rfl (.inl rfl) h.1 h.2
  · have h := h.2 (c)
    obtain ⟨o_1, h⟩ := h
    refine r_aload_n 16 dX12_letter_15 rfl rfl ?_
    refine r_iload_n 17 dX12_letter_16 rfl rfl ?_
    refine v_1 (ci := 12) (C := (RX12, TX12, 68)) [vI x1] [] 20 dX12_letter_17 rfl rfl rfl rfl rfl mo_X12_isPerson ml_12_175 rfl rfl (KX12_isPerson hS o_1) ?_
    refine r_if_eq 23 52 dX12_letter_20 rfl rfl (fun c => ?_) (fun c => ?_)
    · have h := h.1 (b2_0.mp c)
      refine r_iconst 53 dX12_letter_52 rfl (InR_of rfl) ?_
      exact r_iret dX12_letter_53 rfl (.inl rfl) h.1 h.2
    · have h := h.2 (b2_1.mp c)
      obtain ⟨o_2, h⟩ := h
      refine r_aload_n 24 dX12_letter_23 rfl rfl ?_
      refine r_iload_n 25 dX12_letter_24 rfl rfl ?_
      refine v_1 (ci := 12) (C := (RX12, TX12, 68)) [vI x2] [] 28 dX12_letter_25 rfl rfl rfl rfl rfl mo_X12_isCover ml_12_331 rfl rfl (KX12_isCover o_2) ?_
      refine r_if_eq 31 52 dX12_letter_28 rfl rfl (fun c => ?_) (fun c => ?_)
      · have h := h.1 (b2_0.mp c)
        refine r_iconst 53 dX12_letter_52 rfl (InR_of rfl) ?_
        exact r_iret dX12_letter_53 rfl (.inl rfl) h.1 h.2
      · have h := h.2 (b2_1.mp c)
        obtain ⟨o_3, h⟩ := h
        refine r_aload_n 32 dX12_letter_31 rfl rfl ?_
        refine r_iload_n 33 dX12_letter_32 rfl rfl ?_
        refine v_1 (ci := 12) (C := (RX12, TX12, 68)) [vI x3] [] 36 dX12_letter_33 rfl rfl rfl rfl rfl mo_X12_isPerson ml_12_175 rfl rfl (KX12_isPerson hS o_3) ?_
        refine r_if_eq 39 52 dX12_letter_36 rfl rfl (fun c => ?_) (fun c => ?_)
        · have h := h.1 (b2_0.mp c)
          refine r_iconst 53 dX12_letter_52 rfl (InR_of rfl) ?_
          exact r_iret dX12_letter_53 rfl (.inl rfl) h.1 h.2
        · have h := h.2 (b2_1.mp c)
          refine r_iload_n 40 dX12_letter_39 rfl rfl ?_
          refine r_iload_n 41 dX12_letter_40 rfl rfl ?_
          refine r_icmp_eq 44 52 dX12_letter_41 rfl rfl (fun c => ?_) (fun c => ?_)
          · have h := h.1 (c)
            refine r_iconst 53 dX12_letter_52 rfl (InR_of rfl) ?_
            exact r_iret dX12_letter_53 rfl (.inl rfl) h.1 h.2
          · have h := h.2 (c)
            refine r_iload 46 dX12_letter_44 rfl rfl ?_
            refine c_1 [vI x4] [] 49 dX12_letter_46 rfl rfl mo_X12_isPlace ml_12_160 rfl rfl (KX12_isPlace) ?_
            refine r_if_ne 52 54 dX12_letter_49 rfl rfl (fun c => ?_) (fun c => ?_)
            · have h := h.1 (b2_1.mp c)
              obtain ⟨⟨o_4, o_5, o_6⟩, h⟩ := h
              refine r_aload_n 55 dX12_letter_54 rfl rfl ?_
              refine g_R 58 dX12_letter_55 rfl rfl rfl fr_12_52 (sh_12_15 hS) ?_
              refine r_iload 60 dX12_letter_58 rfl rfl ?_
              refine r_iload_n 61 dX12_letter_60 rfl rfl ?_
              refine s_I 8 62 dX12_letter_61 rfl rfl (by decide) rfl rfl o_4 ?_
              refine r_aload_n 63 dX12_letter_62 rfl rfl ?_
              refine g_R 66 dX12_letter_63 rfl rfl rfl fr_12_55 (mR_0 (sh_12_16 hS)) ?_
              refine r_iload 68 dX12_letter_66 rfl rfl ?_
              refine r_iload_n 69 dX12_letter_68 rfl rfl ?_
              refine s_I 8 70 dX12_letter_69 rfl rfl (by decide) rfl rfl o_4 ?_
              refine r_aload_n 71 dX12_letter_70 rfl rfl ?_
              refine g_R 74 dX12_letter_71 rfl rfl rfl fr_12_58 (mR_0 (sh_12_17 hS)) ?_
              refine r_iload 76 dX12_letter_74 rfl rfl ?_
              refine r_iload_n 77 dX12_letter_76 rfl rfl ?_
              refine s_I 8 78 dX12_letter_77 rfl rfl (by decide) rfl rfl o_4 ?_
              refine r_aload_n 79 dX12_letter_78 rfl rfl ?_
              refine g_R 82 dX12_letter_79 rfl rfl rfl fr_12_61 (mR_0 (sh_12_18 hS)) ?_
              refine r_iload 84 dX12_letter_82 rfl rfl ?_
              refine r_aload_n 85 dX12_letter_84 rfl rfl ?_
              refine g_R 88 dX12_letter_85 rfl rfl rfl fr_12_7 (mR_0 (sh_12_1 hS)) ?_
              refine r_iconst 89 dX12_letter_88 rfl (InR_of rfl) ?_
              refine a_I 6 90 dX12_letter_89 rfl rfl rfl rfl ⟨by decide, by decide⟩ (mI_0 ((upI_f rfl).trans ((upI_f rfl).trans (upI_f rfl)))) ?_
              refine s_I 8 91 dX12_letter_90 rfl rfl (by decide) rfl rfl o_4 ?_
              refine r_aload_n 92 dX12_letter_91 rfl rfl ?_
              refine g_R 95 dX12_letter_92 rfl rfl rfl fr_12_64 (mR_0 (sh_12_19 hS)) ?_
              refine r_iload 97 dX12_letter_95 rfl rfl ?_
              refine r_iconst 98 dX12_letter_97 rfl (InR_of rfl) ?_
              refine s_I 8 99 dX12_letter_98 rfl rfl (by decide) rfl rfl o_4 ?_
              refine r_aload_n 100 dX12_letter_99 rfl rfl ?_
              refine g_R 103 dX12_letter_100 rfl rfl rfl fr_12_67 (mR_0 (sh_12_20 hS)) ?_
              refine r_iload 105 dX12_letter_103 rfl rfl ?_
              refine r_iload 107 dX12_letter_105 rfl rfl ?_
              refine s_I 8 108 dX12_letter_107 rfl rfl (by decide) rfl rfl o_4 ?_
              refine r_aload_n 109 dX12_letter_108 rfl rfl ?_
              refine g_R 112 dX12_letter_109 rfl rfl rfl fr_12_70 (mR_0 (sh_12_21 hS)) ?_
              refine r_iload 114 dX12_letter_112 rfl rfl ?_
              refine r_aload_n 115 dX12_letter_114 rfl rfl ?_
              refine g_R 118 dX12_letter_115 rfl rfl rfl fr_12_7 (mR_0 (sh_12_1 hS)) ?_
              refine r_iconst 119 dX12_letter_118 rfl (InR_of rfl) ?_
              refine a_I 6 120 dX12_letter_119 rfl rfl rfl rfl ⟨by decide, by decide⟩ (mI_0 ((upI_f rfl).trans ((upI_f rfl).trans ((upI_f rfl).trans ((upI_f rfl).trans ((upI_f rfl).trans (upI_f rfl))))))) ?_
              refine s_I 8 121 dX12_letter_120 rfl rfl (by decide) rfl rfl o_4 ?_
              refine r_aload_n 122 dX12_letter_121 rfl rfl ?_
              refine g_R 125 dX12_letter_122 rfl rfl rfl fr_12_73 (mR_0 (sh_12_22 hS)) ?_
              refine r_iload 127 dX12_letter_125 rfl rfl ?_
              refine r_iconst 128 dX12_letter_127 rfl (InR_of rfl) ?_
              refine s_I 8 129 dX12_letter_128 rfl rfl (by decide) rfl rfl o_4 ?_
              refine r_aload_n 130 dX12_letter_129 rfl rfl ?_
              refine g_R 133 dX12_letter_130 rfl rfl rfl fr_12_76 (mR_0 (sh_12_23 hS)) ?_
              refine r_iload 135 dX12_letter_133 rfl rfl ?_
              refine r_iconst 136 dX12_letter_135 rfl (InR_of rfl) ?_
              refine r_iload 138 dX12_letter_136 rfl rfl ?_
              refine r_ishl 139 dX12_letter_138 rfl o_5 ?_
              refine s_I 8 140 dX12_letter_139 rfl rfl (by decide) rfl rfl o_4 ?_
              refine r_aload_n 141 dX12_letter_140 rfl rfl ?_
              refine g_R 144 dX12_letter_141 rfl rfl rfl fr_12_7 (mR_0 (sh_12_1 hS)) ?_
              refine r_iconst 145 dX12_letter_144 rfl (InR_of rfl) ?_
              refine r_dup2 146 dX12_letter_145 rfl rfl ?_
              refine a_I 6 147 dX12_letter_146 rfl rfl rfl rfl ⟨by decide, by decide⟩ (mI_0 ((upI_f rfl).trans ((upI_f rfl).trans ((upI_f rfl).trans ((upI_f rfl).trans ((upI_f rfl).trans ((upI_f rfl).trans ((upI_f rfl).trans ((upI_f rfl).trans (upI_f rfl)))))))))) ?_
              refine r_iconst 148 dX12_letter_147 rfl (InR_of rfl) ?_
              refine r_iadd 149 dX12_letter_148 rfl o_6 ?_
              refine s_I 6 150 dX12_letter_149 rfl rfl (by decide) rfl rfl ⟨by decide, by decide⟩ ?_
              refine r_iload 152 dX12_letter_150 rfl rfl ?_
              exact r_iret dX12_letter_152 rfl (.inl rfl) h.1 h.2
            · have h := h.2 (b2_0.mp (Decidable.not_not.mp c))
              refine r_iconst 53 dX12_letter_52 rfl (InR_of rfl) ?_
              exact r_iret dX12_letter_53 rfl (.inl rfl) h.1 h.2

set_option maxRecDepth 4000 in
theorem xX11_letter_0 {l : Launch} {G : Gt} {d : Nat} {M M' : Mem} {r : Option Vl} {x1 : Int} {x2 : Int} {x3 : Int} {x4 : Int} (h : 
    ∃ (o_3 : Option Nm) (M_1 : Mem), Cl l G (d + 1) mX11_coverOf [vR (some (2, 0)), vI x2] M (some (vR o_3)) M_1 ∧ Sh M_1.2.1 ∧ ((8 ≤ (M_1.1 4 0 8) → r = some (vI (-1)) ∧ M' = M_1) ∧ (¬ (8 ≤ (M_1.1 4 0 8)) → (¬ (o_3 = none) → (¬ ((0 ≤ x1 ∧ x1 < (M_1.1 4 0 0)) ∧ (0 ≤ x3 ∧ x3 < (M_1.1 4 0 0)) ∧ ¬ x1 = x3) → r = some (vI (-1)) ∧ M' = M_1) ∧ ((0 ≤ x1 ∧ x1 < (M_1.1 4 0 0)) ∧ (0 ≤ x3 ∧ x3 < (M_1.1 4 0 0)) ∧ ¬ x1 = x3 → (0 ≤ x4 ∧ x4 < 8 → ((0 ≤ (M_1.1 4 0 8) ∧ (M_1.1 4 0 8) < 8)) ∧ (∃ k_5 : Nat, (M_1.2.1 38 0 (M_1.1 4 0 8).toNat) = some (5, k_5) ∧ (∃ k_7 : Nat, o_3 = some (13, k_7) ∧ (∃ (M_9 : Mem), Cl l G (d + 1) mX5_begin [vR (some (5, k_5)), vR (some (13, k_7)), vI x1, vI x3, vI x4, vI (M_1.1 4 0 10)] M_1 none M_9 ∧ Sh M_9.2.1 ∧ (InR ((M_9.1 4 0 8) + 1)) ∧ r = some (vI (M_9.1 4 0 8)) ∧ M' = ((upI M_9.1 4 0 8 ((M_9.1 4 0 8) + 1)), M_9.2.1, M_9.2.2))))) ∧ (¬ (0 ≤ x4 ∧ x4 < 8) → r = some (vI (-1)) ∧ M' = M_1))) ∧ (o_3 = none → r = some (vI (-1)) ∧ M' = M_1)))) : Cl l G (d + 2) mX11_letter [vR (some (2, 0)), vI x1, vI x2, vI x3, vI x4] M r M' := by
  show Ex l G (d + 2) mX11_letter 0 [some (vR (some (2, 0))), some (vI x1), some (vI x2), some (vI x3), some (vI x4), none] [] M r M'
  refine r_aload_n 1 dX11_letter_0 rfl rfl ?_
  refine r_iload_n 2 dX11_letter_1 rfl rfl ?_
  obtain ⟨o_3, M_1, hc_2, hS, h⟩ := h
  refine v_1 (ci := 11) (C := (RX11, TX11, 16)) [vI x2] [] 5 dX11_letter_2 rfl rfl rfl rfl rfl mo_X11_coverOf ml_11_187 rfl rfl hc_2 ?_
  refine r_astore (ls' := [some (vR (some (2, 0))), some (vI x1), some (vI x2), some (vI x3), some (vI x4), some (vR o_3)]) 7 dX11_letter_5 rfl rfl rfl rfl ?_
  refine r_aload_n 8 dX11_letter_7 rfl rfl ?_
  refine g_R 11 dX11_letter_8 rfl rfl rfl fr_11_12 (sh_11_0 hS) ?_
  refine g_I 14 dX11_letter_11 rfl rfl rfl fi_11_224 rfl ?_
  refine r_bipush 16 dX11_letter_14 rfl rfl ?_
  refine r_icmp_ge 19 24 dX11_letter_16 rfl rfl (fun c => ?_) (fun c => ?_)
  · have h := h.1 (c)
    refine r_iconst 25 dX11_letter_24 rfl (InR_of rfl) ?_
    exact r_iret dX11_letter_25 rfl (.inl rfl) h.1 h.2
  · have h := h.2 (c)
    refine r_aload 21 dX11_letter_19 rfl rfl ?_
    refine r_ifnonnull 24 26 dX11_letter_21 rfl rfl (fun c => ?_) (fun c => ?_)
    · have h := h.1 (c)
      refine r_aload_n 27 dX11_letter_26 rfl rfl ?_
      refine r_iload_n 28 dX11_letter_27 rfl rfl ?_
      refine r_iload_n 29 dX11_letter_28 rfl rfl ?_
      refine v_1 (ci := 11) (C := (RX11, TX11, 16)) [vI x1, vI x3] [] 32 dX11_letter_29 rfl rfl rfl rfl rfl mo_X11_areTwo ml_11_130 rfl rfl (KX11_areTwo hS) ?_
      refine r_if_eq 35 43 dX11_letter_32 rfl rfl (fun c => ?_) (fun c => ?_)
      · have h := h.1 (b2_0.mp c)
        refine r_iconst 44 dX11_letter_43 rfl (InR_of rfl) ?_
        exact r_iret dX11_letter_44 rfl (.inl rfl) h.1 h.2
      · have h := h.2 (b2_1.mp c)
        refine r_iload 37 dX11_letter_35 rfl rfl ?_
        refine c_1 [vI x4] [] 40 dX11_letter_37 rfl rfl mo_X11_isPlace ml_11_96 rfl rfl (KX11_isPlace) ?_
        refine r_if_ne 43 45 dX11_letter_40 rfl rfl (fun c => ?_) (fun c => ?_)
        · have h := h.1 (b2_1.mp c)
          obtain ⟨o_4, h⟩ := h
          refine r_aload_n 46 dX11_letter_45 rfl rfl ?_
          refine g_R 49 dX11_letter_46 rfl rfl rfl fr_11_12 (sh_11_0 hS) ?_
          refine g_R 52 dX11_letter_49 rfl rfl rfl fr_11_227 (sh_8_9 hS _) ?_
          refine r_aload_n 53 dX11_letter_52 rfl rfl ?_
          refine g_R 56 dX11_letter_53 rfl rfl rfl fr_11_12 (sh_11_0 hS) ?_
          refine g_I 59 dX11_letter_56 rfl rfl rfl fi_11_224 rfl ?_
          refine a_R (ci := 5) 8 60 dX11_letter_59 rfl rfl rfl rfl rfl o_4 rfl ?_
          refine r_aload 62 dX11_letter_60 rfl rfl ?_
          refine r_iload_n 63 dX11_letter_62 rfl rfl ?_
          refine r_iload_n 64 dX11_letter_63 rfl rfl ?_
          refine r_iload 66 dX11_letter_64 rfl rfl ?_
          refine r_aload_n 67 dX11_letter_66 rfl rfl ?_
          refine g_R 70 dX11_letter_67 rfl rfl rfl fr_11_12 (sh_11_0 hS) ?_
          refine g_I 73 dX11_letter_70 rfl rfl rfl fi_11_231 rfl ?_
          obtain ⟨k_5, e_6, h⟩ := h
          obtain ⟨k_7, e_8, h⟩ := h
          refine Ex.at (st2 := [vI (M_1.1 4 0 10), vI x4, vI x3, vI x1, vR (some (13, k_7)), vR (some (5, k_5))]) ?_ rfl (show [vI (M_1.1 4 0 10), vI x4, vI x3, vI x1, vR o_3, vR (M_1.2.1 38 0 (M_1.1 4 0 8).toNat)] = [vI (M_1.1 4 0 10), vI x4, vI x3, vI x1, vR (some (13, k_7)), vR (some (5, k_5))] by rw [e_6, e_8]) rfl
          obtain ⟨M_9, hc_10, hS, h⟩ := h
          refine v_0 (ci := 5) (C := (RX5, TX5, 12)) [vR (some (13, k_7)), vI x1, vI x3, vI x4, vI (M_1.1 4 0 10)] [] 76 dX11_letter_73 rfl rfl rfl rfl rfl mo_X5_begin ml_11_234 rfl rfl hc_10 ?_
          obtain ⟨o_11, h⟩ := h
          refine r_aload_n 77 dX11_letter_76 rfl rfl ?_
          refine g_R 80 dX11_letter_77 rfl rfl rfl fr_11_12 (sh_11_0 hS) ?_
          refine r_dup 81 dX11_letter_80 rfl rfl ?_
          refine g_I 84 dX11_letter_81 rfl rfl rfl fi_11_224 rfl ?_
          refine r_dup_x1 85 dX11_letter_84 rfl rfl ?_
          refine r_iconst 86 dX11_letter_85 rfl (InR_of rfl) ?_
          refine r_iadd 87 dX11_letter_86 rfl o_11 ?_
          refine p_I 90 dX11_letter_87 rfl rfl rfl rfl pf_11_224 (.inl rfl) rfl ?_
          exact r_iret dX11_letter_90 rfl (.inl rfl) h.1 h.2
        · have h := h.2 (b2_0.mp (Decidable.not_not.mp c))
          refine r_iconst 44 dX11_letter_43 rfl (InR_of rfl) ?_
          exact r_iret dX11_letter_44 rfl (.inl rfl) h.1 h.2
    · have h := h.2 (c)
      refine r_iconst 25 dX11_letter_24 rfl (InR_of rfl) ?_
      exact r_iret dX11_letter_25 rfl (.inl rfl) h.1 h.2

set_option maxRecDepth 4000 in
theorem xX12_count_0 {l : Launch} {G : Gt} {d : Nat} {M M' : Mem} {r : Option Vl} {x1 : Int} (h : 
    Ex l G (d + 1) mX12_count 4 [some (vR (some (3, 0))), some (vI x1), some (vI 0), some (vI 0)] [] M r M') : Cl l G (d + 1) mX12_count [vR (some (3, 0)), vI x1] M r M' := by
  show Ex l G (d + 1) mX12_count 0 [some (vR (some (3, 0))), some (vI x1), none, none] [] M r M'
  refine r_iconst 1 dX12_count_0 rfl (InR_of rfl) ?_
  refine r_istore_n (ls' := [some (vR (some (3, 0))), some (vI x1), some (vI 0), none]) 2 dX12_count_1 rfl rfl rfl rfl ?_
  refine r_iconst 3 dX12_count_2 rfl (InR_of rfl) ?_
  refine r_istore_n (ls' := [some (vR (some (3, 0))), some (vI x1), some (vI 0), some (vI 0)]) 4 dX12_count_3 rfl rfl rfl rfl ?_
  exact h
set_option maxRecDepth 4000 in
theorem xX12_count_4 {l : Launch} {G : Gt} {d : Nat} {M M' : Mem} {r : Option Vl} {x1 : Int} {x2 : Int} {x3 : Int} (hS : Sh M.2.1) (h : 
    ((M.1 48 0 3) ≤ x3 → (x1 < 0 ∨ 9 < x1 → r = some (vI (-1)) ∧ M' = M) ∧ (x1 = 0 → r = some (vI (M.1 48 0 0)) ∧ M' = M) ∧ (x1 = 1 → r = some (vI (M.1 48 0 1)) ∧ M' = M) ∧ (x1 = 2 → r = some (vI (M.1 48 0 2)) ∧ M' = M) ∧ (x1 = 3 → r = some (vI (M.1 3 0 33)) ∧ M' = M) ∧ (x1 = 4 → r = some (vI (M.1 48 0 3)) ∧ M' = M) ∧ (x1 = 5 → ∃ (r_3 : Int) (M_1 : Mem), Cl l G d mX12_underWay [vR (some (3, 0))] M (some (vI r_3)) M_1 ∧ r = some (vI r_3) ∧ M' = M_1) ∧ (x1 = 6 → r = some (vI x2) ∧ M' = M) ∧ (x1 = 7 → r = some (vI (M.1 48 0 5)) ∧ M' = M) ∧ (x1 = 8 → r = some (vI (M.1 48 0 4)) ∧ M' = M) ∧ (x1 = 9 → r = some (vI (M.1 3 0 29)) ∧ M' = M)) ∧ (¬ ((M.1 48 0 3) ≤ x3) → ((0 ≤ x3 ∧ x3 < 8)) ∧ ((InR (x2 + (if (M.1 66 0 x3.toNat) = 1 ∧ (M.1 69 0 x3.toNat) = (M.1 64 0 x3.toNat) then 1 else 0 : Int))) ∧ InR (x3 + 1)) ∧ Ex l G (d + 1) mX12_count 4 [some (vR (some (3, 0))), some (vI x1), some (vI (x2 + (if (M.1 66 0 x3.toNat) = 1 ∧ (M.1 69 0 x3.toNat) = (M.1 64 0 x3.toNat) then 1 else 0 : Int))), some (vI (x3 + 1))] [] M r M')) : Ex l G (d + 1) mX12_count 4 [some (vR (some (3, 0))), some (vI x1), some (vI x2), some (vI x3)] [] M r M' := by
  refine r_iload_n 5 dX12_count_4 rfl rfl ?_
  refine r_aload_n 6 dX12_count_5 rfl rfl ?_
  refine g_R 9 dX12_count_6 rfl rfl rfl fr_12_7 (sh_12_1 hS) ?_
  refine r_iconst 10 dX12_count_9 rfl (InR_of rfl) ?_
  refine a_I 6 11 dX12_count_10 rfl rfl rfl rfl ⟨by decide, by decide⟩ rfl ?_
  refine r_icmp_ge 14 36 dX12_count_11 rfl rfl (fun c => ?_) (fun c => ?_)
  · have h := h.1 (c)
    refine r_iload_n 37 dX12_count_36 rfl rfl ?_
    by_cases hsw : x1 < 0 ∨ 9 < x1
    · have h := h.1 hsw
      refine r_tswOut 151 dX12_count_37 hsw rfl ?_
      refine r_iconst 152 dX12_count_151 rfl (InR_of rfl) ?_
      exact r_iret dX12_count_152 rfl (.inl rfl) h.1 h.2
    · have hsw2 : x1 = 0 ∨ x1 = 1 ∨ x1 = 2 ∨ x1 = 3 ∨ x1 = 4 ∨ x1 = 5 ∨ x1 = 6 ∨ x1 = 7 ∨ x1 = 8 ∨ x1 = 9 := by omega
      rcases hsw2 with c | c | c | c | c | c | c | c | c | c
      · have h := h.2.1 c
        refine r_tswIn 92 dX12_count_37 0 c rfl rfl rfl ?_
        refine r_aload_n 93 dX12_count_92 rfl rfl ?_
        refine g_R 96 dX12_count_93 rfl rfl rfl fr_12_7 (sh_12_1 hS) ?_
        refine r_iconst 97 dX12_count_96 rfl (InR_of rfl) ?_
        refine a_I 6 98 dX12_count_97 rfl rfl rfl rfl ⟨by decide, by decide⟩ rfl ?_
        exact r_iret dX12_count_98 rfl (.inl rfl) h.1 h.2
      · have h := h.2.2.1 c
        refine r_tswIn 99 dX12_count_37 1 c rfl rfl rfl ?_
        refine r_aload_n 100 dX12_count_99 rfl rfl ?_
        refine g_R 103 dX12_count_100 rfl rfl rfl fr_12_7 (sh_12_1 hS) ?_
        refine r_iconst 104 dX12_count_103 rfl (InR_of rfl) ?_
        refine a_I 6 105 dX12_count_104 rfl rfl rfl rfl ⟨by decide, by decide⟩ rfl ?_
        exact r_iret dX12_count_105 rfl (.inl rfl) h.1 h.2
      · have h := h.2.2.2.1 c
        refine r_tswIn 106 dX12_count_37 2 c rfl rfl rfl ?_
        refine r_aload_n 107 dX12_count_106 rfl rfl ?_
        refine g_R 110 dX12_count_107 rfl rfl rfl fr_12_7 (sh_12_1 hS) ?_
        refine r_iconst 111 dX12_count_110 rfl (InR_of rfl) ?_
        refine a_I 6 112 dX12_count_111 rfl rfl rfl rfl ⟨by decide, by decide⟩ rfl ?_
        exact r_iret dX12_count_112 rfl (.inl rfl) h.1 h.2
      · have h := h.2.2.2.2.1 c
        refine r_tswIn 113 dX12_count_37 3 c rfl rfl rfl ?_
        refine r_aload_n 114 dX12_count_113 rfl rfl ?_
        refine g_I 117 dX12_count_114 rfl rfl rfl fi_12_309 rfl ?_
        exact r_iret dX12_count_117 rfl (.inl rfl) h.1 h.2
      · have h := h.2.2.2.2.2.1 c
        refine r_tswIn 118 dX12_count_37 4 c rfl rfl rfl ?_
        refine r_aload_n 119 dX12_count_118 rfl rfl ?_
        refine g_R 122 dX12_count_119 rfl rfl rfl fr_12_7 (sh_12_1 hS) ?_
        refine r_iconst 123 dX12_count_122 rfl (InR_of rfl) ?_
        refine a_I 6 124 dX12_count_123 rfl rfl rfl rfl ⟨by decide, by decide⟩ rfl ?_
        exact r_iret dX12_count_124 rfl (.inl rfl) h.1 h.2
      · have h := h.2.2.2.2.2.2.1 c
        refine r_tswIn 125 dX12_count_37 5 c rfl rfl rfl ?_
        refine r_aload_n 126 dX12_count_125 rfl rfl ?_
        obtain ⟨r_3, M_1, hc_2, h⟩ := h
        refine v_1 (ci := 12) (C := (RX12, TX12, 68)) [] [] 129 dX12_count_126 rfl rfl rfl rfl rfl mo_X12_underWay ml_12_363 rfl rfl hc_2 ?_
        exact r_iret dX12_count_129 rfl (.inl rfl) h.1 h.2
      · have h := h.2.2.2.2.2.2.2.1 c
        refine r_tswIn 130 dX12_count_37 6 c rfl rfl rfl ?_
        refine r_iload_n 131 dX12_count_130 rfl rfl ?_
        exact r_iret dX12_count_131 rfl (.inl rfl) h.1 h.2
      · have h := h.2.2.2.2.2.2.2.2.1 c
        refine r_tswIn 132 dX12_count_37 7 c rfl rfl rfl ?_
        refine r_aload_n 133 dX12_count_132 rfl rfl ?_
        refine g_R 136 dX12_count_133 rfl rfl rfl fr_12_7 (sh_12_1 hS) ?_
        refine r_iconst 137 dX12_count_136 rfl (InR_of rfl) ?_
        refine a_I 6 138 dX12_count_137 rfl rfl rfl rfl ⟨by decide, by decide⟩ rfl ?_
        exact r_iret dX12_count_138 rfl (.inl rfl) h.1 h.2
      · have h := h.2.2.2.2.2.2.2.2.2.1 c
        refine r_tswIn 139 dX12_count_37 8 c rfl rfl rfl ?_
        refine r_aload_n 140 dX12_count_139 rfl rfl ?_
        refine g_R 143 dX12_count_140 rfl rfl rfl fr_12_7 (sh_12_1 hS) ?_
        refine r_iconst 144 dX12_count_143 rfl (InR_of rfl) ?_
        refine a_I 6 145 dX12_count_144 rfl rfl rfl rfl ⟨by decide, by decide⟩ rfl ?_
        exact r_iret dX12_count_145 rfl (.inl rfl) h.1 h.2
      · have h := h.2.2.2.2.2.2.2.2.2.2 c
        refine r_tswIn 146 dX12_count_37 9 c rfl rfl rfl ?_
        refine r_aload_n 147 dX12_count_146 rfl rfl ?_
        refine g_I 150 dX12_count_147 rfl rfl rfl fi_12_209 rfl ?_
        exact r_iret dX12_count_150 rfl (.inl rfl) h.1 h.2
  · have h := h.2 (c)
    obtain ⟨o_4, h⟩ := h
    refine r_iload_n 15 dX12_count_14 rfl rfl ?_
    refine r_aload_n 16 dX12_count_15 rfl rfl ?_
    refine r_iload_n 17 dX12_count_16 rfl rfl ?_
    refine v_1 (ci := 12) (C := (RX12, TX12, 68)) [vI x3] [vI x2] 20 dX12_count_17 rfl rfl rfl rfl rfl mo_X12_isRight ml_12_366 rfl rfl (KX12_isRight hS o_4) ?_
    have hJ_5 : Ex l G (d + 1) mX12_count 28 [some (vR (some (3, 0))), some (vI x1), some (vI x2), some (vI x3)] [vI (if (M.1 66 0 x3.toNat) = 1 ∧ (M.1 69 0 x3.toNat) = (M.1 64 0 x3.toNat) then 1 else 0 : Int), vI x2] M r M' := by
      obtain ⟨⟨o_7, o_8⟩, h⟩ := h
      refine r_iadd 29 dX12_count_28 rfl o_7 ?_
      refine r_istore_n (ls' := [some (vR (some (3, 0))), some (vI x1), some (vI (x2 + (if (M.1 66 0 x3.toNat) = 1 ∧ (M.1 69 0 x3.toNat) = (M.1 64 0 x3.toNat) then 1 else 0 : Int))), some (vI x3)]) 30 dX12_count_29 rfl rfl rfl rfl ?_
      refine r_iinc (ls' := [some (vR (some (3, 0))), some (vI x1), some (vI (x2 + (if (M.1 66 0 x3.toNat) = 1 ∧ (M.1 69 0 x3.toNat) = (M.1 64 0 x3.toNat) then 1 else 0 : Int))), some (vI (x3 + 1))]) 33 dX12_count_30 rfl rfl rfl rfl o_8 rfl ?_
      refine r_goto 4 dX12_count_33 rfl ?_
      exact h
    refine r_if_eq 23 27 dX12_count_20 rfl rfl (fun c => ?_) (fun c => ?_)
    · have c_6 := b2_0.mp c
      refine r_iconst 28 dX12_count_27 rfl (InR_of rfl) ?_
      exact (Ex.at hJ_5 rfl (show [vI 0, vI x2] = [vI (if (M.1 66 0 x3.toNat) = 1 ∧ (M.1 69 0 x3.toNat) = (M.1 64 0 x3.toNat) then 1 else 0 : Int), vI x2] by simp only [if_neg c_6]) rfl)
    · have c_6 := b2_1.mp c
      refine r_iconst 24 dX12_count_23 rfl (InR_of rfl) ?_
      refine r_goto 28 dX12_count_24 rfl ?_
      exact (Ex.at hJ_5 rfl (show [vI 1, vI x2] = [vI (if (M.1 66 0 x3.toNat) = 1 ∧ (M.1 69 0 x3.toNat) = (M.1 64 0 x3.toNat) then 1 else 0 : Int), vI x2] by simp only [if_pos c_6]) rfl)

set_option maxRecDepth 4000 in
theorem xX8_howManyAreRight_0 {l : Launch} {G : Gt} {d : Nat} {M M' : Mem} {r : Option Vl} {k0 : Nat} (h : 
    Ex l G (d + 1) mX8_howManyAreRight 4 [some (vR (some (4, k0))), some (vI 0), some (vI 0)] [] M r M') : Cl l G (d + 1) mX8_howManyAreRight [vR (some (4, k0))] M r M' := by
  show Ex l G (d + 1) mX8_howManyAreRight 0 [some (vR (some (4, k0))), none, none] [] M r M'
  refine r_iconst 1 dX8_howManyAreRight_0 rfl (InR_of rfl) ?_
  refine r_istore_n (ls' := [some (vR (some (4, k0))), some (vI 0), none]) 2 dX8_howManyAreRight_1 rfl rfl rfl rfl ?_
  refine r_iconst 3 dX8_howManyAreRight_2 rfl (InR_of rfl) ?_
  refine r_istore_n (ls' := [some (vR (some (4, k0))), some (vI 0), some (vI 0)]) 4 dX8_howManyAreRight_3 rfl rfl rfl rfl ?_
  exact h
set_option maxRecDepth 4000 in
theorem xX8_howManyAreRight_4 {l : Launch} {G : Gt} {d : Nat} {M M' : Mem} {r : Option Vl} {k0 : Nat} {x1 : Int} {x2 : Int} (hS : Sh M.2.1) (h : 
    ((M.1 4 k0 8) ≤ x2 → r = some (vI x1) ∧ M' = M) ∧ (¬ ((M.1 4 k0 8) ≤ x2) → ((0 ≤ x2 ∧ x2 < 8)) ∧ (∃ k_2 : Nat, (M.2.1 38 k0 x2.toNat) = some (5, k_2) ∧ ((InR (x1 + (if (M.1 5 k_2 5) = 1 ∧ (M.1 5 k_2 8) = (M.1 5 k_2 2) then 1 else 0 : Int))) ∧ InR (x2 + 1)) ∧ Ex l G (d + 1) mX8_howManyAreRight 4 [some (vR (some (4, k0))), some (vI (x1 + (if (M.1 5 k_2 5) = 1 ∧ (M.1 5 k_2 8) = (M.1 5 k_2 2) then 1 else 0 : Int))), some (vI (x2 + 1))] [] M r M'))) : Ex l G (d + 1) mX8_howManyAreRight 4 [some (vR (some (4, k0))), some (vI x1), some (vI x2)] [] M r M' := by
  refine r_iload_n 5 dX8_howManyAreRight_4 rfl rfl ?_
  refine r_aload_n 6 dX8_howManyAreRight_5 rfl rfl ?_
  refine g_I 9 dX8_howManyAreRight_6 rfl rfl rfl fi_8_53 rfl ?_
  refine r_icmp_ge 12 38 dX8_howManyAreRight_9 rfl rfl (fun c => ?_) (fun c => ?_)
  · have h := h.1 (c)
    refine r_iload_n 39 dX8_howManyAreRight_38 rfl rfl ?_
    exact r_iret dX8_howManyAreRight_39 rfl (.inl rfl) h.1 h.2
  · have h := h.2 (c)
    obtain ⟨o_1, h⟩ := h
    refine r_iload_n 13 dX8_howManyAreRight_12 rfl rfl ?_
    refine r_aload_n 14 dX8_howManyAreRight_13 rfl rfl ?_
    refine g_R 17 dX8_howManyAreRight_14 rfl rfl rfl fr_8_29 (sh_8_9 hS _) ?_
    refine r_iload_n 18 dX8_howManyAreRight_17 rfl rfl ?_
    refine a_R (ci := 5) 8 19 dX8_howManyAreRight_18 rfl rfl rfl rfl rfl o_1 rfl ?_
    obtain ⟨k_2, e_3, h⟩ := h
    refine Ex.at (st2 := [vR (some (5, k_2)), vI x1]) ?_ rfl (show [vR (M.2.1 38 k0 x2.toNat), vI x1] = [vR (some (5, k_2)), vI x1] by rw [e_3]) rfl
    refine v_1 (ci := 5) (C := (RX5, TX5, 12)) [] [vI x1] 22 dX8_howManyAreRight_19 rfl rfl rfl rfl rfl mo_X5_isRight ml_8_79 rfl rfl (KX5_isRight) ?_
    have hJ_4 : Ex l G (d + 1) mX8_howManyAreRight 30 [some (vR (some (4, k0))), some (vI x1), some (vI x2)] [vI (if (M.1 5 k_2 5) = 1 ∧ (M.1 5 k_2 8) = (M.1 5 k_2 2) then 1 else 0 : Int), vI x1] M r M' := by
      obtain ⟨⟨o_6, o_7⟩, h⟩ := h
      refine r_iadd 31 dX8_howManyAreRight_30 rfl o_6 ?_
      refine r_istore_n (ls' := [some (vR (some (4, k0))), some (vI (x1 + (if (M.1 5 k_2 5) = 1 ∧ (M.1 5 k_2 8) = (M.1 5 k_2 2) then 1 else 0 : Int))), some (vI x2)]) 32 dX8_howManyAreRight_31 rfl rfl rfl rfl ?_
      refine r_iinc (ls' := [some (vR (some (4, k0))), some (vI (x1 + (if (M.1 5 k_2 5) = 1 ∧ (M.1 5 k_2 8) = (M.1 5 k_2 2) then 1 else 0 : Int))), some (vI (x2 + 1))]) 35 dX8_howManyAreRight_32 rfl rfl rfl rfl o_7 rfl ?_
      refine r_goto 4 dX8_howManyAreRight_35 rfl ?_
      exact h
    refine r_if_eq 25 29 dX8_howManyAreRight_22 rfl rfl (fun c => ?_) (fun c => ?_)
    · have c_5 := b2_0.mp c
      refine r_iconst 30 dX8_howManyAreRight_29 rfl (InR_of rfl) ?_
      exact (Ex.at hJ_4 rfl (show [vI 0, vI x1] = [vI (if (M.1 5 k_2 5) = 1 ∧ (M.1 5 k_2 8) = (M.1 5 k_2 2) then 1 else 0 : Int), vI x1] by simp only [if_neg c_5]) rfl)
    · have c_5 := b2_1.mp c
      refine r_iconst 26 dX8_howManyAreRight_25 rfl (InR_of rfl) ?_
      refine r_goto 30 dX8_howManyAreRight_26 rfl ?_
      exact (Ex.at hJ_4 rfl (show [vI 1, vI x1] = [vI (if (M.1 5 k_2 5) = 1 ∧ (M.1 5 k_2 8) = (M.1 5 k_2 2) then 1 else 0 : Int), vI x1] by simp only [if_pos c_5]) rfl)

set_option maxRecDepth 4000 in
theorem xX11_count_0 {l : Launch} {G : Gt} {d : Nat} {M M' : Mem} {r : Option Vl} {x1 : Int} (hS : Sh M.2.1) (h : 
    (x1 < 0 ∨ 9 < x1 → r = some (vI (-1)) ∧ M' = M) ∧ (x1 = 0 → r = some (vI (M.1 4 0 0)) ∧ M' = M) ∧ (x1 = 1 → r = some (vI (M.1 4 0 2)) ∧ M' = M) ∧ (x1 = 2 → r = some (vI (M.1 4 0 4)) ∧ M' = M) ∧ (x1 = 3 → r = some (vI (M.1 2 0 10)) ∧ M' = M) ∧ (x1 = 4 → r = some (vI (M.1 4 0 8)) ∧ M' = M) ∧ (x1 = 5 → ∃ (r_3 : Int) (M_1 : Mem), Cl l G d mX8_howManyAre [vR (some (4, 0)), vI 0] M (some (vI r_3)) M_1 ∧ r = some (vI r_3) ∧ M' = M_1) ∧ (x1 = 6 → ∃ (r_6 : Int) (M_4 : Mem), Cl l G d mX8_howManyAreRight [vR (some (4, 0))] M (some (vI r_6)) M_4 ∧ r = some (vI r_6) ∧ M' = M_4) ∧ (x1 = 7 → r = some (vI (M.1 4 0 10)) ∧ M' = M) ∧ (x1 = 8 → r = some (vI (M.1 4 0 11)) ∧ M' = M) ∧ (x1 = 9 → r = some (vI (M.1 2 0 12)) ∧ M' = M)) : Cl l G (d + 1) mX11_count [vR (some (2, 0)), vI x1] M r M' := by
  show Ex l G (d + 1) mX11_count 0 [some (vR (some (2, 0))), some (vI x1)] [] M r M'
  refine r_iload_n 1 dX11_count_0 rfl rfl ?_
  by_cases hsw : x1 < 0 ∨ 9 < x1
  · have h := h.1 hsw
    refine r_tswOut 131 dX11_count_1 hsw rfl ?_
    refine r_iconst 132 dX11_count_131 rfl (InR_of rfl) ?_
    exact r_iret dX11_count_132 rfl (.inl rfl) h.1 h.2
  · have hsw2 : x1 = 0 ∨ x1 = 1 ∨ x1 = 2 ∨ x1 = 3 ∨ x1 = 4 ∨ x1 = 5 ∨ x1 = 6 ∨ x1 = 7 ∨ x1 = 8 ∨ x1 = 9 := by omega
    rcases hsw2 with c | c | c | c | c | c | c | c | c | c
    · have h := h.2.1 c
      refine r_tswIn 56 dX11_count_1 0 c rfl rfl rfl ?_
      refine r_aload_n 57 dX11_count_56 rfl rfl ?_
      refine g_R 60 dX11_count_57 rfl rfl rfl fr_11_12 (sh_11_0 hS) ?_
      refine g_I 63 dX11_count_60 rfl rfl rfl fi_11_111 rfl ?_
      exact r_iret dX11_count_63 rfl (.inl rfl) h.1 h.2
    · have h := h.2.2.1 c
      refine r_tswIn 64 dX11_count_1 1 c rfl rfl rfl ?_
      refine r_aload_n 65 dX11_count_64 rfl rfl ?_
      refine g_R 68 dX11_count_65 rfl rfl rfl fr_11_12 (sh_11_0 hS) ?_
      refine g_I 71 dX11_count_68 rfl rfl rfl fi_11_100 rfl ?_
      exact r_iret dX11_count_71 rfl (.inl rfl) h.1 h.2
    · have h := h.2.2.2.1 c
      refine r_tswIn 72 dX11_count_1 2 c rfl rfl rfl ?_
      refine r_aload_n 73 dX11_count_72 rfl rfl ?_
      refine g_R 76 dX11_count_73 rfl rfl rfl fr_11_12 (sh_11_0 hS) ?_
      refine g_I 79 dX11_count_76 rfl rfl rfl fi_11_121 rfl ?_
      exact r_iret dX11_count_79 rfl (.inl rfl) h.1 h.2
    · have h := h.2.2.2.2.1 c
      refine r_tswIn 80 dX11_count_1 3 c rfl rfl rfl ?_
      refine r_aload_n 81 dX11_count_80 rfl rfl ?_
      refine g_I 84 dX11_count_81 rfl rfl rfl fi_11_153 rfl ?_
      exact r_iret dX11_count_84 rfl (.inl rfl) h.1 h.2
    · have h := h.2.2.2.2.2.1 c
      refine r_tswIn 85 dX11_count_1 4 c rfl rfl rfl ?_
      refine r_aload_n 86 dX11_count_85 rfl rfl ?_
      refine g_R 89 dX11_count_86 rfl rfl rfl fr_11_12 (sh_11_0 hS) ?_
      refine g_I 92 dX11_count_89 rfl rfl rfl fi_11_224 rfl ?_
      exact r_iret dX11_count_92 rfl (.inl rfl) h.1 h.2
    · have h := h.2.2.2.2.2.2.1 c
      refine r_tswIn 93 dX11_count_1 5 c rfl rfl rfl ?_
      refine r_aload_n 94 dX11_count_93 rfl rfl ?_
      refine g_R 97 dX11_count_94 rfl rfl rfl fr_11_12 (sh_11_0 hS) ?_
      refine r_iconst 98 dX11_count_97 rfl (InR_of rfl) ?_
      obtain ⟨r_3, M_1, hc_2, h⟩ := h
      refine v_1 (ci := 8) (C := (RX8, TX8, 13)) [vI 0] [] 101 dX11_count_98 rfl rfl rfl rfl rfl mo_X8_howManyAre ml_11_240 rfl rfl hc_2 ?_
      exact r_iret dX11_count_101 rfl (.inl rfl) h.1 h.2
    · have h := h.2.2.2.2.2.2.2.1 c
      refine r_tswIn 102 dX11_count_1 6 c rfl rfl rfl ?_
      refine r_aload_n 103 dX11_count_102 rfl rfl ?_
      refine g_R 106 dX11_count_103 rfl rfl rfl fr_11_12 (sh_11_0 hS) ?_
      obtain ⟨r_6, M_4, hc_5, h⟩ := h
      refine v_1 (ci := 8) (C := (RX8, TX8, 13)) [] [] 109 dX11_count_106 rfl rfl rfl rfl rfl mo_X8_howManyAreRight ml_11_362 rfl rfl hc_5 ?_
      exact r_iret dX11_count_109 rfl (.inl rfl) h.1 h.2
    · have h := h.2.2.2.2.2.2.2.2.1 c
      refine r_tswIn 110 dX11_count_1 7 c rfl rfl rfl ?_
      refine r_aload_n 111 dX11_count_110 rfl rfl ?_
      refine g_R 114 dX11_count_111 rfl rfl rfl fr_11_12 (sh_11_0 hS) ?_
      refine g_I 117 dX11_count_114 rfl rfl rfl fi_11_231 rfl ?_
      exact r_iret dX11_count_117 rfl (.inl rfl) h.1 h.2
    · have h := h.2.2.2.2.2.2.2.2.2.1 c
      refine r_tswIn 118 dX11_count_1 8 c rfl rfl rfl ?_
      refine r_aload_n 119 dX11_count_118 rfl rfl ?_
      refine g_R 122 dX11_count_119 rfl rfl rfl fr_11_12 (sh_11_0 hS) ?_
      refine g_I 125 dX11_count_122 rfl rfl rfl fi_11_279 rfl ?_
      exact r_iret dX11_count_125 rfl (.inl rfl) h.1 h.2
    · have h := h.2.2.2.2.2.2.2.2.2.2 c
      refine r_tswIn 126 dX11_count_1 9 c rfl rfl rfl ?_
      refine r_aload_n 127 dX11_count_126 rfl rfl ?_
      refine g_I 130 dX11_count_127 rfl rfl rfl fi_11_147 rfl ?_
      exact r_iret dX11_count_130 rfl (.inl rfl) h.1 h.2

def lettersV (Q : QT) (i what : Int) : Int := if 0 ≤ i ∧ i < nLt Q then (if what = 0 then Q 66 i.toNat else if what = 1 then Q 67 i.toNat else if what = 2 then Q 68 i.toNat else if what = 3 then Q 69 i.toNat else if what = 4 then (if Q 66 i.toNat = 1 ∧ Q 69 i.toNat = Q 64 i.toNat then 1 else 0) else if what = 5 then Q 70 i.toNat else -2) else -2
def rgtV (Q : QT) : Int := cntF (fun k => Q 66 k = 1 ∧ Q 69 k = Q 64 k) (nLt Q)
def countV (Q : QT) (what : Int) : Int := if what = 0 then Q 48 0 else if what = 1 then Q 48 1 else if what = 2 then Q 48 2 else if what = 3 then Q 3 33 else if what = 4 then Q 48 3 else if what = 5 then undV Q else if what = 6 then rgtV Q else if what = 7 then Q 48 5 else if what = 8 then Q 48 4 else if what = 9 then Q 3 29 else -1
def letN (Q : QT) (k : Nat) (s c p pl now : Int) : QT := upQ (upQ (upQ (upQ (upQ (upQ (upQ (upQ (upQ Q 62 k s) 63 k c) 64 k p) 65 k now) 66 k 0) 67 k pl) 68 k now) 69 k (-1)) 70 k (aShl 1 pl)
def letterV (Q : QT) (s c p pl : Int) : Int := if ¬ Q 48 3 = 8 ∧ (0 ≤ s ∧ s < nPp Q) ∧ (0 ≤ c ∧ c < nCv Q) ∧ (0 ≤ p ∧ p < nPp Q) ∧ ¬ s = p ∧ (0 ≤ pl ∧ pl < 8) then Q 48 3 else -1
def letterQ (Q : QT) (s c p pl : Int) : QT := if ¬ Q 48 3 = 8 ∧ (0 ≤ s ∧ s < nPp Q) ∧ (0 ≤ c ∧ c < nCv Q) ∧ (0 ≤ p ∧ p < nPp Q) ∧ ¬ s = p ∧ (0 ≤ pl ∧ pl < 8) then upQ (letN Q (nLt Q) s c p pl (Q 48 5)) 48 3 (Q 48 3 + 1) else Q
section LR
variable {l : Launch} {G : Gt} {d : Nat} {Q Q' : QT} {M M' : Mem}
theorem KX12_letters {i what : Int} (hS : Sh M.2.1) (hw : WFA Q) (hH : HoldsQ Q M.1) : Cl l G (d + 1) mX12_letters [vR (some (3, 0)), vI i, vI what] M (some (vI (lettersV Q i what))) M := by
  have h8 := hw.l.n8
  have e3 : M.1 48 0 3 = (nLt Q : Int) := (hH.1 _ _ (by unfold perF; omega)).trans (nLt_eq hw.l)
  have e : ∀ f, 62 ≤ f ∧ f ≤ 70 → M.1 f 0 i.toNat = Q f i.toNat := fun f hf => hH.1 _ _ (by unfold perF; omega)
  refine xX12_letters_0 hS ?_
  unfold lettersV
  simp only [e3, e 66 (by omega), e 67 (by omega), e 68 (by omega), e 69 (by omega), e 64 (by omega), e 70 (by omega)]
  by_cases g : 0 ≤ i ∧ i < nLt Q
  · rw [if_pos g]
    refine ⟨by unfold InR; omega, fun _ => ⟨fun c => ⟨?_, by trivial⟩, fun c => ⟨by omega, ?_, by trivial⟩, fun c => ⟨by omega, ?_, by trivial⟩, fun c => ⟨by omega, ?_, by trivial⟩, fun c => ⟨by omega, ?_, by trivial⟩, fun c => ⟨by omega, ?_, by trivial⟩, fun c => ⟨by omega, ?_, by trivial⟩⟩, fun c => absurd (by omega) c⟩
    · rw [if_neg (by omega), if_neg (by omega), if_neg (by omega), if_neg (by omega), if_neg (by omega), if_neg (by omega)]
    · rw [if_pos c]
    · rw [if_neg (by omega), if_pos c]
    · rw [if_neg (by omega), if_neg (by omega), if_pos c]
    · rw [if_neg (by omega), if_neg (by omega), if_neg (by omega), if_pos c]
    · rw [if_neg (by omega), if_neg (by omega), if_neg (by omega), if_neg (by omega), if_pos c]
    · rw [if_neg (by omega), if_neg (by omega), if_neg (by omega), if_neg (by omega), if_neg (by omega), if_pos c]
  · rw [if_neg g]
    exact ⟨by unfold InR; omega, fun c => absurd (by omega) g, fun _ => ⟨rfl, by trivial⟩⟩
theorem KX11_letters {i what : Int} (hR : RelC Q M) (hw : WFA Q) : Cl l G (d + 1) mX11_letters [vR (some (2, 0)), vI i, vI what] M (some (vI (lettersV Q i what))) M := by
  have h8 := hw.l.n8
  have hL := hR.2.1.2.2.2.2.2.2.2
  have e3 : M.1 4 0 8 = (nLt Q : Int) := hL.1.1.trans (nLt_eq hw.l)
  refine xX11_letters_0 hR.1.1.1 ?_
  unfold lettersV
  by_cases g : 0 ≤ i ∧ i < nLt Q
  · have hp : M.2.1 38 0 i.toNat = some (5, i.toNat) := hL.2.1 i.toNat (by omega)
    obtain ⟨b1, b2, b3, b4, b5, b6, b7, b8, b9, b10⟩ := (hL.2.2 i.toNat (by omega)).2
    rw [if_pos g, ← b2, ← b4, ← b5, ← b6, ← b7, ← b8, e3]
    refine ⟨fun c => by omega, fun _ => ⟨fun _ => ⟨by omega, fun c => ⟨?_, rfl⟩, fun c => ⟨_, hp, ?_, rfl⟩, fun c => ⟨_, hp, ?_, rfl⟩, fun c => ⟨_, hp, ?_, rfl⟩, fun c => ⟨_, hp, ?_, rfl⟩, fun c => ⟨_, hp, ?_, rfl⟩, fun c => ⟨_, hp, ?_, rfl⟩⟩, fun c => absurd g.2 c⟩⟩
    · rw [if_neg (by omega), if_neg (by omega), if_neg (by omega), if_neg (by omega), if_neg (by omega), if_neg (by omega)]
    · rw [if_pos c]; rfl
    · rw [if_neg (by omega), if_pos c]; rfl
    · rw [if_neg (by omega), if_neg (by omega), if_pos c]; rfl
    · rw [if_neg (by omega), if_neg (by omega), if_neg (by omega), if_pos c]; rfl
    · rw [if_neg (by omega), if_neg (by omega), if_neg (by omega), if_neg (by omega), if_pos c]; rfl
    · rw [if_neg (by omega), if_neg (by omega), if_neg (by omega), if_neg (by omega), if_neg (by omega), if_pos c]; rfl
  · rw [if_neg g, e3]
    exact ⟨fun _ => ⟨rfl, rfl⟩, fun c => ⟨fun c2 => absurd (by omega) g, fun _ => ⟨rfl, rfl⟩⟩⟩
theorem KX12_count {what : Int} (hS : Sh M.2.1) (hw : WFA Q) (hH : HoldsQ Q M.1) : Cl l G (d + 1) mX12_count [vR (some (3, 0)), vI what] M (some (vI (countV Q what))) M := by
  have h8 := hw.l.n8
  have e : ∀ i, M.1 48 0 i = Q 48 i := fun i => hH.1 _ _ (by unfold perF; omega)
  have e3 : M.1 48 0 3 = (nLt Q : Int) := (e 3).trans (nLt_eq hw.l)
  have e33 : M.1 3 0 33 = Q 3 33 := hH.1 _ _ (by unfold perF; omega)
  have e29 : M.1 3 0 29 = Q 3 29 := hH.1 _ _ (by unfold perF; omega)
  refine xX12_count_0 ?_
  refine loopUp (P := fun k : Nat => Ex l G (d + 1) mX12_count 4 [some (vR (some (3, 0))), some (vI what), some (vI (cntF (fun k => Q 66 k = 1 ∧ Q 69 k = Q 64 k) k)), some (vI (k : Int))] [] M (some (vI (countV Q what))) M) 0 (nLt Q) (by omega) ?_ ?_
  · intro k _ hk ih
    have hc := cntF_in (fun k => Q 66 k = 1 ∧ Q 69 k = Q 64 k) k
    refine xX12_count_4 hS ⟨fun c => by omega, fun _ => ⟨by omega, ?_⟩⟩
    rw [Int.toNat_natCast, hH.1 66 k (by unfold perF; omega), hH.1 69 k (by unfold perF; omega), hH.1 64 k (by unfold perF; omega)]
    refine ⟨⟨?_, by unfold InR; omega⟩, ih⟩
    unfold InR
    split <;> omega
  · have u := KX12_underWay (l := l) (G := G) (d := d) hS hw.l hH
    refine xX12_count_4 hS ⟨fun _ => ?_, fun c => absurd (by omega) c⟩
    unfold countV
    rw [e, e, e, e, e, e, e33, e29]
    refine ⟨fun c => ⟨?_, rfl⟩, fun c => ⟨?_, rfl⟩, fun c => ⟨?_, rfl⟩, fun c => ⟨?_, rfl⟩, fun c => ⟨?_, rfl⟩, fun c => ⟨?_, rfl⟩, fun c => ⟨_, _, u, ?_, rfl⟩, fun c => ⟨?_, rfl⟩, fun c => ⟨?_, rfl⟩, fun c => ⟨?_, rfl⟩, fun c => ⟨?_, rfl⟩⟩
    · rw [if_neg (by omega), if_neg (by omega), if_neg (by omega), if_neg (by omega), if_neg (by omega), if_neg (by omega), if_neg (by omega), if_neg (by omega), if_neg (by omega), if_neg (by omega)]
    · rw [if_pos c]
    · rw [if_neg (by omega), if_pos c]
    · rw [if_neg (by omega), if_neg (by omega), if_pos c]
    · rw [if_neg (by omega), if_neg (by omega), if_neg (by omega), if_pos c]
    · rw [if_neg (by omega), if_neg (by omega), if_neg (by omega), if_neg (by omega), if_pos c]
    · rw [if_neg (by omega), if_neg (by omega), if_neg (by omega), if_neg (by omega), if_neg (by omega), if_pos c]
    · rw [if_neg (by omega), if_neg (by omega), if_neg (by omega), if_neg (by omega), if_neg (by omega), if_neg (by omega), if_pos c]; rfl
    · rw [if_neg (by omega), if_neg (by omega), if_neg (by omega), if_neg (by omega), if_neg (by omega), if_neg (by omega), if_neg (by omega), if_pos c]
    · rw [if_neg (by omega), if_neg (by omega), if_neg (by omega), if_neg (by omega), if_neg (by omega), if_neg (by omega), if_neg (by omega), if_neg (by omega), if_pos c]
    · rw [if_neg (by omega), if_neg (by omega), if_neg (by omega), if_neg (by omega), if_neg (by omega), if_neg (by omega), if_neg (by omega), if_neg (by omega), if_neg (by omega), if_pos c]
theorem KX8_right (hS : Sh M.2.1) (hl : WFl Q) (hC : LetsC Q M 0) : Cl l G (d + 1) mX8_howManyAreRight [vR (some (4, 0))] M (some (vI (rgtV Q))) M := by
  have h8 := hl.n8
  have e3 : M.1 4 0 8 = (nLt Q : Int) := hC.1.1.trans (nLt_eq hl)
  refine xX8_howManyAreRight_0 ?_
  refine loopUp (P := fun k : Nat => Ex l G (d + 1) mX8_howManyAreRight 4 [some (vR (some (4, 0))), some (vI (cntF (fun k => Q 66 k = 1 ∧ Q 69 k = Q 64 k) k)), some (vI (k : Int))] [] M (some (vI (rgtV Q))) M) 0 (nLt Q) (by omega) ?_ ?_
  · intro k _ hk ih
    have hc := cntF_in (fun k => Q 66 k = 1 ∧ Q 69 k = Q 64 k) k
    obtain ⟨_, hL⟩ := hC.2.2 k hk
    have e5 : M.1 5 k 5 = Q 66 k := hL.2.2.2.1
    have e8 : M.1 5 k 8 = Q 69 k := hL.2.2.2.2.2.2.1
    have e2 : M.1 5 k 2 = Q 64 k := hL.2.1
    refine xX8_howManyAreRight_4 hS ⟨fun c => by omega, fun _ => ⟨by omega, k, by rw [Int.toNat_natCast]; exact hC.2.1 k (by omega), ?_⟩⟩
    rw [e5, e8, e2]
    refine ⟨⟨?_, by unfold InR; omega⟩, ih⟩
    unfold InR
    split <;> omega
  · exact xX8_howManyAreRight_4 hS ⟨fun _ => ⟨rfl, rfl⟩, fun c => absurd (by omega) c⟩
theorem KX11_count {what : Int} (hR : RelC Q M) (hw : WFA Q) : Cl l G (d + 2) mX11_count [vR (some (2, 0)), vI what] M (some (vI (countV Q what))) M := by
  have hL := hR.2.1.2.2.2.2.2.2.2
  obtain ⟨a1, a2, a3, a4⟩ := hR.2.1.1
  have e33 : M.1 2 0 10 = Q 3 33 := hR.1.1.2.2.2.2.1.1
  have e29 : M.1 2 0 12 = Q 3 29 := hR.2.2.1.1
  have u := KX8_howManyAre (l := l) (G := G) (d := d + 1) hR.1.1.1 hw.l hL
  have v := KX8_right (l := l) (G := G) (d := d) hR.1.1.1 hw.l hL
  refine xX11_count_0 hR.1.1.1 ?_
  unfold countV
  rw [a1, a2, a3, a4, hL.1.1, hL.1.2, e33, e29]
  refine ⟨fun c => ⟨?_, rfl⟩, fun c => ⟨?_, rfl⟩, fun c => ⟨?_, rfl⟩, fun c => ⟨?_, rfl⟩, fun c => ⟨?_, rfl⟩, fun c => ⟨?_, rfl⟩, fun c => ⟨_, _, u, ?_, rfl⟩, fun c => ⟨_, _, v, ?_, rfl⟩, fun c => ⟨?_, rfl⟩, fun c => ⟨?_, rfl⟩, fun c => ⟨?_, rfl⟩⟩
  · rw [if_neg (by omega), if_neg (by omega), if_neg (by omega), if_neg (by omega), if_neg (by omega), if_neg (by omega), if_neg (by omega), if_neg (by omega), if_neg (by omega), if_neg (by omega)]
  · rw [if_pos c]
  · rw [if_neg (by omega), if_pos c]
  · rw [if_neg (by omega), if_neg (by omega), if_pos c]
  · rw [if_neg (by omega), if_neg (by omega), if_neg (by omega), if_pos c]
  · rw [if_neg (by omega), if_neg (by omega), if_neg (by omega), if_neg (by omega), if_pos c]
  · rw [if_neg (by omega), if_neg (by omega), if_neg (by omega), if_neg (by omega), if_neg (by omega), if_pos c]
  · rw [if_neg (by omega), if_neg (by omega), if_neg (by omega), if_neg (by omega), if_neg (by omega), if_neg (by omega), if_pos c]
  · rw [if_neg (by omega), if_neg (by omega), if_neg (by omega), if_neg (by omega), if_neg (by omega), if_neg (by omega), if_neg (by omega), if_pos c]
  · rw [if_neg (by omega), if_neg (by omega), if_neg (by omega), if_neg (by omega), if_neg (by omega), if_neg (by omega), if_neg (by omega), if_neg (by omega), if_pos c]
  · rw [if_neg (by omega), if_neg (by omega), if_neg (by omega), if_neg (by omega), if_neg (by omega), if_neg (by omega), if_neg (by omega), if_neg (by omega), if_neg (by omega), if_pos c]
end LR
