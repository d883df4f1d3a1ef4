/-! heads on the reference; the end of cover -/
section RW9
variable {l : Launch} {G : Gt} {d : Nat} {M : Mem} {r : Option Vl} {M' : Mem} {t : Tp} {n sl q p : Nat} {e dp ti cn x1 x2 : Int} {o s : List (Int × Int)} {I I' I'' : IM} {c c' : Cf}
set_option maxRecDepth 4000 in
theorem xX12_heads_0 {l : Launch} {G : Gt} {d : Nat} {M M' : Mem} {r : Option Vl}  (hS : Sh M.2.1) (h : 
    ((0 ≤ (M.1 3 0 32) ∧ (M.1 3 0 32) < 8)) ∧ (∃ (M_2 : Mem), Cl l G d mX12_blanks [vR (some (3, 0))] ((upI (upI M.1 83 0 (M.1 3 0 32).toNat 0) 84 0 (M.1 3 0 32).toNat 0), M.2.1, M.2.2) none M_2 ∧ Ex l G (d + 1) mX12_heads 26 [some (vR (some (3, 0))), some (vI 1), none, none] [] M_2 r M')) : Cl l G (d + 1) mX12_heads [vR (some (3, 0))] M r M' := by
  show Ex l G (d + 1) mX12_heads 0 [some (vR (some (3, 0))), none, none, none] [] M r M'
  obtain ⟨o_1, h⟩ := h
  refine r_aload_n 1 dX12_heads_0 rfl rfl ?_
  refine g_R 4 dX12_heads_1 rfl rfl rfl fr_12_116 (sh_12_46 hS) ?_
  refine r_aload_n 5 dX12_heads_4 rfl rfl ?_
  refine g_I 8 dX12_heads_5 rfl rfl rfl fi_12_241 rfl ?_
  refine r_iconst 9 dX12_heads_8 rfl (InR_of rfl) ?_
  refine s_Z 8 10 dX12_heads_9 rfl rfl (by decide) rfl rfl o_1 (.inl rfl) ?_
  refine r_aload_n 11 dX12_heads_10 rfl rfl ?_
  refine g_R 14 dX12_heads_11 rfl rfl rfl fr_12_120 (mR_0 (sh_12_47 hS)) ?_
  refine r_aload_n 15 dX12_heads_14 rfl rfl ?_
  refine g_I 18 dX12_heads_15 rfl rfl rfl fi_12_241 (mI_0 (upI_f rfl)) ?_
  refine r_iconst 19 dX12_heads_18 rfl (InR_of rfl) ?_
  refine s_Z 8 20 dX12_heads_19 rfl rfl (by decide) rfl rfl o_1 (.inl rfl) ?_
  refine r_aload_n 21 dX12_heads_20 rfl rfl ?_
  obtain ⟨M_2, hc_3, h⟩ := h
  refine v_0 (ci := 12) (C := (RX12, TX12, 68)) [] [] 24 dX12_heads_21 rfl rfl rfl rfl rfl mo_X12_blanks ml_12_256 rfl rfl hc_3 ?_
  refine r_iconst 25 dX12_heads_24 rfl (InR_of rfl) ?_
  refine r_istore_n (ls' := [some (vR (some (3, 0))), some (vI 1), none, none]) 26 dX12_heads_25 rfl rfl rfl rfl ?_
  exact h
set_option maxRecDepth 4000 in
theorem xX12_heads_26 {l : Launch} {G : Gt} {d : Nat} {M M' : Mem} {r : Option Vl} {x1 : Int} (hStr : cCnt M.2.2 1 = 28) (h : 
    (x1 = 0 → r = none ∧ M' = M) ∧ (¬ (x1 = 0) → ∃ (r_3 : Int) (M_1 : Mem), Cl l G d mX12_isWord [vR (some (3, 0)), vR (some (1, 7))] M (some (vI r_3)) M_1 ∧ Sh M_1.2.1 ∧ (((¬ (r_3 = 0) → ((0 ≤ (M_1.1 3 0 32) ∧ (M_1.1 3 0 32) < 8)))) ∧ Ex l G (d + 1) mX12_heads 58 [some (vR (some (3, 0))), some (vI x1), some (vI (if r_3 = 0 then 0 else (if (M_1.1 83 0 (M_1.1 3 0 32).toNat) = 0 then 1 else 0 : Int) : Int)), none] [] M_1 r M'))) : Ex l G (d + 1) mX12_heads 26 [some (vR (some (3, 0))), some (vI x1), none, none] [] M r M' := by
  refine r_iload_n 27 dX12_heads_26 rfl rfl ?_
  refine r_if_eq 30 185 dX12_heads_27 rfl rfl (fun c => ?_) (fun c => ?_)
  · have h := h.1 (c)
    exact r_vret dX12_heads_185 rfl h.1 h.2
  · have h := h.2 (c)
    refine r_aload_n 31 dX12_heads_30 rfl rfl ?_
    refine r_ldcwS (j := 7) 34 dX12_heads_31 rfl ⟨rfl, rfl⟩ rfl hStr ?_
    obtain ⟨r_3, M_1, hc_2, hS, h⟩ := h
    refine v_1 (ci := 12) (C := (RX12, TX12, 68)) [vR (some (1, 7))] [] 37 dX12_heads_34 rfl rfl rfl rfl rfl mo_X12_isWord ml_12_268 rfl rfl hc_2 ?_
    obtain ⟨h0, h⟩ := h
    have hJ_4 : Ex l G (d + 1) mX12_heads 57 [some (vR (some (3, 0))), some (vI x1), none, none] [vI (if r_3 = 0 then 0 else (if (M_1.1 83 0 (M_1.1 3 0 32).toNat) = 0 then 1 else 0 : Int) : Int)] M_1 r M' := by
      refine r_istore_n (ls' := [some (vR (some (3, 0))), some (vI x1), some (vI (if r_3 = 0 then 0 else (if (M_1.1 83 0 (M_1.1 3 0 32).toNat) = 0 then 1 else 0 : Int) : Int)), none]) 58 dX12_heads_57 rfl rfl rfl rfl ?_
      exact h
    have h := h0
    refine r_if_eq 40 56 dX12_heads_37 rfl rfl (fun c => ?_) (fun c => ?_)
    · have c_5 := c
      refine r_iconst 57 dX12_heads_56 rfl (InR_of rfl) ?_
      exact (Ex.at hJ_4 rfl (show [vI 0] = [vI (if r_3 = 0 then 0 else (if (M_1.1 83 0 (M_1.1 3 0 32).toNat) = 0 then 1 else 0 : Int) : Int)] by simp only [if_pos c_5]) rfl)
    · have c_5 := c
      have h := h c_5
      have o_6 := h
      refine r_aload_n 41 dX12_heads_40 rfl rfl ?_
      refine g_R 44 dX12_heads_41 rfl rfl rfl fr_12_116 (sh_12_46 hS) ?_
      refine r_aload_n 45 dX12_heads_44 rfl rfl ?_
      refine g_I 48 dX12_heads_45 rfl rfl rfl fi_12_241 rfl ?_
      refine a_Z 8 49 dX12_heads_48 rfl rfl rfl rfl o_6 rfl ?_
      refine r_if_ne 52 56 dX12_heads_49 rfl rfl (fun c => ?_) (fun c => ?_)
      · have c_7 := c
        refine r_iconst 57 dX12_heads_56 rfl (InR_of rfl) ?_
        exact (Ex.at hJ_4 rfl (show [vI 0] = [vI (if r_3 = 0 then 0 else (if (M_1.1 83 0 (M_1.1 3 0 32).toNat) = 0 then 1 else 0 : Int) : Int)] by simp only [if_neg c_5, if_neg c_7]) rfl)
      · have c_7 := Decidable.not_not.mp c
        refine r_iconst 53 dX12_heads_52 rfl (InR_of rfl) ?_
        refine r_goto 57 dX12_heads_53 rfl ?_
        exact (Ex.at hJ_4 rfl (show [vI 1] = [vI (if r_3 = 0 then 0 else (if (M_1.1 83 0 (M_1.1 3 0 32).toNat) = 0 then 1 else 0 : Int) : Int)] by simp only [if_neg c_5, if_pos c_7]) rfl)
set_option maxRecDepth 4000 in
theorem xX12_heads_58 {l : Launch} {G : Gt} {d : Nat} {M M' : Mem} {r : Option Vl} {x1 : Int} {x2 : Int} (hStr : cCnt M.2.2 1 = 28) (h : 
    ∃ (r_3 : Int) (M_1 : Mem), Cl l G d mX12_isWord [vR (some (3, 0)), vR (some (1, 8))] M (some (vI r_3)) M_1 ∧ Sh M_1.2.1 ∧ (((¬ (r_3 = 0) → ((0 ≤ (M_1.1 3 0 32) ∧ (M_1.1 3 0 32) < 8)))) ∧ Ex l G (d + 1) mX12_heads 86 [some (vR (some (3, 0))), some (vI x1), some (vI x2), some (vI (if r_3 = 0 then 0 else (if (M_1.1 84 0 (M_1.1 3 0 32).toNat) = 0 then 1 else 0 : Int) : Int))] [] M_1 r M')) : Ex l G (d + 1) mX12_heads 58 [some (vR (some (3, 0))), some (vI x1), some (vI x2), none] [] M r M' := by
  refine r_aload_n 59 dX12_heads_58 rfl rfl ?_
  refine r_ldcwS (j := 8) 62 dX12_heads_59 rfl ⟨rfl, rfl⟩ rfl hStr ?_
  obtain ⟨r_3, M_1, hc_2, hS, h⟩ := h
  refine v_1 (ci := 12) (C := (RX12, TX12, 68)) [vR (some (1, 8))] [] 65 dX12_heads_62 rfl rfl rfl rfl rfl mo_X12_isWord ml_12_268 rfl rfl hc_2 ?_
  obtain ⟨h0, h⟩ := h
  have hJ_4 : Ex l G (d + 1) mX12_heads 85 [some (vR (some (3, 0))), some (vI x1), some (vI x2), none] [vI (if r_3 = 0 then 0 else (if (M_1.1 84 0 (M_1.1 3 0 32).toNat) = 0 then 1 else 0 : Int) : Int)] M_1 r M' := by
    refine r_istore_n (ls' := [some (vR (some (3, 0))), some (vI x1), some (vI x2), some (vI (if r_3 = 0 then 0 else (if (M_1.1 84 0 (M_1.1 3 0 32).toNat) = 0 then 1 else 0 : Int) : Int))]) 86 dX12_heads_85 rfl rfl rfl rfl ?_
    exact h
  have h := h0
  refine r_if_eq 68 84 dX12_heads_65 rfl rfl (fun c => ?_) (fun c => ?_)
  · have c_5 := c
    refine r_iconst 85 dX12_heads_84 rfl (InR_of rfl) ?_
    exact (Ex.at hJ_4 rfl (show [vI 0] = [vI (if r_3 = 0 then 0 else (if (M_1.1 84 0 (M_1.1 3 0 32).toNat) = 0 then 1 else 0 : Int) : Int)] by simp only [if_pos c_5]) rfl)
  · have c_5 := c
    have h := h c_5
    have o_6 := h
    refine r_aload_n 69 dX12_heads_68 rfl rfl ?_
    refine g_R 72 dX12_heads_69 rfl rfl rfl fr_12_120 (sh_12_47 hS) ?_
    refine r_aload_n 73 dX12_heads_72 rfl rfl ?_
    refine g_I 76 dX12_heads_73 rfl rfl rfl fi_12_241 rfl ?_
    refine a_Z 8 77 dX12_heads_76 rfl rfl rfl rfl o_6 rfl ?_
    refine r_if_ne 80 84 dX12_heads_77 rfl rfl (fun c => ?_) (fun c => ?_)
    · have c_7 := c
      refine r_iconst 85 dX12_heads_84 rfl (InR_of rfl) ?_
      exact (Ex.at hJ_4 rfl (show [vI 0] = [vI (if r_3 = 0 then 0 else (if (M_1.1 84 0 (M_1.1 3 0 32).toNat) = 0 then 1 else 0 : Int) : Int)] by simp only [if_neg c_5, if_neg c_7]) rfl)
    · have c_7 := Decidable.not_not.mp c
      refine r_iconst 81 dX12_heads_80 rfl (InR_of rfl) ?_
      refine r_goto 85 dX12_heads_81 rfl ?_
      exact (Ex.at hJ_4 rfl (show [vI 1] = [vI (if r_3 = 0 then 0 else (if (M_1.1 84 0 (M_1.1 3 0 32).toNat) = 0 then 1 else 0 : Int) : Int)] by simp only [if_neg c_5, if_pos c_7]) rfl)
set_option maxRecDepth 4000 in
theorem xX12_heads_86 {l : Launch} {G : Gt} {d : Nat} {M M' : Mem} {r : Option Vl} {x1 : Int} {x2 : Int} {x3 : Int} (hS : Sh M.2.1) (h : 
    ((0 ≤ (M.1 3 0 32) ∧ (M.1 3 0 32) < 8)) ∧ (((0 ≤ (M.1 3 0 32) ∧ (M.1 3 0 32) < 8) ∧ ((if (M.1 83 0 (M.1 3 0 32).toNat) = 0 then (if x2 = 0 then 0 else 1 : Int) else 1 : Int) = 0 ∨ (if (M.1 83 0 (M.1 3 0 32).toNat) = 0 then (if x2 = 0 then 0 else 1 : Int) else 1 : Int) = 1)) ∧ (((0 ≤ (M.1 3 0 32) ∧ (M.1 3 0 32) < 8) ∧ ((if (M.1 84 0 (M.1 3 0 32).toNat) = 0 then (if x3 = 0 then 0 else 1 : Int) else 1 : Int) = 0 ∨ (if (M.1 84 0 (M.1 3 0 32).toNat) = 0 then (if x3 = 0 then 0 else 1 : Int) else 1 : Int) = 1)) ∧ Ex l G (d + 1) mX12_heads 160 [some (vR (some (3, 0))), some (vI (if x2 = 0 then (if x3 = 0 then 0 else 1 : Int) else 1 : Int)), some (vI x2), some (vI x3)] [] ((upI (upI M.1 83 0 (M.1 3 0 32).toNat (if (M.1 83 0 (M.1 3 0 32).toNat) = 0 then (if x2 = 0 then 0 else 1 : Int) else 1 : Int)) 84 0 (M.1 3 0 32).toNat (if (M.1 84 0 (M.1 3 0 32).toNat) = 0 then (if x3 = 0 then 0 else 1 : Int) else 1 : Int)), M.2.1, M.2.2) r M'))) : Ex l G (d + 1) mX12_heads 86 [some (vR (some (3, 0))), some (vI x1), some (vI x2), some (vI x3)] [] M r M' := by
  obtain ⟨o_1, h⟩ := h
  refine r_aload_n 87 dX12_heads_86 rfl rfl ?_
  refine g_R 90 dX12_heads_87 rfl rfl rfl fr_12_116 (sh_12_46 hS) ?_
  refine r_aload_n 91 dX12_heads_90 rfl rfl ?_
  refine g_I 94 dX12_heads_91 rfl rfl rfl fi_12_241 rfl ?_
  refine r_aload_n 95 dX12_heads_94 rfl rfl ?_
  refine g_R 98 dX12_heads_95 rfl rfl rfl fr_12_116 (sh_12_46 hS) ?_
  refine r_aload_n 99 dX12_heads_98 rfl rfl ?_
  refine g_I 102 dX12_heads_99 rfl rfl rfl fi_12_241 rfl ?_
  refine a_Z 8 103 dX12_heads_102 rfl rfl rfl rfl o_1 rfl ?_
  have hJ_2 : Ex l G (d + 1) mX12_heads 115 [some (vR (some (3, 0))), some (vI x1), some (vI x2), some (vI x3)] [vI (if (M.1 83 0 (M.1 3 0 32).toNat) = 0 then (if x2 = 0 then 0 else 1 : Int) else 1 : Int), vI (M.1 3 0 32), vR (some (83, 0))] M r M' := by
    obtain ⟨⟨o_5, o_6⟩, h⟩ := h
    refine s_Z 8 116 dX12_heads_115 rfl rfl (by decide) rfl rfl o_5 o_6 ?_
    refine r_aload_n 117 dX12_heads_116 rfl rfl ?_
    refine g_R 120 dX12_heads_117 rfl rfl rfl fr_12_120 (mR_0 (sh_12_47 hS)) ?_
    refine r_aload_n 121 dX12_heads_120 rfl rfl ?_
    refine g_I 124 dX12_heads_121 rfl rfl rfl fi_12_241 (mI_0 (upI_f rfl)) ?_
    refine r_aload_n 125 dX12_heads_124 rfl rfl ?_
    refine g_R 128 dX12_heads_125 rfl rfl rfl fr_12_120 (mR_0 (sh_12_47 hS)) ?_
    refine r_aload_n 129 dX12_heads_128 rfl rfl ?_
    refine g_I 132 dX12_heads_129 rfl rfl rfl fi_12_241 (mI_0 (upI_f rfl)) ?_
    refine a_Z 8 133 dX12_heads_132 rfl rfl rfl rfl o_5 (mI_0 (upI_f rfl)) ?_
    have hJ_7 : Ex l G (d + 1) mX12_heads 145 [some (vR (some (3, 0))), some (vI x1), some (vI x2), some (vI x3)] [vI (if (M.1 84 0 (M.1 3 0 32).toNat) = 0 then (if x3 = 0 then 0 else 1 : Int) else 1 : Int), vI (M.1 3 0 32), vR (some (84, 0))] ((upI M.1 83 0 (M.1 3 0 32).toNat (if (M.1 83 0 (M.1 3 0 32).toNat) = 0 then (if x2 = 0 then 0 else 1 : Int) else 1 : Int)), M.2.1, M.2.2) r M' := by
      obtain ⟨⟨o_10, o_11⟩, h⟩ := h
      refine s_Z 8 146 dX12_heads_145 rfl rfl (by decide) rfl rfl o_10 o_11 ?_
      refine r_iload_n 147 dX12_heads_146 rfl rfl ?_
      have hJ_12 : Ex l G (d + 1) mX12_heads 159 [some (vR (some (3, 0))), some (vI x1), some (vI x2), some (vI x3)] [vI (if x2 = 0 then (if x3 = 0 then 0 else 1 : Int) else 1 : Int)] ((upI (upI M.1 83 0 (M.1 3 0 32).toNat (if (M.1 83 0 (M.1 3 0 32).toNat) = 0 then (if x2 = 0 then 0 else 1 : Int) else 1 : Int)) 84 0 (M.1 3 0 32).toNat (if (M.1 84 0 (M.1 3 0 32).toNat) = 0 then (if x3 = 0 then 0 else 1 : Int) else 1 : Int)), M.2.1, M.2.2) r M' := by
        refine r_istore_n (ls' := [some (vR (some (3, 0))), some (vI (if x2 = 0 then (if x3 = 0 then 0 else 1 : Int) else 1 : Int)), some (vI x2), some (vI x3)]) 160 dX12_heads_159 rfl rfl rfl rfl ?_
        exact h
      refine r_if_ne 150 154 dX12_heads_147 rfl rfl (fun c => ?_) (fun c => ?_)
      · have c_13 := c
        refine r_iconst 155 dX12_heads_154 rfl (InR_of rfl) ?_
        refine r_goto 159 dX12_heads_155 rfl ?_
        exact (Ex.at hJ_12 rfl (show [vI 1] = [vI (if x2 = 0 then (if x3 = 0 then 0 else 1 : Int) else 1 : Int)] by simp only [if_neg c_13]) rfl)
      · have c_13 := Decidable.not_not.mp c
        refine r_iload_n 151 dX12_heads_150 rfl rfl ?_
        refine r_if_eq 154 158 dX12_heads_151 rfl rfl (fun c => ?_) (fun c => ?_)
        · have c_14 := c
          refine r_iconst 159 dX12_heads_158 rfl (InR_of rfl) ?_
          exact (Ex.at hJ_12 rfl (show [vI 0] = [vI (if x2 = 0 then (if x3 = 0 then 0 else 1 : Int) else 1 : Int)] by simp only [if_pos c_13, if_pos c_14]) rfl)
        · have c_14 := c
          refine r_iconst 155 dX12_heads_154 rfl (InR_of rfl) ?_
          refine r_goto 159 dX12_heads_155 rfl ?_
          exact (Ex.at hJ_12 rfl (show [vI 1] = [vI (if x2 = 0 then (if x3 = 0 then 0 else 1 : Int) else 1 : Int)] by simp only [if_pos c_13, if_neg c_14]) rfl)
    refine r_if_ne 136 140 dX12_heads_133 rfl rfl (fun c => ?_) (fun c => ?_)
    · have c_8 := c
      refine r_iconst 141 dX12_heads_140 rfl (InR_of rfl) ?_
      refine r_goto 145 dX12_heads_141 rfl ?_
      exact (Ex.at hJ_7 rfl (show [vI 1, vI (M.1 3 0 32), vR (some (84, 0))] = [vI (if (M.1 84 0 (M.1 3 0 32).toNat) = 0 then (if x3 = 0 then 0 else 1 : Int) else 1 : Int), vI (M.1 3 0 32), vR (some (84, 0))] by simp only [if_neg c_8]) rfl)
    · have c_8 := Decidable.not_not.mp c
      refine r_iload_n 137 dX12_heads_136 rfl rfl ?_
      refine r_if_eq 140 144 dX12_heads_137 rfl rfl (fun c => ?_) (fun c => ?_)
      · have c_9 := c
        refine r_iconst 145 dX12_heads_144 rfl (InR_of rfl) ?_
        exact (Ex.at hJ_7 rfl (show [vI 0, vI (M.1 3 0 32), vR (some (84, 0))] = [vI (if (M.1 84 0 (M.1 3 0 32).toNat) = 0 then (if x3 = 0 then 0 else 1 : Int) else 1 : Int), vI (M.1 3 0 32), vR (some (84, 0))] by simp only [if_pos c_8, if_pos c_9]) rfl)
      · have c_9 := c
        refine r_iconst 141 dX12_heads_140 rfl (InR_of rfl) ?_
        refine r_goto 145 dX12_heads_141 rfl ?_
        exact (Ex.at hJ_7 rfl (show [vI 1, vI (M.1 3 0 32), vR (some (84, 0))] = [vI (if (M.1 84 0 (M.1 3 0 32).toNat) = 0 then (if x3 = 0 then 0 else 1 : Int) else 1 : Int), vI (M.1 3 0 32), vR (some (84, 0))] by simp only [if_pos c_8, if_neg c_9]) rfl)
  refine r_if_ne 106 110 dX12_heads_103 rfl rfl (fun c => ?_) (fun c => ?_)
  · have c_3 := c
    refine r_iconst 111 dX12_heads_110 rfl (InR_of rfl) ?_
    refine r_goto 115 dX12_heads_111 rfl ?_
    exact (Ex.at hJ_2 rfl (show [vI 1, vI (M.1 3 0 32), vR (some (83, 0))] = [vI (if (M.1 83 0 (M.1 3 0 32).toNat) = 0 then (if x2 = 0 then 0 else 1 : Int) else 1 : Int), vI (M.1 3 0 32), vR (some (83, 0))] by simp only [if_neg c_3]) rfl)
  · have c_3 := Decidable.not_not.mp c
    refine r_iload_n 107 dX12_heads_106 rfl rfl ?_
    refine r_if_eq 110 114 dX12_heads_107 rfl rfl (fun c => ?_) (fun c => ?_)
    · have c_4 := c
      refine r_iconst 115 dX12_heads_114 rfl (InR_of rfl) ?_
      exact (Ex.at hJ_2 rfl (show [vI 0, vI (M.1 3 0 32), vR (some (83, 0))] = [vI (if (M.1 83 0 (M.1 3 0 32).toNat) = 0 then (if x2 = 0 then 0 else 1 : Int) else 1 : Int), vI (M.1 3 0 32), vR (some (83, 0))] by simp only [if_pos c_3, if_pos c_4]) rfl)
    · have c_4 := c
      refine r_iconst 111 dX12_heads_110 rfl (InR_of rfl) ?_
      refine r_goto 115 dX12_heads_111 rfl ?_
      exact (Ex.at hJ_2 rfl (show [vI 1, vI (M.1 3 0 32), vR (some (83, 0))] = [vI (if (M.1 83 0 (M.1 3 0 32).toNat) = 0 then (if x2 = 0 then 0 else 1 : Int) else 1 : Int), vI (M.1 3 0 32), vR (some (83, 0))] by simp only [if_pos c_3, if_neg c_4]) rfl)
set_option maxRecDepth 4000 in
theorem xX12_heads_160 {l : Launch} {G : Gt} {d : Nat} {M M' : Mem} {r : Option Vl} {x1 : Int} {x2 : Int} {x3 : Int} (h : 
    (InR ((M.1 3 0 30) + (if x1 = 0 then 0 else 4 : Int))) ∧ (∃ (M_4 : Mem), Cl l G d mX12_blanks [vR (some (3, 0))] ((upI M.1 3 0 30 ((M.1 3 0 30) + (if x1 = 0 then 0 else 4 : Int))), M.2.1, M.2.2) none M_4 ∧ Ex l G (d + 1) mX12_heads 26 [some (vR (some (3, 0))), some (vI x1), none, none] [] M_4 r M')) : Ex l G (d + 1) mX12_heads 160 [some (vR (some (3, 0))), some (vI x1), some (vI x2), some (vI x3)] [] M r M' := by
  refine r_aload_n 161 dX12_heads_160 rfl rfl ?_
  refine r_dup 162 dX12_heads_161 rfl rfl ?_
  refine g_I 165 dX12_heads_162 rfl rfl rfl fi_12_218 rfl ?_
  refine r_iload_n 166 dX12_heads_165 rfl rfl ?_
  have hJ_1 : Ex l G (d + 1) mX12_heads 174 [some (vR (some (3, 0))), some (vI x1), some (vI x2), some (vI x3)] [vI (if x1 = 0 then 0 else 4 : Int), vI (M.1 3 0 30), vR (some (3, 0))] M r M' := by
    obtain ⟨o_3, h⟩ := h
    refine r_iadd 175 dX12_heads_174 rfl o_3 ?_
    refine p_I 178 dX12_heads_175 rfl rfl rfl rfl pf_12_218 (.inl rfl) rfl ?_
    refine r_aload_n 179 dX12_heads_178 rfl rfl ?_
    obtain ⟨M_4, hc_5, h⟩ := h
    refine v_0 (ci := 12) (C := (RX12, TX12, 68)) [] [] 182 dX12_heads_179 rfl rfl rfl rfl rfl mo_X12_blanks ml_12_256 rfl rfl hc_5 ?_
    refine r_goto 26 dX12_heads_182 rfl ?_
    exact Ex.weak h ⟨rfl, rfl, trivial⟩
  refine r_if_eq 169 173 dX12_heads_166 rfl rfl (fun c => ?_) (fun c => ?_)
  · have c_2 := c
    refine r_iconst 174 dX12_heads_173 rfl (InR_of rfl) ?_
    exact (Ex.at hJ_1 rfl (show [vI 0, vI (M.1 3 0 30), vR (some (3, 0))] = [vI (if x1 = 0 then 0 else 4 : Int), vI (M.1 3 0 30), vR (some (3, 0))] by simp only [if_pos c_2]) rfl)
  · have c_2 := c
    refine r_iconst 170 dX12_heads_169 rfl (InR_of rfl) ?_
    refine r_goto 174 dX12_heads_170 rfl ?_
    exact (Ex.at hJ_1 rfl (show [vI 4, vI (M.1 3 0 30), vR (some (3, 0))] = [vI (if x1 = 0 then 0 else 4 : Int), vI (M.1 3 0 30), vR (some (3, 0))] by simp only [if_neg c_2]) rfl)

/-- the words ahead: only, then -/
def hdP (t : Tp) (n : Nat) : Nat → Nat → Bool → Bool → Nat × Bool × Bool
  | 0, p, a, b => (p, a, b)
  | k + 1, p, a, b => if isW t n 5 p = true ∧ a = false then hdP t n k (bl t n (p + 4)) true b else if isW t n 6 p = true ∧ b = false then hdP t n k (bl t n (p + 4)) a true else (p, a, b)
def hdR (t : Tp) (n : Nat) : Nat × Bool × Bool := hdP t n 2 (bl t n 0) false false
def bZ (a : Bool) : Int := if a = true then 1 else 0
def nF (a b : Bool) : Nat := (if a = true then 0 else 1) + (if b = true then 0 else 1)
def HdS (sl : Nat) (t : Tp) (n p : Nat) (a b : Bool) (I : IM) : Prop := RTp t n I ∧ (I 3 0 32 = (sl : Int) ∧ sl < 8) ∧ I 3 0 30 = (p : Int) ∧ I 83 0 sl = bZ a ∧ I 84 0 sl = bZ b
def frHd (sl : Nat) (I I' : IM) : Prop := ∀ f k i, ¬ (k = 0 ∧ ((f = 3 ∧ i = 30) ∨ ((f = 83 ∨ f = 84) ∧ i = sl))) → I' f k i = I f k i
theorem frHd.tr (h : frHd sl I I') (h' : frHd sl I' I'') : frHd sl I I'' := fun f k i hn => (h' f k i hn).trans (h f k i hn)
theorem frHd.up {f i : Nat} {v : Int} (h : (f = 3 ∧ i = 30) ∨ ((f = 83 ∨ f = 84) ∧ i = sl)) : frHd sl I (upI I f 0 i v) := fun f' k' i' hn => upI_ne (by omega)
theorem only_then (h : isW t n 5 p = true) : ¬ isW t n 6 p = true := by
  intro h'
  have a := (isW_i.mp h).2 0 (by decide)
  have b := (isW_i.mp h').2 0 (by decide)
  rw [a] at b
  exact absurd b (by decide +kernel)
theorem hd_26 : ∀ (k : Nat) {M : Mem} {p : Nat} {a b : Bool}, nF a b ≤ k → Sh M.2.1 → cCnt M.2.2 1 = 28 → HdS sl t n p a b M.1 → p ≤ n → bl t n p = p → ∃ I', Ex l G (d + 5) mX12_heads 26 [some (vR (some (3, 0))), some (vI 1), none, none] [] M none (I', M.2.1, M.2.2) ∧ frHd sl M.1 I' ∧ HdS sl t n (hdP t n k p a b).1 (hdP t n k p a b).2.1 (hdP t n k p a b).2.2 I' ∧ (hdP t n k p a b).1 ≤ n := by
  have one : ∀ {M : Mem} {p : Nat} {a b : Bool}, Sh M.2.1 → cCnt M.2.2 1 = 28 → HdS sl t n p a b M.1 → p ≤ n → bl t n p = p →
      ∃ (x : Int) (q : Nat) (a' b' : Bool), (if isW t n 5 p = true ∧ a = false then x = 1 ∧ q = bl t n (p + 4) ∧ a' = true ∧ b' = b else if isW t n 6 p = true ∧ b = false then x = 1 ∧ q = bl t n (p + 4) ∧ a' = a ∧ b' = true else x = 0 ∧ q = p ∧ a' = a ∧ b' = b) ∧
        ∃ I1 : IM, (∀ {r M'}, Ex l G (d + 5) mX12_heads 26 [some (vR (some (3, 0))), some (vI x), none, none] [] (I1, M.2.1, M.2.2) r M' → Ex l G (d + 5) mX12_heads 26 [some (vR (some (3, 0))), some (vI 1), none, none] [] M r M') ∧ frHd sl M.1 I1 ∧ HdS sl t n q a' b' I1 ∧ q ≤ n ∧ bl t n q = q := by
    intro M p a b hS hStr h hp hb
    obtain ⟨h1, ⟨h2, h2'⟩, h3, h4, h5⟩ := h
    have w0 := KX12_isWord (l := l) (G := G) (d := d) (j := 7) hS hStr (by omega) h1 h3 hp
    have w1 := KX12_isWord (l := l) (G := G) (d := d) (j := 8) hS hStr (by omega) h1 h3 hp
    have e32 : (M.1 3 0 32).toNat = sl := by omega
    have hn := h1.2.1
    -- the flags' values
    have go : ∀ (x2 x3 : Int) (a' b' : Bool) (q : Nat), (if (if isW t n 7 p = true then (1 : Int) else 0) = 0 then (0 : Int) else (if M.1 83 0 (M.1 3 0 32).toNat = 0 then 1 else 0)) = x2 → (if (if isW t n 8 p = true then (1 : Int) else 0) = 0 then (0 : Int) else (if M.1 84 0 (M.1 3 0 32).toNat = 0 then 1 else 0)) = x3 → (if M.1 83 0 sl = 0 then (if x2 = 0 then 0 else 1 : Int) else 1) = bZ a' → (if M.1 84 0 sl = 0 then (if x3 = 0 then 0 else 1 : Int) else 1) = bZ b' → p + (if (if x2 = 0 then (if x3 = 0 then 0 else 1 : Int) else 1) = 0 then 0 else 4) ≤ n → q = bl t n (p + (if (if x2 = 0 then (if x3 = 0 then 0 else 1 : Int) else 1) = 0 then 0 else 4)) →
        ∃ I1 : IM, (∀ {r M'}, Ex l G (d + 5) mX12_heads 26 [some (vR (some (3, 0))), some (vI (if x2 = 0 then (if x3 = 0 then 0 else 1 : Int) else 1)), none, none] [] (I1, M.2.1, M.2.2) r M' → Ex l G (d + 5) mX12_heads 26 [some (vR (some (3, 0))), some (vI 1), none, none] [] M r M') ∧ frHd sl M.1 I1 ∧ HdS sl t n q a' b' I1 ∧ q ≤ n ∧ bl t n q = q := by
      intro x2 x3 a' b' q g1 g2 g3 g4 g5 g6
      obtain ⟨W, hW⟩ : ∃ W : Nat, W = (if (if x2 = 0 then (if x3 = 0 then 0 else 1 : Int) else 1) = 0 then 0 else 4) := ⟨_, rfl⟩
      rw [← hW] at g5 g6
      have hWI : (if (if x2 = 0 then (if x3 = 0 then 0 else 1 : Int) else 1) = 0 then 0 else 4 : Int) = (W : Int) := by
        rw [hW]
        by_cases g : (if x2 = 0 then (if x3 = 0 then 0 else 1 : Int) else 1) = 0
        · rw [if_pos g, if_pos g]; rfl
        · rw [if_neg g, if_neg g]; rfl
      have z1 : ∀ a : Bool, bZ a = 0 ∨ bZ a = 1 := by intro a; cases a; exact .inl rfl; exact .inr rfl
      have T1 : RTp t n (upI (upI (upI M.1 83 0 sl (bZ a')) 84 0 sl (bZ b')) 3 0 30 ((p : Int) + W)) := ((h1.up (by omega)).up (by omega)).up (by omega)
      have A30 : (upI (upI (upI M.1 83 0 sl (bZ a')) 84 0 sl (bZ b')) 3 0 30 ((p : Int) + W)) 3 0 30 = ((p + W : Nat) : Int) := by rw [upI_s]; omega
      have kb := KX12_blanks (l := l) (G := G) (d := d + 4) (t := t) (n := n) _ (M := (upI (upI (upI M.1 83 0 sl (bZ a')) 84 0 sl (bZ b')) 3 0 30 ((p : Int) + W), M.2.1, M.2.2)) (p := p + W) rfl hS T1 A30 g5
      refine ⟨upI (upI (upI (upI M.1 83 0 sl (bZ a')) 84 0 sl (bZ b')) 3 0 30 ((p : Int) + W)) 3 0 30 ((bl t n (p + W) : Nat) : Int), fun {r M'} x => xX12_heads_26 hStr ⟨fun c => by omega, fun _ => ⟨_, M, w0, hS, fun _ => by omega, xX12_heads_58 hStr ⟨_, M, w1, hS, fun _ => by omega, xX12_heads_86 hS ⟨by omega, ⟨by omega, ?_⟩, ⟨by omega, ?_⟩, xX12_heads_160 ⟨?_, (upI (upI (upI (upI M.1 83 0 sl (bZ a')) 84 0 sl (bZ b')) 3 0 30 ((p : Int) + W)) 3 0 30 ((bl t n (p + W) : Nat) : Int), M.2.1, M.2.2), ?_, ?_⟩⟩⟩⟩⟩, ?_, ?_, ?_, ?_⟩
      · rw [g1, e32, g3]; exact z1 a'
      · rw [g2, e32, g4]; exact z1 b'
      · dsimp only
        rw [g1, g2, hWI, upI_ne (by omega), upI_ne (by omega), h3]
        unfold InR; omega
      · dsimp only
        rw [g1, g2, e32, g3, g4, hWI]
        rw [show (upI (upI M.1 83 0 sl (bZ a')) 84 0 sl (bZ b')) 3 0 30 = M.1 3 0 30 by rw [upI_ne (by omega), upI_ne (by omega)], h3]
        exact kb
      · rw [g1, g2]; exact x
      · exact (((frHd.up (by omega)).tr (frHd.up (by omega))).tr (frHd.up (by omega))).tr (frHd.up (by omega))
      · rw [g6]
        refine ⟨T1.up (by omega), ⟨?_, h2'⟩, ?_, ?_, ?_⟩
        · rw [upI_ne (by omega), upI_ne (by omega), upI_ne (by omega), upI_ne (by omega)]; exact h2
        · rw [upI_s]
        · rw [upI_ne (by omega), upI_ne (by omega), upI_ne (by omega), upI_s]
        · rw [upI_ne (by omega), upI_ne (by omega), upI_s]
      · rw [g6]; exact (rn_ge _ _ _ g5).2
      · rw [g6]; exact rn_rn _ _ _ g5
    have y0 : bZ false = 0 := rfl
    have y1 : bZ true = 1 := rfl
    by_cases c5 : isW t n 5 p = true ∧ a = false
    · have h7 : isW t n 7 p = true := c5.1
      have h8 : ¬ isW t n 8 p = true := only_then c5.1
      have ea : M.1 83 0 sl = 0 := by rw [h4, c5.2]; rfl
      have hpn : p + 4 ≤ n := isW_n hp c5.1
      obtain ⟨I1, k1, k2⟩ := go 1 0 true b (bl t n (p + 4)) (by rw [if_pos h7, if_neg (by omega), e32, if_pos ea]) (by rw [if_neg h8, if_pos rfl]) (by rw [if_pos ea]; rfl) (by rw [if_pos rfl, h5]; cases b <;> rfl) (by rw [if_neg (by omega)]; exact hpn) (by rw [if_neg (show ¬ (1 : Int) = 0 by omega), if_neg (show ¬ (1 : Int) = 0 by omega)])
      exact ⟨1, _, true, b, by rw [if_pos c5]; exact ⟨rfl, rfl, rfl, rfl⟩, I1, k1, k2⟩
    · have x20 : (if (if isW t n 7 p = true then (1 : Int) else 0) = 0 then (0 : Int) else (if M.1 83 0 (M.1 3 0 32).toNat = 0 then 1 else 0)) = 0 := by
        by_cases g : isW t n 7 p = true
        · have ga : a = true := by
            cases a
            · exact absurd ⟨g, rfl⟩ c5
            · rfl
          rw [if_pos g, if_neg (by omega), e32, h4, ga, if_neg (by rw [y1]; omega)]
        · rw [if_neg g, if_pos rfl]
      have xa : (if M.1 83 0 sl = 0 then (if (0 : Int) = 0 then 0 else 1 : Int) else 1) = bZ a := by rw [h4]; cases a <;> rfl
      by_cases c6 : isW t n 6 p = true ∧ b = false
      · have h8 : isW t n 8 p = true := c6.1
        have eb : M.1 84 0 sl = 0 := by rw [h5, c6.2]; rfl
        have hpn : p + 4 ≤ n := isW_n hp c6.1
        obtain ⟨I1, k1, k2⟩ := go 0 1 a true (bl t n (p + 4)) x20 (by rw [if_pos h8, if_neg (by omega), e32, if_pos eb]) xa (by rw [if_pos eb]; rfl) (by rw [if_pos rfl, if_neg (by omega)]; exact hpn) (by rw [if_pos rfl, if_neg (show ¬ (1 : Int) = 0 by omega), if_neg (show ¬ (1 : Int) = 0 by omega)])
        exact ⟨1, _, a, true, by rw [if_neg c5, if_pos c6]; exact ⟨rfl, rfl, rfl, rfl⟩, I1, k1, k2⟩
      · have x30 : (if (if isW t n 8 p = true then (1 : Int) else 0) = 0 then (0 : Int) else (if M.1 84 0 (M.1 3 0 32).toNat = 0 then 1 else 0)) = 0 := by
          by_cases g : isW t n 8 p = true
          · have gb : b = true := by
              cases b
              · exact absurd ⟨g, rfl⟩ c6
              · rfl
            rw [if_pos g, if_neg (by omega), e32, h5, gb, if_neg (by rw [y1]; omega)]
          · rw [if_neg g, if_pos rfl]
        obtain ⟨I1, k1, k2⟩ := go 0 0 a b p x20 x30 xa (by rw [h5]; cases b <;> rfl) (by rw [if_pos rfl, if_pos rfl, if_pos rfl]; omega) (by rw [if_pos rfl, if_pos rfl, if_pos rfl]; exact hb.symm)
        exact ⟨0, _, a, b, by rw [if_neg c5, if_neg c6]; exact ⟨rfl, rfl, rfl, rfl⟩, I1, k1, k2⟩
  intro k
  induction k with
  | zero =>
    intro M p a b hf hS hStr h hp hb
    have ha : a = true ∧ b = true := by
      cases a <;> cases b <;> first | exact ⟨rfl, rfl⟩ | exact absurd hf (by decide)
    obtain ⟨x, q, a', b', g, I1, k1, k2, k3, k4, k5⟩ := one hS hStr h hp hb
    rw [if_neg (by rw [ha.1]; simp), if_neg (by rw [ha.2]; simp)] at g
    obtain ⟨rfl, rfl, rfl, rfl⟩ := g
    exact ⟨I1, k1 (xX12_heads_26 hStr ⟨fun _ => ⟨rfl, rfl⟩, fun c => absurd rfl c⟩), k2, k3, k4⟩
  | succ k ih =>
    intro M p a b hf hS hStr h hp hb
    obtain ⟨x, q, a', b', g, I1, k1, k2, k3, k4, k5⟩ := one hS hStr h hp hb
    by_cases c5 : isW t n 5 p = true ∧ a = false
    · rw [if_pos c5] at g
      obtain ⟨rfl, rfl, rfl, rfl⟩ := g
      obtain ⟨I2, j1, j2, j3⟩ := ih (M := (I1, M.2.1, M.2.2)) (by have := c5.2; subst this; cases b' <;> simp [nF] at hf ⊢ <;> omega) hS hStr k3 k4 k5
      refine ⟨I2, k1 j1, k2.tr j2, ?_⟩
      rw [show hdP t n (k + 1) p a b' = hdP t n k (bl t n (p + 4)) true b' by show (if _ then _ else _) = _; rw [if_pos c5]]
      exact j3
    · rw [if_neg c5] at g
      by_cases c6 : isW t n 6 p = true ∧ b = false
      · rw [if_pos c6] at g
        obtain ⟨rfl, rfl, rfl, rfl⟩ := g
        obtain ⟨I2, j1, j2, j3⟩ := ih (M := (I1, M.2.1, M.2.2)) (by have := c6.2; subst this; cases a' <;> simp [nF] at hf ⊢ <;> omega) hS hStr k3 k4 k5
        refine ⟨I2, k1 j1, k2.tr j2, ?_⟩
        rw [show hdP t n (k + 1) p a' b = hdP t n k (bl t n (p + 4)) a' true by show (if _ then _ else _) = _; rw [if_neg c5, if_pos c6]]
        exact j3
      · rw [if_neg c6] at g
        obtain ⟨rfl, rfl, rfl, rfl⟩ := g
        refine ⟨I1, k1 (xX12_heads_26 hStr ⟨fun _ => ⟨rfl, rfl⟩, fun c => absurd rfl c⟩), k2, ?_⟩
        rw [show hdP t n (k + 1) q a' b' = (q, a', b') by show (if _ then _ else _) = _; rw [if_neg c5, if_neg c6]]
        exact ⟨k3, k4⟩
end RW9
