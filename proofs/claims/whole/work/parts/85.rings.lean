/-! rings -/
set_option maxRecDepth 4000 in
theorem xX12_rings_0 {l : Launch} {G : Gt} {d : Nat} {M M' : Mem} {r : Option Vl} {x1 : Int} {x2 : Int} {x3 : Int} {x4 : Int} (hS : Sh M.2.1) (h : 
    (InR ((M.1 3 0 33) - 1)) ∧ ((¬ (0 ≤ x1 ∧ x1 < (M.1 3 0 33)) → r = some (vI (-1)) ∧ M' = M) ∧ (0 ≤ x1 ∧ x1 < (M.1 3 0 33) → (InR ((M.1 48 0 0) - 1)) ∧ ((¬ (0 ≤ x2 ∧ x2 < (M.1 48 0 0)) → r = some (vI (-1)) ∧ M' = M) ∧ (0 ≤ x2 ∧ x2 < (M.1 48 0 0) → (¬ (0 ≤ x3 ∧ x3 ≤ 999) → r = some (vI (-1)) ∧ M' = M) ∧ (0 ≤ x3 ∧ x3 ≤ 999 → (0 ≤ x4 ∧ x4 ≤ 1 → ∃ (M_3 : Mem), Cl l G (d + 1) mX12_lays [vR (some (3, 0)), vI 0, vI x3] M none M_3 ∧ (∃ (M_5 : Mem), Cl l G (d + 1) mX12_lays [vR (some (3, 0)), vI 1, vI x3] M_3 none M_5 ∧ Ex l G (d + 2) mX12_rings 51 [some (vR (some (3, 0))), some (vI x1), some (vI x2), some (vI x3), some (vI x4), some (vI 0), none, none, none, none, none, none] [] M_5 r M')) ∧ (¬ (0 ≤ x4 ∧ x4 ≤ 1) → r = some (vI (-1)) ∧ M' = M))))))) : Cl l G (d + 2) mX12_rings [vR (some (3, 0)), vI x1, vI x2, vI x3, vI x4] M r M' := by
  show Ex l G (d + 2) mX12_rings 0 [some (vR (some (3, 0))), some (vI x1), some (vI x2), some (vI x3), some (vI x4), none, none, none, none, none, none, none] [] M r M'
  obtain ⟨o_1, h⟩ := h
  refine r_aload_n 1 dX12_rings_0 rfl rfl ?_
  refine r_iload_n 2 dX12_rings_1 rfl rfl ?_
  refine v_1 (ci := 12) (C := (RX12, TX12, 68)) [vI x1] [] 5 dX12_rings_2 rfl rfl rfl rfl rfl mo_X12_isCover ml_12_331 rfl rfl (KX12_isCover o_1) ?_
  refine r_if_eq 8 34 dX12_rings_5 rfl rfl (fun c => ?_) (fun c => ?_)
  · have h := h.1 (b2_0.mp c)
    refine r_iconst 35 dX12_rings_34 rfl (InR_of rfl) ?_
    exact r_iret dX12_rings_35 rfl (.inl rfl) h.1 h.2
  · have h := h.2 (b2_1.mp c)
    obtain ⟨o_2, h⟩ := h
    refine r_aload_n 9 dX12_rings_8 rfl rfl ?_
    refine r_iload_n 10 dX12_rings_9 rfl rfl ?_
    refine v_1 (ci := 12) (C := (RX12, TX12, 68)) [vI x2] [] 13 dX12_rings_10 rfl rfl rfl rfl rfl mo_X12_isPerson ml_12_175 rfl rfl (KX12_isPerson hS o_2) ?_
    refine r_if_eq 16 34 dX12_rings_13 rfl rfl (fun c => ?_) (fun c => ?_)
    · have h := h.1 (b2_0.mp c)
      refine r_iconst 35 dX12_rings_34 rfl (InR_of rfl) ?_
      exact r_iret dX12_rings_35 rfl (.inl rfl) h.1 h.2
    · have h := h.2 (b2_1.mp c)
      refine r_iload_n 17 dX12_rings_16 rfl rfl ?_
      refine c_1 [vI x3] [] 20 dX12_rings_17 rfl rfl mo_X12_isDay ml_12_170 rfl rfl (KX12_isDay) ?_
      refine r_if_eq 23 34 dX12_rings_20 rfl rfl (fun c => ?_) (fun c => ?_)
      · have h := h.1 (b2_0.mp c)
        refine r_iconst 35 dX12_rings_34 rfl (InR_of rfl) ?_
        exact r_iret dX12_rings_35 rfl (.inl rfl) h.1 h.2
      · have h := h.2 (b2_1.mp c)
        refine r_iload 25 dX12_rings_23 rfl rfl ?_
        refine r_i2l 26 dX12_rings_25 rfl ?_
        refine r_lconst (x := 0) 27 dX12_rings_26 rfl (by decide +kernel) (InR_of rfl) ?_
        refine r_lconst (x := 1) 28 dX12_rings_27 rfl (by decide +kernel) (InR_of rfl) ?_
        refine c_1 [vL x4, vL 0, vL 1] [] 31 dX12_rings_28 rfl rfl mo_X12_in ml_12_154 rfl rfl (KX12_in) ?_
        refine r_if_ne 34 36 dX12_rings_31 rfl rfl (fun c => ?_) (fun c => ?_)
        · have h := h.1 (b2_1.mp c)
          refine r_aload_n 37 dX12_rings_36 rfl rfl ?_
          refine r_iconst 38 dX12_rings_37 rfl (InR_of rfl) ?_
          refine r_iload_n 39 dX12_rings_38 rfl rfl ?_
          obtain ⟨M_3, hc_4, h⟩ := h
          refine v_0 (ci := 12) (C := (RX12, TX12, 68)) [vI 0, vI x3] [] 42 dX12_rings_39 rfl rfl rfl rfl rfl mo_X12_lays ml_12_198 rfl rfl hc_4 ?_
          refine r_aload_n 43 dX12_rings_42 rfl rfl ?_
          refine r_iconst 44 dX12_rings_43 rfl (InR_of rfl) ?_
          refine r_iload_n 45 dX12_rings_44 rfl rfl ?_
          obtain ⟨M_5, hc_6, h⟩ := h
          refine v_0 (ci := 12) (C := (RX12, TX12, 68)) [vI 1, vI x3] [] 48 dX12_rings_45 rfl rfl rfl rfl rfl mo_X12_lays ml_12_198 rfl rfl hc_6 ?_
          refine r_iconst 49 dX12_rings_48 rfl (InR_of rfl) ?_
          refine r_istore (ls' := [some (vR (some (3, 0))), some (vI x1), some (vI x2), some (vI x3), some (vI x4), some (vI 0), none, none, none, none, none, none]) 51 dX12_rings_49 rfl rfl rfl rfl ?_
          exact h
        · have h := h.2 (b2_0.mp (Decidable.not_not.mp c))
          refine r_iconst 35 dX12_rings_34 rfl (InR_of rfl) ?_
          exact r_iret dX12_rings_35 rfl (.inl rfl) h.1 h.2
set_option maxRecDepth 4000 in
theorem xX12_rings_51 {l : Launch} {G : Gt} {d : Nat} {M M' : Mem} {r : Option Vl} {x1 : Int} {x2 : Int} {x3 : Int} {x4 : Int} {x5 : Int} (hS : Sh M.2.1) (h : 
    (8 ≤ x5 → Ex l G (d + 2) mX12_rings 100 [some (vR (some (3, 0))), some (vI x1), some (vI x2), some (vI x3), some (vI x4), some (vI 0), some (vI 0), some (vI 0), none, none, none, none] [] M r M') ∧ (¬ (8 ≤ x5) → ∃ (r_3 : Int) (M_1 : Mem), Cl l G (d + 1) mX12_asks [vR (some (3, 0)), vI x1, vI x2, vI x5] M (some (vI r_3)) M_1 ∧ ((0 ≤ x5 ∧ x5 < 8) ∧ InR (x5 + 1)) ∧ Ex l G (d + 2) mX12_rings 51 [some (vR (some (3, 0))), some (vI x1), some (vI x2), some (vI x3), some (vI x4), some (vI (x5 + 1)), none, none, none, none, none, none] [] ((upI M_1.1 87 0 x5.toNat (if r_3 = 1 then (M_1.1 3 0 49) else (-1) : Int)), M_1.2.1, M_1.2.2) r M')) : Ex l G (d + 2) mX12_rings 51 [some (vR (some (3, 0))), some (vI x1), some (vI x2), some (vI x3), some (vI x4), some (vI x5), none, none, none, none, none, none] [] M r M' := by
  refine r_iload 53 dX12_rings_51 rfl rfl ?_
  refine r_bipush 55 dX12_rings_53 rfl rfl ?_
  refine r_icmp_ge 58 91 dX12_rings_55 rfl rfl (fun c => ?_) (fun c => ?_)
  · have h := h.1 (c)
    refine r_iconst 92 dX12_rings_91 rfl (InR_of rfl) ?_
    refine r_istore (ls' := [some (vR (some (3, 0))), some (vI x1), some (vI x2), some (vI x3), some (vI x4), some (vI 0), none, none, none, none, none, none]) 94 dX12_rings_92 rfl rfl rfl rfl ?_
    refine r_iconst 95 dX12_rings_94 rfl (InR_of rfl) ?_
    refine r_istore (ls' := [some (vR (some (3, 0))), some (vI x1), some (vI x2), some (vI x3), some (vI x4), some (vI 0), some (vI 0), none, none, none, none, none]) 97 dX12_rings_95 rfl rfl rfl rfl ?_
    refine r_iconst 98 dX12_rings_97 rfl (InR_of rfl) ?_
    refine r_istore (ls' := [some (vR (some (3, 0))), some (vI x1), some (vI x2), some (vI x3), some (vI x4), some (vI 0), some (vI 0), some (vI 0), none, none, none, none]) 100 dX12_rings_98 rfl rfl rfl rfl ?_
    exact h
  · have h := h.2 (c)
    refine r_aload_n 59 dX12_rings_58 rfl rfl ?_
    refine g_R 62 dX12_rings_59 rfl rfl rfl fr_12_129 (sh_12_53 hS) ?_
    refine r_iload 64 dX12_rings_62 rfl rfl ?_
    refine r_aload_n 65 dX12_rings_64 rfl rfl ?_
    refine r_iload_n 66 dX12_rings_65 rfl rfl ?_
    refine r_iload_n 67 dX12_rings_66 rfl rfl ?_
    refine r_iload 69 dX12_rings_67 rfl rfl ?_
    obtain ⟨r_3, M_1, hc_2, h⟩ := h
    refine v_1 (ci := 12) (C := (RX12, TX12, 68)) [vI x1, vI x2, vI x5] [vI x5, vR (some (87, 0))] 72 dX12_rings_69 rfl rfl rfl rfl rfl mo_X12_asks ml_12_352 rfl rfl hc_2 ?_
    refine r_iconst 73 dX12_rings_72 rfl (InR_of rfl) ?_
    have hJ_4 : Ex l G (d + 2) mX12_rings 84 [some (vR (some (3, 0))), some (vI x1), some (vI x2), some (vI x3), some (vI x4), some (vI x5), none, none, none, none, none, none] [vI (if r_3 = 1 then (M_1.1 3 0 49) else (-1) : Int), vI x5, vR (some (87, 0))] M_1 r M' := by
      obtain ⟨⟨o_6, o_7⟩, h⟩ := h
      refine s_I 8 85 dX12_rings_84 rfl rfl (by decide) rfl rfl o_6 ?_
      refine r_iinc (ls' := [some (vR (some (3, 0))), some (vI x1), some (vI x2), some (vI x3), some (vI x4), some (vI (x5 + 1)), none, none, none, none, none, none]) 88 dX12_rings_85 rfl rfl rfl rfl o_7 rfl ?_
      refine r_goto 51 dX12_rings_88 rfl ?_
      exact h
    refine r_icmp_ne 76 83 dX12_rings_73 rfl rfl (fun c => ?_) (fun c => ?_)
    · have c_5 := c
      refine r_iconst 84 dX12_rings_83 rfl (InR_of rfl) ?_
      exact (Ex.at hJ_4 rfl (show [vI (-1), vI x5, vR (some (87, 0))] = [vI (if r_3 = 1 then (M_1.1 3 0 49) else (-1) : Int), vI x5, vR (some (87, 0))] by simp only [if_neg c_5]) rfl)
    · have c_5 := Decidable.not_not.mp c
      refine r_aload_n 77 dX12_rings_76 rfl rfl ?_
      refine g_I 80 dX12_rings_77 rfl rfl rfl fi_12_340 rfl ?_
      refine r_goto 84 dX12_rings_80 rfl ?_
      exact (Ex.at hJ_4 rfl (show [vI (M_1.1 3 0 49), vI x5, vR (some (87, 0))] = [vI (if r_3 = 1 then (M_1.1 3 0 49) else (-1) : Int), vI x5, vR (some (87, 0))] by simp only [if_pos c_5]) rfl)
set_option maxRecDepth 4000 in
theorem xX12_rings_100 {l : Launch} {G : Gt} {d : Nat} {M M' : Mem} {r : Option Vl} {x1 : Int} {x2 : Int} {x3 : Int} {x4 : Int} {x5 : Int} {x6 : Int} {x7 : Int} (hS : Sh M.2.1) (h : 
    (8 ≤ x7 → r = some (vI (if x4 = 0 then x5 else x6 : Int)) ∧ M' = M) ∧ (¬ (8 ≤ x7) → ((0 ≤ x7 ∧ x7 < 8)) ∧ ((¬ ((M.1 87 0 x7.toNat) = (-1)) → ∃ (r_6 : Int) (M_4 : Mem), Cl l G (d + 1) mX12_roadOf [vR (some (3, 0)), vI x7, vI (M.1 87 0 x7.toNat)] M (some (vI r_6)) M_4 ∧ ((0 ≤ r_6 ∧ r_6 < 16)) ∧ Ex l G (d + 2) mX12_rings 144 [some (vR (some (3, 0))), some (vI x1), some (vI x2), some (vI x3), some (vI x4), some (vI x5), some (vI x6), some (vI x7), some (vI (M.1 87 0 x7.toNat)), some (vI (M_4.1 55 0 r_6.toNat)), some (vI 0), none] [] M_4 r M') ∧ ((M.1 87 0 x7.toNat) = (-1) → Ex l G (d + 2) mX12_rings 144 [some (vR (some (3, 0))), some (vI x1), some (vI x2), some (vI x3), some (vI x4), some (vI x5), some (vI x6), some (vI x7), some (vI (M.1 87 0 x7.toNat)), some (vI 0), some (vI 0), none] [] M r M')))) : Ex l G (d + 2) mX12_rings 100 [some (vR (some (3, 0))), some (vI x1), some (vI x2), some (vI x3), some (vI x4), some (vI x5), some (vI x6), some (vI x7), none, none, none, none] [] M r M' := by
  refine r_iload 102 dX12_rings_100 rfl rfl ?_
  refine r_bipush 104 dX12_rings_102 rfl rfl ?_
  refine r_icmp_ge 107 254 dX12_rings_104 rfl rfl (fun c => ?_) (fun c => ?_)
  · have h := h.1 (c)
    refine r_iload 256 dX12_rings_254 rfl rfl ?_
    have hJ_1 : Ex l G (d + 2) mX12_rings 266 [some (vR (some (3, 0))), some (vI x1), some (vI x2), some (vI x3), some (vI x4), some (vI x5), some (vI x6), some (vI x7), none, none, none, none] [vI (if x4 = 0 then x5 else x6 : Int)] M r M' := by
      exact r_iret dX12_rings_266 rfl (.inl rfl) h.1 h.2
    refine r_if_ne 259 264 dX12_rings_256 rfl rfl (fun c => ?_) (fun c => ?_)
    · have c_2 := c
      refine r_iload 266 dX12_rings_264 rfl rfl ?_
      exact (Ex.at hJ_1 rfl (show [vI x6] = [vI (if x4 = 0 then x5 else x6 : Int)] by simp only [if_neg c_2]) rfl)
    · have c_2 := Decidable.not_not.mp c
      refine r_iload 261 dX12_rings_259 rfl rfl ?_
      refine r_goto 266 dX12_rings_261 rfl ?_
      exact (Ex.at hJ_1 rfl (show [vI x5] = [vI (if x4 = 0 then x5 else x6 : Int)] by simp only [if_pos c_2]) rfl)
  · have h := h.2 (c)
    obtain ⟨o_3, h⟩ := h
    refine r_aload_n 108 dX12_rings_107 rfl rfl ?_
    refine g_R 111 dX12_rings_108 rfl rfl rfl fr_12_129 (sh_12_53 hS) ?_
    refine r_iload 113 dX12_rings_111 rfl rfl ?_
    refine a_I 8 114 dX12_rings_113 rfl rfl rfl rfl o_3 rfl ?_
    refine r_istore (ls' := [some (vR (some (3, 0))), some (vI x1), some (vI x2), some (vI x3), some (vI x4), some (vI x5), some (vI x6), some (vI x7), some (vI (M.1 87 0 x7.toNat)), none, none, none]) 116 dX12_rings_114 rfl rfl rfl rfl ?_
    refine r_iload 118 dX12_rings_116 rfl rfl ?_
    refine r_iconst 119 dX12_rings_118 rfl (InR_of rfl) ?_
    refine r_icmp_ne 122 126 dX12_rings_119 rfl rfl (fun c => ?_) (fun c => ?_)
    · have h := h.1 (c)
      refine r_aload_n 127 dX12_rings_126 rfl rfl ?_
      refine g_R 130 dX12_rings_127 rfl rfl rfl fr_12_31 (sh_12_8 hS) ?_
      refine r_aload_n 131 dX12_rings_130 rfl rfl ?_
      refine r_iload 133 dX12_rings_131 rfl rfl ?_
      refine r_iload 135 dX12_rings_133 rfl rfl ?_
      obtain ⟨r_6, M_4, hc_5, h⟩ := h
      refine v_1 (ci := 12) (C := (RX12, TX12, 68)) [vI x7, vI (M.1 87 0 x7.toNat)] [vR (some (55, 0))] 138 dX12_rings_135 rfl rfl rfl rfl rfl mo_X12_roadOf ml_12_166 rfl rfl hc_5 ?_
      obtain ⟨o_7, h⟩ := h
      refine a_I 16 139 dX12_rings_138 rfl rfl rfl rfl o_7 rfl ?_
      refine r_istore (ls' := [some (vR (some (3, 0))), some (vI x1), some (vI x2), some (vI x3), some (vI x4), some (vI x5), some (vI x6), some (vI x7), some (vI (M.1 87 0 x7.toNat)), some (vI (M_4.1 55 0 r_6.toNat)), none, none]) 141 dX12_rings_139 rfl rfl rfl rfl ?_
      refine r_iconst 142 dX12_rings_141 rfl (InR_of rfl) ?_
      refine r_istore (ls' := [some (vR (some (3, 0))), some (vI x1), some (vI x2), some (vI x3), some (vI x4), some (vI x5), some (vI x6), some (vI x7), some (vI (M.1 87 0 x7.toNat)), some (vI (M_4.1 55 0 r_6.toNat)), some (vI 0), none]) 144 dX12_rings_142 rfl rfl rfl rfl ?_
      exact h
    · have h := h.2 (Decidable.not_not.mp c)
      refine r_iconst 123 dX12_rings_122 rfl (InR_of rfl) ?_
      refine r_goto 139 dX12_rings_123 rfl ?_
      refine r_istore (ls' := [some (vR (some (3, 0))), some (vI x1), some (vI x2), some (vI x3), some (vI x4), some (vI x5), some (vI x6), some (vI x7), some (vI (M.1 87 0 x7.toNat)), some (vI 0), none, none]) 141 dX12_rings_139 rfl rfl rfl rfl ?_
      refine r_iconst 142 dX12_rings_141 rfl (InR_of rfl) ?_
      refine r_istore (ls' := [some (vR (some (3, 0))), some (vI x1), some (vI x2), some (vI x3), some (vI x4), some (vI x5), some (vI x6), some (vI x7), some (vI (M.1 87 0 x7.toNat)), some (vI 0), some (vI 0), none]) 144 dX12_rings_142 rfl rfl rfl rfl ?_
      exact h
set_option maxRecDepth 4000 in
theorem xX12_rings_144 {l : Launch} {G : Gt} {d : Nat} {M M' : Mem} {r : Option Vl} {x1 : Int} {x2 : Int} {x3 : Int} {x4 : Int} {x5 : Int} {x6 : Int} {x7 : Int} {x8 : Int} {x9 : Int} {x10 : Int} (hS : Sh M.2.1) (h : 
    (8 ≤ x10 → ((x8 = x7 → ((0 ≤ x7 ∧ x7 < 32)))) ∧ (InR (x7 + 1)) ∧ Ex l G (d + 2) mX12_rings 100 [some (vR (some (3, 0))), some (vI x1), some (vI x2), some (vI x3), some (vI x4), some (vI (if x8 = x7 then (aOr x5 (aShl 1 x7)) else x5 : Int)), some (vI (if x8 = x7 then (if x6 = 0 then x9 else (if x6 ≤ x9 then x6 else x9 : Int) : Int) else x6 : Int)), some (vI (x7 + 1)), none, none, none, none] [] M r M') ∧ (¬ (8 ≤ x10) → (x8 = (-1) → ((x8 = x7 → ((0 ≤ x7 ∧ x7 < 32)))) ∧ (InR (x7 + 1)) ∧ Ex l G (d + 2) mX12_rings 100 [some (vR (some (3, 0))), some (vI x1), some (vI x2), some (vI x3), some (vI x4), some (vI (if x8 = x7 then (aOr x5 (aShl 1 x7)) else x5 : Int)), some (vI (if x8 = x7 then (if x6 = 0 then x9 else (if x6 ≤ x9 then x6 else x9 : Int) : Int) else x6 : Int)), some (vI (x7 + 1)), none, none, none, none] [] M r M') ∧ (¬ (x8 = (-1)) → (x8 = x7 → ((x8 = x7 → ((0 ≤ x7 ∧ x7 < 32)))) ∧ (InR (x7 + 1)) ∧ Ex l G (d + 2) mX12_rings 100 [some (vR (some (3, 0))), some (vI x1), some (vI x2), some (vI x3), some (vI x4), some (vI (if x8 = x7 then (aOr x5 (aShl 1 x7)) else x5 : Int)), some (vI (if x8 = x7 then (if x6 = 0 then x9 else (if x6 ≤ x9 then x6 else x9 : Int) : Int) else x6 : Int)), some (vI (x7 + 1)), none, none, none, none] [] M r M') ∧ (¬ (x8 = x7) → ((0 ≤ x8 ∧ x8 < 8)) ∧ ((¬ ((M.1 87 0 x8.toNat) = (-1)) → ∃ (r_22 : Int) (M_20 : Mem), Cl l G (d + 1) mX12_roadOf [vR (some (3, 0)), vI x8, vI (M.1 87 0 x8.toNat)] M (some (vI r_22)) M_20 ∧ ((0 ≤ r_22 ∧ r_22 < 16) ∧ InR (x9 + (M_20.1 55 0 r_22.toNat)) ∧ InR (x10 + 1)) ∧ Ex l G (d + 2) mX12_rings 144 [some (vR (some (3, 0))), some (vI x1), some (vI x2), some (vI x3), some (vI x4), some (vI x5), some (vI x6), some (vI x7), some (vI (M.1 87 0 x8.toNat)), some (vI (x9 + (M_20.1 55 0 r_22.toNat))), some (vI (x10 + 1)), none] [] M_20 r M') ∧ ((M.1 87 0 x8.toNat) = (-1) → (InR (x9 + 0) ∧ InR (x10 + 1)) ∧ Ex l G (d + 2) mX12_rings 144 [some (vR (some (3, 0))), some (vI x1), some (vI x2), some (vI x3), some (vI x4), some (vI x5), some (vI x6), some (vI x7), some (vI (M.1 87 0 x8.toNat)), some (vI (x9 + 0)), some (vI (x10 + 1)), none] [] M r M')))))) : Ex l G (d + 2) mX12_rings 144 [some (vR (some (3, 0))), some (vI x1), some (vI x2), some (vI x3), some (vI x4), some (vI x5), some (vI x6), some (vI x7), some (vI x8), some (vI x9), some (vI x10), none] [] M r M' := by
  refine r_iload 146 dX12_rings_144 rfl rfl ?_
  refine r_bipush 148 dX12_rings_146 rfl rfl ?_
  refine r_icmp_ge 151 211 dX12_rings_148 rfl rfl (fun c => ?_) (fun c => ?_)
  · have h := h.1 (c)
    refine r_iload 213 dX12_rings_211 rfl rfl ?_
    refine r_iload 215 dX12_rings_213 rfl rfl ?_
    obtain ⟨h0, h⟩ := h
    have hJ_1 : Ex l G (d + 2) mX12_rings 248 [some (vR (some (3, 0))), some (vI x1), some (vI x2), some (vI x3), some (vI x4), some (vI (if x8 = x7 then (aOr x5 (aShl 1 x7)) else x5 : Int)), some (vI (if x8 = x7 then (if x6 = 0 then x9 else (if x6 ≤ x9 then x6 else x9 : Int) : Int) else x6 : Int)), some (vI x7), some (vI x8), some (vI x9), some (vI x10), none] [] M r M' := by
      obtain ⟨o_6, h⟩ := h
      refine r_iinc (ls' := [some (vR (some (3, 0))), some (vI x1), some (vI x2), some (vI x3), some (vI x4), some (vI (if x8 = x7 then (aOr x5 (aShl 1 x7)) else x5 : Int)), some (vI (if x8 = x7 then (if x6 = 0 then x9 else (if x6 ≤ x9 then x6 else x9 : Int) : Int) else x6 : Int)), some (vI (x7 + 1)), some (vI x8), some (vI x9), some (vI x10), none]) 251 dX12_rings_248 rfl rfl rfl rfl o_6 rfl ?_
      refine r_goto 100 dX12_rings_251 rfl ?_
      exact Ex.weak h ⟨rfl, rfl, rfl, rfl, rfl, rfl, rfl, rfl, trivial⟩
    have h := h0
    refine r_icmp_ne 218 248 dX12_rings_215 rfl rfl (fun c => ?_) (fun c => ?_)
    · have c_2 := c
      exact (Ex.at hJ_1 (show [some (vR (some (3, 0))), some (vI x1), some (vI x2), some (vI x3), some (vI x4), some (vI x5), some (vI x6), some (vI x7), some (vI x8), some (vI x9), some (vI x10), none] = [some (vR (some (3, 0))), some (vI x1), some (vI x2), some (vI x3), some (vI x4), some (vI (if x8 = x7 then (aOr x5 (aShl 1 x7)) else x5 : Int)), some (vI (if x8 = x7 then (if x6 = 0 then x9 else (if x6 ≤ x9 then x6 else x9 : Int) : Int) else x6 : Int)), some (vI x7), some (vI x8), some (vI x9), some (vI x10), none] by simp only [if_neg c_2]) rfl rfl)
    · have c_2 := Decidable.not_not.mp c
      have h := h c_2
      have o_3 := h
      refine r_iload 220 dX12_rings_218 rfl rfl ?_
      refine r_iconst 221 dX12_rings_220 rfl (InR_of rfl) ?_
      refine r_iload 223 dX12_rings_221 rfl rfl ?_
      refine r_ishl 224 dX12_rings_223 rfl o_3 ?_
      refine r_ior 225 dX12_rings_224 rfl ?_
      refine r_istore (ls' := [some (vR (some (3, 0))), some (vI x1), some (vI x2), some (vI x3), some (vI x4), some (vI (aOr x5 (aShl 1 x7))), some (vI x6), some (vI x7), some (vI x8), some (vI x9), some (vI x10), none]) 227 dX12_rings_225 rfl rfl rfl rfl ?_
      refine r_iload 229 dX12_rings_227 rfl rfl ?_
      refine r_if_eq 232 239 dX12_rings_229 rfl rfl (fun c => ?_) (fun c => ?_)
      · have c_4 := c
        refine r_iload 241 dX12_rings_239 rfl rfl ?_
        refine r_goto 246 dX12_rings_241 rfl ?_
        refine r_istore (ls' := [some (vR (some (3, 0))), some (vI x1), some (vI x2), some (vI x3), some (vI x4), some (vI (aOr x5 (aShl 1 x7))), some (vI x9), some (vI x7), some (vI x8), some (vI x9), some (vI x10), none]) 248 dX12_rings_246 rfl rfl rfl rfl ?_
        exact (Ex.at hJ_1 (show [some (vR (some (3, 0))), some (vI x1), some (vI x2), some (vI x3), some (vI x4), some (vI (aOr x5 (aShl 1 x7))), some (vI x9), some (vI x7), some (vI x8), some (vI x9), some (vI x10), none] = [some (vR (some (3, 0))), some (vI x1), some (vI x2), some (vI x3), some (vI x4), some (vI (if x8 = x7 then (aOr x5 (aShl 1 x7)) else x5 : Int)), some (vI (if x8 = x7 then (if x6 = 0 then x9 else (if x6 ≤ x9 then x6 else x9 : Int) : Int) else x6 : Int)), some (vI x7), some (vI x8), some (vI x9), some (vI x10), none] by simp only [if_pos c_2, if_pos c_4]) rfl rfl)
      · have c_4 := c
        refine r_iload 234 dX12_rings_232 rfl rfl ?_
        refine r_iload 236 dX12_rings_234 rfl rfl ?_
        refine r_icmp_ge 239 244 dX12_rings_236 rfl rfl (fun c => ?_) (fun c => ?_)
        · have c_5 := c
          refine r_iload 246 dX12_rings_244 rfl rfl ?_
          refine r_istore (ls' := [some (vR (some (3, 0))), some (vI x1), some (vI x2), some (vI x3), some (vI x4), some (vI (aOr x5 (aShl 1 x7))), some (vI x6), some (vI x7), some (vI x8), some (vI x9), some (vI x10), none]) 248 dX12_rings_246 rfl rfl rfl rfl ?_
          exact (Ex.at hJ_1 (show [some (vR (some (3, 0))), some (vI x1), some (vI x2), some (vI x3), some (vI x4), some (vI (aOr x5 (aShl 1 x7))), some (vI x6), some (vI x7), some (vI x8), some (vI x9), some (vI x10), none] = [some (vR (some (3, 0))), some (vI x1), some (vI x2), some (vI x3), some (vI x4), some (vI (if x8 = x7 then (aOr x5 (aShl 1 x7)) else x5 : Int)), some (vI (if x8 = x7 then (if x6 = 0 then x9 else (if x6 ≤ x9 then x6 else x9 : Int) : Int) else x6 : Int)), some (vI x7), some (vI x8), some (vI x9), some (vI x10), none] by simp only [if_pos c_2, if_neg c_4, if_pos c_5]) rfl rfl)
        · have c_5 := c
          refine r_iload 241 dX12_rings_239 rfl rfl ?_
          refine r_goto 246 dX12_rings_241 rfl ?_
          refine r_istore (ls' := [some (vR (some (3, 0))), some (vI x1), some (vI x2), some (vI x3), some (vI x4), some (vI (aOr x5 (aShl 1 x7))), some (vI x9), some (vI x7), some (vI x8), some (vI x9), some (vI x10), none]) 248 dX12_rings_246 rfl rfl rfl rfl ?_
          exact (Ex.at hJ_1 (show [some (vR (some (3, 0))), some (vI x1), some (vI x2), some (vI x3), some (vI x4), some (vI (aOr x5 (aShl 1 x7))), some (vI x9), some (vI x7), some (vI x8), some (vI x9), some (vI x10), none] = [some (vR (some (3, 0))), some (vI x1), some (vI x2), some (vI x3), some (vI x4), some (vI (if x8 = x7 then (aOr x5 (aShl 1 x7)) else x5 : Int)), some (vI (if x8 = x7 then (if x6 = 0 then x9 else (if x6 ≤ x9 then x6 else x9 : Int) : Int) else x6 : Int)), some (vI x7), some (vI x8), some (vI x9), some (vI x10), none] by simp only [if_pos c_2, if_neg c_4, if_neg c_5]) rfl rfl)
  · have h := h.2 (c)
    refine r_iload 153 dX12_rings_151 rfl rfl ?_
    refine r_iconst 154 dX12_rings_153 rfl (InR_of rfl) ?_
    refine r_icmp_eq 157 211 dX12_rings_154 rfl rfl (fun c => ?_) (fun c => ?_)
    · have h := h.1 (c)
      refine r_iload 213 dX12_rings_211 rfl rfl ?_
      refine r_iload 215 dX12_rings_213 rfl rfl ?_
      obtain ⟨h0, h⟩ := h
      have hJ_7 : Ex l G (d + 2) mX12_rings 248 [some (vR (some (3, 0))), some (vI x1), some (vI x2), some (vI x3), some (vI x4), some (vI (if x8 = x7 then (aOr x5 (aShl 1 x7)) else x5 : Int)), some (vI (if x8 = x7 then (if x6 = 0 then x9 else (if x6 ≤ x9 then x6 else x9 : Int) : Int) else x6 : Int)), some (vI x7), some (vI x8), some (vI x9), some (vI x10), none] [] M r M' := by
        obtain ⟨o_12, h⟩ := h
        refine r_iinc (ls' := [some (vR (some (3, 0))), some (vI x1), some (vI x2), some (vI x3), some (vI x4), some (vI (if x8 = x7 then (aOr x5 (aShl 1 x7)) else x5 : Int)), some (vI (if x8 = x7 then (if x6 = 0 then x9 else (if x6 ≤ x9 then x6 else x9 : Int) : Int) else x6 : Int)), some (vI (x7 + 1)), some (vI x8), some (vI x9), some (vI x10), none]) 251 dX12_rings_248 rfl rfl rfl rfl o_12 rfl ?_
        refine r_goto 100 dX12_rings_251 rfl ?_
        exact Ex.weak h ⟨rfl, rfl, rfl, rfl, rfl, rfl, rfl, rfl, trivial⟩
      have h := h0
      refine r_icmp_ne 218 248 dX12_rings_215 rfl rfl (fun c => ?_) (fun c => ?_)
      · have c_8 := c
        exact (Ex.at hJ_7 (show [some (vR (some (3, 0))), some (vI x1), some (vI x2), some (vI x3), some (vI x4), some (vI x5), some (vI x6), some (vI x7), some (vI x8), some (vI x9), some (vI x10), none] = [some (vR (some (3, 0))), some (vI x1), some (vI x2), some (vI x3), some (vI x4), some (vI (if x8 = x7 then (aOr x5 (aShl 1 x7)) else x5 : Int)), some (vI (if x8 = x7 then (if x6 = 0 then x9 else (if x6 ≤ x9 then x6 else x9 : Int) : Int) else x6 : Int)), some (vI x7), some (vI x8), some (vI x9), some (vI x10), none] by simp only [if_neg c_8]) rfl rfl)
      · have c_8 := Decidable.not_not.mp c
        have h := h c_8
        have o_9 := h
        refine r_iload 220 dX12_rings_218 rfl rfl ?_
        refine r_iconst 221 dX12_rings_220 rfl (InR_of rfl) ?_
        refine r_iload 223 dX12_rings_221 rfl rfl ?_
        refine r_ishl 224 dX12_rings_223 rfl o_9 ?_
        refine r_ior 225 dX12_rings_224 rfl ?_
        refine r_istore (ls' := [some (vR (some (3, 0))), some (vI x1), some (vI x2), some (vI x3), some (vI x4), some (vI (aOr x5 (aShl 1 x7))), some (vI x6), some (vI x7), some (vI x8), some (vI x9), some (vI x10), none]) 227 dX12_rings_225 rfl rfl rfl rfl ?_
        refine r_iload 229 dX12_rings_227 rfl rfl ?_
        refine r_if_eq 232 239 dX12_rings_229 rfl rfl (fun c => ?_) (fun c => ?_)
        · have c_10 := c
          refine r_iload 241 dX12_rings_239 rfl rfl ?_
          refine r_goto 246 dX12_rings_241 rfl ?_
          refine r_istore (ls' := [some (vR (some (3, 0))), some (vI x1), some (vI x2), some (vI x3), some (vI x4), some (vI (aOr x5 (aShl 1 x7))), some (vI x9), some (vI x7), some (vI x8), some (vI x9), some (vI x10), none]) 248 dX12_rings_246 rfl rfl rfl rfl ?_
          exact (Ex.at hJ_7 (show [some (vR (some (3, 0))), some (vI x1), some (vI x2), some (vI x3), some (vI x4), some (vI (aOr x5 (aShl 1 x7))), some (vI x9), some (vI x7), some (vI x8), some (vI x9), some (vI x10), none] = [some (vR (some (3, 0))), some (vI x1), some (vI x2), some (vI x3), some (vI x4), some (vI (if x8 = x7 then (aOr x5 (aShl 1 x7)) else x5 : Int)), some (vI (if x8 = x7 then (if x6 = 0 then x9 else (if x6 ≤ x9 then x6 else x9 : Int) : Int) else x6 : Int)), some (vI x7), some (vI x8), some (vI x9), some (vI x10), none] by simp only [if_pos c_8, if_pos c_10]) rfl rfl)
        · have c_10 := c
          refine r_iload 234 dX12_rings_232 rfl rfl ?_
          refine r_iload 236 dX12_rings_234 rfl rfl ?_
          refine r_icmp_ge 239 244 dX12_rings_236 rfl rfl (fun c => ?_) (fun c => ?_)
          · have c_11 := c
            refine r_iload 246 dX12_rings_244 rfl rfl ?_
            refine r_istore (ls' := [some (vR (some (3, 0))), some (vI x1), some (vI x2), some (vI x3), some (vI x4), some (vI (aOr x5 (aShl 1 x7))), some (vI x6), some (vI x7), some (vI x8), some (vI x9), some (vI x10), none]) 248 dX12_rings_246 rfl rfl rfl rfl ?_
            exact (Ex.at hJ_7 (show [some (vR (some (3, 0))), some (vI x1), some (vI x2), some (vI x3), some (vI x4), some (vI (aOr x5 (aShl 1 x7))), some (vI x6), some (vI x7), some (vI x8), some (vI x9), some (vI x10), none] = [some (vR (some (3, 0))), some (vI x1), some (vI x2), some (vI x3), some (vI x4), some (vI (if x8 = x7 then (aOr x5 (aShl 1 x7)) else x5 : Int)), some (vI (if x8 = x7 then (if x6 = 0 then x9 else (if x6 ≤ x9 then x6 else x9 : Int) : Int) else x6 : Int)), some (vI x7), some (vI x8), some (vI x9), some (vI x10), none] by simp only [if_pos c_8, if_neg c_10, if_pos c_11]) rfl rfl)
          · have c_11 := c
            refine r_iload 241 dX12_rings_239 rfl rfl ?_
            refine r_goto 246 dX12_rings_241 rfl ?_
            refine r_istore (ls' := [some (vR (some (3, 0))), some (vI x1), some (vI x2), some (vI x3), some (vI x4), some (vI (aOr x5 (aShl 1 x7))), some (vI x9), some (vI x7), some (vI x8), some (vI x9), some (vI x10), none]) 248 dX12_rings_246 rfl rfl rfl rfl ?_
            exact (Ex.at hJ_7 (show [some (vR (some (3, 0))), some (vI x1), some (vI x2), some (vI x3), some (vI x4), some (vI (aOr x5 (aShl 1 x7))), some (vI x9), some (vI x7), some (vI x8), some (vI x9), some (vI x10), none] = [some (vR (some (3, 0))), some (vI x1), some (vI x2), some (vI x3), some (vI x4), some (vI (if x8 = x7 then (aOr x5 (aShl 1 x7)) else x5 : Int)), some (vI (if x8 = x7 then (if x6 = 0 then x9 else (if x6 ≤ x9 then x6 else x9 : Int) : Int) else x6 : Int)), some (vI x7), some (vI x8), some (vI x9), some (vI x10), none] by simp only [if_pos c_8, if_neg c_10, if_neg c_11]) rfl rfl)
    · have h := h.2 (c)
      refine r_iload 159 dX12_rings_157 rfl rfl ?_
      refine r_iload 161 dX12_rings_159 rfl rfl ?_
      refine r_icmp_eq 164 211 dX12_rings_161 rfl rfl (fun c => ?_) (fun c => ?_)
      · have h := h.1 (c)
        refine r_iload 213 dX12_rings_211 rfl rfl ?_
        refine r_iload 215 dX12_rings_213 rfl rfl ?_
        obtain ⟨h0, h⟩ := h
        have hJ_13 : Ex l G (d + 2) mX12_rings 248 [some (vR (some (3, 0))), some (vI x1), some (vI x2), some (vI x3), some (vI x4), some (vI (if x8 = x7 then (aOr x5 (aShl 1 x7)) else x5 : Int)), some (vI (if x8 = x7 then (if x6 = 0 then x9 else (if x6 ≤ x9 then x6 else x9 : Int) : Int) else x6 : Int)), some (vI x7), some (vI x8), some (vI x9), some (vI x10), none] [] M r M' := by
          obtain ⟨o_18, h⟩ := h
          refine r_iinc (ls' := [some (vR (some (3, 0))), some (vI x1), some (vI x2), some (vI x3), some (vI x4), some (vI (if x8 = x7 then (aOr x5 (aShl 1 x7)) else x5 : Int)), some (vI (if x8 = x7 then (if x6 = 0 then x9 else (if x6 ≤ x9 then x6 else x9 : Int) : Int) else x6 : Int)), some (vI (x7 + 1)), some (vI x8), some (vI x9), some (vI x10), none]) 251 dX12_rings_248 rfl rfl rfl rfl o_18 rfl ?_
          refine r_goto 100 dX12_rings_251 rfl ?_
          exact Ex.weak h ⟨rfl, rfl, rfl, rfl, rfl, rfl, rfl, rfl, trivial⟩
        have h := h0
        refine r_icmp_ne 218 248 dX12_rings_215 rfl rfl (fun c => ?_) (fun c => ?_)
        · have c_14 := c
          exact (Ex.at hJ_13 (show [some (vR (some (3, 0))), some (vI x1), some (vI x2), some (vI x3), some (vI x4), some (vI x5), some (vI x6), some (vI x7), some (vI x8), some (vI x9), some (vI x10), none] = [some (vR (some (3, 0))), some (vI x1), some (vI x2), some (vI x3), some (vI x4), some (vI (if x8 = x7 then (aOr x5 (aShl 1 x7)) else x5 : Int)), some (vI (if x8 = x7 then (if x6 = 0 then x9 else (if x6 ≤ x9 then x6 else x9 : Int) : Int) else x6 : Int)), some (vI x7), some (vI x8), some (vI x9), some (vI x10), none] by simp only [if_neg c_14]) rfl rfl)
        · have c_14 := Decidable.not_not.mp c
          have h := h c_14
          have o_15 := h
          refine r_iload 220 dX12_rings_218 rfl rfl ?_
          refine r_iconst 221 dX12_rings_220 rfl (InR_of rfl) ?_
          refine r_iload 223 dX12_rings_221 rfl rfl ?_
          refine r_ishl 224 dX12_rings_223 rfl o_15 ?_
          refine r_ior 225 dX12_rings_224 rfl ?_
          refine r_istore (ls' := [some (vR (some (3, 0))), some (vI x1), some (vI x2), some (vI x3), some (vI x4), some (vI (aOr x5 (aShl 1 x7))), some (vI x6), some (vI x7), some (vI x8), some (vI x9), some (vI x10), none]) 227 dX12_rings_225 rfl rfl rfl rfl ?_
          refine r_iload 229 dX12_rings_227 rfl rfl ?_
          refine r_if_eq 232 239 dX12_rings_229 rfl rfl (fun c => ?_) (fun c => ?_)
          · have c_16 := c
            refine r_iload 241 dX12_rings_239 rfl rfl ?_
            refine r_goto 246 dX12_rings_241 rfl ?_
            refine r_istore (ls' := [some (vR (some (3, 0))), some (vI x1), some (vI x2), some (vI x3), some (vI x4), some (vI (aOr x5 (aShl 1 x7))), some (vI x9), some (vI x7), some (vI x8), some (vI x9), some (vI x10), none]) 248 dX12_rings_246 rfl rfl rfl rfl ?_
            exact (Ex.at hJ_13 (show [some (vR (some (3, 0))), some (vI x1), some (vI x2), some (vI x3), some (vI x4), some (vI (aOr x5 (aShl 1 x7))), some (vI x9), some (vI x7), some (vI x8), some (vI x9), some (vI x10), none] = [some (vR (some (3, 0))), some (vI x1), some (vI x2), some (vI x3), some (vI x4), some (vI (if x8 = x7 then (aOr x5 (aShl 1 x7)) else x5 : Int)), some (vI (if x8 = x7 then (if x6 = 0 then x9 else (if x6 ≤ x9 then x6 else x9 : Int) : Int) else x6 : Int)), some (vI x7), some (vI x8), some (vI x9), some (vI x10), none] by simp only [if_pos c_14, if_pos c_16]) rfl rfl)
          · have c_16 := c
            refine r_iload 234 dX12_rings_232 rfl rfl ?_
            refine r_iload 236 dX12_rings_234 rfl rfl ?_
            refine r_icmp_ge 239 244 dX12_rings_236 rfl rfl (fun c => ?_) (fun c => ?_)
            · have c_17 := c
              refine r_iload 246 dX12_rings_244 rfl rfl ?_
              refine r_istore (ls' := [some (vR (some (3, 0))), some (vI x1), some (vI x2), some (vI x3), some (vI x4), some (vI (aOr x5 (aShl 1 x7))), some (vI x6), some (vI x7), some (vI x8), some (vI x9), some (vI x10), none]) 248 dX12_rings_246 rfl rfl rfl rfl ?_
              exact (Ex.at hJ_13 (show [some (vR (some (3, 0))), some (vI x1), some (vI x2), some (vI x3), some (vI x4), some (vI (aOr x5 (aShl 1 x7))), some (vI x6), some (vI x7), some (vI x8), some (vI x9), some (vI x10), none] = [some (vR (some (3, 0))), some (vI x1), some (vI x2), some (vI x3), some (vI x4), some (vI (if x8 = x7 then (aOr x5 (aShl 1 x7)) else x5 : Int)), some (vI (if x8 = x7 then (if x6 = 0 then x9 else (if x6 ≤ x9 then x6 else x9 : Int) : Int) else x6 : Int)), some (vI x7), some (vI x8), some (vI x9), some (vI x10), none] by simp only [if_pos c_14, if_neg c_16, if_pos c_17]) rfl rfl)
            · have c_17 := c
              refine r_iload 241 dX12_rings_239 rfl rfl ?_
              refine r_goto 246 dX12_rings_241 rfl ?_
              refine r_istore (ls' := [some (vR (some (3, 0))), some (vI x1), some (vI x2), some (vI x3), some (vI x4), some (vI (aOr x5 (aShl 1 x7))), some (vI x9), some (vI x7), some (vI x8), some (vI x9), some (vI x10), none]) 248 dX12_rings_246 rfl rfl rfl rfl ?_
              exact (Ex.at hJ_13 (show [some (vR (some (3, 0))), some (vI x1), some (vI x2), some (vI x3), some (vI x4), some (vI (aOr x5 (aShl 1 x7))), some (vI x9), some (vI x7), some (vI x8), some (vI x9), some (vI x10), none] = [some (vR (some (3, 0))), some (vI x1), some (vI x2), some (vI x3), some (vI x4), some (vI (if x8 = x7 then (aOr x5 (aShl 1 x7)) else x5 : Int)), some (vI (if x8 = x7 then (if x6 = 0 then x9 else (if x6 ≤ x9 then x6 else x9 : Int) : Int) else x6 : Int)), some (vI x7), some (vI x8), some (vI x9), some (vI x10), none] by simp only [if_pos c_14, if_neg c_16, if_neg c_17]) rfl rfl)
      · have h := h.2 (c)
        obtain ⟨o_19, h⟩ := h
        refine r_aload_n 165 dX12_rings_164 rfl rfl ?_
        refine g_R 168 dX12_rings_165 rfl rfl rfl fr_12_129 (sh_12_53 hS) ?_
        refine r_iload 170 dX12_rings_168 rfl rfl ?_
        refine a_I 8 171 dX12_rings_170 rfl rfl rfl rfl o_19 rfl ?_
        refine r_istore (ls' := [some (vR (some (3, 0))), some (vI x1), some (vI x2), some (vI x3), some (vI x4), some (vI x5), some (vI x6), some (vI x7), some (vI x8), some (vI x9), some (vI x10), some (vI (M.1 87 0 x8.toNat))]) 173 dX12_rings_171 rfl rfl rfl rfl ?_
        refine r_iload 175 dX12_rings_173 rfl rfl ?_
        refine r_iload 177 dX12_rings_175 rfl rfl ?_
        refine r_iconst 178 dX12_rings_177 rfl (InR_of rfl) ?_
        refine r_icmp_ne 181 185 dX12_rings_178 rfl rfl (fun c => ?_) (fun c => ?_)
        · have h := h.1 (c)
          refine r_aload_n 186 dX12_rings_185 rfl rfl ?_
          refine g_R 189 dX12_rings_186 rfl rfl rfl fr_12_31 (sh_12_8 hS) ?_
          refine r_aload_n 190 dX12_rings_189 rfl rfl ?_
          refine r_iload 192 dX12_rings_190 rfl rfl ?_
          refine r_iload 194 dX12_rings_192 rfl rfl ?_
          obtain ⟨r_22, M_20, hc_21, h⟩ := h
          refine v_1 (ci := 12) (C := (RX12, TX12, 68)) [vI x8, vI (M.1 87 0 x8.toNat)] [vR (some (55, 0)), vI x9] 197 dX12_rings_194 rfl rfl rfl rfl rfl mo_X12_roadOf ml_12_166 rfl rfl hc_21 ?_
          obtain ⟨⟨o_23, o_24, o_25⟩, h⟩ := h
          refine a_I 16 198 dX12_rings_197 rfl rfl rfl rfl o_23 rfl ?_
          refine r_iadd 199 dX12_rings_198 rfl o_24 ?_
          refine r_istore (ls' := [some (vR (some (3, 0))), some (vI x1), some (vI x2), some (vI x3), some (vI x4), some (vI x5), some (vI x6), some (vI x7), some (vI x8), some (vI (x9 + (M_20.1 55 0 r_22.toNat))), some (vI x10), some (vI (M.1 87 0 x8.toNat))]) 201 dX12_rings_199 rfl rfl rfl rfl ?_
          refine r_iload 203 dX12_rings_201 rfl rfl ?_
          refine r_istore (ls' := [some (vR (some (3, 0))), some (vI x1), some (vI x2), some (vI x3), some (vI x4), some (vI x5), some (vI x6), some (vI x7), some (vI (M.1 87 0 x8.toNat)), some (vI (x9 + (M_20.1 55 0 r_22.toNat))), some (vI x10), some (vI (M.1 87 0 x8.toNat))]) 205 dX12_rings_203 rfl rfl rfl rfl ?_
          refine r_iinc (ls' := [some (vR (some (3, 0))), some (vI x1), some (vI x2), some (vI x3), some (vI x4), some (vI x5), some (vI x6), some (vI x7), some (vI (M.1 87 0 x8.toNat)), some (vI (x9 + (M_20.1 55 0 r_22.toNat))), some (vI (x10 + 1)), some (vI (M.1 87 0 x8.toNat))]) 208 dX12_rings_205 rfl rfl rfl rfl o_25 rfl ?_
          refine r_goto 144 dX12_rings_208 rfl ?_
          exact Ex.weak h ⟨rfl, rfl, rfl, rfl, rfl, rfl, rfl, rfl, rfl, rfl, rfl, trivial⟩
        · have h := h.2 (Decidable.not_not.mp c)
          obtain ⟨⟨o_26, o_27⟩, h⟩ := h
          refine r_iconst 182 dX12_rings_181 rfl (InR_of rfl) ?_
          refine r_goto 198 dX12_rings_182 rfl ?_
          refine r_iadd 199 dX12_rings_198 rfl o_26 ?_
          refine r_istore (ls' := [some (vR (some (3, 0))), some (vI x1), some (vI x2), some (vI x3), some (vI x4), some (vI x5), some (vI x6), some (vI x7), some (vI x8), some (vI (x9 + 0)), some (vI x10), some (vI (M.1 87 0 x8.toNat))]) 201 dX12_rings_199 rfl rfl rfl rfl ?_
          refine r_iload 203 dX12_rings_201 rfl rfl ?_
          refine r_istore (ls' := [some (vR (some (3, 0))), some (vI x1), some (vI x2), some (vI x3), some (vI x4), some (vI x5), some (vI x6), some (vI x7), some (vI (M.1 87 0 x8.toNat)), some (vI (x9 + 0)), some (vI x10), some (vI (M.1 87 0 x8.toNat))]) 205 dX12_rings_203 rfl rfl rfl rfl ?_
          refine r_iinc (ls' := [some (vR (some (3, 0))), some (vI x1), some (vI x2), some (vI x3), some (vI x4), some (vI x5), some (vI x6), some (vI x7), some (vI (M.1 87 0 x8.toNat)), some (vI (x9 + 0)), some (vI (x10 + 1)), some (vI (M.1 87 0 x8.toNat))]) 208 dX12_rings_205 rfl rfl rfl rfl o_27 rfl ?_
          refine r_goto 144 dX12_rings_208 rfl ?_
          exact Ex.weak h ⟨rfl, rfl, rfl, rfl, rfl, rfl, rfl, rfl, rfl, rfl, rfl, trivial⟩

set_option maxRecDepth 4000 in
theorem xX11_daysOfRound_0 {l : Launch} {G : Gt} {d : Nat} {M M' : Mem} {r : Option Vl} {x1 : Int} (h : 
    Ex l G d mX11_daysOfRound 7 [some (vR (some (2, 0))), some (vI x1), some (vI x1), some (vI 0), some (vI 0), none] [] M r M') : Cl l G d mX11_daysOfRound [vR (some (2, 0)), vI x1] M r M' := by
  show Ex l G d mX11_daysOfRound 0 [some (vR (some (2, 0))), some (vI x1), none, none, none, none] [] M r M'
  refine r_iload_n 1 dX11_daysOfRound_0 rfl rfl ?_
  refine r_istore_n (ls' := [some (vR (some (2, 0))), some (vI x1), some (vI x1), none, none, none]) 2 dX11_daysOfRound_1 rfl rfl rfl rfl ?_
  refine r_iconst 3 dX11_daysOfRound_2 rfl (InR_of rfl) ?_
  refine r_istore_n (ls' := [some (vR (some (2, 0))), some (vI x1), some (vI x1), some (vI 0), none, none]) 4 dX11_daysOfRound_3 rfl rfl rfl rfl ?_
  refine r_iconst 5 dX11_daysOfRound_4 rfl (InR_of rfl) ?_
  refine r_istore (ls' := [some (vR (some (2, 0))), some (vI x1), some (vI x1), some (vI 0), some (vI 0), none]) 7 dX11_daysOfRound_5 rfl rfl rfl rfl ?_
  exact h
set_option maxRecDepth 4000 in
theorem xX11_daysOfRound_7 {l : Launch} {G : Gt} {d : Nat} {M M' : Mem} {r : Option Vl} {x1 : Int} {x2 : Int} {x3 : Int} {x4 : Int} (hS : Sh M.2.1) (h : 
    (8 ≤ x4 → r = some (vI 0) ∧ M' = M) ∧ (¬ (8 ≤ x4) → ((0 ≤ x2 ∧ x2 < 8)) ∧ ((¬ ((M.1 18 0 x2.toNat) = (-1)) → (InR (x2 * 8) ∧ InR ((x2 * 8) + (M.1 18 0 x2.toNat)) ∧ (0 ≤ ((x2 * 8) + (M.1 18 0 x2.toNat)) ∧ ((x2 * 8) + (M.1 18 0 x2.toNat)) < 64) ∧ InR (x3 + (M.1 34 0 ((x2 * 8) + (M.1 18 0 x2.toNat)).toNat))) ∧ ((¬ ((M.1 18 0 x2.toNat) = x1) → (InR (x4 + 1)) ∧ Ex l G d mX11_daysOfRound 7 [some (vR (some (2, 0))), some (vI x1), some (vI (M.1 18 0 x2.toNat)), some (vI (x3 + (M.1 34 0 ((x2 * 8) + (M.1 18 0 x2.toNat)).toNat))), some (vI (x4 + 1)), none] [] M r M') ∧ ((M.1 18 0 x2.toNat) = x1 → r = some (vI (x3 + (M.1 34 0 ((x2 * 8) + (M.1 18 0 x2.toNat)).toNat))) ∧ M' = M))) ∧ ((M.1 18 0 x2.toNat) = (-1) → r = some (vI 0) ∧ M' = M)))) : Ex l G d mX11_daysOfRound 7 [some (vR (some (2, 0))), some (vI x1), some (vI x2), some (vI x3), some (vI x4), none] [] M r M' := by
  refine r_iload 9 dX11_daysOfRound_7 rfl rfl ?_
  refine r_bipush 11 dX11_daysOfRound_9 rfl rfl ?_
  refine r_icmp_ge 14 64 dX11_daysOfRound_11 rfl rfl (fun c => ?_) (fun c => ?_)
  · have h := h.1 (c)
    refine r_iconst 65 dX11_daysOfRound_64 rfl (InR_of rfl) ?_
    exact r_iret dX11_daysOfRound_65 rfl (.inl rfl) h.1 h.2
  · have h := h.2 (c)
    obtain ⟨o_1, h⟩ := h
    refine r_aload_n 15 dX11_daysOfRound_14 rfl rfl ?_
    refine g_R 18 dX11_daysOfRound_15 rfl rfl rfl fr_11_90 (sh_11_14 hS) ?_
    refine r_iload_n 19 dX11_daysOfRound_18 rfl rfl ?_
    refine a_I 8 20 dX11_daysOfRound_19 rfl rfl rfl rfl o_1 rfl ?_
    refine r_istore (ls' := [some (vR (some (2, 0))), some (vI x1), some (vI x2), some (vI x3), some (vI x4), some (vI (M.1 18 0 x2.toNat))]) 22 dX11_daysOfRound_20 rfl rfl rfl rfl ?_
    refine r_iload 24 dX11_daysOfRound_22 rfl rfl ?_
    refine r_iconst 25 dX11_daysOfRound_24 rfl (InR_of rfl) ?_
    refine r_icmp_ne 28 30 dX11_daysOfRound_25 rfl rfl (fun c => ?_) (fun c => ?_)
    · have h := h.1 (c)
      obtain ⟨⟨o_2, o_3, o_4, o_5⟩, h⟩ := h
      refine r_iload_n 31 dX11_daysOfRound_30 rfl rfl ?_
      refine r_aload_n 32 dX11_daysOfRound_31 rfl rfl ?_
      refine g_R 35 dX11_daysOfRound_32 rfl rfl rfl fr_11_12 (sh_11_0 hS) ?_
      refine g_R 38 dX11_daysOfRound_35 rfl rfl rfl fr_11_104 (sh_8_3 hS _) ?_
      refine r_iload_n 39 dX11_daysOfRound_38 rfl rfl ?_
      refine r_bipush 41 dX11_daysOfRound_39 rfl rfl ?_
      refine r_imul 42 dX11_daysOfRound_41 rfl o_2 ?_
      refine r_iload 44 dX11_daysOfRound_42 rfl rfl ?_
      refine r_iadd 45 dX11_daysOfRound_44 rfl o_3 ?_
      refine a_I 64 46 dX11_daysOfRound_45 rfl rfl rfl rfl o_4 rfl ?_
      refine r_iadd 47 dX11_daysOfRound_46 rfl o_5 ?_
      refine r_istore_n (ls' := [some (vR (some (2, 0))), some (vI x1), some (vI x2), some (vI (x3 + (M.1 34 0 ((x2 * 8) + (M.1 18 0 x2.toNat)).toNat))), some (vI x4), some (vI (M.1 18 0 x2.toNat))]) 48 dX11_daysOfRound_47 rfl rfl rfl rfl ?_
      refine r_iload 50 dX11_daysOfRound_48 rfl rfl ?_
      refine r_istore_n (ls' := [some (vR (some (2, 0))), some (vI x1), some (vI (M.1 18 0 x2.toNat)), some (vI (x3 + (M.1 34 0 ((x2 * 8) + (M.1 18 0 x2.toNat)).toNat))), some (vI x4), some (vI (M.1 18 0 x2.toNat))]) 51 dX11_daysOfRound_50 rfl rfl rfl rfl ?_
      refine r_iload_n 52 dX11_daysOfRound_51 rfl rfl ?_
      refine r_iload_n 53 dX11_daysOfRound_52 rfl rfl ?_
      refine r_icmp_ne 56 58 dX11_daysOfRound_53 rfl rfl (fun c => ?_) (fun c => ?_)
      · have h := h.1 (c)
        obtain ⟨o_6, h⟩ := h
        refine r_iinc (ls' := [some (vR (some (2, 0))), some (vI x1), some (vI (M.1 18 0 x2.toNat)), some (vI (x3 + (M.1 34 0 ((x2 * 8) + (M.1 18 0 x2.toNat)).toNat))), some (vI (x4 + 1)), some (vI (M.1 18 0 x2.toNat))]) 61 dX11_daysOfRound_58 rfl rfl rfl rfl o_6 rfl ?_
        refine r_goto 7 dX11_daysOfRound_61 rfl ?_
        exact Ex.weak h ⟨rfl, rfl, rfl, rfl, rfl, trivial⟩
      · have h := h.2 (Decidable.not_not.mp c)
        refine r_iload_n 57 dX11_daysOfRound_56 rfl rfl ?_
        exact r_iret dX11_daysOfRound_57 rfl (.inl rfl) h.1 h.2
    · have h := h.2 (Decidable.not_not.mp c)
      refine r_iconst 29 dX11_daysOfRound_28 rfl (InR_of rfl) ?_
      exact r_iret dX11_daysOfRound_29 rfl (.inl rfl) h.1 h.2

set_option maxRecDepth 4000 in
theorem xX11_rings_0 {l : Launch} {G : Gt} {d : Nat} {M M' : Mem} {r : Option Vl} {x1 : Int} {x2 : Int} {x3 : Int} {x4 : Int} (h : 
    ∃ (o_3 : Option Nm) (M_1 : Mem), Cl l G d mX11_coverOf [vR (some (2, 0)), vI x1] M (some (vR o_3)) M_1 ∧ Sh M_1.2.1 ∧ ((o_3 = none → r = some (vI (-1)) ∧ M' = M_1) ∧ (¬ (o_3 = none) → (¬ (0 ≤ x2 ∧ x2 < (M_1.1 4 0 0)) → r = some (vI (-1)) ∧ M' = M_1) ∧ (0 ≤ x2 ∧ x2 < (M_1.1 4 0 0) → (¬ (0 ≤ x3 ∧ x3 ≤ 999) → r = some (vI (-1)) ∧ M' = M_1) ∧ (0 ≤ x3 ∧ x3 ≤ 999 → (x4 < 0 → r = some (vI (-1)) ∧ M' = M_1) ∧ (¬ (x4 < 0) → (x4 ≤ 1 → Ex l G (d + 1) mX11_rings 43 [some (vR (some (2, 0))), some (vI x1), some (vI x2), some (vI x3), some (vI x4), some (vR o_3), some (vI 0), none, none, none] [] M_1 r M') ∧ (¬ (x4 ≤ 1) → r = some (vI (-1)) ∧ M' = M_1))))))) : Cl l G (d + 1) mX11_rings [vR (some (2, 0)), vI x1, vI x2, vI x3, vI x4] M r M' := by
  show Ex l G (d + 1) mX11_rings 0 [some (vR (some (2, 0))), some (vI x1), some (vI x2), some (vI x3), some (vI x4), none, none, none, none, none] [] M r M'
  refine r_aload_n 1 dX11_rings_0 rfl rfl ?_
  refine r_iload_n 2 dX11_rings_1 rfl rfl ?_
  obtain ⟨o_3, M_1, hc_2, hS, h⟩ := h
  refine v_1 (ci := 11) (C := (RX11, TX11, 16)) [vI x1] [] 5 dX11_rings_2 rfl rfl rfl rfl rfl mo_X11_coverOf ml_11_187 rfl rfl hc_2 ?_
  refine r_astore (ls' := [some (vR (some (2, 0))), some (vI x1), some (vI x2), some (vI x3), some (vI x4), some (vR o_3), none, none, none, none]) 7 dX11_rings_5 rfl rfl rfl rfl ?_
  refine r_aload 9 dX11_rings_7 rfl rfl ?_
  refine r_ifnull 12 38 dX11_rings_9 rfl rfl (fun c => ?_) (fun c => ?_)
  · have h := h.1 (c)
    refine r_iconst 39 dX11_rings_38 rfl (InR_of rfl) ?_
    exact r_iret dX11_rings_39 rfl (.inl rfl) h.1 h.2
  · have h := h.2 (c)
    refine r_aload_n 13 dX11_rings_12 rfl rfl ?_
    refine r_iload_n 14 dX11_rings_13 rfl rfl ?_
    refine v_1 (ci := 11) (C := (RX11, TX11, 16)) [vI x2] [] 17 dX11_rings_14 rfl rfl rfl rfl rfl mo_X11_isPerson ml_11_127 rfl rfl (KX11_isPerson hS) ?_
    refine r_if_eq 20 38 dX11_rings_17 rfl rfl (fun c => ?_) (fun c => ?_)
    · have h := h.1 (b2_0.mp c)
      refine r_iconst 39 dX11_rings_38 rfl (InR_of rfl) ?_
      exact r_iret dX11_rings_39 rfl (.inl rfl) h.1 h.2
    · have h := h.2 (b2_1.mp c)
      refine r_iload_n 21 dX11_rings_20 rfl rfl ?_
      refine c_1 [vI x3] [] 24 dX11_rings_21 rfl rfl mo_X11_isDay ml_11_124 rfl rfl (KX11_isDay) ?_
      refine r_if_eq 27 38 dX11_rings_24 rfl rfl (fun c => ?_) (fun c => ?_)
      · have h := h.1 (b2_0.mp c)
        refine r_iconst 39 dX11_rings_38 rfl (InR_of rfl) ?_
        exact r_iret dX11_rings_39 rfl (.inl rfl) h.1 h.2
      · have h := h.2 (b2_1.mp c)
        refine r_iload 29 dX11_rings_27 rfl rfl ?_
        refine r_if_lt 32 38 dX11_rings_29 rfl rfl (fun c => ?_) (fun c => ?_)
        · have h := h.1 (c)
          refine r_iconst 39 dX11_rings_38 rfl (InR_of rfl) ?_
          exact r_iret dX11_rings_39 rfl (.inl rfl) h.1 h.2
        · have h := h.2 (c)
          refine r_iload 34 dX11_rings_32 rfl rfl ?_
          refine r_iconst 35 dX11_rings_34 rfl (InR_of rfl) ?_
          refine r_icmp_le 38 40 dX11_rings_35 rfl rfl (fun c => ?_) (fun c => ?_)
          · have h := h.1 (c)
            refine r_iconst 41 dX11_rings_40 rfl (InR_of rfl) ?_
            refine r_istore (ls' := [some (vR (some (2, 0))), some (vI x1), some (vI x2), some (vI x3), some (vI x4), some (vR o_3), some (vI 0), none, none, none]) 43 dX11_rings_41 rfl rfl rfl rfl ?_
            exact h
          · have h := h.2 (c)
            refine r_iconst 39 dX11_rings_38 rfl (InR_of rfl) ?_
            exact r_iret dX11_rings_39 rfl (.inl rfl) h.1 h.2
set_option maxRecDepth 4000 in
theorem xX11_rings_43 {l : Launch} {G : Gt} {d : Nat} {M M' : Mem} {r : Option Vl} {x1 : Int} {x2 : Int} {x3 : Int} {x4 : Int} {o5 : Option Nm} {x6 : Int} (hS : Sh M.2.1) (h : 
    (8 ≤ x6 → Ex l G (d + 1) mX11_rings 108 [some (vR (some (2, 0))), some (vI x1), some (vI x2), some (vI x3), some (vI x4), some (vR o5), some (vI 0), some (vI 0), some (vI 0), none] [] M r M') ∧ (¬ (8 ≤ x6) → ∃ k_1 : Nat, o5 = some (13, k_1) ∧ (∃ (M_3 : Mem), Cl l G d mX0_ask [vR (some (9, 0)), vR (some (13, k_1)), vI x2, vI x3, vI x3, vI x6] M none M_3 ∧ Sh M_3.2.1 ∧ ((0 ≤ x6 ∧ x6 < 8) ∧ InR (x6 + 1)) ∧ Ex l G (d + 1) mX11_rings 43 [some (vR (some (2, 0))), some (vI x1), some (vI x2), some (vI x3), some (vI x4), some (vR (some (13, k_1))), some (vI (x6 + 1)), none, none, none] [] ((upI M_3.1 18 0 x6.toNat (if (M_3.1 9 0 4) = 1 then (M_3.1 9 0 5) else (-1) : Int)), M_3.2.1, M_3.2.2) r M'))) : Ex l G (d + 1) mX11_rings 43 [some (vR (some (2, 0))), some (vI x1), some (vI x2), some (vI x3), some (vI x4), some (vR o5), some (vI x6), none, none, none] [] M r M' := by
  refine r_iload 45 dX11_rings_43 rfl rfl ?_
  refine r_bipush 47 dX11_rings_45 rfl rfl ?_
  refine r_icmp_ge 50 99 dX11_rings_47 rfl rfl (fun c => ?_) (fun c => ?_)
  · have h := h.1 (c)
    refine r_iconst 100 dX11_rings_99 rfl (InR_of rfl) ?_
    refine r_istore (ls' := [some (vR (some (2, 0))), some (vI x1), some (vI x2), some (vI x3), some (vI x4), some (vR o5), some (vI 0), none, none, none]) 102 dX11_rings_100 rfl rfl rfl rfl ?_
    refine r_iconst 103 dX11_rings_102 rfl (InR_of rfl) ?_
    refine r_istore (ls' := [some (vR (some (2, 0))), some (vI x1), some (vI x2), some (vI x3), some (vI x4), some (vR o5), some (vI 0), some (vI 0), none, none]) 105 dX11_rings_103 rfl rfl rfl rfl ?_
    refine r_iconst 106 dX11_rings_105 rfl (InR_of rfl) ?_
    refine r_istore (ls' := [some (vR (some (2, 0))), some (vI x1), some (vI x2), some (vI x3), some (vI x4), some (vR o5), some (vI 0), some (vI 0), some (vI 0), none]) 108 dX11_rings_106 rfl rfl rfl rfl ?_
    exact h
  · have h := h.2 (c)
    refine r_aload_n 51 dX11_rings_50 rfl rfl ?_
    refine g_R 54 dX11_rings_51 rfl rfl rfl fr_11_44 (sh_11_4 hS) ?_
    refine r_aload 56 dX11_rings_54 rfl rfl ?_
    refine r_iload_n 57 dX11_rings_56 rfl rfl ?_
    refine r_iload_n 58 dX11_rings_57 rfl rfl ?_
    refine r_iload_n 59 dX11_rings_58 rfl rfl ?_
    refine r_iload 61 dX11_rings_59 rfl rfl ?_
    obtain ⟨k_1, e_2, h⟩ := h
    refine Ex.at (st2 := [vI x6, vI x3, vI x3, vI x2, vR (some (13, k_1)), vR (some (9, 0))]) ?_ rfl (show [vI x6, vI x3, vI x3, vI x2, vR o5, vR (some (9, 0))] = [vI x6, vI x3, vI x3, vI x2, vR (some (13, k_1)), vR (some (9, 0))] by rw [e_2]) rfl
    obtain ⟨M_3, hc_4, hS, h⟩ := h
    refine v_0 (ci := 0) (C := (RX0, TX0, 13)) [vR (some (13, k_1)), vI x2, vI x3, vI x3, vI x6] [] 64 dX11_rings_61 rfl rfl rfl rfl rfl mo_X0_ask ml_11_211 rfl rfl hc_4 ?_
    refine r_aload_n 65 dX11_rings_64 rfl rfl ?_
    refine g_R 68 dX11_rings_65 rfl rfl rfl fr_11_90 (sh_11_14 hS) ?_
    refine r_iload 70 dX11_rings_68 rfl rfl ?_
    refine r_aload_n 71 dX11_rings_70 rfl rfl ?_
    refine g_R 74 dX11_rings_71 rfl rfl rfl fr_11_44 (sh_11_4 hS) ?_
    refine g_I 77 dX11_rings_74 rfl rfl rfl fi_11_215 rfl ?_
    refine r_iconst 78 dX11_rings_77 rfl (InR_of rfl) ?_
    have hJ_5 : Ex l G (d + 1) mX11_rings 92 [some (vR (some (2, 0))), some (vI x1), some (vI x2), some (vI x3), some (vI x4), some (vR o5), some (vI x6), none, none, none] [vI (if (M_3.1 9 0 4) = 1 then (M_3.1 9 0 5) else (-1) : Int), vI x6, vR (some (18, 0))] M_3 r M' := by
      obtain ⟨⟨o_7, o_8⟩, h⟩ := h
      refine s_I 8 93 dX11_rings_92 rfl rfl (by decide) rfl rfl o_7 ?_
      refine r_iinc (ls' := [some (vR (some (2, 0))), some (vI x1), some (vI x2), some (vI x3), some (vI x4), some (vR o5), some (vI (x6 + 1)), none, none, none]) 96 dX11_rings_93 rfl rfl rfl rfl o_8 rfl ?_
      refine r_goto 43 dX11_rings_96 rfl ?_
      exact (Ex.at h (show [some (vR (some (2, 0))), some (vI x1), some (vI x2), some (vI x3), some (vI x4), some (vR o5), some (vI (x6 + 1)), none, none, none] = [some (vR (some (2, 0))), some (vI x1), some (vI x2), some (vI x3), some (vI x4), some (vR (some (13, k_1))), some (vI (x6 + 1)), none, none, none] by rw [e_2]) rfl rfl)
    refine r_icmp_ne 81 91 dX11_rings_78 rfl rfl (fun c => ?_) (fun c => ?_)
    · have c_6 := c
      refine r_iconst 92 dX11_rings_91 rfl (InR_of rfl) ?_
      exact (Ex.at hJ_5 rfl (show [vI (-1), vI x6, vR (some (18, 0))] = [vI (if (M_3.1 9 0 4) = 1 then (M_3.1 9 0 5) else (-1) : Int), vI x6, vR (some (18, 0))] by simp only [if_neg c_6]) rfl)
    · have c_6 := Decidable.not_not.mp c
      refine r_aload_n 82 dX11_rings_81 rfl rfl ?_
      refine g_R 85 dX11_rings_82 rfl rfl rfl fr_11_44 (sh_11_4 hS) ?_
      refine g_I 88 dX11_rings_85 rfl rfl rfl fi_11_218 rfl ?_
      refine r_goto 92 dX11_rings_88 rfl ?_
      exact (Ex.at hJ_5 rfl (show [vI (M_3.1 9 0 5), vI x6, vR (some (18, 0))] = [vI (if (M_3.1 9 0 4) = 1 then (M_3.1 9 0 5) else (-1) : Int), vI x6, vR (some (18, 0))] by simp only [if_pos c_6]) rfl)
set_option maxRecDepth 4000 in
theorem xX11_rings_108 {l : Launch} {G : Gt} {d : Nat} {M M' : Mem} {r : Option Vl} {x1 : Int} {x2 : Int} {x3 : Int} {x4 : Int} {o5 : Option Nm} {x6 : Int} {x7 : Int} {x8 : Int} (h : 
    (8 ≤ x8 → r = some (vI (if x4 = 0 then x6 else x7 : Int)) ∧ M' = M) ∧ (¬ (8 ≤ x8) → ∃ (r_5 : Int) (M_3 : Mem), Cl l G d mX11_daysOfRound [vR (some (2, 0)), vI x8] M (some (vI r_5)) M_3 ∧ (((¬ (r_5 ≤ 0) → ((0 ≤ x8 ∧ x8 < 32)))) ∧ (InR (x8 + 1)) ∧ Ex l G (d + 1) mX11_rings 108 [some (vR (some (2, 0))), some (vI x1), some (vI x2), some (vI x3), some (vI x4), some (vR o5), some (vI (if r_5 ≤ 0 then x6 else (aOr x6 (aShl 1 x8)) : Int)), some (vI (if r_5 ≤ 0 then x7 else (if x7 = 0 then r_5 else (if r_5 < x7 then r_5 else x7 : Int) : Int) : Int)), some (vI (x8 + 1)), none] [] M_3 r M'))) : Ex l G (d + 1) mX11_rings 108 [some (vR (some (2, 0))), some (vI x1), some (vI x2), some (vI x3), some (vI x4), some (vR o5), some (vI x6), some (vI x7), some (vI x8), none] [] M r M' := by
  refine r_iload 110 dX11_rings_108 rfl rfl ?_
  refine r_bipush 112 dX11_rings_110 rfl rfl ?_
  refine r_icmp_ge 115 162 dX11_rings_112 rfl rfl (fun c => ?_) (fun c => ?_)
  · have h := h.1 (c)
    refine r_iload 164 dX11_rings_162 rfl rfl ?_
    have hJ_1 : Ex l G (d + 1) mX11_rings 174 [some (vR (some (2, 0))), some (vI x1), some (vI x2), some (vI x3), some (vI x4), some (vR o5), some (vI x6), some (vI x7), some (vI x8), none] [vI (if x4 = 0 then x6 else x7 : Int)] M r M' := by
      exact r_iret dX11_rings_174 rfl (.inl rfl) h.1 h.2
    refine r_if_ne 167 172 dX11_rings_164 rfl rfl (fun c => ?_) (fun c => ?_)
    · have c_2 := c
      refine r_iload 174 dX11_rings_172 rfl rfl ?_
      exact (Ex.at hJ_1 rfl (show [vI x7] = [vI (if x4 = 0 then x6 else x7 : Int)] by simp only [if_neg c_2]) rfl)
    · have c_2 := Decidable.not_not.mp c
      refine r_iload 169 dX11_rings_167 rfl rfl ?_
      refine r_goto 174 dX11_rings_169 rfl ?_
      exact (Ex.at hJ_1 rfl (show [vI x6] = [vI (if x4 = 0 then x6 else x7 : Int)] by simp only [if_pos c_2]) rfl)
  · have h := h.2 (c)
    refine r_aload_n 116 dX11_rings_115 rfl rfl ?_
    refine r_iload 118 dX11_rings_116 rfl rfl ?_
    obtain ⟨r_5, M_3, hc_4, h⟩ := h
    refine v_1 (ci := 11) (C := (RX11, TX11, 16)) [vI x8] [] 121 dX11_rings_118 rfl rfl rfl rfl rfl mo_X11_daysOfRound ml_11_276 rfl rfl hc_4 ?_
    refine r_istore (ls' := [some (vR (some (2, 0))), some (vI x1), some (vI x2), some (vI x3), some (vI x4), some (vR o5), some (vI x6), some (vI x7), some (vI x8), some (vI r_5)]) 123 dX11_rings_121 rfl rfl rfl rfl ?_
    refine r_iload 125 dX11_rings_123 rfl rfl ?_
    obtain ⟨h0, h⟩ := h
    have hJ_6 : Ex l G (d + 1) mX11_rings 156 [some (vR (some (2, 0))), some (vI x1), some (vI x2), some (vI x3), some (vI x4), some (vR o5), some (vI (if r_5 ≤ 0 then x6 else (aOr x6 (aShl 1 x8)) : Int)), some (vI (if r_5 ≤ 0 then x7 else (if x7 = 0 then r_5 else (if r_5 < x7 then r_5 else x7 : Int) : Int) : Int)), some (vI x8), some (vI r_5)] [] M_3 r M' := by
      obtain ⟨o_10, h⟩ := h
      refine r_iinc (ls' := [some (vR (some (2, 0))), some (vI x1), some (vI x2), some (vI x3), some (vI x4), some (vR o5), some (vI (if r_5 ≤ 0 then x6 else (aOr x6 (aShl 1 x8)) : Int)), some (vI (if r_5 ≤ 0 then x7 else (if x7 = 0 then r_5 else (if r_5 < x7 then r_5 else x7 : Int) : Int) : Int)), some (vI (x8 + 1)), some (vI r_5)]) 159 dX11_rings_156 rfl rfl rfl rfl o_10 rfl ?_
      refine r_goto 108 dX11_rings_159 rfl ?_
      exact Ex.weak h ⟨rfl, rfl, rfl, rfl, rfl, rfl, rfl, rfl, rfl, trivial⟩
    have h := h0
    refine r_if_le 128 156 dX11_rings_125 rfl rfl (fun c => ?_) (fun c => ?_)
    · have c_7 := c
      exact (Ex.at hJ_6 (show [some (vR (some (2, 0))), some (vI x1), some (vI x2), some (vI x3), some (vI x4), some (vR o5), some (vI x6), some (vI x7), some (vI x8), some (vI r_5)] = [some (vR (some (2, 0))), some (vI x1), some (vI x2), some (vI x3), some (vI x4), some (vR o5), some (vI (if r_5 ≤ 0 then x6 else (aOr x6 (aShl 1 x8)) : Int)), some (vI (if r_5 ≤ 0 then x7 else (if x7 = 0 then r_5 else (if r_5 < x7 then r_5 else x7 : Int) : Int) : Int)), some (vI x8), some (vI r_5)] by simp only [if_pos c_7]) rfl rfl)
    · have c_7 := c
      have h := h c_7
      have o_8 := h
      refine r_iload 130 dX11_rings_128 rfl rfl ?_
      refine r_iconst 131 dX11_rings_130 rfl (InR_of rfl) ?_
      refine r_iload 133 dX11_rings_131 rfl rfl ?_
      refine r_ishl 134 dX11_rings_133 rfl o_8 ?_
      refine r_ior 135 dX11_rings_134 rfl ?_
      refine r_istore (ls' := [some (vR (some (2, 0))), some (vI x1), some (vI x2), some (vI x3), some (vI x4), some (vR o5), some (vI (aOr x6 (aShl 1 x8))), some (vI x7), some (vI x8), some (vI r_5)]) 137 dX11_rings_135 rfl rfl rfl rfl ?_
      refine r_iload 139 dX11_rings_137 rfl rfl ?_
      refine r_if_ne 142 147 dX11_rings_139 rfl rfl (fun c => ?_) (fun c => ?_)
      · have c_9 := c
        refine r_iload 149 dX11_rings_147 rfl rfl ?_
        refine r_iload 151 dX11_rings_149 rfl rfl ?_
        refine r_min 154 dX11_rings_151 rfl (inT4 (List.mem_of_getElem? (i := 66) rfl) rfl) rfl ?_
        refine r_istore (ls' := [some (vR (some (2, 0))), some (vI x1), some (vI x2), some (vI x3), some (vI x4), some (vR o5), some (vI (aOr x6 (aShl 1 x8))), some (vI (if r_5 < x7 then r_5 else x7 : Int)), some (vI x8), some (vI r_5)]) 156 dX11_rings_154 rfl rfl rfl rfl ?_
        exact (Ex.at hJ_6 (show [some (vR (some (2, 0))), some (vI x1), some (vI x2), some (vI x3), some (vI x4), some (vR o5), some (vI (aOr x6 (aShl 1 x8))), some (vI (if r_5 < x7 then r_5 else x7 : Int)), some (vI x8), some (vI r_5)] = [some (vR (some (2, 0))), some (vI x1), some (vI x2), some (vI x3), some (vI x4), some (vR o5), some (vI (if r_5 ≤ 0 then x6 else (aOr x6 (aShl 1 x8)) : Int)), some (vI (if r_5 ≤ 0 then x7 else (if x7 = 0 then r_5 else (if r_5 < x7 then r_5 else x7 : Int) : Int) : Int)), some (vI x8), some (vI r_5)] by simp only [if_neg c_7, if_neg c_9]) rfl rfl)
      · have c_9 := Decidable.not_not.mp c
        refine r_iload 144 dX11_rings_142 rfl rfl ?_
        refine r_goto 154 dX11_rings_144 rfl ?_
        refine r_istore (ls' := [some (vR (some (2, 0))), some (vI x1), some (vI x2), some (vI x3), some (vI x4), some (vR o5), some (vI (aOr x6 (aShl 1 x8))), some (vI r_5), some (vI x8), some (vI r_5)]) 156 dX11_rings_154 rfl rfl rfl rfl ?_
        exact (Ex.at hJ_6 (show [some (vR (some (2, 0))), some (vI x1), some (vI x2), some (vI x3), some (vI x4), some (vR o5), some (vI (aOr x6 (aShl 1 x8))), some (vI r_5), some (vI x8), some (vI r_5)] = [some (vR (some (2, 0))), some (vI x1), some (vI x2), some (vI x3), some (vI x4), some (vR o5), some (vI (if r_5 ≤ 0 then x6 else (aOr x6 (aShl 1 x8)) : Int)), some (vI (if r_5 ≤ 0 then x7 else (if x7 = 0 then r_5 else (if r_5 < x7 then r_5 else x7 : Int) : Int) : Int)), some (vI x8), some (vI r_5)] by simp only [if_neg c_7, if_pos c_9]) rfl rfl)

def gnF (Q : QT) (c s : Nat) (day : Int) (p : Nat) : Int := match ask1 Q c s day day p with
  | some (_, h, w) => if h = 1 then w else -1
  | none => -1
theorem gnF_or {Q : QT} (hq : WFQ Q) (c s : Nat) (day : Int) (p : Nat) : gnF Q c s day p = -1 ∨ ∃ v : Nat, v < 8 ∧ gnF Q c s day p = (v : Int) ∧ 1 ≤ rd Q p v := by
  unfold gnF
  rcases ask1_or (cv := c) (s := s) (place := p) (sent := day) (day := day) hq with e | ⟨r, h, x, e, _, ⟨rfl, v, h1, rfl⟩ | ⟨rfl, v, h1, rfl, h3⟩⟩
  · rw [e]; exact .inl rfl
  · rw [e]; exact .inl rfl
  · rw [e]
    have := rd_in hq.2.1 (p : Int) (v : Int)
    exact .inr ⟨v, h1, rfl, by omega⟩
def rndF (Q : QT) (g : Nat → Int) (q : Nat) : Nat → Nat → Int → Int
  | 0, _, _ => 0
  | f + 1, p, acc => if g p = -1 then 0 else if g p = q then acc + rd Q p (g p) else rndF Q g q f (g p).toNat (acc + rd Q p (g p))
def wkF (g : Nat → Int) (q : Nat) : Nat → Int
  | 0 => (q : Int)
  | n + 1 => if wkF g q n = -1 then -1 else g (wkF g q n).toNat
def visF (g : Nat → Int) (q : Nat) : Nat → Nat → Bool
  | 0 => fun _ => false
  | n + 1 => fun x => visF g q n x || decide (wkF g q (n + 1) = (x : Int))
theorem visF_iff {g : Nat → Int} {q : Nat} : ∀ n x, visF g q n x = true ↔ ∃ i, 1 ≤ i ∧ i ≤ n ∧ wkF g q i = (x : Int) := by
  intro n
  induction n with
  | zero => intro x; constructor
            · intro h; cases h
            · rintro ⟨i, h1, h2, _⟩; omega
  | succ n ih =>
    intro x
    unfold visF
    rw [Bool.or_eq_true, ih x]
    constructor
    · rintro (⟨i, h1, h2, h3⟩ | h)
      · exact ⟨i, h1, by omega, h3⟩
      · exact ⟨n + 1, by omega, Nat.le_refl _, of_decide_eq_true h⟩
    · rintro ⟨i, h1, h2, h3⟩
      by_cases e : i = n + 1
      · subst e; exact .inr (decide_eq_true h3)
      · exact .inl ⟨i, h1, by omega, h3⟩
/-- who comes back at the ninth step came back before -/
theorem wk_no {g : Nat → Int} {q : Nat} (hg : ∀ p, g p = -1 ∨ ∃ v : Nat, v < 8 ∧ g p = (v : Int)) (hq : q < 8) (h9 : wkF g q 9 = (q : Int)) (hn : ∀ i, 1 ≤ i → i ≤ 8 → ¬ wkF g q i = (q : Int) ∧ ¬ wkF g q i = -1) : False := by
  have wv : ∀ i, 1 ≤ i → i ≤ 8 → ∃ v : Nat, v < 8 ∧ wkF g q i = (v : Int) := by
    intro i h1 h8
    obtain ⟨j, rfl⟩ : ∃ j, i = j + 1 := ⟨i - 1, by omega⟩
    have := (hn (j + 1) h1 h8).2
    unfold wkF at this ⊢
    split at this
    · exact absurd rfl this
    · rename_i c
      rw [if_neg c]
      rcases hg (wkF g q j).toNat with e | e
      · exact absurd e this
      · exact e
  have per : ∀ i j, wkF g q i = wkF g q j → ∀ m, wkF g q (i + m) = wkF g q (j + m) := by
    intro i j h m
    induction m with
    | zero => exact h
    | succ m ih =>
      rw [show i + (m + 1) = (i + m) + 1 by omega, show j + (m + 1) = (j + m) + 1 by omega]
      unfold wkF
      rw [ih]
  have dis : ∀ i j, 1 ≤ i → i < j → j ≤ 8 → ¬ wkF g q i = wkF g q j := by
    intro i j h1 h2 h3 e
    have := per i j e (9 - j)
    rw [show j + (9 - j) = 9 by omega, h9] at this
    exact (hn (i + (9 - j)) (by omega) (by omega)).1 this
  have cn : ∀ n, n ≤ 8 → n ≤ cnt (visF g q n) 8 := by
    intro n
    induction n with
    | zero => intro _; exact Nat.zero_le _
    | succ n ih =>
      intro hn8
      obtain ⟨v, v1, v2⟩ := wv (n + 1) (by omega) hn8
      have := cnt_lt (p := visF g q n) (q := visF g q (n + 1)) (n := 8) (fun i _ e => by unfold visF; rw [e]; rfl) v1 ((visF_iff _ _).mpr ⟨n + 1, by omega, Nat.le_refl _, v2⟩) (by
        cases e : visF g q n v with
        | false => rfl
        | true =>
          obtain ⟨i, i1, i2, i3⟩ := (visF_iff _ _).mp e
          exact absurd (i3.trans v2.symm) (dis i (n + 1) i1 (by omega) hn8))
      have := ih (by omega)
      omega
  have full := cnt_full (cn 8 (Nat.le_refl _)) q hq
  obtain ⟨i, i1, i2, i3⟩ := (visF_iff _ _).mp full
  exact (hn i i1 i2).1 i3
theorem rndF_8 {Q : QT} {g : Nat → Int} {q : Nat} (hg : ∀ p, g p = -1 ∨ ∃ v : Nat, v < 8 ∧ g p = (v : Int)) (hq : q < 8) : rndF Q g q 9 q 0 = rndF Q g q 8 q 0 := by
  have key : ∀ k n acc, n + k = 8 → (∀ i, 1 ≤ i → i ≤ n → ¬ wkF g q i = (q : Int) ∧ ¬ wkF g q i = -1) → rndF Q g q (k + 1) (wkF g q n).toNat acc = rndF Q g q k (wkF g q n).toNat acc := by
    intro k
    induction k with
    | zero =>
      intro n acc hnk hn
      have hw : ¬ wkF g q n = -1 := by
        cases n with
        | zero => omega
        | succ n => exact (hn (n + 1) (by omega) (Nat.le_refl _)).2
      have e9 : wkF g q (n + 1) = g (wkF g q n).toNat := by rw [show wkF g q (n + 1) = if wkF g q n = -1 then -1 else g (wkF g q n).toNat from rfl, if_neg hw]
      have hn8 : n = 8 := by omega
      subst hn8
      unfold rndF
      by_cases c1 : g (wkF g q 8).toNat = -1
      · rw [if_pos c1]
      · rw [if_neg c1]
        by_cases c2 : g (wkF g q 8).toNat = q
        · exact absurd (wk_no hg hq (e9.trans c2) hn) (fun x => x)
        · rw [if_neg c2]; rfl
    | succ k ih =>
      intro n acc hnk hn
      have hw : ¬ wkF g q n = -1 := by
        cases n with
        | zero => show ¬ (q : Int) = -1; omega
        | succ n => exact (hn (n + 1) (by omega) (Nat.le_refl _)).2
      have e9 : wkF g q (n + 1) = g (wkF g q n).toNat := by rw [show wkF g q (n + 1) = if wkF g q n = -1 then -1 else g (wkF g q n).toNat from rfl, if_neg hw]
      rw [show rndF Q g q (k + 1 + 1) (wkF g q n).toNat acc = if g (wkF g q n).toNat = -1 then 0 else if g (wkF g q n).toNat = q then acc + rd Q (wkF g q n).toNat (g (wkF g q n).toNat) else rndF Q g q (k + 1) (g (wkF g q n).toNat).toNat (acc + rd Q (wkF g q n).toNat (g (wkF g q n).toNat)) from rfl, show rndF Q g q (k + 1) (wkF g q n).toNat acc = if g (wkF g q n).toNat = -1 then 0 else if g (wkF g q n).toNat = q then acc + rd Q (wkF g q n).toNat (g (wkF g q n).toNat) else rndF Q g q k (g (wkF g q n).toNat).toNat (acc + rd Q (wkF g q n).toNat (g (wkF g q n).toNat)) from rfl]
      by_cases c1 : g (wkF g q n).toNat = -1
      · rw [if_pos c1, if_pos c1]
      · rw [if_neg c1, if_neg c1]
        by_cases c2 : g (wkF g q n).toNat = q
        · rw [if_pos c2, if_pos c2]
        · rw [if_neg c2, if_neg c2, ← e9]
          refine ih (n + 1) _ (by omega) fun i h1 h2 => ?_
          by_cases ei : i = n + 1
          · rw [ei, e9]; exact ⟨c2, c1⟩
          · exact hn i h1 (by omega)
  exact key 8 0 0 rfl (fun i h1 h2 => by omega)
def rndV (Q : QT) (c s : Nat) (day : Int) (q : Nat) : Int := rndF Q (gnF Q c s day) q 8 q 0
def lstF (R : Nat → Int) : Nat → Int
  | 0 => 0
  | k + 1 => if R k ≤ 0 then lstF R k else if lstF R k = 0 then R k else if lstF R k ≤ R k then lstF R k else R k
def ringsV (Q : QT) (c s day what : Int) : Int := if (0 ≤ c ∧ c < nCv Q) ∧ (0 ≤ s ∧ s < nPp Q) ∧ (0 ≤ day ∧ day ≤ 999) ∧ (0 ≤ what ∧ what ≤ 1) then (if what = 0 then bI 8 (fun q => decide (¬ rndV Q c.toNat s.toNat day q ≤ 0)) else lstF (rndV Q c.toNat s.toNat day) 8) else -1
section RG
variable {l : Launch} {G : Gt} {d : Nat} {Q : QT} {M : Mem}
theorem AskP.g {c s : Nat} {day : Int} {p : Nat} {res : Int} {I : IM} (h : AskP (ask1 Q c s day day p) res I) : (if res = 1 then I 3 0 49 else -1) = gnF Q c s day p := by
  unfold gnF
  cases e : ask1 Q c s day day p with
  | none =>
    rw [e] at h
    obtain ⟨q1, _⟩ := h
    rw [if_neg (by omega)]
  | some x =>
    obtain ⟨r, h0, w⟩ := x
    rw [e] at h
    obtain ⟨q1, q2, q3⟩ := h
    dsimp only
    rcases q3 with ⟨q3, q4⟩ | ⟨q3, q4, _⟩
    · rw [if_neg (by omega), if_neg (by omega)]
    · rw [if_pos (by omega), if_pos q3, q4]
theorem AskC.g {c s : Nat} {day : Int} {p : Nat} {I : IM} (h : AskC (ask1 Q c s day day p) I) : (if I 9 0 4 = 1 then I 9 0 5 else -1) = gnF Q c s day p := by
  unfold gnF
  cases e : ask1 Q c s day day p with
  | none =>
    rw [e] at h
    obtain ⟨q1, _⟩ := h
    rw [if_neg (by omega)]
  | some x =>
    obtain ⟨r, h0, w⟩ := x
    rw [e] at h
    obtain ⟨q1, q2, q3⟩ := h
    dsimp only
    rw [q1, q2]
theorem ring_144 {c s : Int} {day what x5 x6 : Int} {q : Nat} {g : Nat → Int} {r : Option Vl} {M' : Mem} (hS : Sh M.2.1) (hq : WFQ Q) (hH : HoldsM Q M.1) (hg : ∀ p, p < 8 → M.1 87 0 p = g p) (hgo : ∀ p, g p = -1 ∨ ∃ v : Nat, v < 8 ∧ g p = (v : Int) ∧ 1 ≤ rd Q p v) (hq8 : q < 8) : ∀ f : Nat, f ≤ 8 → ∀ (at0 : Int) (acc R : Int), (at0 = -1 ∨ ∃ v : Nat, v < 8 ∧ at0 = (v : Int)) → 0 ≤ acc → acc ≤ 9 * (9 - f) → (at0 = (q : Int) → 1 ≤ acc) → (R = if at0 = (q : Int) then acc else if at0 = -1 then 0 else rndF Q g q f at0.toNat acc) → Ex l G (d + 4) mX12_rings 100 [some (vR (some (3, 0))), some (vI c), some (vI s), some (vI day), some (vI what), some (vI (if R ≤ 0 then x5 else aOr x5 (aShl 1 (q : Int)))), some (vI (if R ≤ 0 then x6 else if x6 = 0 then R else if x6 ≤ R then x6 else R)), some (vI ((q : Int) + 1)), none, none, none, none] [] M r M' → Ex l G (d + 4) mX12_rings 144 [some (vR (some (3, 0))), some (vI c), some (vI s), some (vI day), some (vI what), some (vI x5), some (vI x6), some (vI (q : Int)), some (vI at0), some (vI acc), some (vI (8 - (f : Int))), none] [] M r M' := by
  have hi1 : InR ((q : Int) + 1) := by unfold InR; omega
  intro f
  induction f with
  | zero =>
    intro _ at0 acc R hat h0 h9 hq1 hR K
    refine xX12_rings_144 hS ⟨fun _ => ⟨fun _ => by omega, hi1, ?_⟩, fun c => absurd (by omega) c⟩
    by_cases e : at0 = (q : Int)
    · rw [if_pos e] at hR
      subst hR
      rw [if_neg (by have := hq1 e; omega), if_neg (by have := hq1 e; omega)] at K
      rw [if_pos e, if_pos e]
      exact K
    · rw [if_neg e] at hR
      have hR0 : R = 0 := by rw [hR]; split <;> rfl
      rw [hR0, if_pos (by omega), if_pos (by omega)] at K
      rw [if_neg e, if_neg e]
      exact K
  | succ f ih =>
    intro hf at0 acc R hat h0 h9 hq1 hR K
    by_cases e : at0 = (q : Int)
    · rw [if_pos e] at hR
      subst hR
      rw [if_neg (by have := hq1 e; omega), if_neg (by have := hq1 e; omega)] at K
      refine xX12_rings_144 hS ⟨fun c => by omega, fun _ => ⟨fun c => by omega, fun _ => ⟨fun _ => ⟨fun _ => by omega, hi1, ?_⟩, fun c => absurd e c⟩⟩⟩
      rw [if_pos e, if_pos e]
      exact K
    · rw [if_neg e] at hR
      by_cases em : at0 = -1
      · rw [if_pos em] at hR
        rw [hR, if_pos (by omega), if_pos (by omega)] at K
        refine xX12_rings_144 hS ⟨fun c => by omega, fun _ => ⟨fun _ => ⟨fun _ => by omega, hi1, ?_⟩, fun c => absurd em c⟩⟩
        rw [if_neg e, if_neg e]
        exact K
      · rw [if_neg em] at hR
        rcases hat with h | ⟨v, v1, v2⟩
        · exact absurd h em
        subst v2
        rw [Int.toNat_natCast] at hR
        have eg : M.1 87 0 (v : Int).toNat = g v := by rw [Int.toNat_natCast]; exact hg v v1
        have eR : R = if g v = -1 then 0 else if g v = q then acc + rd Q v (g v) else rndF Q g q f (g v).toNat (acc + rd Q v (g v)) := hR
        refine xX12_rings_144 hS ⟨fun c => by omega, fun _ => ⟨fun c => absurd c em, fun _ => ⟨fun c => absurd c e, fun _ => ⟨by omega, fun c => ?_, fun c => ?_⟩⟩⟩⟩
        · rw [eg] at c ⊢
          rcases hgo v with h | ⟨u, u1, u2, u3⟩
          · exact absurd h c
          have rr := KX12_roadOf (l := l) (G := G) (d := d + 3) (M := M) (a := (v : Int)) (b := (u : Int)) hS hq.2.1 hH.2.2.1
          rcases ro_or hq.2.1 (v : Int) (u : Int) with ⟨_, q'⟩ | ⟨j, j1, j2, j3, _⟩
          · omega
          have h99 := rd_in hq.2.1 (v : Int) (u : Int)
          rw [u2]
          refine ⟨_, M, rr, ?_⟩
          rw [j2, Int.toNat_natCast, hH.2.2.1 _ j (by omega), ← j3]
          refine ⟨⟨by omega, by unfold InR; omega, by unfold InR; omega⟩, ?_⟩
          have := ih (by omega) (u : Int) (acc + rd Q v u) R (.inr ⟨u, u1, rfl⟩) (by omega) (by omega) (by omega) (by
            rw [eR, u2, if_neg (show ¬ (u : Int) = -1 by omega)]
            by_cases eu : (u : Int) = (q : Int)
            · rw [if_pos eu, if_pos eu]
            · rw [if_neg eu, if_neg eu, if_neg (show ¬ (u : Int) = -1 by omega)]) K
          rw [show (8 - ((f + 1 : Nat) : Int) + 1) = 8 - (f : Int) by omega]
          exact this
        · rw [eg] at c ⊢
          have := ih (by omega) (-1) acc R (.inl rfl) (by omega) (by omega) (by omega) (by
            rw [eR, if_pos c, if_neg (show ¬ (-1 : Int) = (q : Int) by omega), if_pos rfl]) K
          rw [c, Int.add_zero, show (8 - ((f + 1 : Nat) : Int) + 1) = 8 - (f : Int) by omega]
          exact ⟨⟨by unfold InR; omega, by unfold InR; omega⟩, this⟩
theorem KX12_rings {c s day what : Int} (hS : Sh M.2.1) (hq : WFQ Q) (hH : HoldsM Q M.1) : ∃ I', Cl l G (d + 4) mX12_rings [vR (some (3, 0)), vI c, vI s, vI day, vI what] M (some (vI (ringsV Q c s day what))) (I', M.2.1, M.2.2) ∧ frM M.1 I' := by
  have h12 := nPp_le hq.1
  have e1 := mppl_eq hq.1 hH
  have e2 : M.1 3 0 33 = (nCv Q : Int) := by rw [hH.2.2.2.1]; have := hq.2.2.2.2.1; unfold nCv; omega
  have hn8 : nCv Q ≤ 8 := by have := hq.2.2.2.2.1; unfold nCv; omega
  unfold ringsV
  by_cases g : (0 ≤ c ∧ c < nCv Q) ∧ (0 ≤ s ∧ s < nPp Q) ∧ (0 ≤ day ∧ day ≤ 999) ∧ (0 ≤ what ∧ what ≤ 1)
  · rw [if_pos g]
    obtain ⟨g1, g2, g3, g4⟩ := g
    have hgo := gnF_or hq c.toNat s.toNat day
    obtain ⟨R, hRr⟩ : ∃ R, rndV Q c.toNat s.toNat day = R := ⟨_, rfl⟩
    rw [hRr]
    have walk : ∀ I, HoldsM Q I → (∀ p, p < 8 → I 87 0 p = gnF Q c.toNat s.toNat day p) → Ex l G (d + 4) mX12_rings 100 [some (vR (some (3, 0))), some (vI c), some (vI s), some (vI day), some (vI what), some (vI 0), some (vI 0), some (vI 0), none, none, none, none] [] (I, M.2.1, M.2.2) (some (vI (if what = 0 then bI 8 (fun q => decide (¬ R q ≤ 0)) else lstF R 8))) (I, M.2.1, M.2.2) := by
      intro I hI hG
      refine loopUp (P := fun q : Nat => Ex l G (d + 4) mX12_rings 100 [some (vR (some (3, 0))), some (vI c), some (vI s), some (vI day), some (vI what), some (vI (bI q (fun q => decide (¬ R q ≤ 0)))), some (vI (lstF R q)), some (vI (q : Int)), none, none, none, none] [] (I, M.2.1, M.2.2) (some (vI (if what = 0 then bI 8 (fun q => decide (¬ R q ≤ 0)) else lstF R 8))) (I, M.2.1, M.2.2)) 0 8 (by omega) ?_ ?_
      · intro q _ hq8 ih
        have eR : R q = rndF Q (gnF Q c.toNat s.toNat day) q 9 q 0 := by
          rw [rndF_8 (fun p => by
            rcases hgo p with h | ⟨v, v1, v2, _⟩
            · exact .inl h
            · exact .inr ⟨v, v1, v2⟩) hq8, ← hRr]; rfl
        have eL : lstF R (q + 1) = if R q ≤ 0 then lstF R q else if lstF R q = 0 then R q else if lstF R q ≤ R q then lstF R q else R q := rfl
        rw [eL, ← bI_cl (p := fun q => decide (¬ R q ≤ 0)) (c := R q ≤ 0) (by omega) (by simp)] at ih
        have eg : I 87 0 (q : Int).toNat = gnF Q c.toNat s.toNat day q := by rw [Int.toNat_natCast]; exact hG q hq8
        have eR2 : R q = if gnF Q c.toNat s.toNat day q = -1 then 0 else if gnF Q c.toNat s.toNat day q = q then 0 + rd Q q (gnF Q c.toNat s.toNat day q) else rndF Q (gnF Q c.toNat s.toNat day) q 8 (gnF Q c.toNat s.toNat day q).toNat (0 + rd Q q (gnF Q c.toNat s.toNat day q)) := eR
        refine xX12_rings_100 hS ⟨fun c => by omega, fun _ => ⟨by omega, fun cc => ?_, fun cc => ?_⟩⟩
        · dsimp only at cc ⊢
          rw [eg] at cc ⊢
          rcases hgo q with h | ⟨u, u1, u2, u3⟩
          · exact absurd h cc
          have rr := KX12_roadOf (l := l) (G := G) (d := d + 3) (M := (I, M.2.1, M.2.2)) (a := (q : Int)) (b := (u : Int)) hS hq.2.1 hI.2.2.1
          rcases ro_or hq.2.1 (q : Int) (u : Int) with ⟨_, q'⟩ | ⟨j, j1, j2, j3, _⟩
          · omega
          have h99 := rd_in hq.2.1 (q : Int) (u : Int)
          rw [u2]
          refine ⟨_, _, rr, ?_⟩
          dsimp only
          rw [j2, Int.toNat_natCast, hI.2.2.1 _ j (by omega), ← j3]
          refine ⟨by omega, ?_⟩
          exact ring_144 (M := (I, M.2.1, M.2.2)) (g := gnF Q c.toNat s.toNat day) hS hq hI hG hgo hq8 8 (by omega) (u : Int) (rd Q q u) (R q) (.inr ⟨u, u1, rfl⟩) (by omega) (by omega) (by omega) (by
            rw [eR2, u2, if_neg (show ¬ (u : Int) = -1 by omega), Int.zero_add]
            by_cases eu : (u : Int) = (q : Int)
            · rw [if_pos eu, if_pos eu]
            · rw [if_neg eu, if_neg eu, if_neg (show ¬ (u : Int) = -1 by omega)]) ih
        · dsimp only at cc ⊢
          rw [eg] at cc ⊢
          rw [cc]
          exact ring_144 (M := (I, M.2.1, M.2.2)) (g := gnF Q c.toNat s.toNat day) hS hq hI hG hgo hq8 8 (by omega) (-1) 0 (R q) (.inl rfl) (by omega) (by omega) (by omega) (by
            rw [eR2, if_pos cc, if_neg (show ¬ (-1 : Int) = (q : Int) by omega), if_pos rfl]) ih
      · exact xX12_rings_100 hS ⟨fun _ => ⟨rfl, rfl⟩, fun c => absurd (by omega) c⟩
    have key := loopUp (P := fun q : Nat => ∀ I, HoldsM Q I → Laid Q I 0 (dn Q day) → Laid Q I 1 (dn Q day) → (∀ p, p < q → I 87 0 p = gnF Q c.toNat s.toNat day p) → ∃ I', Ex l G (d + 4) mX12_rings 51 [some (vR (some (3, 0))), some (vI c), some (vI s), some (vI day), some (vI what), some (vI (q : Int)), none, none, none, none, none, none] [] (I, M.2.1, M.2.2) (some (vI (if what = 0 then bI 8 (fun q => decide (¬ R q ≤ 0)) else lstF R 8))) (I', M.2.1, M.2.2) ∧ frM I I') 0 8 (by omega) (by
      intro q _ hq8 ih I hI hL0 hL1 hG
      obtain ⟨I3, res, c3, f3, a3⟩ := KX12_asks (l := l) (G := G) (d := d) (M := (I, M.2.1, M.2.2)) (n := nD Q c.toNat day day) (cv := c.toNat) (s := s.toNat) (place := q) hS hq.1 hq.2.1 hq.2.2.1 hq.2.2.2.1 (dn_le Q day) (dn_le Q day) rfl hI hL0 hL1 (by omega) (hq.2.2.2.2.2 c.toNat (by omega)) (by omega) hq8
      rw [show ((c.toNat : Nat) : Int) = c by omega, show ((s.toNat : Nat) : Int) = s by omega] at c3
      have ag := AskP.g (Q := Q) (c := c.toNat) (s := s.toNat) (day := day) (p := q) a3
      have fu : frM I (upI I3 87 0 q (gnF Q c.toNat s.toNat day q)) := f3.m.tr (fun f k i hn => by rw [upI_o (fun e => hn (by unfold scr; omega))])
      have lu : ∀ row n, Laid Q I3 row n → Laid Q (upI I3 87 0 q (gnF Q c.toNat s.toNat day q)) row n := fun row n h => ⟨fun p hp => by rw [upI_f rfl]; exact h.1 p hp, fun p t hp ht => by rw [upI_f rfl]; exact h.2.1 p t hp ht, fun p hp => by rw [upI_f rfl]; exact h.2.2 p hp⟩
      obtain ⟨I', x1, x2⟩ := ih (upI I3 87 0 q (gnF Q c.toNat s.toNat day q)) (hI.fr fu) (lu _ _ (hL0.fr3 f3)) (lu _ _ (hL1.fr3 f3)) (fun p hp => by
        rw [upI_c]
        by_cases e : p = q
        · rw [if_pos e, e]
        · rw [if_neg e, f3 _ _ _ (by omega)]; exact hG p (by omega))
      refine ⟨I', xX12_rings_51 hS ⟨fun c => by omega, fun _ => ⟨_, _, c3, ⟨by omega, by unfold InR; omega⟩, ?_⟩⟩, fu.tr x2⟩
      dsimp only
      rw [ag, Int.toNat_natCast]
      exact x1) (by
      intro I hI hL0 hL1 hG
      exact ⟨I, xX12_rings_51 hS ⟨fun _ => walk I hI hG, fun c => absurd (by omega) c⟩, frM.rf⟩)
    obtain ⟨I0, c0, s0, L0⟩ := KX12_lays (l := l) (G := G) (d := d + 1) (row := 0) (x2 := day) hS hq.1 hH.1 (by omega)
    obtain ⟨I1, c1, s1, L1⟩ := KX12_lays (l := l) (G := G) (d := d + 1) (M := (I0, M.2.1, M.2.2)) (row := 1) (x2 := day) hS hq.1 (hH.fr (frM.ll s0)).1 (by omega)
    have f1 := (frM.ll s0).tr (frM.ll s1)
    obtain ⟨I', x1, x2⟩ := key I1 (hH.fr f1) (Laid.same (row' := 1) L0 (by omega) (by omega) (by omega) s1) L1 (fun p hp => by omega)
    refine ⟨I', xX12_rings_0 hS ?_, f1.tr x2⟩
    rw [e1, e2]
    exact ⟨by unfold InR; omega, fun a => absurd g1 a, fun _ => ⟨by unfold InR; omega, fun a => absurd g2 a, fun _ => ⟨fun a => absurd g3 a, fun _ => ⟨fun _ => ⟨_, c0, _, c1, x1⟩, fun a => absurd g4 a⟩⟩⟩⟩
  · rw [if_neg g]
    refine ⟨M.1, xX12_rings_0 hS ?_, frM.rf⟩
    rw [e1, e2]
    exact ⟨by unfold InR; omega, fun _ => ⟨rfl, rfl⟩, fun g1 => ⟨by unfold InR; omega, fun _ => ⟨rfl, rfl⟩, fun g2 => ⟨fun _ => ⟨rfl, rfl⟩, fun g3 => ⟨fun g4 => absurd ⟨g1, g2, g3, g4⟩ g, fun _ => ⟨rfl, rfl⟩⟩⟩⟩⟩
end RG
