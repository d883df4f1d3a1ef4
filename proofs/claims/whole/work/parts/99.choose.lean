/-! sure: the class, who may be chosen -/
set_option maxRecDepth 4000 in
theorem xX0_choose_0 {l : Launch} {G : Gt} {d : Nat} {M M' : Mem} {r : Option Vl} {k1 : Nat} {x2 : Int} {x3 : Int} {x4 : Int} {x5 : Int} (hS : Sh M.2.1) (h : 
    ∃ (k_3 : Nat) (M_1 : Mem), Cl l G d mX6_on [vR (some (6, 0)), vI x4] M (some (vR (some (14, k_3)))) M_1 ∧ Sh M_1.2.1 ∧ (((M_1.1 13 k1 3) = 0 → ∃ (k_6 : Nat) (M_4 : Mem), Cl l G d mX6_on [vR (some (6, 0)), vI x3] M_1 (some (vR (some (14, k_6)))) M_4 ∧ Ex l G (d + 1) mX0_choose 46 [some (vR (some (9, 0))), some (vR (some (13, k1))), some (vI x2), some (vI x3), some (vI x4), some (vI x5), some (vR (some (14, k_3))), some (vR (some (14, k_6))), some (vI 0), none, none, none] [] ((upI (upI M_4.1 9 0 8 0) 9 0 9 0), M_4.2.1, M_4.2.2) r M') ∧ (¬ ((M_1.1 13 k1 3) = 0) → Ex l G (d + 1) mX0_choose 46 [some (vR (some (9, 0))), some (vR (some (13, k1))), some (vI x2), some (vI x3), some (vI x4), some (vI x5), some (vR (some (14, k_3))), some (vR (some (14, k_3))), some (vI 0), none, none, none] [] ((upI (upI M_1.1 9 0 8 0) 9 0 9 0), M_1.2.1, M_1.2.2) r M'))) : Cl l G (d + 1) mX0_choose [vR (some (9, 0)), vR (some (13, k1)), vI x2, vI x3, vI x4, vI x5] M r M' := by
  show Ex l G (d + 1) mX0_choose 0 [some (vR (some (9, 0))), some (vR (some (13, k1))), some (vI x2), some (vI x3), some (vI x4), some (vI x5), none, none, none, none, none, none] [] M r M'
  refine r_aload_n 1 dX0_choose_0 rfl rfl ?_
  refine g_R 4 dX0_choose_1 rfl rfl rfl fr_0_19 (sh_0_1 hS) ?_
  refine r_iload 6 dX0_choose_4 rfl rfl ?_
  obtain ⟨k_3, M_1, hc_2, hS, h⟩ := h
  refine v_1 (ci := 6) (C := (RX6, TX6, 3)) [vI x4] [] 9 dX0_choose_6 rfl rfl rfl rfl rfl mo_X6_on ml_0_31 rfl rfl hc_2 ?_
  refine r_astore (ls' := [some (vR (some (9, 0))), some (vR (some (13, k1))), some (vI x2), some (vI x3), some (vI x4), some (vI x5), some (vR (some (14, k_3))), none, none, none, none, none]) 11 dX0_choose_9 rfl rfl rfl rfl ?_
  refine r_aload_n 12 dX0_choose_11 rfl rfl ?_
  refine g_I 15 dX0_choose_12 rfl rfl rfl fi_0_37 rfl ?_
  refine r_if_eq 18 23 dX0_choose_15 rfl rfl (fun c => ?_) (fun c => ?_)
  · have h := h.1 (c)
    refine r_aload_n 24 dX0_choose_23 rfl rfl ?_
    refine g_R 27 dX0_choose_24 rfl rfl rfl fr_0_19 (sh_0_1 hS) ?_
    refine r_iload_n 28 dX0_choose_27 rfl rfl ?_
    obtain ⟨k_6, M_4, hc_5, h⟩ := h
    refine v_1 (ci := 6) (C := (RX6, TX6, 3)) [vI x3] [] 31 dX0_choose_28 rfl rfl rfl rfl rfl mo_X6_on ml_0_31 rfl rfl hc_5 ?_
    refine r_astore (ls' := [some (vR (some (9, 0))), some (vR (some (13, k1))), some (vI x2), some (vI x3), some (vI x4), some (vI x5), some (vR (some (14, k_3))), some (vR (some (14, k_6))), none, none, none, none]) 33 dX0_choose_31 rfl rfl rfl rfl ?_
    refine r_aload_n 34 dX0_choose_33 rfl rfl ?_
    refine r_iconst 35 dX0_choose_34 rfl (InR_of rfl) ?_
    refine p_I 38 dX0_choose_35 rfl rfl rfl rfl pf_0_95 (.inl rfl) rfl ?_
    refine r_aload_n 39 dX0_choose_38 rfl rfl ?_
    refine r_iconst 40 dX0_choose_39 rfl (InR_of rfl) ?_
    refine p_I 43 dX0_choose_40 rfl rfl rfl rfl pf_0_98 (.inl rfl) rfl ?_
    refine r_iconst 44 dX0_choose_43 rfl (InR_of rfl) ?_
    refine r_istore (ls' := [some (vR (some (9, 0))), some (vR (some (13, k1))), some (vI x2), some (vI x3), some (vI x4), some (vI x5), some (vR (some (14, k_3))), some (vR (some (14, k_6))), some (vI 0), none, none, none]) 46 dX0_choose_44 rfl rfl rfl rfl ?_
    exact h
  · have h := h.2 (c)
    refine r_aload 20 dX0_choose_18 rfl rfl ?_
    refine r_goto 31 dX0_choose_20 rfl ?_
    refine r_astore (ls' := [some (vR (some (9, 0))), some (vR (some (13, k1))), some (vI x2), some (vI x3), some (vI x4), some (vI x5), some (vR (some (14, k_3))), some (vR (some (14, k_3))), none, none, none, none]) 33 dX0_choose_31 rfl rfl rfl rfl ?_
    refine r_aload_n 34 dX0_choose_33 rfl rfl ?_
    refine r_iconst 35 dX0_choose_34 rfl (InR_of rfl) ?_
    refine p_I 38 dX0_choose_35 rfl rfl rfl rfl pf_0_95 (.inl rfl) rfl ?_
    refine r_aload_n 39 dX0_choose_38 rfl rfl ?_
    refine r_iconst 40 dX0_choose_39 rfl (InR_of rfl) ?_
    refine p_I 43 dX0_choose_40 rfl rfl rfl rfl pf_0_98 (.inl rfl) rfl ?_
    refine r_iconst 44 dX0_choose_43 rfl (InR_of rfl) ?_
    refine r_istore (ls' := [some (vR (some (9, 0))), some (vR (some (13, k1))), some (vI x2), some (vI x3), some (vI x4), some (vI x5), some (vR (some (14, k_3))), some (vR (some (14, k_3))), some (vI 0), none, none, none]) 46 dX0_choose_44 rfl rfl rfl rfl ?_
    exact h
set_option maxRecDepth 4000 in
theorem xX0_choose_46 {l : Launch} {G : Gt} {d : Nat} {M M' : Mem} {r : Option Vl} {k1 : Nat} {x2 : Int} {x3 : Int} {x4 : Int} {x5 : Int} {k6 : Nat} {k7 : Nat} {x8 : Int} (hS : Sh M.2.1) (h : 
    ((M.1 4 0 0) ≤ x8 → r = none ∧ M' = M) ∧ (¬ ((M.1 4 0 0) ≤ x8) → (¬ ((aOr (M.1 9 0 8) (M.1 9 0 9)) = 0) → r = none ∧ M' = M) ∧ ((aOr (M.1 9 0 8) (M.1 9 0 9)) = 0 → ((0 ≤ x5 ∧ x5 < 8) ∧ (0 ≤ (M.1 32 k6 x5.toNat) ∧ 0 ≤ x8 ∧ x8 < 32)) ∧ ((tb (M.1 32 k6 x5.toNat) x8 = true → ((0 ≤ x8 ∧ x8 < 12) ∧ ((0 ≤ x8 ∧ x8 < 12) ∧ 0 ≤ (M.1 31 k6 x8.toNat) ∧ (M.1 31 k6 x8.toNat) < 8)) ∧ (∃ (r_7 : Int) (M_5 : Mem), Cl l G d mX3_fit [vR (some (8, 0)), vR (some (13, k1)), vI x2, vR (some (14, k7)), vI (aOr (aOr (aShl 1 x8) (M.1 36 0 x8.toNat)) (M.1 32 k6 (M.1 31 k6 x8.toNat).toNat))] M (some (vI r_7)) M_5 ∧ Sh M_5.2.1 ∧ (((0 ≤ r_7 ∧ 0 ≤ x8 ∧ x8 < 32)) ∧ ((¬ (tb r_7 x8 = true) → ((0 ≤ x5 ∧ x5 < 8)) ∧ Ex l G (d + 1) mX0_choose 156 [some (vR (some (9, 0))), some (vR (some (13, k1))), some (vI x2), some (vI x3), some (vI x4), some (vI x5), some (vR (some (14, k6))), some (vR (some (14, k7))), some (vI x8), some (vI r_7), some (vI 0), none] [] ((upI M_5.1 9 0 8 (aAnd r_7 (M_5.1 32 k6 x5.toNat))), M_5.2.1, M_5.2.2) r M') ∧ (tb r_7 x8 = true → ((0 ≤ x8 ∧ x8 < 32)) ∧ r = none ∧ M' = ((upI M_5.1 9 0 8 (aShl 1 x8)), M_5.2.1, M_5.2.2)))))) ∧ (¬ (tb (M.1 32 k6 x5.toNat) x8 = true) → (InR (x8 + 1)) ∧ Ex l G (d + 1) mX0_choose 46 [some (vR (some (9, 0))), some (vR (some (13, k1))), some (vI x2), some (vI x3), some (vI x4), some (vI x5), some (vR (some (14, k6))), some (vR (some (14, k7))), some (vI (x8 + 1)), none, none, none] [] M r M'))))) : Ex l G (d + 1) mX0_choose 46 [some (vR (some (9, 0))), some (vR (some (13, k1))), some (vI x2), some (vI x3), some (vI x4), some (vI x5), some (vR (some (14, k6))), some (vR (some (14, k7))), some (vI x8), none, none, none] [] M r M' := by
  refine r_iload 48 dX0_choose_46 rfl rfl ?_
  refine r_aload_n 49 dX0_choose_48 rfl rfl ?_
  refine g_R 52 dX0_choose_49 rfl rfl rfl fr_0_15 (sh_0_0 hS) ?_
  refine g_I 55 dX0_choose_52 rfl rfl rfl fi_0_56 rfl ?_
  refine r_icmp_ge 58 226 dX0_choose_55 rfl rfl (fun c => ?_) (fun c => ?_)
  · have h := h.1 (c)
    exact r_vret dX0_choose_226 rfl h.1 h.2
  · have h := h.2 (c)
    refine r_aload_n 59 dX0_choose_58 rfl rfl ?_
    refine g_I 62 dX0_choose_59 rfl rfl rfl fi_0_95 rfl ?_
    refine r_aload_n 63 dX0_choose_62 rfl rfl ?_
    refine g_I 66 dX0_choose_63 rfl rfl rfl fi_0_98 rfl ?_
    refine r_ior 67 dX0_choose_66 rfl ?_
    refine r_if_ne 70 226 dX0_choose_67 rfl rfl (fun c => ?_) (fun c => ?_)
    · have h := h.1 (c)
      exact r_vret dX0_choose_226 rfl h.1 h.2
    · have h := h.2 (Decidable.not_not.mp c)
      obtain ⟨⟨o_1, o_2⟩, h⟩ := h
      refine r_aload 72 dX0_choose_70 rfl rfl ?_
      refine g_R 75 dX0_choose_72 rfl rfl rfl fr_0_61 (sh_7_4 hS _) ?_
      refine r_iload 77 dX0_choose_75 rfl rfl ?_
      refine a_I 8 78 dX0_choose_77 rfl rfl rfl rfl o_1 rfl ?_
      refine r_iload 80 dX0_choose_78 rfl rfl ?_
      refine n_1 [vI (M.1 32 k6 x5.toNat), vI x8] [] 83 dX0_choose_80 rfl rfl mo_X11_hasBit ml_0_66 rfl rfl (KX11_hasBit o_2) ?_
      refine r_if_ne 86 89 dX0_choose_83 rfl rfl (fun c => ?_) (fun c => ?_)
      · have h := h.1 (b2_1.mp c)
        obtain ⟨⟨o_3, o_4⟩, h⟩ := h
        refine r_aload_n 90 dX0_choose_89 rfl rfl ?_
        refine g_R 93 dX0_choose_90 rfl rfl rfl fr_0_27 (sh_0_3 hS) ?_
        refine r_aload_n 94 dX0_choose_93 rfl rfl ?_
        refine r_iload_n 95 dX0_choose_94 rfl rfl ?_
        refine r_aload 97 dX0_choose_95 rfl rfl ?_
        refine r_aload 99 dX0_choose_97 rfl rfl ?_
        refine r_iload 101 dX0_choose_99 rfl rfl ?_
        refine r_aload_n 102 dX0_choose_101 rfl rfl ?_
        refine g_R 105 dX0_choose_102 rfl rfl rfl fr_0_15 (sh_0_0 hS) ?_
        refine g_R 108 dX0_choose_105 rfl rfl rfl fr_0_70 (sh_8_6 hS _) ?_
        refine r_iload 110 dX0_choose_108 rfl rfl ?_
        refine a_I 12 111 dX0_choose_110 rfl rfl rfl rfl o_3 rfl ?_
        refine v_1 (ci := 7) (C := (RX7, TX7, 5)) [vI x8, vI (M.1 36 0 x8.toNat)] [vR (some (14, k7)), vI x2, vR (some (13, k1)), vR (some (8, 0))] 114 dX0_choose_111 rfl rfl rfl rfl rfl mo_X7_seenFrom ml_0_73 rfl rfl (KX7_seenFrom hS o_4) ?_
        obtain ⟨r_7, M_5, hc_6, hS, h⟩ := h
        refine v_1 (ci := 3) (C := (RX3, TX3, 4)) [vR (some (13, k1)), vI x2, vR (some (14, k7)), vI (aOr (aOr (aShl 1 x8) (M.1 36 0 x8.toNat)) (M.1 32 k6 (M.1 31 k6 x8.toNat).toNat))] [] 117 dX0_choose_114 rfl rfl rfl rfl rfl mo_X3_fit ml_0_77 rfl rfl hc_6 ?_
        obtain ⟨o_8, h⟩ := h
        refine r_istore (ls' := [some (vR (some (9, 0))), some (vR (some (13, k1))), some (vI x2), some (vI x3), some (vI x4), some (vI x5), some (vR (some (14, k6))), some (vR (some (14, k7))), some (vI x8), some (vI r_7), none, none]) 119 dX0_choose_117 rfl rfl rfl rfl ?_
        refine r_iload 121 dX0_choose_119 rfl rfl ?_
        refine r_iload 123 dX0_choose_121 rfl rfl ?_
        refine n_1 [vI r_7, vI x8] [] 126 dX0_choose_123 rfl rfl mo_X11_hasBit ml_0_66 rfl rfl (KX11_hasBit o_8) ?_
        refine r_if_eq 129 138 dX0_choose_126 rfl rfl (fun c => ?_) (fun c => ?_)
        · have h := h.1 (b2_0.mp c)
          obtain ⟨o_9, h⟩ := h
          refine r_aload_n 139 dX0_choose_138 rfl rfl ?_
          refine r_iload 141 dX0_choose_139 rfl rfl ?_
          refine r_aload 143 dX0_choose_141 rfl rfl ?_
          refine g_R 146 dX0_choose_143 rfl rfl rfl fr_0_61 (sh_7_4 hS _) ?_
          refine r_iload 148 dX0_choose_146 rfl rfl ?_
          refine a_I 8 149 dX0_choose_148 rfl rfl rfl rfl o_9 rfl ?_
          refine r_iand 150 dX0_choose_149 rfl ?_
          refine p_I 153 dX0_choose_150 rfl rfl rfl rfl pf_0_95 (.inl rfl) rfl ?_
          refine r_iconst 154 dX0_choose_153 rfl (InR_of rfl) ?_
          refine r_istore (ls' := [some (vR (some (9, 0))), some (vR (some (13, k1))), some (vI x2), some (vI x3), some (vI x4), some (vI x5), some (vR (some (14, k6))), some (vR (some (14, k7))), some (vI x8), some (vI r_7), some (vI 0), none]) 156 dX0_choose_154 rfl rfl rfl rfl ?_
          exact h
        · have h := h.2 (b2_1.mp c)
          obtain ⟨o_10, h⟩ := h
          refine r_aload_n 130 dX0_choose_129 rfl rfl ?_
          refine r_iconst 131 dX0_choose_130 rfl (InR_of rfl) ?_
          refine r_iload 133 dX0_choose_131 rfl rfl ?_
          refine r_ishl 134 dX0_choose_133 rfl o_10 ?_
          refine p_I 137 dX0_choose_134 rfl rfl rfl rfl pf_0_95 (.inl rfl) rfl ?_
          exact r_vret dX0_choose_137 rfl h.1 h.2
      · have h := h.2 (b2_0.mp (Decidable.not_not.mp c))
        obtain ⟨o_11, h⟩ := h
        refine r_goto 220 dX0_choose_86 rfl ?_
        refine r_iinc (ls' := [some (vR (some (9, 0))), some (vR (some (13, k1))), some (vI x2), some (vI x3), some (vI x4), some (vI x5), some (vR (some (14, k6))), some (vR (some (14, k7))), some (vI (x8 + 1)), none, none, none]) 223 dX0_choose_220 rfl rfl rfl rfl o_11 rfl ?_
        refine r_goto 46 dX0_choose_223 rfl ?_
        exact h
set_option maxRecDepth 4000 in
theorem xX0_choose_156 {l : Launch} {G : Gt} {d : Nat} {M M' : Mem} {r : Option Vl} {k1 : Nat} {x2 : Int} {x3 : Int} {x4 : Int} {x5 : Int} {k6 : Nat} {k7 : Nat} {x8 : Int} {x9 : Int} {x10 : Int} (hS : Sh M.2.1) (h : 
    (8 ≤ x10 → (InR (x8 + 1)) ∧ Ex l G (d + 1) mX0_choose 46 [some (vR (some (9, 0))), some (vR (some (13, k1))), some (vI x2), some (vI x3), some (vI x4), some (vI x5), some (vR (some (14, k6))), some (vR (some (14, k7))), some (vI (x8 + 1)), none, none, none] [] M r M') ∧ (¬ (8 ≤ x10) → (InR (x5 * 8) ∧ InR ((x5 * 8) + x10) ∧ (0 ≤ ((x5 * 8) + x10) ∧ ((x5 * 8) + x10) < 64) ∧ (0 ≤ x10 ∧ x10 < 8)) ∧ (((aAnd x9 (M.1 32 k6 x10.toNat)) = 0 → (InR (x10 + 1)) ∧ Ex l G (d + 1) mX0_choose 156 [some (vR (some (9, 0))), some (vR (some (13, k1))), some (vI x2), some (vI x3), some (vI x4), some (vI x5), some (vR (some (14, k6))), some (vR (some (14, k7))), some (vI x8), some (vI x9), some (vI (x10 + 1)), none] [] M r M') ∧ (¬ ((aAnd x9 (M.1 32 k6 x10.toNat)) = 0) → ((M.1 46 0 ((x5 * 8) + x10).toNat) = (-1) → (InR (x10 + 1)) ∧ Ex l G (d + 1) mX0_choose 156 [some (vR (some (9, 0))), some (vR (some (13, k1))), some (vI x2), some (vI x3), some (vI x4), some (vI x5), some (vR (some (14, k6))), some (vR (some (14, k7))), some (vI x8), some (vI x9), some (vI (x10 + 1)), none] [] M r M') ∧ (¬ ((M.1 46 0 ((x5 * 8) + x10).toNat) = (-1)) → ((0 ≤ (M.1 46 0 ((x5 * 8) + x10).toNat) ∧ (M.1 46 0 ((x5 * 8) + x10).toNat) < 32) ∧ InR (x10 + 1)) ∧ Ex l G (d + 1) mX0_choose 156 [some (vR (some (9, 0))), some (vR (some (13, k1))), some (vI x2), some (vI x3), some (vI x4), some (vI x5), some (vR (some (14, k6))), some (vR (some (14, k7))), some (vI x8), some (vI x9), some (vI (x10 + 1)), none] [] ((upI M.1 9 0 9 (aOr (M.1 9 0 9) (aShl 1 (M.1 46 0 ((x5 * 8) + x10).toNat)))), M.2.1, M.2.2) r M'))))) : Ex l G (d + 1) mX0_choose 156 [some (vR (some (9, 0))), some (vR (some (13, k1))), some (vI x2), some (vI x3), some (vI x4), some (vI x5), some (vR (some (14, k6))), some (vR (some (14, k7))), some (vI x8), some (vI x9), some (vI x10), none] [] M r M' := by
  refine r_iload 158 dX0_choose_156 rfl rfl ?_
  refine r_bipush 160 dX0_choose_158 rfl rfl ?_
  refine r_icmp_ge 163 220 dX0_choose_160 rfl rfl (fun c => ?_) (fun c => ?_)
  · have h := h.1 (c)
    obtain ⟨o_1, h⟩ := h
    refine r_iinc (ls' := [some (vR (some (9, 0))), some (vR (some (13, k1))), some (vI x2), some (vI x3), some (vI x4), some (vI x5), some (vR (some (14, k6))), some (vR (some (14, k7))), some (vI (x8 + 1)), some (vI x9), some (vI x10), none]) 223 dX0_choose_220 rfl rfl rfl rfl o_1 rfl ?_
    refine r_goto 46 dX0_choose_223 rfl ?_
    exact Ex.weak h ⟨rfl, rfl, rfl, rfl, rfl, rfl, rfl, rfl, rfl, trivial⟩
  · have h := h.2 (c)
    obtain ⟨⟨o_2, o_3, o_4, o_5⟩, h⟩ := h
    refine r_aload_n 164 dX0_choose_163 rfl rfl ?_
    refine g_R 167 dX0_choose_164 rfl rfl rfl fr_0_23 (sh_0_2 hS) ?_
    refine g_R 170 dX0_choose_167 rfl rfl rfl fr_0_90 (sh_10_1 hS) ?_
    refine r_iload 172 dX0_choose_170 rfl rfl ?_
    refine r_bipush 174 dX0_choose_172 rfl rfl ?_
    refine r_imul 175 dX0_choose_174 rfl o_2 ?_
    refine r_iload 177 dX0_choose_175 rfl rfl ?_
    refine r_iadd 178 dX0_choose_177 rfl o_3 ?_
    refine a_I 64 179 dX0_choose_178 rfl rfl rfl rfl o_4 rfl ?_
    refine r_istore (ls' := [some (vR (some (9, 0))), some (vR (some (13, k1))), some (vI x2), some (vI x3), some (vI x4), some (vI x5), some (vR (some (14, k6))), some (vR (some (14, k7))), some (vI x8), some (vI x9), some (vI x10), some (vI (M.1 46 0 ((x5 * 8) + x10).toNat))]) 181 dX0_choose_179 rfl rfl rfl rfl ?_
    refine r_iload 183 dX0_choose_181 rfl rfl ?_
    refine r_aload 185 dX0_choose_183 rfl rfl ?_
    refine g_R 188 dX0_choose_185 rfl rfl rfl fr_0_61 (sh_7_4 hS _) ?_
    refine r_iload 190 dX0_choose_188 rfl rfl ?_
    refine a_I 8 191 dX0_choose_190 rfl rfl rfl rfl o_5 rfl ?_
    refine r_iand 192 dX0_choose_191 rfl ?_
    refine r_if_eq 195 214 dX0_choose_192 rfl rfl (fun c => ?_) (fun c => ?_)
    · have h := h.1 (c)
      obtain ⟨o_6, h⟩ := h
      refine r_iinc (ls' := [some (vR (some (9, 0))), some (vR (some (13, k1))), some (vI x2), some (vI x3), some (vI x4), some (vI x5), some (vR (some (14, k6))), some (vR (some (14, k7))), some (vI x8), some (vI x9), some (vI (x10 + 1)), some (vI (M.1 46 0 ((x5 * 8) + x10).toNat))]) 217 dX0_choose_214 rfl rfl rfl rfl o_6 rfl ?_
      refine r_goto 156 dX0_choose_217 rfl ?_
      exact Ex.weak h ⟨rfl, rfl, rfl, rfl, rfl, rfl, rfl, rfl, rfl, rfl, rfl, trivial⟩
    · have h := h.2 (c)
      refine r_iload 197 dX0_choose_195 rfl rfl ?_
      refine r_iconst 198 dX0_choose_197 rfl (InR_of rfl) ?_
      refine r_icmp_eq 201 214 dX0_choose_198 rfl rfl (fun c => ?_) (fun c => ?_)
      · have h := h.1 (c)
        obtain ⟨o_7, h⟩ := h
        refine r_iinc (ls' := [some (vR (some (9, 0))), some (vR (some (13, k1))), some (vI x2), some (vI x3), some (vI x4), some (vI x5), some (vR (some (14, k6))), some (vR (some (14, k7))), some (vI x8), some (vI x9), some (vI (x10 + 1)), some (vI (M.1 46 0 ((x5 * 8) + x10).toNat))]) 217 dX0_choose_214 rfl rfl rfl rfl o_7 rfl ?_
        refine r_goto 156 dX0_choose_217 rfl ?_
        exact Ex.weak h ⟨rfl, rfl, rfl, rfl, rfl, rfl, rfl, rfl, rfl, rfl, rfl, trivial⟩
      · have h := h.2 (c)
        obtain ⟨⟨o_8, o_9⟩, h⟩ := h
        refine r_aload_n 202 dX0_choose_201 rfl rfl ?_
        refine r_dup 203 dX0_choose_202 rfl rfl ?_
        refine g_I 206 dX0_choose_203 rfl rfl rfl fi_0_98 rfl ?_
        refine r_iconst 207 dX0_choose_206 rfl (InR_of rfl) ?_
        refine r_iload 209 dX0_choose_207 rfl rfl ?_
        refine r_ishl 210 dX0_choose_209 rfl o_8 ?_
        refine r_ior 211 dX0_choose_210 rfl ?_
        refine p_I 214 dX0_choose_211 rfl rfl rfl rfl pf_0_98 (.inl rfl) rfl ?_
        refine r_iinc (ls' := [some (vR (some (9, 0))), some (vR (some (13, k1))), some (vI x2), some (vI x3), some (vI x4), some (vI x5), some (vR (some (14, k6))), some (vR (some (14, k7))), some (vI x8), some (vI x9), some (vI (x10 + 1)), some (vI (M.1 46 0 ((x5 * 8) + x10).toNat))]) 217 dX0_choose_214 rfl rfl rfl rfl o_9 rfl ?_
        refine r_goto 156 dX0_choose_217 rfl ?_
        exact Ex.weak h ⟨rfl, rfl, rfl, rfl, rfl, rfl, rfl, rfl, rfl, rfl, rfl, trivial⟩

theorem bI_or0 {o t : Nat → Bool} : aOr (bI 12 o) (bI 8 t) = 0 ↔ (∀ p, p < 12 → o p = false) ∧ ∀ v, v < 8 → t v = false := by
  have e1 : bI 8 t = bI 8 (fun i => decide (i < 8) && t i) := bI_ext fun i hi => by simp [hi]
  have e2 : bI 8 (fun i => decide (i < 8) && t i) = bI 12 (fun i => decide (i < 8) && t i) := bI_len (by omega) fun i h1 h2 => by simp; omega
  rw [e1, e2, bI_or (by omega), bI_zero_iff (by omega)]
  constructor
  · intro h
    refine ⟨fun p hp => ?_, fun v hv => ?_⟩
    · have := h p hp
      exact (Bool.or_eq_false_iff.mp this).1
    · have := (Bool.or_eq_false_iff.mp (h v (by omega))).2
      simp [hv] at this
      exact this
  · rintro ⟨h1, h2⟩ i hi
    rw [h1 i hi]
    by_cases c : i < 8
    · simp [c, h2 i c]
    · simp [c]
section CH
variable {l : Launch} {G : Gt} {d : Nat} {Q : QT} {M : Mem}
def ChC (Q : QT) (n n1 s cv place : Nat) (I : IM) : Prop := ∃ o t : Nat → Bool, I 9 0 8 = bI 12 o ∧ I 9 0 9 = bI 8 t ∧ (∀ p, p < 12 → (o p = true ↔ opF Q n n1 s cv place p)) ∧ ∀ v, v < 8 → (t v = true ↔ ntF Q n n1 s cv place v)
theorem choose_156 {n1 n s cv place k : Nat} {x3 x4 : Int} {fs : Nat → Bool} (hw : WFc Q) (hW : WaysC Q M.1) (hn1 : (n1 : Int) ≤ M.1 6 0 2) (hpl : place < 8) (hk : k < nPp Q) : ∀ m h : Nat, m + h = 8 → ∀ I, RelA Q (I, M.2.1, M.2.2) → frX M.1 I → (∃ t : Nat → Bool, I 9 0 9 = bI 8 t ∧ ∀ v, v < 8 → (t v = true ↔ ∃ q, q < nPp Q ∧ fs q = true ∧ plF Q n1 q < (h : Int) ∧ nx Q place (plF Q n1 q).toNat = (v : Int))) → ∃ I', RelA Q (I', M.2.1, M.2.2) ∧ frX M.1 I' ∧ I' 9 0 8 = I 9 0 8 ∧ (∃ t : Nat → Bool, I' 9 0 9 = bI 8 t ∧ ∀ v, v < 8 → (t v = true ↔ ∃ q, q < nPp Q ∧ fs q = true ∧ nx Q place (plF Q n1 q).toNat = (v : Int))) ∧ ∀ res M', Ex l G (d + 2) mX0_choose 46 [some (vR (some (9, 0))), some (vR (some (13, cv))), some (vI (s : Int)), some (vI x3), some (vI x4), some (vI (place : Int)), some (vR (some (14, n1))), some (vR (some (14, n))), some (vI ((k : Int) + 1)), none, none, none] [] (I', M.2.1, M.2.2) res M' → Ex l G (d + 2) mX0_choose 156 [some (vR (some (9, 0))), some (vR (some (13, cv))), some (vI (s : Int)), some (vI x3), some (vI x4), some (vI (place : Int)), some (vR (some (14, n1))), some (vR (some (14, n))), some (vI (k : Int)), some (vI (bI 12 fs)), some (vI (h : Int)), none] [] (I, M.2.1, M.2.2) res M' := by
  have h12 := nPp_le hw
  intro m
  induction m with
  | zero =>
    intro h hh I hR hf ⟨t, ht, hv⟩
    have eh : h = 8 := by omega
    subst eh
    have hnc1 : n1 ≤ nCh Q := by have := hR.2.2.1.1; rw [show ((I, M.2.1, M.2.2) : Mem).1 6 0 2 = M.1 6 0 2 from hf _ _ _ (by omega)] at this; dsimp only at this; omega
    refine ⟨I, hR, hf, rfl, ⟨t, ht, fun v hv8 => (hv v hv8).trans ⟨fun ⟨q, a, b, _, c⟩ => ⟨q, a, b, c⟩, fun ⟨q, a, b, c⟩ => ⟨q, a, b, (plF_in hw n1 q hnc1 (by omega)).2, c⟩⟩⟩, fun res M' hx => xX0_choose_156 hR.1 ⟨fun _ => ⟨by unfold InR; omega, hx⟩, fun c => absurd (by omega) c⟩⟩
  | succ m ih =>
    intro h hh I hR hf ⟨t, ht, hv⟩
    have hp2 : I 6 0 2 = M.1 6 0 2 := hf _ _ _ (by omega)
    have L := hR.2.2.1.2.2.2.2.2 n1 (by dsimp only; rw [hp2]; exact hn1)
    have hnc1 : n1 ≤ nCh Q := by have := hR.2.2.1.1; dsimp only at this; omega
    have hat : I 32 n1 (h : Int).toNat = bI 12 (fun p => decide (p < nPp Q ∧ plF Q n1 p = (h : Int))) := by rw [Int.toNat_natCast]; exact L.2.2.2 h (by omega)
    have ean : aAnd (bI 12 fs) (I 32 n1 (h : Int).toNat) = bI 12 (fun p => fs p && decide (p < nPp Q ∧ plF Q n1 p = (h : Int))) := by rw [hat, bI_and (by omega)]
    have en : I 46 0 ((place : Int) * 8 + (h : Int)).toNat = nx Q place h := by
      rw [hf _ _ _ (by omega), show ((place : Int) * 8 + (h : Int)).toNat = 8 * place + h by omega]
      exact hW.2 place h hpl (by omega)
    have b0 : InR ((place : Int) * 8) ∧ InR (((place : Int) * 8) + (h : Int)) ∧ (0 ≤ (((place : Int) * 8) + (h : Int)) ∧ (((place : Int) * 8) + (h : Int)) < 64) ∧ (0 ≤ (h : Int) ∧ (h : Int) < 8) := ⟨by unfold InR; omega, by unfold InR; omega, by omega, by omega⟩
    have i1 : InR ((h : Int) + 1) := by unfold InR; omega
    have hle : ¬ (8 ≤ (h : Int)) := by omega
    have same : (∀ v : Nat, v < 8 → ((∃ q, q < nPp Q ∧ fs q = true ∧ plF Q n1 q = (h : Int) ∧ nx Q place h = (v : Int)) → False)) → ∃ I', RelA Q (I', M.2.1, M.2.2) ∧ frX M.1 I' ∧ I' 9 0 8 = I 9 0 8 ∧ (∃ t : Nat → Bool, I' 9 0 9 = bI 8 t ∧ ∀ v, v < 8 → (t v = true ↔ ∃ q, q < nPp Q ∧ fs q = true ∧ nx Q place (plF Q n1 q).toNat = (v : Int))) ∧ ∀ res M', Ex l G (d + 2) mX0_choose 46 [some (vR (some (9, 0))), some (vR (some (13, cv))), some (vI (s : Int)), some (vI x3), some (vI x4), some (vI (place : Int)), some (vR (some (14, n1))), some (vR (some (14, n))), some (vI ((k : Int) + 1)), none, none, none] [] (I', M.2.1, M.2.2) res M' → Ex l G (d + 2) mX0_choose 156 [some (vR (some (9, 0))), some (vR (some (13, cv))), some (vI (s : Int)), some (vI x3), some (vI x4), some (vI (place : Int)), some (vR (some (14, n1))), some (vR (some (14, n))), some (vI (k : Int)), some (vI (bI 12 fs)), some (vI ((h : Int) + 1)), none] [] (I, M.2.1, M.2.2) res M' := by
      intro hno
      exact ih (h + 1) (by omega) I hR hf ⟨t, ht, fun v hv8 => (hv v hv8).trans ⟨fun ⟨q, a, b, c, e⟩ => ⟨q, a, b, by omega, e⟩, fun ⟨q, a, b, c, e⟩ => ⟨q, a, b, by
        by_cases c2 : plF Q n1 q = (h : Int)
        · exact absurd ⟨q, a, b, c2, by rw [c2, Int.toNat_natCast] at e; exact e⟩ (hno v hv8)
        · omega, e⟩⟩⟩
    by_cases cz : bI 12 (fun p => fs p && decide (p < nPp Q ∧ plF Q n1 p = (h : Int))) = 0
    · have hz := (bI_zero_iff (n := 12) (by omega) _).mp cz
      obtain ⟨I', x1, x2, x3', x4', x5⟩ := same (fun v hv8 ⟨q, a, b, c, e⟩ => by
        have := hz q (by omega)
        simp [a, b, c] at this)
      refine ⟨I', x1, x2, x3', x4', fun res M' hx => xX0_choose_156 hR.1 ?_⟩
      dsimp only
      rw [ean, en]
      exact ⟨fun c => absurd c hle, fun _ => ⟨b0, fun _ => ⟨i1, x5 res M' hx⟩, fun c => absurd cz c⟩⟩
    · obtain ⟨q0, a0, b0', c0⟩ : ∃ q, q < nPp Q ∧ fs q = true ∧ plF Q n1 q = (h : Int) := by
        by_cases ex : ∃ q, q < nPp Q ∧ fs q = true ∧ plF Q n1 q = (h : Int)
        · exact ex
        · exact absurd ((bI_zero_iff (n := 12) (by omega) _).mpr fun i hi => by
            cases e : fs i with
            | false => simp
            | true => simp; exact fun z1 z2 => ex ⟨i, z1, e, z2⟩) cz
      rcases nx_or Q place h with e | ⟨u, hu, e, _⟩
      · obtain ⟨I', x1, x2, x3', x4', x5⟩ := same (fun v hv8 ⟨q, a, b, c, e'⟩ => by omega)
        refine ⟨I', x1, x2, x3', x4', fun res M' hx => xX0_choose_156 hR.1 ?_⟩
        dsimp only
        rw [ean, en]
        exact ⟨fun c => absurd c hle, fun _ => ⟨b0, fun c => absurd c cz, fun _ => ⟨fun _ => ⟨i1, x5 res M' hx⟩, fun c => absurd e c⟩⟩⟩
      · obtain ⟨I', x1, x2, x3', x4', x5⟩ := ih (h + 1) (by omega) (upI I 9 0 9 (aOr (I 9 0 9) (aShl 1 (nx Q place h)))) (hR.up (by unfold relF; omega)) (hf.tr (frX.up (by omega))) ⟨fun i => t i || decide (i = u), by
          rw [upI_s, ht, e, bI_one (n := 8) (by omega) hu, bI_or (by omega)], fun v hv8 => by
          rw [Bool.or_eq_true, decide_eq_true_iff, hv v hv8]
          constructor
          · rintro (⟨q, a, b, c, z⟩ | rfl)
            · exact ⟨q, a, b, by omega, z⟩
            · exact ⟨q0, a0, b0', by omega, by rw [c0, Int.toNat_natCast]; exact e⟩
          · rintro ⟨q, a, b, c, z⟩
            by_cases c2 : plF Q n1 q = (h : Int)
            · rw [c2, Int.toNat_natCast, e] at z
              exact .inr (by omega)
            · exact .inl ⟨q, a, b, by omega, z⟩⟩
        refine ⟨I', x1, x2, ?_, x4', fun res M' hx => xX0_choose_156 hR.1 ?_⟩
        · rw [x3', upI_i (by omega)]
        · dsimp only
          rw [ean, en]
          exact ⟨fun c => absurd c hle, fun _ => ⟨b0, fun c => absurd c cz, fun _ => ⟨fun c => by omega, fun _ => ⟨⟨by omega, i1⟩, x5 res M' hx⟩⟩⟩⟩
theorem choose_46 {n1 n s cv place : Nat} {x3 x4 : Int} (hw : WFc Q) (hk : WFk Q) (hp : WFp Q) (hV : WFV Q) (hW : WaysC Q M.1) (hn1 : (n1 : Int) ≤ M.1 6 0 2) (hn : (n : Int) ≤ M.1 6 0 2) (hcv : cv < nCv Q) (hs : s < 12) (hpl : place < 8) : ∀ m k : Nat, m + k = nPp Q → (∀ r', r' < k → plF Q n1 r' = (place : Int) → ¬ anyS Q n1 place (sT Q n n1 s cv r') (nPp Q)) → ∀ I, RelA Q (I, M.2.1, M.2.2) → frX M.1 I → I 9 0 8 = 0 → I 9 0 9 = 0 → ∃ I', Ex l G (d + 2) mX0_choose 46 [some (vR (some (9, 0))), some (vR (some (13, cv))), some (vI (s : Int)), some (vI x3), some (vI x4), some (vI (place : Int)), some (vR (some (14, n1))), some (vR (some (14, n))), some (vI (k : Int)), none, none, none] [] (I, M.2.1, M.2.2) none (I', M.2.1, M.2.2) ∧ RelA Q (I', M.2.1, M.2.2) ∧ frX M.1 I' ∧ ChC Q n n1 s cv place I' := by
  have h12 := nPp_le hw
  have z0 : aOr 0 0 = 0 := rfl
  intro m
  induction m with
  | zero =>
    intro k hk' hno I hR hf i8 i9
    have e1 : I 4 0 0 = (nPp Q : Int) := cppl_eq (M := (I, M.2.1, M.2.2)) hw hR
    have nof : ∀ r, ¬ fstR Q n n1 s cv place r := fun r hr => hno r (by have := hr.1; omega) hr.2.1 hr.2.2.1
    refine ⟨I, xX0_choose_46 hR.1 ⟨fun _ => ⟨rfl, rfl⟩, fun c => absurd (show I 4 0 0 ≤ (k : Int) by omega) c⟩, hR, hf, fun _ => false, fun _ => false, by rw [i8, bI_false], by rw [i9, bI_false], fun p _ => ⟨fun h => (by cases h), fun ⟨r, h, _⟩ => absurd h (nof r)⟩, fun v _ => ⟨fun h => (by cases h), fun ⟨r, h, _⟩ => absurd h (nof r)⟩⟩
  | succ m ih =>
    intro k hk' hno I hR hf i8 i9
    have hkn : k < nPp Q := by omega
    have e1 : I 4 0 0 = (nPp Q : Int) := cppl_eq (M := (I, M.2.1, M.2.2)) hw hR
    have hp2 : I 6 0 2 = M.1 6 0 2 := hf _ _ _ (by omega)
    have L := hR.2.2.1.2.2.2.2.2 n1 (by dsimp only; rw [hp2]; exact hn1)
    have hnc1 : n1 ≤ nCh Q := by have := hR.2.2.1.1; dsimp only at this; omega
    have hplk := L.2.2.1 k hkn
    dsimp only at hplk
    have hpk := plF_in hw n1 k hnc1 (by omega)
    have hat : I 32 n1 (place : Int).toNat = bI 12 (fun p => decide (p < nPp Q ∧ plF Q n1 p = (place : Int))) := by rw [Int.toNat_natCast]; exact L.2.2.2 place hpl
    have t7 : tb (bI 12 (fun p => decide (p < nPp Q ∧ plF Q n1 p = (place : Int)))) (k : Int) = decide (plF Q n1 k = (place : Int)) := by rw [tb_bI (by omega)]; simp [hkn, show k < 12 by omega]
    have hnn : 0 ≤ bI 12 (fun p => decide (p < nPp Q ∧ plF Q n1 p = (place : Int))) := bI_nn
    have hle : ¬ ((nPp Q : Int) ≤ (k : Int)) := by omega
    have i1 : InR ((k : Int) + 1) := by unfold InR; omega
    by_cases c : plF Q n1 k = (place : Int)
    · have ht : tb (bI 12 (fun p => decide (p < nPp Q ∧ plF Q n1 p = (place : Int)))) (k : Int) = true := by rw [t7]; exact decide_eq_true c
      have hseen := seen_at (M := (I, M.2.1, M.2.2)) (r := k) hw hk hnc1 hR.2.2.2.2.2 L hkn
      dsimp only at hseen
      obtain ⟨I2, hfit, R2, f2⟩ := fit_at2 (l := l) (G := G) (d := d) (M := (I, M.2.1, M.2.2)) (n := n) (cv := cv) (k := n) (s := s) (seen := snF Q n1 k) hR hw hV hcv hs rfl (by dsimp only; rw [hp2]; exact hn)
      rw [fitV_S] at hfit
      have f2x : frX M.1 I2 := hf.tr f2.x
      have hb0 : 0 ≤ bI 12 (fitS Q n s (snF Q n1 k) cv) := bI_nn
      have tS : tb (bI 12 (fitS Q n s (snF Q n1 k) cv)) (k : Int) = fitS Q n s (snF Q n1 k) cv k := by rw [tb_bI (by omega)]; simp [show k < 12 by omega]
      have j9 : I2 9 0 9 = 0 := by rw [f2 _ _ _ (by omega) (by omega)]; exact i9
      have hat2 : I2 32 n1 (place : Int).toNat = bI 12 (fun p => decide (p < nPp Q ∧ plF Q n1 p = (place : Int))) := by rw [f2 _ _ _ (by omega) (by omega)]; exact hat
      cases eS : fitS Q n s (snF Q n1 k) cv k with
      | true =>
        have hsT : ∀ q, sT Q n n1 s cv k q = decide (q = k) := fun q => by unfold sT; rw [if_pos eS]
        have hHk : hH Q n1 place (sT Q n n1 s cv k) k := ⟨by rw [hsT]; simp, c⟩
        have hfst : fstR Q n n1 s cv place k := ⟨hkn, c, ⟨k, hkn, .inl hHk⟩, hno⟩
        refine ⟨upI I2 9 0 8 (aShl 1 (k : Int)), xX0_choose_46 hR.1 ?_, R2.up (by unfold relF; omega), f2x.tr (frX.up (by omega)), fun p => decide (p = k), fun _ => false, ?_, ?_, fun p hp12 => ?_, fun v _ => ?_⟩
        · dsimp only
          rw [e1, i8, i9, hat, Int.toNat_natCast, hplk, hseen]
          exact ⟨fun c => absurd c hle, fun _ => ⟨fun c => absurd z0 c, fun _ => ⟨⟨by omega, by omega⟩, fun _ => ⟨⟨by omega, by omega, by omega⟩, _, _, hfit, hR.1, ⟨by omega, by omega, by omega⟩, fun c => absurd (by rw [tS]; exact eS) c, fun _ => ⟨by omega, rfl, rfl⟩⟩, fun c => absurd ht c⟩⟩⟩
        · rw [upI_s, bI_one (n := 12) (by omega) (by omega)]
        · rw [upI_i (by omega), j9, bI_false]
        · rw [decide_eq_true_iff]
          constructor
          · rintro rfl; exact ⟨p, hfst, hkn, hHk⟩
          · rintro ⟨r, h1, _, h2, _⟩
            rw [fstR_u h1 hfst, hsT] at h2
            exact of_decide_eq_true h2
        · refine ⟨fun h => (by cases h), fun ⟨r, h1, q, _, h2, h3, _⟩ => ?_⟩
          rw [fstR_u h1 hfst, hsT] at h2
          rw [of_decide_eq_true h2] at h3
          exact absurd c h3
      | false =>
        have hsT : sT Q n n1 s cv k = fitS Q n s (snF Q n1 k) cv := funext fun q => by unfold sT; rw [if_neg (by rw [eS]; simp)]
        have tk : ¬ tb (bI 12 (fitS Q n s (snF Q n1 k) cv)) (k : Int) = true := by rw [tS, eS]; simp
        have j8 : aAnd (bI 12 (fitS Q n s (snF Q n1 k) cv)) (I2 32 n1 (place : Int).toNat) = bI 12 (fun p => fitS Q n s (snF Q n1 k) cv p && decide (p < nPp Q ∧ plF Q n1 p = (place : Int))) := by rw [hat2, bI_and (by omega)]
        obtain ⟨I3, R3, f3, g8, ⟨t, g9, gt⟩, hgo⟩ := choose_156 (l := l) (G := G) (d := d) (M := M) (n1 := n1) (n := n) (s := s) (cv := cv) (place := place) (k := k) (x3 := x3) (x4 := x4) (fs := fitS Q n s (snF Q n1 k) cv) hw hW hn1 hpl hkn 8 0 rfl (upI I2 9 0 8 (aAnd (bI 12 (fitS Q n s (snF Q n1 k) cv)) (I2 32 n1 (place : Int).toNat))) (R2.up (by unfold relF; omega)) (f2x.tr (frX.up (by omega))) ⟨fun _ => false, by rw [upI_i (by omega), j9, bI_false], fun v _ => ⟨fun h => (by cases h), fun ⟨q, a, b, e, _⟩ => by have := (plF_in hw n1 q hnc1 (by omega)).1; omega⟩⟩
        rw [upI_s, j8] at g8
        have ho : ∀ p, p < 12 → ((fitS Q n s (snF Q n1 k) cv p && decide (p < nPp Q ∧ plF Q n1 p = (place : Int))) = true ↔ p < nPp Q ∧ hH Q n1 place (sT Q n n1 s cv k) p) := fun p _ => by
          unfold hH
          rw [hsT, Bool.and_eq_true, decide_eq_true_iff]
          exact ⟨fun ⟨a, b, e⟩ => ⟨b, a, e⟩, fun ⟨b, a, e⟩ => ⟨a, b, e⟩⟩
        have hg : ∀ v, v < 8 → (t v = true ↔ ∃ q, q < nPp Q ∧ hG Q n1 place (sT Q n n1 s cv k) q v) := fun v hv => (gt v hv).trans ⟨fun ⟨q, a, b, e⟩ => ⟨q, a, by rw [hsT]; exact b, fun z => by rw [z, Int.toNat_natCast, nx_self] at e; omega, e⟩, fun ⟨q, a, b, _, e⟩ => ⟨q, a, by rw [hsT] at b; exact b, e⟩⟩
        have e13 : I3 4 0 0 = (nPp Q : Int) := cppl_eq (M := (I3, M.2.1, M.2.2)) hw R3
        have go : ∀ I', Ex l G (d + 2) mX0_choose 46 [some (vR (some (9, 0))), some (vR (some (13, cv))), some (vI (s : Int)), some (vI x3), some (vI x4), some (vI (place : Int)), some (vR (some (14, n1))), some (vR (some (14, n))), some (vI ((k : Int) + 1)), none, none, none] [] (I3, M.2.1, M.2.2) none (I', M.2.1, M.2.2) → Ex l G (d + 2) mX0_choose 46 [some (vR (some (9, 0))), some (vR (some (13, cv))), some (vI (s : Int)), some (vI x3), some (vI x4), some (vI (place : Int)), some (vR (some (14, n1))), some (vR (some (14, n))), some (vI (k : Int)), none, none, none] [] (I, M.2.1, M.2.2) none (I', M.2.1, M.2.2) := fun I' hx => by
          refine xX0_choose_46 hR.1 ?_
          dsimp only
          rw [e1, i8, i9, hat, Int.toNat_natCast, hplk, hseen]
          exact ⟨fun c => absurd c hle, fun _ => ⟨fun c => absurd z0 c, fun _ => ⟨⟨by omega, by omega⟩, fun _ => ⟨⟨by omega, by omega, by omega⟩, _, _, hfit, hR.1, ⟨by omega, by omega, by omega⟩, fun _ => ⟨by omega, hgo _ _ hx⟩, fun c => absurd c tk⟩, fun c => absurd ht c⟩⟩⟩
        by_cases cz : aOr (bI 12 (fun p => fitS Q n s (snF Q n1 k) cv p && decide (p < nPp Q ∧ plF Q n1 p = (place : Int)))) (bI 8 t) = 0
        · obtain ⟨z1, z2⟩ := bI_or0.mp cz
          have hna : ¬ anyS Q n1 place (sT Q n n1 s cv k) (nPp Q) := fun ⟨q, hq, x⟩ => by
            rcases x with x | ⟨v, hv, x⟩
            · have := (ho q (by omega)).mpr ⟨hq, x⟩
              rw [z1 q (by omega)] at this
              cases this
            · have := (hg v hv).mpr ⟨q, hq, x⟩
              rw [z2 v hv] at this
              cases this
          obtain ⟨I', x1, x2⟩ := ih (k + 1) (by omega) (fun r' hr' hp' => by
            by_cases e : r' = k
            · rw [e]; exact hna
            · exact hno r' (by omega) hp') I3 R3 f3 (by rw [g8]; exact (bI_zero_iff (by omega) _).mpr z1) (by rw [g9]; exact (bI_zero_iff (by omega) _).mpr z2)
          exact ⟨I', go I' x1, x2⟩
        · have hany : anyS Q n1 place (sT Q n n1 s cv k) (nPp Q) := by
            by_cases ex : anyS Q n1 place (sT Q n n1 s cv k) (nPp Q)
            · exact ex
            · refine absurd (bI_or0.mpr ⟨fun p hp' => ?_, fun v hv => ?_⟩) cz
              · cases e : (fitS Q n s (snF Q n1 k) cv p && decide (p < nPp Q ∧ plF Q n1 p = (place : Int))) with
                | false => rfl
                | true => obtain ⟨y1, y2⟩ := (ho p hp').mp e; exact absurd ⟨p, y1, .inl y2⟩ ex
              · cases e : t v with
                | false => rfl
                | true => obtain ⟨q, y1, y2⟩ := (hg v hv).mp e; exact absurd ⟨q, y1, .inr ⟨v, hv, y2⟩⟩ ex
          have hfst : fstR Q n n1 s cv place k := ⟨hkn, c, hany, hno⟩
          refine ⟨I3, go I3 (xX0_choose_46 R3.1 ⟨fun _ => ⟨rfl, rfl⟩, fun _ => ⟨fun _ => ⟨rfl, rfl⟩, fun c2 => absurd (by dsimp only at c2; rw [g8, g9] at c2; exact c2) cz⟩⟩), R3, f3, _, t, g8, g9, fun p hp12 => (ho p hp12).trans ?_, fun v hv => (hg v hv).trans ?_⟩
          · exact ⟨fun ⟨a, b⟩ => ⟨k, hfst, a, b⟩, fun ⟨r, h1, a, b⟩ => by rw [fstR_u h1 hfst] at b; exact ⟨a, b⟩⟩
          · exact ⟨fun a => ⟨k, hfst, a⟩, fun ⟨r, h1, a⟩ => by rw [fstR_u h1 hfst] at a; exact a⟩
    · have ht : ¬ tb (bI 12 (fun p => decide (p < nPp Q ∧ plF Q n1 p = (place : Int)))) (k : Int) = true := by rw [t7]; simp [c]
      obtain ⟨I', x1, x2⟩ := ih (k + 1) (by omega) (fun r' hr' hp' => by
        by_cases e : r' = k
        · rw [e] at hp'; exact absurd hp' c
        · exact hno r' (by omega) hp') I hR hf i8 i9
      refine ⟨I', xX0_choose_46 hR.1 ?_, x2⟩
      dsimp only
      rw [e1, i8, i9, hat]
      exact ⟨fun c => absurd c hle, fun _ => ⟨fun c => absurd z0 c, fun _ => ⟨⟨by omega, by omega⟩, fun c => absurd c ht, fun _ => ⟨i1, x1⟩⟩⟩⟩
theorem KX0_choose {cv s place : Nat} {sent day : Int} (hR : RelB Q M) (hq : WFQ Q) (hcv : cv < nCv Q) (hs : s < 12) (hpl : place < 8) : ∃ M', Cl l G (d + 3) mX0_choose [vR (some (9, 0)), vR (some (13, cv)), vI (s : Int), vI sent, vI day, vI (place : Int)] M none M' ∧ RelB Q M' ∧ frG scK M M' ∧ ChC Q (nD Q cv sent day) (dn Q day) s cv place M'.1 := by
  have hw := hq.1
  obtain ⟨M1, o1, R1, f1, p1, _⟩ := on_at (l := l) (G := G) (d := d) (x := day) hR.1 hw
  have t1 := (R1.2.2.2.2.1.2.2 cv hcv).2.2.2.2
  have key : ∀ M4 : Mem, RelA Q M4 → frG scK M M4 → (dn Q day : Int) ≤ M4.1 6 0 2 → (nD Q cv sent day : Int) ≤ M4.1 6 0 2 → ∃ I', Ex l G (d + 3) mX0_choose 46 [some (vR (some (9, 0))), some (vR (some (13, cv))), some (vI (s : Int)), some (vI sent), some (vI day), some (vI (place : Int)), some (vR (some (14, dn Q day))), some (vR (some (14, nD Q cv sent day))), some (vI 0), none, none, none] [] (upI (upI M4.1 9 0 8 0) 9 0 9 0, M4.2.1, M4.2.2) none (I', M4.2.1, M4.2.2) ∧ RelB Q (I', M4.2.1, M4.2.2) ∧ frG scK M (I', M4.2.1, M4.2.2) ∧ ChC Q (nD Q cv sent day) (dn Q day) s cv place I' := by
    intro M4 R4 f4 p4 p5
    have B4 := hR.fr R4 (f4.b fun _ _ _ => scK.c)
    obtain ⟨I', h1, h2, h3, h4⟩ := choose_46 (l := l) (G := G) (d := d + 1) (M := M4) (n1 := dn Q day) (n := nD Q cv sent day) (s := s) (cv := cv) (place := place) (x3 := sent) (x4 := day) hw hq.2.2.1 hq.2.2.2.1 hq.2.2.2.2 B4.2.1 p4 p5 hcv hs hpl (nPp Q) 0 (by omega) (fun r' hr' => by omega) (upI (upI M4.1 9 0 8 0) 9 0 9 0) ((R4.up (by unfold relF; omega)).up (M := (_, M4.2.1, M4.2.2)) (by unfold relF; omega)) ((frX.up (by omega)).tr (frX.up (by omega))) (by rw [upI_i (by omega), upI_s]) (by rw [upI_s])
    have hf := f4.tr h3.k
    exact ⟨I', h1, hR.fr h2 (hf.b fun _ _ _ => scK.c), hf, h4⟩
  by_cases c : Q 84 cv = 0
  · obtain ⟨M4, o4, R4, f4, p4, q4⟩ := on_at (l := l) (G := G) (d := d) (x := sent) R1 hw
    have en : nD Q cv sent day = dn Q sent := by unfold nD; rw [if_pos c]
    obtain ⟨I', h1, h2⟩ := key M4 R4 (f1.k.tr f4.k) (by omega) (by rw [en]; exact p4)
    rw [en] at h1
    exact ⟨_, xX0_choose_0 hR.1.1 ⟨_, M1, o1, R1.1, fun _ => ⟨_, M4, o4, h1⟩, fun c2 => absurd (t1.trans c) c2⟩, h2⟩
  · have en : nD Q cv sent day = dn Q day := by unfold nD; rw [if_neg c]
    obtain ⟨I', h1, h2⟩ := key M1 R1 f1.k p1 (by rw [en]; exact p1)
    rw [en] at h1
    exact ⟨_, xX0_choose_0 hR.1.1 ⟨_, M1, o1, R1.1, fun c2 => absurd (t1.symm.trans c2) c, fun _ => h1⟩, h2⟩
end CH
