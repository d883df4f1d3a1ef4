/-! asking at a place: both sides -/
set_option maxRecDepth 4000 in
theorem xX0_ask_0 {l : Launch} {G : Gt} {d : Nat} {M M' : Mem} {r : Option Vl} {k1 : Nat} {x2 : Int} {x3 : Int} {x4 : Int} {x5 : Int} (hS : Sh M.2.1) (h : 
    ∃ (k_3 : Nat) (M_1 : Mem), Cl l G d mX6_on [vR (some (6, 0)), vI x4] M (some (vR (some (14, k_3)))) M_1 ∧ Sh M_1.2.1 ∧ (((M_1.1 13 k1 3) = 0 → ∃ (k_6 : Nat) (M_4 : Mem), Cl l G d mX6_on [vR (some (6, 0)), vI x3] M_1 (some (vR (some (14, k_6)))) M_4 ∧ Ex l G (d + 1) mX0_ask 56 [some (vR (some (9, 0))), some (vR (some (13, k1))), some (vI x2), some (vI x3), some (vI x4), some (vI x5), some (vR (some (14, k_3))), some (vR (some (14, k_6))), some (vI 0), none, none, none, none] [] ((upI (upI (upI (upI M_4.1 9 0 4 2) 9 0 5 (-1)) 9 0 6 (-1)) 9 0 7 0), M_4.2.1, M_4.2.2) r M') ∧ (¬ ((M_1.1 13 k1 3) = 0) → Ex l G (d + 1) mX0_ask 56 [some (vR (some (9, 0))), some (vR (some (13, k1))), some (vI x2), some (vI x3), some (vI x4), some (vI x5), some (vR (some (14, k_3))), some (vR (some (14, k_3))), some (vI 0), none, none, none, none] [] ((upI (upI (upI (upI M_1.1 9 0 4 2) 9 0 5 (-1)) 9 0 6 (-1)) 9 0 7 0), M_1.2.1, M_1.2.2) r M'))) : Cl l G (d + 1) mX0_ask [vR (some (9, 0)), vR (some (13, k1)), vI x2, vI x3, vI x4, vI x5] M r M' := by
  show Ex l G (d + 1) mX0_ask 0 [some (vR (some (9, 0))), some (vR (some (13, k1))), some (vI x2), some (vI x3), some (vI x4), some (vI x5), none, none, none, none, none, none, none] [] M r M'
  refine r_aload_n 1 dX0_ask_0 rfl rfl ?_
  refine g_R 4 dX0_ask_1 rfl rfl rfl fr_0_19 (sh_0_1 hS) ?_
  refine r_iload 6 dX0_ask_4 rfl rfl ?_
  obtain ⟨k_3, M_1, hc_2, hS, h⟩ := h
  refine v_1 (ci := 6) (C := (RX6, TX6, 3)) [vI x4] [] 9 dX0_ask_6 rfl rfl rfl rfl rfl mo_X6_on ml_0_31 rfl rfl hc_2 ?_
  refine r_astore (ls' := [some (vR (some (9, 0))), some (vR (some (13, k1))), some (vI x2), some (vI x3), some (vI x4), some (vI x5), some (vR (some (14, k_3))), none, none, none, none, none, none]) 11 dX0_ask_9 rfl rfl rfl rfl ?_
  refine r_aload_n 12 dX0_ask_11 rfl rfl ?_
  refine g_I 15 dX0_ask_12 rfl rfl rfl fi_0_37 rfl ?_
  refine r_if_eq 18 23 dX0_ask_15 rfl rfl (fun c => ?_) (fun c => ?_)
  · have h := h.1 (c)
    refine r_aload_n 24 dX0_ask_23 rfl rfl ?_
    refine g_R 27 dX0_ask_24 rfl rfl rfl fr_0_19 (sh_0_1 hS) ?_
    refine r_iload_n 28 dX0_ask_27 rfl rfl ?_
    obtain ⟨k_6, M_4, hc_5, h⟩ := h
    refine v_1 (ci := 6) (C := (RX6, TX6, 3)) [vI x3] [] 31 dX0_ask_28 rfl rfl rfl rfl rfl mo_X6_on ml_0_31 rfl rfl hc_5 ?_
    refine r_astore (ls' := [some (vR (some (9, 0))), some (vR (some (13, k1))), some (vI x2), some (vI x3), some (vI x4), some (vI x5), some (vR (some (14, k_3))), some (vR (some (14, k_6))), none, none, none, none, none]) 33 dX0_ask_31 rfl rfl rfl rfl ?_
    refine r_aload_n 34 dX0_ask_33 rfl rfl ?_
    refine r_iconst 35 dX0_ask_34 rfl (InR_of rfl) ?_
    refine p_I 38 dX0_ask_35 rfl rfl rfl rfl pf_0_43 (.inl rfl) rfl ?_
    refine r_aload_n 39 dX0_ask_38 rfl rfl ?_
    refine r_iconst 40 dX0_ask_39 rfl (InR_of rfl) ?_
    refine p_I 43 dX0_ask_40 rfl rfl rfl rfl pf_0_47 (.inl rfl) rfl ?_
    refine r_aload_n 44 dX0_ask_43 rfl rfl ?_
    refine r_iconst 45 dX0_ask_44 rfl (InR_of rfl) ?_
    refine p_I 48 dX0_ask_45 rfl rfl rfl rfl pf_0_50 (.inl rfl) rfl ?_
    refine r_aload_n 49 dX0_ask_48 rfl rfl ?_
    refine r_iconst 50 dX0_ask_49 rfl (InR_of rfl) ?_
    refine p_I 53 dX0_ask_50 rfl rfl rfl rfl pf_0_53 (.inl rfl) rfl ?_
    refine r_iconst 54 dX0_ask_53 rfl (InR_of rfl) ?_
    refine r_istore (ls' := [some (vR (some (9, 0))), some (vR (some (13, k1))), some (vI x2), some (vI x3), some (vI x4), some (vI x5), some (vR (some (14, k_3))), some (vR (some (14, k_6))), some (vI 0), none, none, none, none]) 56 dX0_ask_54 rfl rfl rfl rfl ?_
    exact h
  · have h := h.2 (c)
    refine r_aload 20 dX0_ask_18 rfl rfl ?_
    refine r_goto 31 dX0_ask_20 rfl ?_
    refine r_astore (ls' := [some (vR (some (9, 0))), some (vR (some (13, k1))), some (vI x2), some (vI x3), some (vI x4), some (vI x5), some (vR (some (14, k_3))), some (vR (some (14, k_3))), none, none, none, none, none]) 33 dX0_ask_31 rfl rfl rfl rfl ?_
    refine r_aload_n 34 dX0_ask_33 rfl rfl ?_
    refine r_iconst 35 dX0_ask_34 rfl (InR_of rfl) ?_
    refine p_I 38 dX0_ask_35 rfl rfl rfl rfl pf_0_43 (.inl rfl) rfl ?_
    refine r_aload_n 39 dX0_ask_38 rfl rfl ?_
    refine r_iconst 40 dX0_ask_39 rfl (InR_of rfl) ?_
    refine p_I 43 dX0_ask_40 rfl rfl rfl rfl pf_0_47 (.inl rfl) rfl ?_
    refine r_aload_n 44 dX0_ask_43 rfl rfl ?_
    refine r_iconst 45 dX0_ask_44 rfl (InR_of rfl) ?_
    refine p_I 48 dX0_ask_45 rfl rfl rfl rfl pf_0_50 (.inl rfl) rfl ?_
    refine r_aload_n 49 dX0_ask_48 rfl rfl ?_
    refine r_iconst 50 dX0_ask_49 rfl (InR_of rfl) ?_
    refine p_I 53 dX0_ask_50 rfl rfl rfl rfl pf_0_53 (.inl rfl) rfl ?_
    refine r_iconst 54 dX0_ask_53 rfl (InR_of rfl) ?_
    refine r_istore (ls' := [some (vR (some (9, 0))), some (vR (some (13, k1))), some (vI x2), some (vI x3), some (vI x4), some (vI x5), some (vR (some (14, k_3))), some (vR (some (14, k_3))), some (vI 0), none, none, none, none]) 56 dX0_ask_54 rfl rfl rfl rfl ?_
    exact h
set_option maxRecDepth 4000 in
theorem xX0_ask_56 {l : Launch} {G : Gt} {d : Nat} {M M' : Mem} {r : Option Vl} {k1 : Nat} {x2 : Int} {x3 : Int} {x4 : Int} {x5 : Int} {k6 : Nat} {k7 : Nat} {x8 : Int} (hS : Sh M.2.1) (h : 
    ((M.1 4 0 0) ≤ x8 → r = none ∧ M' = M) ∧ (¬ ((M.1 4 0 0) ≤ x8) → (¬ ((M.1 9 0 6) = (-1)) → r = none ∧ M' = M) ∧ ((M.1 9 0 6) = (-1) → ((0 ≤ x5 ∧ x5 < 8) ∧ (0 ≤ (M.1 32 k6 x5.toNat) ∧ 0 ≤ x8 ∧ x8 < 32)) ∧ ((tb (M.1 32 k6 x5.toNat) x8 = true → ((0 ≤ x8 ∧ x8 < 32) ∧ (0 ≤ x8 ∧ x8 < 12) ∧ ((0 ≤ x8 ∧ x8 < 12) ∧ 0 ≤ (M.1 31 k6 x8.toNat) ∧ (M.1 31 k6 x8.toNat) < 8)) ∧ (∃ (r_8 : Int) (M_6 : Mem), Cl l G d mX3_fit [vR (some (8, 0)), vR (some (13, k1)), vI x2, vR (some (14, k7)), vI (aOr (aOr (aShl 1 x8) (M.1 36 0 x8.toNat)) (M.1 32 k6 (M.1 31 k6 x8.toNat).toNat))] ((upI M.1 9 0 7 (aOr (M.1 9 0 7) (aShl 1 x8))), M.2.1, M.2.2) (some (vI r_8)) M_6 ∧ Sh M_6.2.1 ∧ (((0 ≤ r_8 ∧ 0 ≤ x8 ∧ x8 < 32)) ∧ ((¬ (tb r_8 x8 = true) → ∃ (r_12 : Int) (M_10 : Mem), Cl l G d mX11_leastOf [vI r_8] M_6 (some (vI r_12)) M_10 ∧ Sh M_10.2.1 ∧ ((¬ (r_12 = (-1)) → ((0 ≤ r_12 ∧ r_12 < 12) ∧ InR (x5 * 8) ∧ InR ((x5 * 8) + (M_10.1 31 k6 r_12.toNat)) ∧ (0 ≤ ((x5 * 8) + (M_10.1 31 k6 r_12.toNat)) ∧ ((x5 * 8) + (M_10.1 31 k6 r_12.toNat)) < 64)) ∧ (((M_10.1 31 k6 r_12.toNat) = x5 → (InR (x8 + 1)) ∧ Ex l G (d + 1) mX0_ask 56 [some (vR (some (9, 0))), some (vR (some (13, k1))), some (vI x2), some (vI x3), some (vI x4), some (vI x5), some (vR (some (14, k6))), some (vR (some (14, k7))), some (vI (x8 + 1)), none, none, none, none] [] ((upI (upI (upI M_10.1 9 0 4 (if (M_10.1 31 k6 r_12.toNat) = x5 then 0 else 1 : Int)) 9 0 5 (if (M_10.1 31 k6 r_12.toNat) = x5 then r_12 else (M_10.1 46 0 ((x5 * 8) + (M_10.1 31 k6 r_12.toNat)).toNat) : Int)) 9 0 6 x8), M_10.2.1, M_10.2.2) r M') ∧ (¬ ((M_10.1 31 k6 r_12.toNat) = x5) → ((M_10.1 46 0 ((x5 * 8) + (M_10.1 31 k6 r_12.toNat)).toNat) = (-1) → (InR (x8 + 1)) ∧ Ex l G (d + 1) mX0_ask 56 [some (vR (some (9, 0))), some (vR (some (13, k1))), some (vI x2), some (vI x3), some (vI x4), some (vI x5), some (vR (some (14, k6))), some (vR (some (14, k7))), some (vI (x8 + 1)), none, none, none, none] [] M_10 r M') ∧ (¬ ((M_10.1 46 0 ((x5 * 8) + (M_10.1 31 k6 r_12.toNat)).toNat) = (-1)) → (InR (x8 + 1)) ∧ Ex l G (d + 1) mX0_ask 56 [some (vR (some (9, 0))), some (vR (some (13, k1))), some (vI x2), some (vI x3), some (vI x4), some (vI x5), some (vR (some (14, k6))), some (vR (some (14, k7))), some (vI (x8 + 1)), none, none, none, none] [] ((upI (upI (upI M_10.1 9 0 4 (if (M_10.1 31 k6 r_12.toNat) = x5 then 0 else 1 : Int)) 9 0 5 (if (M_10.1 31 k6 r_12.toNat) = x5 then r_12 else (M_10.1 46 0 ((x5 * 8) + (M_10.1 31 k6 r_12.toNat)).toNat) : Int)) 9 0 6 x8), M_10.2.1, M_10.2.2) r M')))) ∧ (r_12 = (-1) → (InR (x8 + 1)) ∧ Ex l G (d + 1) mX0_ask 56 [some (vR (some (9, 0))), some (vR (some (13, k1))), some (vI x2), some (vI x3), some (vI x4), some (vI x5), some (vR (some (14, k6))), some (vR (some (14, k7))), some (vI (x8 + 1)), none, none, none, none] [] M_10 r M'))) ∧ (tb r_8 x8 = true → (¬ (x8 = (-1)) → ((0 ≤ x8 ∧ x8 < 12) ∧ InR (x5 * 8) ∧ InR ((x5 * 8) + (M_6.1 31 k6 x8.toNat)) ∧ (0 ≤ ((x5 * 8) + (M_6.1 31 k6 x8.toNat)) ∧ ((x5 * 8) + (M_6.1 31 k6 x8.toNat)) < 64)) ∧ (((M_6.1 31 k6 x8.toNat) = x5 → (InR (x8 + 1)) ∧ Ex l G (d + 1) mX0_ask 56 [some (vR (some (9, 0))), some (vR (some (13, k1))), some (vI x2), some (vI x3), some (vI x4), some (vI x5), some (vR (some (14, k6))), some (vR (some (14, k7))), some (vI (x8 + 1)), none, none, none, none] [] ((upI (upI (upI M_6.1 9 0 4 (if (M_6.1 31 k6 x8.toNat) = x5 then 0 else 1 : Int)) 9 0 5 (if (M_6.1 31 k6 x8.toNat) = x5 then x8 else (M_6.1 46 0 ((x5 * 8) + (M_6.1 31 k6 x8.toNat)).toNat) : Int)) 9 0 6 x8), M_6.2.1, M_6.2.2) r M') ∧ (¬ ((M_6.1 31 k6 x8.toNat) = x5) → ((M_6.1 46 0 ((x5 * 8) + (M_6.1 31 k6 x8.toNat)).toNat) = (-1) → (InR (x8 + 1)) ∧ Ex l G (d + 1) mX0_ask 56 [some (vR (some (9, 0))), some (vR (some (13, k1))), some (vI x2), some (vI x3), some (vI x4), some (vI x5), some (vR (some (14, k6))), some (vR (some (14, k7))), some (vI (x8 + 1)), none, none, none, none] [] M_6 r M') ∧ (¬ ((M_6.1 46 0 ((x5 * 8) + (M_6.1 31 k6 x8.toNat)).toNat) = (-1)) → (InR (x8 + 1)) ∧ Ex l G (d + 1) mX0_ask 56 [some (vR (some (9, 0))), some (vR (some (13, k1))), some (vI x2), some (vI x3), some (vI x4), some (vI x5), some (vR (some (14, k6))), some (vR (some (14, k7))), some (vI (x8 + 1)), none, none, none, none] [] ((upI (upI (upI M_6.1 9 0 4 (if (M_6.1 31 k6 x8.toNat) = x5 then 0 else 1 : Int)) 9 0 5 (if (M_6.1 31 k6 x8.toNat) = x5 then x8 else (M_6.1 46 0 ((x5 * 8) + (M_6.1 31 k6 x8.toNat)).toNat) : Int)) 9 0 6 x8), M_6.2.1, M_6.2.2) r M')))) ∧ (x8 = (-1) → (InR (x8 + 1)) ∧ Ex l G (d + 1) mX0_ask 56 [some (vR (some (9, 0))), some (vR (some (13, k1))), some (vI x2), some (vI x3), some (vI x4), some (vI x5), some (vR (some (14, k6))), some (vR (some (14, k7))), some (vI (x8 + 1)), none, none, none, none] [] M_6 r M')))))) ∧ (¬ (tb (M.1 32 k6 x5.toNat) x8 = true) → (InR (x8 + 1)) ∧ Ex l G (d + 1) mX0_ask 56 [some (vR (some (9, 0))), some (vR (some (13, k1))), some (vI x2), some (vI x3), some (vI x4), some (vI x5), some (vR (some (14, k6))), some (vR (some (14, k7))), some (vI (x8 + 1)), none, none, none, none] [] M r M'))))) : Ex l G (d + 1) mX0_ask 56 [some (vR (some (9, 0))), some (vR (some (13, k1))), some (vI x2), some (vI x3), some (vI x4), some (vI x5), some (vR (some (14, k6))), some (vR (some (14, k7))), some (vI x8), none, none, none, none] [] M r M' := by
  refine r_iload 58 dX0_ask_56 rfl rfl ?_
  refine r_aload_n 59 dX0_ask_58 rfl rfl ?_
  refine g_R 62 dX0_ask_59 rfl rfl rfl fr_0_15 (sh_0_0 hS) ?_
  refine g_I 65 dX0_ask_62 rfl rfl rfl fi_0_56 rfl ?_
  refine r_icmp_ge 68 256 dX0_ask_65 rfl rfl (fun c => ?_) (fun c => ?_)
  · have h := h.1 (c)
    exact r_vret dX0_ask_256 rfl h.1 h.2
  · have h := h.2 (c)
    refine r_aload_n 69 dX0_ask_68 rfl rfl ?_
    refine g_I 72 dX0_ask_69 rfl rfl rfl fi_0_50 rfl ?_
    refine r_iconst 73 dX0_ask_72 rfl (InR_of rfl) ?_
    refine r_icmp_ne 76 256 dX0_ask_73 rfl rfl (fun c => ?_) (fun c => ?_)
    · have h := h.1 (c)
      exact r_vret dX0_ask_256 rfl h.1 h.2
    · have h := h.2 (Decidable.not_not.mp c)
      obtain ⟨⟨o_1, o_2⟩, h⟩ := h
      refine r_aload 78 dX0_ask_76 rfl rfl ?_
      refine g_R 81 dX0_ask_78 rfl rfl rfl fr_0_61 (sh_7_4 hS _) ?_
      refine r_iload 83 dX0_ask_81 rfl rfl ?_
      refine a_I 8 84 dX0_ask_83 rfl rfl rfl rfl o_1 rfl ?_
      refine r_iload 86 dX0_ask_84 rfl rfl ?_
      refine n_1 [vI (M.1 32 k6 x5.toNat), vI x8] [] 89 dX0_ask_86 rfl rfl mo_X11_hasBit ml_0_66 rfl rfl (KX11_hasBit o_2) ?_
      refine r_if_ne 92 95 dX0_ask_89 rfl rfl (fun c => ?_) (fun c => ?_)
      · have h := h.1 (b2_1.mp c)
        obtain ⟨⟨o_3, o_4, o_5⟩, h⟩ := h
        refine r_aload_n 96 dX0_ask_95 rfl rfl ?_
        refine r_dup 97 dX0_ask_96 rfl rfl ?_
        refine g_I 100 dX0_ask_97 rfl rfl rfl fi_0_53 rfl ?_
        refine r_iconst 101 dX0_ask_100 rfl (InR_of rfl) ?_
        refine r_iload 103 dX0_ask_101 rfl rfl ?_
        refine r_ishl 104 dX0_ask_103 rfl o_3 ?_
        refine r_ior 105 dX0_ask_104 rfl ?_
        refine p_I 108 dX0_ask_105 rfl rfl rfl rfl pf_0_53 (.inl rfl) rfl ?_
        refine r_aload_n 109 dX0_ask_108 rfl rfl ?_
        refine g_R 112 dX0_ask_109 rfl rfl rfl fr_0_27 (mR_0 (sh_0_3 hS)) ?_
        refine r_aload_n 113 dX0_ask_112 rfl rfl ?_
        refine r_iload_n 114 dX0_ask_113 rfl rfl ?_
        refine r_aload 116 dX0_ask_114 rfl rfl ?_
        refine r_aload 118 dX0_ask_116 rfl rfl ?_
        refine r_iload 120 dX0_ask_118 rfl rfl ?_
        refine r_aload_n 121 dX0_ask_120 rfl rfl ?_
        refine g_R 124 dX0_ask_121 rfl rfl rfl fr_0_15 (mR_0 (sh_0_0 hS)) ?_
        refine g_R 127 dX0_ask_124 rfl rfl rfl fr_0_70 (mR_0 (sh_8_6 hS _)) ?_
        refine r_iload 129 dX0_ask_127 rfl rfl ?_
        refine a_I 12 130 dX0_ask_129 rfl rfl rfl rfl o_4 (mI_0 (upI_f rfl)) ?_
        refine v_1 (ci := 7) (C := (RX7, TX7, 5)) [vI x8, vI (M.1 36 0 x8.toNat)] [vR (some (14, k7)), vI x2, vR (some (13, k1)), vR (some (8, 0))] 133 dX0_ask_130 rfl rfl rfl rfl rfl mo_X7_seenFrom ml_0_73 rfl rfl (KX7_seenFrom hS o_5) ?_
        obtain ⟨r_8, M_6, hc_7, hS, h⟩ := h
        refine v_1 (ci := 3) (C := (RX3, TX3, 4)) [vR (some (13, k1)), vI x2, vR (some (14, k7)), vI (aOr (aOr (aShl 1 x8) (M.1 36 0 x8.toNat)) (M.1 32 k6 (M.1 31 k6 x8.toNat).toNat))] [] 136 dX0_ask_133 rfl rfl rfl rfl rfl mo_X3_fit ml_0_77 rfl rfl hc_7 ?_
        obtain ⟨o_9, h⟩ := h
        refine r_istore (ls' := [some (vR (some (9, 0))), some (vR (some (13, k1))), some (vI x2), some (vI x3), some (vI x4), some (vI x5), some (vR (some (14, k6))), some (vR (some (14, k7))), some (vI x8), some (vI r_8), none, none, none]) 138 dX0_ask_136 rfl rfl rfl rfl ?_
        refine r_iload 140 dX0_ask_138 rfl rfl ?_
        refine r_iload 142 dX0_ask_140 rfl rfl ?_
        refine n_1 [vI r_8, vI x8] [] 145 dX0_ask_142 rfl rfl mo_X11_hasBit ml_0_66 rfl rfl (KX11_hasBit o_9) ?_
        refine r_if_eq 148 153 dX0_ask_145 rfl rfl (fun c => ?_) (fun c => ?_)
        · have h := h.1 (b2_0.mp c)
          refine r_iload 155 dX0_ask_153 rfl rfl ?_
          obtain ⟨r_12, M_10, hc_11, hS, h⟩ := h
          refine n_1 [vI r_8] [] 158 dX0_ask_155 rfl rfl mo_X11_leastOf ml_0_83 rfl rfl hc_11 ?_
          refine r_istore (ls' := [some (vR (some (9, 0))), some (vR (some (13, k1))), some (vI x2), some (vI x3), some (vI x4), some (vI x5), some (vR (some (14, k6))), some (vR (some (14, k7))), some (vI x8), some (vI r_8), some (vI r_12), none, none]) 160 dX0_ask_158 rfl rfl rfl rfl ?_
          refine r_iload 162 dX0_ask_160 rfl rfl ?_
          refine r_iconst 163 dX0_ask_162 rfl (InR_of rfl) ?_
          refine r_icmp_ne 166 169 dX0_ask_163 rfl rfl (fun c => ?_) (fun c => ?_)
          · have h := h.1 (c)
            obtain ⟨⟨o_13, o_14, o_15, o_16⟩, h⟩ := h
            refine r_aload 171 dX0_ask_169 rfl rfl ?_
            refine g_R 174 dX0_ask_171 rfl rfl rfl fr_0_87 (sh_7_3 hS _) ?_
            refine r_iload 176 dX0_ask_174 rfl rfl ?_
            refine a_I 12 177 dX0_ask_176 rfl rfl rfl rfl o_13 rfl ?_
            refine r_istore (ls' := [some (vR (some (9, 0))), some (vR (some (13, k1))), some (vI x2), some (vI x3), some (vI x4), some (vI x5), some (vR (some (14, k6))), some (vR (some (14, k7))), some (vI x8), some (vI r_8), some (vI r_12), some (vI (M_10.1 31 k6 r_12.toNat)), none]) 179 dX0_ask_177 rfl rfl rfl rfl ?_
            refine r_aload_n 180 dX0_ask_179 rfl rfl ?_
            refine g_R 183 dX0_ask_180 rfl rfl rfl fr_0_23 (sh_0_2 hS) ?_
            refine g_R 186 dX0_ask_183 rfl rfl rfl fr_0_90 (sh_10_1 hS) ?_
            refine r_iload 188 dX0_ask_186 rfl rfl ?_
            refine r_bipush 190 dX0_ask_188 rfl rfl ?_
            refine r_imul 191 dX0_ask_190 rfl o_14 ?_
            refine r_iload 193 dX0_ask_191 rfl rfl ?_
            refine r_iadd 194 dX0_ask_193 rfl o_15 ?_
            refine a_I 64 195 dX0_ask_194 rfl rfl rfl rfl o_16 rfl ?_
            refine r_istore (ls' := [some (vR (some (9, 0))), some (vR (some (13, k1))), some (vI x2), some (vI x3), some (vI x4), some (vI x5), some (vR (some (14, k6))), some (vR (some (14, k7))), some (vI x8), some (vI r_8), some (vI r_12), some (vI (M_10.1 31 k6 r_12.toNat)), some (vI (M_10.1 46 0 ((x5 * 8) + (M_10.1 31 k6 r_12.toNat)).toNat))]) 197 dX0_ask_195 rfl rfl rfl rfl ?_
            refine r_iload 199 dX0_ask_197 rfl rfl ?_
            refine r_iload 201 dX0_ask_199 rfl rfl ?_
            refine r_icmp_eq 204 210 dX0_ask_201 rfl rfl (fun c => ?_) (fun c => ?_)
            · have h := h.1 (c)
              refine r_aload_n 211 dX0_ask_210 rfl rfl ?_
              refine r_iload 213 dX0_ask_211 rfl rfl ?_
              refine r_iload 215 dX0_ask_213 rfl rfl ?_
              have hJ_17 : Ex l G (d + 1) mX0_ask 223 [some (vR (some (9, 0))), some (vR (some (13, k1))), some (vI x2), some (vI x3), some (vI x4), some (vI x5), some (vR (some (14, k6))), some (vR (some (14, k7))), some (vI x8), some (vI r_8), some (vI r_12), some (vI (M_10.1 31 k6 r_12.toNat)), some (vI (M_10.1 46 0 ((x5 * 8) + (M_10.1 31 k6 r_12.toNat)).toNat))] [vI (if (M_10.1 31 k6 r_12.toNat) = x5 then 0 else 1 : Int), vR (some (9, 0))] M_10 r M' := by
                refine p_I 226 dX0_ask_223 rfl rfl rfl rfl pf_0_43 (.inl rfl) rfl ?_
                refine r_aload_n 227 dX0_ask_226 rfl rfl ?_
                refine r_iload 229 dX0_ask_227 rfl rfl ?_
                refine r_iload 231 dX0_ask_229 rfl rfl ?_
                have hJ_19 : Ex l G (d + 1) mX0_ask 241 [some (vR (some (9, 0))), some (vR (some (13, k1))), some (vI x2), some (vI x3), some (vI x4), some (vI x5), some (vR (some (14, k6))), some (vR (some (14, k7))), some (vI x8), some (vI r_8), some (vI r_12), some (vI (M_10.1 31 k6 r_12.toNat)), some (vI (M_10.1 46 0 ((x5 * 8) + (M_10.1 31 k6 r_12.toNat)).toNat))] [vI (if (M_10.1 31 k6 r_12.toNat) = x5 then r_12 else (M_10.1 46 0 ((x5 * 8) + (M_10.1 31 k6 r_12.toNat)).toNat) : Int), vR (some (9, 0))] ((upI M_10.1 9 0 4 (if (M_10.1 31 k6 r_12.toNat) = x5 then 0 else 1 : Int)), M_10.2.1, M_10.2.2) r M' := by
                  obtain ⟨o_21, h⟩ := h
                  refine p_I 244 dX0_ask_241 rfl rfl rfl rfl pf_0_47 (.inl rfl) rfl ?_
                  refine r_aload_n 245 dX0_ask_244 rfl rfl ?_
                  refine r_iload 247 dX0_ask_245 rfl rfl ?_
                  refine p_I 250 dX0_ask_247 rfl rfl rfl rfl pf_0_50 (.inl rfl) rfl ?_
                  refine r_iinc (ls' := [some (vR (some (9, 0))), some (vR (some (13, k1))), some (vI x2), some (vI x3), some (vI x4), some (vI x5), some (vR (some (14, k6))), some (vR (some (14, k7))), some (vI (x8 + 1)), some (vI r_8), some (vI r_12), some (vI (M_10.1 31 k6 r_12.toNat)), some (vI (M_10.1 46 0 ((x5 * 8) + (M_10.1 31 k6 r_12.toNat)).toNat))]) 253 dX0_ask_250 rfl rfl rfl rfl o_21 rfl ?_
                  refine r_goto 56 dX0_ask_253 rfl ?_
                  exact Ex.weak h ⟨rfl, rfl, rfl, rfl, rfl, rfl, rfl, rfl, rfl, trivial⟩
                refine r_icmp_ne 234 239 dX0_ask_231 rfl rfl (fun c => ?_) (fun c => ?_)
                · have c_20 := c
                  refine r_iload 241 dX0_ask_239 rfl rfl ?_
                  exact (Ex.at hJ_19 rfl (show [vI (M_10.1 46 0 ((x5 * 8) + (M_10.1 31 k6 r_12.toNat)).toNat), vR (some (9, 0))] = [vI (if (M_10.1 31 k6 r_12.toNat) = x5 then r_12 else (M_10.1 46 0 ((x5 * 8) + (M_10.1 31 k6 r_12.toNat)).toNat) : Int), vR (some (9, 0))] by simp only [if_neg c_20]) rfl)
                · have c_20 := Decidable.not_not.mp c
                  refine r_iload 236 dX0_ask_234 rfl rfl ?_
                  refine r_goto 241 dX0_ask_236 rfl ?_
                  exact (Ex.at hJ_19 rfl (show [vI r_12, vR (some (9, 0))] = [vI (if (M_10.1 31 k6 r_12.toNat) = x5 then r_12 else (M_10.1 46 0 ((x5 * 8) + (M_10.1 31 k6 r_12.toNat)).toNat) : Int), vR (some (9, 0))] by simp only [if_pos c_20]) rfl)
              refine r_icmp_ne 218 222 dX0_ask_215 rfl rfl (fun c => ?_) (fun c => ?_)
              · have c_18 := c
                refine r_iconst 223 dX0_ask_222 rfl (InR_of rfl) ?_
                exact (Ex.at hJ_17 rfl (show [vI 1, vR (some (9, 0))] = [vI (if (M_10.1 31 k6 r_12.toNat) = x5 then 0 else 1 : Int), vR (some (9, 0))] by simp only [if_neg c_18]) rfl)
              · have c_18 := Decidable.not_not.mp c
                refine r_iconst 219 dX0_ask_218 rfl (InR_of rfl) ?_
                refine r_goto 223 dX0_ask_219 rfl ?_
                exact (Ex.at hJ_17 rfl (show [vI 0, vR (some (9, 0))] = [vI (if (M_10.1 31 k6 r_12.toNat) = x5 then 0 else 1 : Int), vR (some (9, 0))] by simp only [if_pos c_18]) rfl)
            · have h := h.2 (c)
              refine r_iload 206 dX0_ask_204 rfl rfl ?_
              refine r_iconst 207 dX0_ask_206 rfl (InR_of rfl) ?_
              refine r_icmp_eq 210 250 dX0_ask_207 rfl rfl (fun c => ?_) (fun c => ?_)
              · have h := h.1 (c)
                obtain ⟨o_22, h⟩ := h
                refine r_iinc (ls' := [some (vR (some (9, 0))), some (vR (some (13, k1))), some (vI x2), some (vI x3), some (vI x4), some (vI x5), some (vR (some (14, k6))), some (vR (some (14, k7))), some (vI (x8 + 1)), some (vI r_8), some (vI r_12), some (vI (M_10.1 31 k6 r_12.toNat)), some (vI (M_10.1 46 0 ((x5 * 8) + (M_10.1 31 k6 r_12.toNat)).toNat))]) 253 dX0_ask_250 rfl rfl rfl rfl o_22 rfl ?_
                refine r_goto 56 dX0_ask_253 rfl ?_
                exact Ex.weak h ⟨rfl, rfl, rfl, rfl, rfl, rfl, rfl, rfl, rfl, trivial⟩
              · have h := h.2 (c)
                refine r_aload_n 211 dX0_ask_210 rfl rfl ?_
                refine r_iload 213 dX0_ask_211 rfl rfl ?_
                refine r_iload 215 dX0_ask_213 rfl rfl ?_
                have hJ_23 : Ex l G (d + 1) mX0_ask 223 [some (vR (some (9, 0))), some (vR (some (13, k1))), some (vI x2), some (vI x3), some (vI x4), some (vI x5), some (vR (some (14, k6))), some (vR (some (14, k7))), some (vI x8), some (vI r_8), some (vI r_12), some (vI (M_10.1 31 k6 r_12.toNat)), some (vI (M_10.1 46 0 ((x5 * 8) + (M_10.1 31 k6 r_12.toNat)).toNat))] [vI (if (M_10.1 31 k6 r_12.toNat) = x5 then 0 else 1 : Int), vR (some (9, 0))] M_10 r M' := by
                  refine p_I 226 dX0_ask_223 rfl rfl rfl rfl pf_0_43 (.inl rfl) rfl ?_
                  refine r_aload_n 227 dX0_ask_226 rfl rfl ?_
                  refine r_iload 229 dX0_ask_227 rfl rfl ?_
                  refine r_iload 231 dX0_ask_229 rfl rfl ?_
                  have hJ_25 : Ex l G (d + 1) mX0_ask 241 [some (vR (some (9, 0))), some (vR (some (13, k1))), some (vI x2), some (vI x3), some (vI x4), some (vI x5), some (vR (some (14, k6))), some (vR (some (14, k7))), some (vI x8), some (vI r_8), some (vI r_12), some (vI (M_10.1 31 k6 r_12.toNat)), some (vI (M_10.1 46 0 ((x5 * 8) + (M_10.1 31 k6 r_12.toNat)).toNat))] [vI (if (M_10.1 31 k6 r_12.toNat) = x5 then r_12 else (M_10.1 46 0 ((x5 * 8) + (M_10.1 31 k6 r_12.toNat)).toNat) : Int), vR (some (9, 0))] ((upI M_10.1 9 0 4 (if (M_10.1 31 k6 r_12.toNat) = x5 then 0 else 1 : Int)), M_10.2.1, M_10.2.2) r M' := by
                    obtain ⟨o_27, h⟩ := h
                    refine p_I 244 dX0_ask_241 rfl rfl rfl rfl pf_0_47 (.inl rfl) rfl ?_
                    refine r_aload_n 245 dX0_ask_244 rfl rfl ?_
                    refine r_iload 247 dX0_ask_245 rfl rfl ?_
                    refine p_I 250 dX0_ask_247 rfl rfl rfl rfl pf_0_50 (.inl rfl) rfl ?_
                    refine r_iinc (ls' := [some (vR (some (9, 0))), some (vR (some (13, k1))), some (vI x2), some (vI x3), some (vI x4), some (vI x5), some (vR (some (14, k6))), some (vR (some (14, k7))), some (vI (x8 + 1)), some (vI r_8), some (vI r_12), some (vI (M_10.1 31 k6 r_12.toNat)), some (vI (M_10.1 46 0 ((x5 * 8) + (M_10.1 31 k6 r_12.toNat)).toNat))]) 253 dX0_ask_250 rfl rfl rfl rfl o_27 rfl ?_
                    refine r_goto 56 dX0_ask_253 rfl ?_
                    exact Ex.weak h ⟨rfl, rfl, rfl, rfl, rfl, rfl, rfl, rfl, rfl, trivial⟩
                  refine r_icmp_ne 234 239 dX0_ask_231 rfl rfl (fun c => ?_) (fun c => ?_)
                  · have c_26 := c
                    refine r_iload 241 dX0_ask_239 rfl rfl ?_
                    exact (Ex.at hJ_25 rfl (show [vI (M_10.1 46 0 ((x5 * 8) + (M_10.1 31 k6 r_12.toNat)).toNat), vR (some (9, 0))] = [vI (if (M_10.1 31 k6 r_12.toNat) = x5 then r_12 else (M_10.1 46 0 ((x5 * 8) + (M_10.1 31 k6 r_12.toNat)).toNat) : Int), vR (some (9, 0))] by simp only [if_neg c_26]) rfl)
                  · have c_26 := Decidable.not_not.mp c
                    refine r_iload 236 dX0_ask_234 rfl rfl ?_
                    refine r_goto 241 dX0_ask_236 rfl ?_
                    exact (Ex.at hJ_25 rfl (show [vI r_12, vR (some (9, 0))] = [vI (if (M_10.1 31 k6 r_12.toNat) = x5 then r_12 else (M_10.1 46 0 ((x5 * 8) + (M_10.1 31 k6 r_12.toNat)).toNat) : Int), vR (some (9, 0))] by simp only [if_pos c_26]) rfl)
                refine r_icmp_ne 218 222 dX0_ask_215 rfl rfl (fun c => ?_) (fun c => ?_)
                · have c_24 := c
                  refine r_iconst 223 dX0_ask_222 rfl (InR_of rfl) ?_
                  exact (Ex.at hJ_23 rfl (show [vI 1, vR (some (9, 0))] = [vI (if (M_10.1 31 k6 r_12.toNat) = x5 then 0 else 1 : Int), vR (some (9, 0))] by simp only [if_neg c_24]) rfl)
                · have c_24 := Decidable.not_not.mp c
                  refine r_iconst 219 dX0_ask_218 rfl (InR_of rfl) ?_
                  refine r_goto 223 dX0_ask_219 rfl ?_
                  exact (Ex.at hJ_23 rfl (show [vI 0, vR (some (9, 0))] = [vI (if (M_10.1 31 k6 r_12.toNat) = x5 then 0 else 1 : Int), vR (some (9, 0))] by simp only [if_pos c_24]) rfl)
          · have h := h.2 (Decidable.not_not.mp c)
            obtain ⟨o_28, h⟩ := h
            refine r_goto 250 dX0_ask_166 rfl ?_
            refine r_iinc (ls' := [some (vR (some (9, 0))), some (vR (some (13, k1))), some (vI x2), some (vI x3), some (vI x4), some (vI x5), some (vR (some (14, k6))), some (vR (some (14, k7))), some (vI (x8 + 1)), some (vI r_8), some (vI r_12), none, none]) 253 dX0_ask_250 rfl rfl rfl rfl o_28 rfl ?_
            refine r_goto 56 dX0_ask_253 rfl ?_
            exact Ex.weak h ⟨rfl, rfl, rfl, rfl, rfl, rfl, rfl, rfl, rfl, trivial⟩
        · have h := h.2 (b2_1.mp c)
          refine r_iload 150 dX0_ask_148 rfl rfl ?_
          refine r_goto 158 dX0_ask_150 rfl ?_
          refine r_istore (ls' := [some (vR (some (9, 0))), some (vR (some (13, k1))), some (vI x2), some (vI x3), some (vI x4), some (vI x5), some (vR (some (14, k6))), some (vR (some (14, k7))), some (vI x8), some (vI r_8), some (vI x8), none, none]) 160 dX0_ask_158 rfl rfl rfl rfl ?_
          refine r_iload 162 dX0_ask_160 rfl rfl ?_
          refine r_iconst 163 dX0_ask_162 rfl (InR_of rfl) ?_
          refine r_icmp_ne 166 169 dX0_ask_163 rfl rfl (fun c => ?_) (fun c => ?_)
          · have h := h.1 (c)
            obtain ⟨⟨o_29, o_30, o_31, o_32⟩, h⟩ := h
            refine r_aload 171 dX0_ask_169 rfl rfl ?_
            refine g_R 174 dX0_ask_171 rfl rfl rfl fr_0_87 (sh_7_3 hS _) ?_
            refine r_iload 176 dX0_ask_174 rfl rfl ?_
            refine a_I 12 177 dX0_ask_176 rfl rfl rfl rfl o_29 rfl ?_
            refine r_istore (ls' := [some (vR (some (9, 0))), some (vR (some (13, k1))), some (vI x2), some (vI x3), some (vI x4), some (vI x5), some (vR (some (14, k6))), some (vR (some (14, k7))), some (vI x8), some (vI r_8), some (vI x8), some (vI (M_6.1 31 k6 x8.toNat)), none]) 179 dX0_ask_177 rfl rfl rfl rfl ?_
            refine r_aload_n 180 dX0_ask_179 rfl rfl ?_
            refine g_R 183 dX0_ask_180 rfl rfl rfl fr_0_23 (sh_0_2 hS) ?_
            refine g_R 186 dX0_ask_183 rfl rfl rfl fr_0_90 (sh_10_1 hS) ?_
            refine r_iload 188 dX0_ask_186 rfl rfl ?_
            refine r_bipush 190 dX0_ask_188 rfl rfl ?_
            refine r_imul 191 dX0_ask_190 rfl o_30 ?_
            refine r_iload 193 dX0_ask_191 rfl rfl ?_
            refine r_iadd 194 dX0_ask_193 rfl o_31 ?_
            refine a_I 64 195 dX0_ask_194 rfl rfl rfl rfl o_32 rfl ?_
            refine r_istore (ls' := [some (vR (some (9, 0))), some (vR (some (13, k1))), some (vI x2), some (vI x3), some (vI x4), some (vI x5), some (vR (some (14, k6))), some (vR (some (14, k7))), some (vI x8), some (vI r_8), some (vI x8), some (vI (M_6.1 31 k6 x8.toNat)), some (vI (M_6.1 46 0 ((x5 * 8) + (M_6.1 31 k6 x8.toNat)).toNat))]) 197 dX0_ask_195 rfl rfl rfl rfl ?_
            refine r_iload 199 dX0_ask_197 rfl rfl ?_
            refine r_iload 201 dX0_ask_199 rfl rfl ?_
            refine r_icmp_eq 204 210 dX0_ask_201 rfl rfl (fun c => ?_) (fun c => ?_)
            · have h := h.1 (c)
              refine r_aload_n 211 dX0_ask_210 rfl rfl ?_
              refine r_iload 213 dX0_ask_211 rfl rfl ?_
              refine r_iload 215 dX0_ask_213 rfl rfl ?_
              have hJ_33 : Ex l G (d + 1) mX0_ask 223 [some (vR (some (9, 0))), some (vR (some (13, k1))), some (vI x2), some (vI x3), some (vI x4), some (vI x5), some (vR (some (14, k6))), some (vR (some (14, k7))), some (vI x8), some (vI r_8), some (vI x8), some (vI (M_6.1 31 k6 x8.toNat)), some (vI (M_6.1 46 0 ((x5 * 8) + (M_6.1 31 k6 x8.toNat)).toNat))] [vI (if (M_6.1 31 k6 x8.toNat) = x5 then 0 else 1 : Int), vR (some (9, 0))] M_6 r M' := by
                refine p_I 226 dX0_ask_223 rfl rfl rfl rfl pf_0_43 (.inl rfl) rfl ?_
                refine r_aload_n 227 dX0_ask_226 rfl rfl ?_
                refine r_iload 229 dX0_ask_227 rfl rfl ?_
                refine r_iload 231 dX0_ask_229 rfl rfl ?_
                have hJ_35 : Ex l G (d + 1) mX0_ask 241 [some (vR (some (9, 0))), some (vR (some (13, k1))), some (vI x2), some (vI x3), some (vI x4), some (vI x5), some (vR (some (14, k6))), some (vR (some (14, k7))), some (vI x8), some (vI r_8), some (vI x8), some (vI (M_6.1 31 k6 x8.toNat)), some (vI (M_6.1 46 0 ((x5 * 8) + (M_6.1 31 k6 x8.toNat)).toNat))] [vI (if (M_6.1 31 k6 x8.toNat) = x5 then x8 else (M_6.1 46 0 ((x5 * 8) + (M_6.1 31 k6 x8.toNat)).toNat) : Int), vR (some (9, 0))] ((upI M_6.1 9 0 4 (if (M_6.1 31 k6 x8.toNat) = x5 then 0 else 1 : Int)), M_6.2.1, M_6.2.2) r M' := by
                  obtain ⟨o_37, h⟩ := h
                  refine p_I 244 dX0_ask_241 rfl rfl rfl rfl pf_0_47 (.inl rfl) rfl ?_
                  refine r_aload_n 245 dX0_ask_244 rfl rfl ?_
                  refine r_iload 247 dX0_ask_245 rfl rfl ?_
                  refine p_I 250 dX0_ask_247 rfl rfl rfl rfl pf_0_50 (.inl rfl) rfl ?_
                  refine r_iinc (ls' := [some (vR (some (9, 0))), some (vR (some (13, k1))), some (vI x2), some (vI x3), some (vI x4), some (vI x5), some (vR (some (14, k6))), some (vR (some (14, k7))), some (vI (x8 + 1)), some (vI r_8), some (vI x8), some (vI (M_6.1 31 k6 x8.toNat)), some (vI (M_6.1 46 0 ((x5 * 8) + (M_6.1 31 k6 x8.toNat)).toNat))]) 253 dX0_ask_250 rfl rfl rfl rfl o_37 rfl ?_
                  refine r_goto 56 dX0_ask_253 rfl ?_
                  exact Ex.weak h ⟨rfl, rfl, rfl, rfl, rfl, rfl, rfl, rfl, rfl, trivial⟩
                refine r_icmp_ne 234 239 dX0_ask_231 rfl rfl (fun c => ?_) (fun c => ?_)
                · have c_36 := c
                  refine r_iload 241 dX0_ask_239 rfl rfl ?_
                  exact (Ex.at hJ_35 rfl (show [vI (M_6.1 46 0 ((x5 * 8) + (M_6.1 31 k6 x8.toNat)).toNat), vR (some (9, 0))] = [vI (if (M_6.1 31 k6 x8.toNat) = x5 then x8 else (M_6.1 46 0 ((x5 * 8) + (M_6.1 31 k6 x8.toNat)).toNat) : Int), vR (some (9, 0))] by simp only [if_neg c_36]) rfl)
                · have c_36 := Decidable.not_not.mp c
                  refine r_iload 236 dX0_ask_234 rfl rfl ?_
                  refine r_goto 241 dX0_ask_236 rfl ?_
                  exact (Ex.at hJ_35 rfl (show [vI x8, vR (some (9, 0))] = [vI (if (M_6.1 31 k6 x8.toNat) = x5 then x8 else (M_6.1 46 0 ((x5 * 8) + (M_6.1 31 k6 x8.toNat)).toNat) : Int), vR (some (9, 0))] by simp only [if_pos c_36]) rfl)
              refine r_icmp_ne 218 222 dX0_ask_215 rfl rfl (fun c => ?_) (fun c => ?_)
              · have c_34 := c
                refine r_iconst 223 dX0_ask_222 rfl (InR_of rfl) ?_
                exact (Ex.at hJ_33 rfl (show [vI 1, vR (some (9, 0))] = [vI (if (M_6.1 31 k6 x8.toNat) = x5 then 0 else 1 : Int), vR (some (9, 0))] by simp only [if_neg c_34]) rfl)
              · have c_34 := Decidable.not_not.mp c
                refine r_iconst 219 dX0_ask_218 rfl (InR_of rfl) ?_
                refine r_goto 223 dX0_ask_219 rfl ?_
                exact (Ex.at hJ_33 rfl (show [vI 0, vR (some (9, 0))] = [vI (if (M_6.1 31 k6 x8.toNat) = x5 then 0 else 1 : Int), vR (some (9, 0))] by simp only [if_pos c_34]) rfl)
            · have h := h.2 (c)
              refine r_iload 206 dX0_ask_204 rfl rfl ?_
              refine r_iconst 207 dX0_ask_206 rfl (InR_of rfl) ?_
              refine r_icmp_eq 210 250 dX0_ask_207 rfl rfl (fun c => ?_) (fun c => ?_)
              · have h := h.1 (c)
                obtain ⟨o_38, h⟩ := h
                refine r_iinc (ls' := [some (vR (some (9, 0))), some (vR (some (13, k1))), some (vI x2), some (vI x3), some (vI x4), some (vI x5), some (vR (some (14, k6))), some (vR (some (14, k7))), some (vI (x8 + 1)), some (vI r_8), some (vI x8), some (vI (M_6.1 31 k6 x8.toNat)), some (vI (M_6.1 46 0 ((x5 * 8) + (M_6.1 31 k6 x8.toNat)).toNat))]) 253 dX0_ask_250 rfl rfl rfl rfl o_38 rfl ?_
                refine r_goto 56 dX0_ask_253 rfl ?_
                exact Ex.weak h ⟨rfl, rfl, rfl, rfl, rfl, rfl, rfl, rfl, rfl, trivial⟩
              · have h := h.2 (c)
                refine r_aload_n 211 dX0_ask_210 rfl rfl ?_
                refine r_iload 213 dX0_ask_211 rfl rfl ?_
                refine r_iload 215 dX0_ask_213 rfl rfl ?_
                have hJ_39 : Ex l G (d + 1) mX0_ask 223 [some (vR (some (9, 0))), some (vR (some (13, k1))), some (vI x2), some (vI x3), some (vI x4), some (vI x5), some (vR (some (14, k6))), some (vR (some (14, k7))), some (vI x8), some (vI r_8), some (vI x8), some (vI (M_6.1 31 k6 x8.toNat)), some (vI (M_6.1 46 0 ((x5 * 8) + (M_6.1 31 k6 x8.toNat)).toNat))] [vI (if (M_6.1 31 k6 x8.toNat) = x5 then 0 else 1 : Int), vR (some (9, 0))] M_6 r M' := by
                  refine p_I 226 dX0_ask_223 rfl rfl rfl rfl pf_0_43 (.inl rfl) rfl ?_
                  refine r_aload_n 227 dX0_ask_226 rfl rfl ?_
                  refine r_iload 229 dX0_ask_227 rfl rfl ?_
                  refine r_iload 231 dX0_ask_229 rfl rfl ?_
                  have hJ_41 : Ex l G (d + 1) mX0_ask 241 [some (vR (some (9, 0))), some (vR (some (13, k1))), some (vI x2), some (vI x3), some (vI x4), some (vI x5), some (vR (some (14, k6))), some (vR (some (14, k7))), some (vI x8), some (vI r_8), some (vI x8), some (vI (M_6.1 31 k6 x8.toNat)), some (vI (M_6.1 46 0 ((x5 * 8) + (M_6.1 31 k6 x8.toNat)).toNat))] [vI (if (M_6.1 31 k6 x8.toNat) = x5 then x8 else (M_6.1 46 0 ((x5 * 8) + (M_6.1 31 k6 x8.toNat)).toNat) : Int), vR (some (9, 0))] ((upI M_6.1 9 0 4 (if (M_6.1 31 k6 x8.toNat) = x5 then 0 else 1 : Int)), M_6.2.1, M_6.2.2) r M' := by
                    obtain ⟨o_43, h⟩ := h
                    refine p_I 244 dX0_ask_241 rfl rfl rfl rfl pf_0_47 (.inl rfl) rfl ?_
                    refine r_aload_n 245 dX0_ask_244 rfl rfl ?_
                    refine r_iload 247 dX0_ask_245 rfl rfl ?_
                    refine p_I 250 dX0_ask_247 rfl rfl rfl rfl pf_0_50 (.inl rfl) rfl ?_
                    refine r_iinc (ls' := [some (vR (some (9, 0))), some (vR (some (13, k1))), some (vI x2), some (vI x3), some (vI x4), some (vI x5), some (vR (some (14, k6))), some (vR (some (14, k7))), some (vI (x8 + 1)), some (vI r_8), some (vI x8), some (vI (M_6.1 31 k6 x8.toNat)), some (vI (M_6.1 46 0 ((x5 * 8) + (M_6.1 31 k6 x8.toNat)).toNat))]) 253 dX0_ask_250 rfl rfl rfl rfl o_43 rfl ?_
                    refine r_goto 56 dX0_ask_253 rfl ?_
                    exact Ex.weak h ⟨rfl, rfl, rfl, rfl, rfl, rfl, rfl, rfl, rfl, trivial⟩
                  refine r_icmp_ne 234 239 dX0_ask_231 rfl rfl (fun c => ?_) (fun c => ?_)
                  · have c_42 := c
                    refine r_iload 241 dX0_ask_239 rfl rfl ?_
                    exact (Ex.at hJ_41 rfl (show [vI (M_6.1 46 0 ((x5 * 8) + (M_6.1 31 k6 x8.toNat)).toNat), vR (some (9, 0))] = [vI (if (M_6.1 31 k6 x8.toNat) = x5 then x8 else (M_6.1 46 0 ((x5 * 8) + (M_6.1 31 k6 x8.toNat)).toNat) : Int), vR (some (9, 0))] by simp only [if_neg c_42]) rfl)
                  · have c_42 := Decidable.not_not.mp c
                    refine r_iload 236 dX0_ask_234 rfl rfl ?_
                    refine r_goto 241 dX0_ask_236 rfl ?_
                    exact (Ex.at hJ_41 rfl (show [vI x8, vR (some (9, 0))] = [vI (if (M_6.1 31 k6 x8.toNat) = x5 then x8 else (M_6.1 46 0 ((x5 * 8) + (M_6.1 31 k6 x8.toNat)).toNat) : Int), vR (some (9, 0))] by simp only [if_pos c_42]) rfl)
                refine r_icmp_ne 218 222 dX0_ask_215 rfl rfl (fun c => ?_) (fun c => ?_)
                · have c_40 := c
                  refine r_iconst 223 dX0_ask_222 rfl (InR_of rfl) ?_
                  exact (Ex.at hJ_39 rfl (show [vI 1, vR (some (9, 0))] = [vI (if (M_6.1 31 k6 x8.toNat) = x5 then 0 else 1 : Int), vR (some (9, 0))] by simp only [if_neg c_40]) rfl)
                · have c_40 := Decidable.not_not.mp c
                  refine r_iconst 219 dX0_ask_218 rfl (InR_of rfl) ?_
                  refine r_goto 223 dX0_ask_219 rfl ?_
                  exact (Ex.at hJ_39 rfl (show [vI 0, vR (some (9, 0))] = [vI (if (M_6.1 31 k6 x8.toNat) = x5 then 0 else 1 : Int), vR (some (9, 0))] by simp only [if_pos c_40]) rfl)
          · have h := h.2 (Decidable.not_not.mp c)
            obtain ⟨o_44, h⟩ := h
            refine r_goto 250 dX0_ask_166 rfl ?_
            refine r_iinc (ls' := [some (vR (some (9, 0))), some (vR (some (13, k1))), some (vI x2), some (vI x3), some (vI x4), some (vI x5), some (vR (some (14, k6))), some (vR (some (14, k7))), some (vI (x8 + 1)), some (vI r_8), some (vI x8), none, none]) 253 dX0_ask_250 rfl rfl rfl rfl o_44 rfl ?_
            refine r_goto 56 dX0_ask_253 rfl ?_
            exact Ex.weak h ⟨rfl, rfl, rfl, rfl, rfl, rfl, rfl, rfl, rfl, trivial⟩
      · have h := h.2 (b2_0.mp (Decidable.not_not.mp c))
        obtain ⟨o_45, h⟩ := h
        refine r_goto 250 dX0_ask_92 rfl ?_
        refine r_iinc (ls' := [some (vR (some (9, 0))), some (vR (some (13, k1))), some (vI x2), some (vI x3), some (vI x4), some (vI x5), some (vR (some (14, k6))), some (vR (some (14, k7))), some (vI (x8 + 1)), none, none, none, none]) 253 dX0_ask_250 rfl rfl rfl rfl o_45 rfl ?_
        refine r_goto 56 dX0_ask_253 rfl ?_
        exact h

set_option maxRecDepth 4000 in
theorem xX11_asked_0 {l : Launch} {G : Gt} {d : Nat} {M M' : Mem} {r : Option Vl} {x1 : Int} {x2 : Int} {x3 : Int} {x4 : Int} {x5 : Int} {x6 : Int} (h : 
    ∃ (o_3 : Option Nm) (M_1 : Mem), Cl l G d mX11_coverOf [vR (some (2, 0)), vI x1] M (some (vR o_3)) M_1 ∧ Sh M_1.2.1 ∧ ((o_3 = none → r = some (vI (-2)) ∧ M' = M_1) ∧ (¬ (o_3 = none) → (¬ (0 ≤ x2 ∧ x2 < (M_1.1 4 0 0)) → r = some (vI (-2)) ∧ M' = M_1) ∧ (0 ≤ x2 ∧ x2 < (M_1.1 4 0 0) → (¬ (0 ≤ x3 ∧ x3 ≤ 999) → r = some (vI (-2)) ∧ M' = M_1) ∧ (0 ≤ x3 ∧ x3 ≤ 999 → (0 ≤ x4 ∧ x4 ≤ 999 → (¬ (0 ≤ x5 ∧ x5 < 8) → r = some (vI (-2)) ∧ M' = M_1) ∧ (0 ≤ x5 ∧ x5 < 8 → (x6 < 0 → r = some (vI (-2)) ∧ M' = M_1) ∧ (¬ (x6 < 0) → (x6 ≤ 2 → ∃ k_4 : Nat, o_3 = some (13, k_4) ∧ (∃ (M_6 : Mem), Cl l G d mX0_ask [vR (some (9, 0)), vR (some (13, k_4)), vI x2, vI x3, vI x4, vI x5] M_1 none M_6 ∧ Sh M_6.2.1 ∧ ((¬ (x6 = 0) → r = some (vI (if x6 = 1 then (M_6.1 9 0 5) else (M_6.1 9 0 6) : Int)) ∧ M' = M_6) ∧ (x6 = 0 → r = some (vI (M_6.1 9 0 4)) ∧ M' = M_6)))) ∧ (¬ (x6 ≤ 2) → r = some (vI (-2)) ∧ M' = M_1)))) ∧ (¬ (0 ≤ x4 ∧ x4 ≤ 999) → r = some (vI (-2)) ∧ M' = M_1)))))) : Cl l G (d + 1) mX11_asked [vR (some (2, 0)), vI x1, vI x2, vI x3, vI x4, vI x5, vI x6] M r M' := by
  show Ex l G (d + 1) mX11_asked 0 [some (vR (some (2, 0))), some (vI x1), some (vI x2), some (vI x3), some (vI x4), some (vI x5), some (vI x6), none] [] M r M'
  refine r_aload_n 1 dX11_asked_0 rfl rfl ?_
  refine r_iload_n 2 dX11_asked_1 rfl rfl ?_
  obtain ⟨o_3, M_1, hc_2, hS, h⟩ := h
  refine v_1 (ci := 11) (C := (RX11, TX11, 16)) [vI x1] [] 5 dX11_asked_2 rfl rfl rfl rfl rfl mo_X11_coverOf ml_11_187 rfl rfl hc_2 ?_
  refine r_astore (ls' := [some (vR (some (2, 0))), some (vI x1), some (vI x2), some (vI x3), some (vI x4), some (vI x5), some (vI x6), some (vR o_3)]) 7 dX11_asked_5 rfl rfl rfl rfl ?_
  refine r_aload 9 dX11_asked_7 rfl rfl ?_
  refine r_ifnull 12 35 dX11_asked_9 rfl rfl (fun c => ?_) (fun c => ?_)
  · have h := h.1 (c)
    refine r_bipush 37 dX11_asked_35 rfl rfl ?_
    exact r_iret dX11_asked_37 rfl (.inl rfl) h.1 h.2
  · have h := h.2 (c)
    refine r_aload_n 13 dX11_asked_12 rfl rfl ?_
    refine r_iload_n 14 dX11_asked_13 rfl rfl ?_
    refine v_1 (ci := 11) (C := (RX11, TX11, 16)) [vI x2] [] 17 dX11_asked_14 rfl rfl rfl rfl rfl mo_X11_isPerson ml_11_127 rfl rfl (KX11_isPerson hS) ?_
    refine r_if_eq 20 35 dX11_asked_17 rfl rfl (fun c => ?_) (fun c => ?_)
    · have h := h.1 (b2_0.mp c)
      refine r_bipush 37 dX11_asked_35 rfl rfl ?_
      exact r_iret dX11_asked_37 rfl (.inl rfl) h.1 h.2
    · have h := h.2 (b2_1.mp c)
      refine r_iload_n 21 dX11_asked_20 rfl rfl ?_
      refine c_1 [vI x3] [] 24 dX11_asked_21 rfl rfl mo_X11_isDay ml_11_124 rfl rfl (KX11_isDay) ?_
      refine r_if_eq 27 35 dX11_asked_24 rfl rfl (fun c => ?_) (fun c => ?_)
      · have h := h.1 (b2_0.mp c)
        refine r_bipush 37 dX11_asked_35 rfl rfl ?_
        exact r_iret dX11_asked_37 rfl (.inl rfl) h.1 h.2
      · have h := h.2 (b2_1.mp c)
        refine r_iload 29 dX11_asked_27 rfl rfl ?_
        refine c_1 [vI x4] [] 32 dX11_asked_29 rfl rfl mo_X11_isDay ml_11_124 rfl rfl (KX11_isDay) ?_
        refine r_if_ne 35 38 dX11_asked_32 rfl rfl (fun c => ?_) (fun c => ?_)
        · have h := h.1 (b2_1.mp c)
          refine r_iload 40 dX11_asked_38 rfl rfl ?_
          refine c_1 [vI x5] [] 43 dX11_asked_40 rfl rfl mo_X11_isPlace ml_11_96 rfl rfl (KX11_isPlace) ?_
          refine r_if_eq 46 57 dX11_asked_43 rfl rfl (fun c => ?_) (fun c => ?_)
          · have h := h.1 (b2_0.mp c)
            refine r_bipush 59 dX11_asked_57 rfl rfl ?_
            exact r_iret dX11_asked_59 rfl (.inl rfl) h.1 h.2
          · have h := h.2 (b2_1.mp c)
            refine r_iload 48 dX11_asked_46 rfl rfl ?_
            refine r_if_lt 51 57 dX11_asked_48 rfl rfl (fun c => ?_) (fun c => ?_)
            · have h := h.1 (c)
              refine r_bipush 59 dX11_asked_57 rfl rfl ?_
              exact r_iret dX11_asked_59 rfl (.inl rfl) h.1 h.2
            · have h := h.2 (c)
              refine r_iload 53 dX11_asked_51 rfl rfl ?_
              refine r_iconst 54 dX11_asked_53 rfl (InR_of rfl) ?_
              refine r_icmp_le 57 60 dX11_asked_54 rfl rfl (fun c => ?_) (fun c => ?_)
              · have h := h.1 (c)
                refine r_aload_n 61 dX11_asked_60 rfl rfl ?_
                refine g_R 64 dX11_asked_61 rfl rfl rfl fr_11_44 (sh_11_4 hS) ?_
                refine r_aload 66 dX11_asked_64 rfl rfl ?_
                refine r_iload_n 67 dX11_asked_66 rfl rfl ?_
                refine r_iload_n 68 dX11_asked_67 rfl rfl ?_
                refine r_iload 70 dX11_asked_68 rfl rfl ?_
                refine r_iload 72 dX11_asked_70 rfl rfl ?_
                obtain ⟨k_4, e_5, h⟩ := h
                refine Ex.at (st2 := [vI x5, vI x4, vI x3, vI x2, vR (some (13, k_4)), vR (some (9, 0))]) ?_ rfl (show [vI x5, vI x4, vI x3, vI x2, vR o_3, vR (some (9, 0))] = [vI x5, vI x4, vI x3, vI x2, vR (some (13, k_4)), vR (some (9, 0))] by rw [e_5]) rfl
                obtain ⟨M_6, hc_7, hS, h⟩ := h
                refine v_0 (ci := 0) (C := (RX0, TX0, 13)) [vR (some (13, k_4)), vI x2, vI x3, vI x4, vI x5] [] 75 dX11_asked_72 rfl rfl rfl rfl rfl mo_X0_ask ml_11_211 rfl rfl hc_7 ?_
                refine r_iload 77 dX11_asked_75 rfl rfl ?_
                refine r_if_ne 80 88 dX11_asked_77 rfl rfl (fun c => ?_) (fun c => ?_)
                · have h := h.1 (c)
                  refine r_iload 90 dX11_asked_88 rfl rfl ?_
                  refine r_iconst 91 dX11_asked_90 rfl (InR_of rfl) ?_
                  have hJ_8 : Ex l G (d + 1) mX11_asked 111 [some (vR (some (2, 0))), some (vI x1), some (vI x2), some (vI x3), some (vI x4), some (vI x5), some (vI x6), some (vR o_3)] [vI (if x6 = 1 then (M_6.1 9 0 5) else (M_6.1 9 0 6) : Int)] M_6 r M' := by
                    exact r_iret dX11_asked_111 rfl (.inl rfl) h.1 h.2
                  refine r_icmp_ne 94 104 dX11_asked_91 rfl rfl (fun c => ?_) (fun c => ?_)
                  · have c_9 := c
                    refine r_aload_n 105 dX11_asked_104 rfl rfl ?_
                    refine g_R 108 dX11_asked_105 rfl rfl rfl fr_11_44 (sh_11_4 hS) ?_
                    refine g_I 111 dX11_asked_108 rfl rfl rfl fi_11_221 rfl ?_
                    exact (Ex.at hJ_8 rfl (show [vI (M_6.1 9 0 6)] = [vI (if x6 = 1 then (M_6.1 9 0 5) else (M_6.1 9 0 6) : Int)] by simp only [if_neg c_9]) rfl)
                  · have c_9 := Decidable.not_not.mp c
                    refine r_aload_n 95 dX11_asked_94 rfl rfl ?_
                    refine g_R 98 dX11_asked_95 rfl rfl rfl fr_11_44 (sh_11_4 hS) ?_
                    refine g_I 101 dX11_asked_98 rfl rfl rfl fi_11_218 rfl ?_
                    refine r_goto 111 dX11_asked_101 rfl ?_
                    exact (Ex.at hJ_8 rfl (show [vI (M_6.1 9 0 5)] = [vI (if x6 = 1 then (M_6.1 9 0 5) else (M_6.1 9 0 6) : Int)] by simp only [if_pos c_9]) rfl)
                · have h := h.2 (Decidable.not_not.mp c)
                  refine r_aload_n 81 dX11_asked_80 rfl rfl ?_
                  refine g_R 84 dX11_asked_81 rfl rfl rfl fr_11_44 (sh_11_4 hS) ?_
                  refine g_I 87 dX11_asked_84 rfl rfl rfl fi_11_215 rfl ?_
                  exact r_iret dX11_asked_87 rfl (.inl rfl) h.1 h.2
              · have h := h.2 (c)
                refine r_bipush 59 dX11_asked_57 rfl rfl ?_
                exact r_iret dX11_asked_59 rfl (.inl rfl) h.1 h.2
        · have h := h.2 (b2_0.mp (Decidable.not_not.mp c))
          refine r_bipush 37 dX11_asked_35 rfl rfl ?_
          exact r_iret dX11_asked_37 rfl (.inl rfl) h.1 h.2

set_option maxRecDepth 4000 in
theorem xX12_asked_0 {l : Launch} {G : Gt} {d : Nat} {M M' : Mem} {r : Option Vl} {x1 : Int} {x2 : Int} {x3 : Int} {x4 : Int} {x5 : Int} {x6 : Int} (hS : Sh M.2.1) (h : 
    (InR ((M.1 3 0 33) - 1)) ∧ ((¬ (0 ≤ x1 ∧ x1 < (M.1 3 0 33)) → r = some (vI (-2)) ∧ M' = M) ∧ (0 ≤ x1 ∧ x1 < (M.1 3 0 33) → (InR ((M.1 48 0 0) - 1)) ∧ ((¬ (0 ≤ x2 ∧ x2 < (M.1 48 0 0)) → r = some (vI (-2)) ∧ M' = M) ∧ (0 ≤ x2 ∧ x2 < (M.1 48 0 0) → (¬ (0 ≤ x3 ∧ x3 ≤ 999) → r = some (vI (-2)) ∧ M' = M) ∧ (0 ≤ x3 ∧ x3 ≤ 999 → (¬ (0 ≤ x4 ∧ x4 ≤ 999) → r = some (vI (-2)) ∧ M' = M) ∧ (0 ≤ x4 ∧ x4 ≤ 999 → (¬ (0 ≤ x5 ∧ x5 < 8) → r = some (vI (-2)) ∧ M' = M) ∧ (0 ≤ x5 ∧ x5 < 8 → (0 ≤ x6 ∧ x6 ≤ 2 → ∃ (M_3 : Mem), Cl l G (d + 1) mX12_lays [vR (some (3, 0)), vI 0, vI x3] M none M_3 ∧ (∃ (M_5 : Mem), Cl l G (d + 1) mX12_lays [vR (some (3, 0)), vI 1, vI x4] M_3 none M_5 ∧ (∃ (r_9 : Int) (M_7 : Mem), Cl l G (d + 1) mX12_asks [vR (some (3, 0)), vI x1, vI x2, vI x5] M_5 (some (vI r_9)) M_7 ∧ r = some (vI (if x6 = 0 then r_9 else (if x6 = 2 then (M_7.1 3 0 50) else (if r_9 = 0 then (M_7.1 3 0 48) else (M_7.1 3 0 49) : Int) : Int) : Int)) ∧ M' = M_7))) ∧ (¬ (0 ≤ x6 ∧ x6 ≤ 2) → r = some (vI (-2)) ∧ M' = M))))))))) : Cl l G (d + 2) mX12_asked [vR (some (3, 0)), vI x1, vI x2, vI x3, vI x4, vI x5, vI x6] M r M' := by
  show Ex l G (d + 2) mX12_asked 0 [some (vR (some (3, 0))), some (vI x1), some (vI x2), some (vI x3), some (vI x4), some (vI x5), some (vI x6), none] [] M r M'
  obtain ⟨o_1, h⟩ := h
  refine r_aload_n 1 dX12_asked_0 rfl rfl ?_
  refine r_iload_n 2 dX12_asked_1 rfl rfl ?_
  refine v_1 (ci := 12) (C := (RX12, TX12, 68)) [vI x1] [] 5 dX12_asked_2 rfl rfl rfl rfl rfl mo_X12_isCover ml_12_331 rfl rfl (KX12_isCover o_1) ?_
  refine r_if_eq 8 52 dX12_asked_5 rfl rfl (fun c => ?_) (fun c => ?_)
  · have h := h.1 (b2_0.mp c)
    refine r_bipush 54 dX12_asked_52 rfl rfl ?_
    exact r_iret dX12_asked_54 rfl (.inl rfl) h.1 h.2
  · have h := h.2 (b2_1.mp c)
    obtain ⟨o_2, h⟩ := h
    refine r_aload_n 9 dX12_asked_8 rfl rfl ?_
    refine r_iload_n 10 dX12_asked_9 rfl rfl ?_
    refine v_1 (ci := 12) (C := (RX12, TX12, 68)) [vI x2] [] 13 dX12_asked_10 rfl rfl rfl rfl rfl mo_X12_isPerson ml_12_175 rfl rfl (KX12_isPerson hS o_2) ?_
    refine r_if_eq 16 52 dX12_asked_13 rfl rfl (fun c => ?_) (fun c => ?_)
    · have h := h.1 (b2_0.mp c)
      refine r_bipush 54 dX12_asked_52 rfl rfl ?_
      exact r_iret dX12_asked_54 rfl (.inl rfl) h.1 h.2
    · have h := h.2 (b2_1.mp c)
      refine r_iload_n 17 dX12_asked_16 rfl rfl ?_
      refine c_1 [vI x3] [] 20 dX12_asked_17 rfl rfl mo_X12_isDay ml_12_170 rfl rfl (KX12_isDay) ?_
      refine r_if_eq 23 52 dX12_asked_20 rfl rfl (fun c => ?_) (fun c => ?_)
      · have h := h.1 (b2_0.mp c)
        refine r_bipush 54 dX12_asked_52 rfl rfl ?_
        exact r_iret dX12_asked_54 rfl (.inl rfl) h.1 h.2
      · have h := h.2 (b2_1.mp c)
        refine r_iload 25 dX12_asked_23 rfl rfl ?_
        refine c_1 [vI x4] [] 28 dX12_asked_25 rfl rfl mo_X12_isDay ml_12_170 rfl rfl (KX12_isDay) ?_
        refine r_if_eq 31 52 dX12_asked_28 rfl rfl (fun c => ?_) (fun c => ?_)
        · have h := h.1 (b2_0.mp c)
          refine r_bipush 54 dX12_asked_52 rfl rfl ?_
          exact r_iret dX12_asked_54 rfl (.inl rfl) h.1 h.2
        · have h := h.2 (b2_1.mp c)
          refine r_iload 33 dX12_asked_31 rfl rfl ?_
          refine c_1 [vI x5] [] 36 dX12_asked_33 rfl rfl mo_X12_isPlace ml_12_160 rfl rfl (KX12_isPlace) ?_
          refine r_if_eq 39 52 dX12_asked_36 rfl rfl (fun c => ?_) (fun c => ?_)
          · have h := h.1 (b2_0.mp c)
            refine r_bipush 54 dX12_asked_52 rfl rfl ?_
            exact r_iret dX12_asked_54 rfl (.inl rfl) h.1 h.2
          · have h := h.2 (b2_1.mp c)
            refine r_iload 41 dX12_asked_39 rfl rfl ?_
            refine r_i2l 42 dX12_asked_41 rfl ?_
            refine r_lconst (x := 0) 43 dX12_asked_42 rfl (by decide +kernel) (InR_of rfl) ?_
            refine r_ldc2 (n := 2) 46 dX12_asked_43 rfl (inT6 (List.mem_of_getElem? (i := 103) rfl) rfl) (by decide +kernel) (InR_of rfl) ?_
            refine c_1 [vL x6, vL 0, vL 2] [] 49 dX12_asked_46 rfl rfl mo_X12_in ml_12_154 rfl rfl (KX12_in) ?_
            refine r_if_ne 52 55 dX12_asked_49 rfl rfl (fun c => ?_) (fun c => ?_)
            · have h := h.1 (b2_1.mp c)
              refine r_aload_n 56 dX12_asked_55 rfl rfl ?_
              refine r_iconst 57 dX12_asked_56 rfl (InR_of rfl) ?_
              refine r_iload_n 58 dX12_asked_57 rfl rfl ?_
              obtain ⟨M_3, hc_4, h⟩ := h
              refine v_0 (ci := 12) (C := (RX12, TX12, 68)) [vI 0, vI x3] [] 61 dX12_asked_58 rfl rfl rfl rfl rfl mo_X12_lays ml_12_198 rfl rfl hc_4 ?_
              refine r_aload_n 62 dX12_asked_61 rfl rfl ?_
              refine r_iconst 63 dX12_asked_62 rfl (InR_of rfl) ?_
              refine r_iload 65 dX12_asked_63 rfl rfl ?_
              obtain ⟨M_5, hc_6, h⟩ := h
              refine v_0 (ci := 12) (C := (RX12, TX12, 68)) [vI 1, vI x4] [] 68 dX12_asked_65 rfl rfl rfl rfl rfl mo_X12_lays ml_12_198 rfl rfl hc_6 ?_
              refine r_aload_n 69 dX12_asked_68 rfl rfl ?_
              refine r_iload_n 70 dX12_asked_69 rfl rfl ?_
              refine r_iload_n 71 dX12_asked_70 rfl rfl ?_
              refine r_iload 73 dX12_asked_71 rfl rfl ?_
              obtain ⟨r_9, M_7, hc_8, h⟩ := h
              refine v_1 (ci := 12) (C := (RX12, TX12, 68)) [vI x1, vI x2, vI x5] [] 76 dX12_asked_73 rfl rfl rfl rfl rfl mo_X12_asks ml_12_352 rfl rfl hc_8 ?_
              refine r_istore (ls' := [some (vR (some (3, 0))), some (vI x1), some (vI x2), some (vI x3), some (vI x4), some (vI x5), some (vI x6), some (vI r_9)]) 78 dX12_asked_76 rfl rfl rfl rfl ?_
              refine r_iload 80 dX12_asked_78 rfl rfl ?_
              have hJ_10 : Ex l G (d + 2) mX12_asked 117 [some (vR (some (3, 0))), some (vI x1), some (vI x2), some (vI x3), some (vI x4), some (vI x5), some (vI x6), some (vI r_9)] [vI (if x6 = 0 then r_9 else (if x6 = 2 then (M_7.1 3 0 50) else (if r_9 = 0 then (M_7.1 3 0 48) else (M_7.1 3 0 49) : Int) : Int) : Int)] M_7 r M' := by
                exact r_iret dX12_asked_117 rfl (.inl rfl) h.1 h.2
              refine r_if_ne 83 88 dX12_asked_80 rfl rfl (fun c => ?_) (fun c => ?_)
              · have c_11 := c
                refine r_iload 90 dX12_asked_88 rfl rfl ?_
                refine r_iconst 91 dX12_asked_90 rfl (InR_of rfl) ?_
                refine r_icmp_ne 94 101 dX12_asked_91 rfl rfl (fun c => ?_) (fun c => ?_)
                · have c_12 := c
                  refine r_iload 103 dX12_asked_101 rfl rfl ?_
                  refine r_if_ne 106 113 dX12_asked_103 rfl rfl (fun c => ?_) (fun c => ?_)
                  · have c_13 := c
                    refine r_aload_n 114 dX12_asked_113 rfl rfl ?_
                    refine g_I 117 dX12_asked_114 rfl rfl rfl fi_12_340 rfl ?_
                    exact (Ex.at hJ_10 rfl (show [vI (M_7.1 3 0 49)] = [vI (if x6 = 0 then r_9 else (if x6 = 2 then (M_7.1 3 0 50) else (if r_9 = 0 then (M_7.1 3 0 48) else (M_7.1 3 0 49) : Int) : Int) : Int)] by simp only [if_neg c_11, if_neg c_12, if_neg c_13]) rfl)
                  · have c_13 := Decidable.not_not.mp c
                    refine r_aload_n 107 dX12_asked_106 rfl rfl ?_
                    refine g_I 110 dX12_asked_107 rfl rfl rfl fi_12_337 rfl ?_
                    refine r_goto 117 dX12_asked_110 rfl ?_
                    exact (Ex.at hJ_10 rfl (show [vI (M_7.1 3 0 48)] = [vI (if x6 = 0 then r_9 else (if x6 = 2 then (M_7.1 3 0 50) else (if r_9 = 0 then (M_7.1 3 0 48) else (M_7.1 3 0 49) : Int) : Int) : Int)] by simp only [if_neg c_11, if_neg c_12, if_pos c_13]) rfl)
                · have c_12 := Decidable.not_not.mp c
                  refine r_aload_n 95 dX12_asked_94 rfl rfl ?_
                  refine g_I 98 dX12_asked_95 rfl rfl rfl fi_12_343 rfl ?_
                  refine r_goto 117 dX12_asked_98 rfl ?_
                  exact (Ex.at hJ_10 rfl (show [vI (M_7.1 3 0 50)] = [vI (if x6 = 0 then r_9 else (if x6 = 2 then (M_7.1 3 0 50) else (if r_9 = 0 then (M_7.1 3 0 48) else (M_7.1 3 0 49) : Int) : Int) : Int)] by simp only [if_neg c_11, if_pos c_12]) rfl)
              · have c_11 := Decidable.not_not.mp c
                refine r_iload 85 dX12_asked_83 rfl rfl ?_
                refine r_goto 117 dX12_asked_85 rfl ?_
                exact (Ex.at hJ_10 rfl (show [vI r_9] = [vI (if x6 = 0 then r_9 else (if x6 = 2 then (M_7.1 3 0 50) else (if r_9 = 0 then (M_7.1 3 0 48) else (M_7.1 3 0 49) : Int) : Int) : Int)] by simp only [if_pos c_11]) rfl)
            · have h := h.2 (b2_0.mp (Decidable.not_not.mp c))
              refine r_bipush 54 dX12_asked_52 rfl rfl ?_
              exact r_iret dX12_asked_54 rfl (.inl rfl) h.1 h.2

def askedV (Q : QT) (c s sent day place what : Int) : Int := if (0 ≤ c ∧ c < nCv Q) ∧ (0 ≤ s ∧ s < nPp Q) ∧ (0 ≤ sent ∧ sent ≤ 999) ∧ (0 ≤ day ∧ day ≤ 999) ∧ (0 ≤ place ∧ place < 8) ∧ (0 ≤ what ∧ what ≤ 2) then
  (match askF Q (if Q 84 c.toNat = 0 then dn Q sent else dn Q day) (dn Q day) s.toNat c.toNat place.toNat (nPp Q) with
    | none => if what = 0 then 2 else -1
    | some (r, h, w) => if what = 0 then h else if what = 2 then (r : Int) else w) else -2
section AK2
variable {l : Launch} {G : Gt} {d : Nat} {Q : QT} {M : Mem}
theorem KX12_asks {n0 n1 n s cv place : Nat} (hS : Sh M.2.1) (hw : WFc Q) (hwr : WFr Q) (hk : WFk Q) (hp : WFp Q) (h0 : n0 ≤ nCh Q) (h1 : n1 ≤ nCh Q) (hen : n = if Q 84 cv = 0 then n0 else n1) (hH : HoldsM Q M.1) (hL0 : Laid Q M.1 0 n0) (hL1 : Laid Q M.1 1 n1) (hc : cv < 8) (hv : WFv Q cv) (hs : s < 12) (hpl : place < 8) : ∃ I' res, Cl l G (d + 3) mX12_asks [vR (some (3, 0)), vI (cv : Int), vI (s : Int), vI (place : Int)] M (some (vI res)) (I', M.2.1, M.2.2) ∧ fr3 M.1 I' ∧ AskP (askF Q n n1 s cv place (nPp Q)) res I' := by
  have hf : fr3 M.1 (upI (upI (upI M.1 3 0 48 (-1)) 3 0 49 (-1)) 3 0 50 (-1)) := ((fr3.up (by omega)).tr (fr3.up (by omega))).tr (fr3.up (by omega))
  have st := KX12_standing (l := l) (G := G) (d := d + 2) (M := (upI (upI (upI M.1 3 0 48 (-1)) 3 0 49 (-1)) 3 0 50 (-1), M.2.1, M.2.2)) (row := 1) (a := place) hS hw (hH.fr hf.m).1 (hL1.fr3 hf) (by omega)
  obtain ⟨I', res, hx, g⟩ := asks_26 (l := l) (G := G) (d := d) hS hw hwr hk hp h0 h1 hen hH hL0 hL1 hc hv hs hpl _ hf (by rw [upI_i (by omega), upI_i (by omega), upI_s]) (by rw [upI_i (by omega), upI_s]) (by rw [upI_s])
  exact ⟨I', res, xX12_asks_0 ⟨_, _, st, hx⟩, g⟩
theorem KX12_asked {c s sent day place what : Int} (hS : Sh M.2.1) (hw : WFc Q) (hwr : WFr Q) (hk : WFk Q) (hp : WFp Q) (hV : WFV Q) (hH : HoldsM Q M.1) : ∃ I', Cl l G (d + 4) mX12_asked [vR (some (3, 0)), vI c, vI s, vI sent, vI day, vI place, vI what] M (some (vI (askedV Q c s sent day place what))) (I', M.2.1, M.2.2) ∧ frM M.1 I' := by
  have h12 := nPp_le hw
  have e1 := mppl_eq hw hH
  have e2 : M.1 3 0 33 = (nCv Q : Int) := by rw [hH.2.2.2.1]; have := hV.1; unfold nCv; omega
  have hn8 : nCv Q ≤ 8 := by have := hV.1; unfold nCv; omega
  by_cases g : (0 ≤ c ∧ c < nCv Q) ∧ (0 ≤ s ∧ s < nPp Q) ∧ (0 ≤ sent ∧ sent ≤ 999) ∧ (0 ≤ day ∧ day ≤ 999) ∧ (0 ≤ place ∧ place < 8) ∧ (0 ≤ what ∧ what ≤ 2)
  · obtain ⟨g1, g2, g3, g4, g5, g6⟩ := g
    obtain ⟨I1, c1, s1, L1⟩ := KX12_lays (l := l) (G := G) (d := d + 1) (row := 0) (x2 := sent) hS hw hH.1 (by omega)
    have hH1 := hH.fr (frM.ll s1)
    obtain ⟨I2, c2, s2, L2⟩ := KX12_lays (l := l) (G := G) (d := d + 1) (M := (I1, M.2.1, M.2.2)) (row := 1) (x2 := day) hS hw hH1.1 (by omega)
    have hH2 := hH1.fr (frM.ll s2)
    have L1' := Laid.same (row' := 1) L1 (by omega) (by omega) (by omega) s2
    obtain ⟨I3, res, c3, f3, a3⟩ := KX12_asks (l := l) (G := G) (d := d) (M := (I2, M.2.1, M.2.2)) (cv := c.toNat) (s := s.toNat) (place := place.toNat) hS hw hwr hk hp (dn_le Q sent) (dn_le Q day) rfl hH2 L1' L2 (by omega) (hV.2 c.toNat (by omega)) (by omega) (by omega)
    rw [show ((c.toNat : Nat) : Int) = c by omega, show ((s.toNat : Nat) : Int) = s by omega, show ((place.toNat : Nat) : Int) = place by omega] at c3
    refine ⟨I3, xX12_asked_0 hS ?_, ((frM.ll s1).tr (frM.ll s2)).tr f3.m⟩
    rw [e1, e2]
    refine ⟨by unfold InR; omega, fun a => absurd g1 a, fun _ => ⟨by unfold InR; omega, fun a => absurd g2 a, fun _ => ⟨fun a => absurd g3 a, fun _ => ⟨fun a => absurd g4 a, fun _ => ⟨fun a => absurd g5 a, fun _ => ⟨fun _ => ⟨_, c1, _, c2, _, _, c3, ?_, rfl⟩, fun a => absurd g6 a⟩⟩⟩⟩⟩⟩
    unfold askedV
    rw [if_pos ⟨g1, g2, g3, g4, g5, g6⟩]
    revert a3
    cases askF Q (if Q 84 c.toNat = 0 then dn Q sent else dn Q day) (dn Q day) s.toNat c.toNat place.toNat (nPp Q) with
    | none =>
      intro a3
      obtain ⟨q1, q2, q3, _⟩ := a3
      dsimp only
      rw [q1, q2, q3]
      by_cases w0 : what = 0
      · rw [if_pos w0, if_pos w0]
      · rw [if_neg w0, if_neg w0]
        by_cases w2 : what = 2
        · rw [if_pos w2]
        · rw [if_neg w2, if_neg (by omega)]
    | some x =>
      obtain ⟨r, h, w⟩ := x
      intro a3
      obtain ⟨q1, q2, q3⟩ := a3
      dsimp only
      rw [q1, q2]
      by_cases w0 : what = 0
      · rw [if_pos w0, if_pos w0]
      · rw [if_neg w0, if_neg w0]
        by_cases w2 : what = 2
        · rw [if_pos w2, if_pos w2]
        · rw [if_neg w2, if_neg w2]
          rcases q3 with ⟨q3, q4⟩ | ⟨q3, q4, _⟩
          · rw [if_pos q3, q4]
          · rw [if_neg (by omega), q4]
  · refine ⟨M.1, xX12_asked_0 hS ?_, frM.rf⟩
    have ev : askedV Q c s sent day place what = -2 := by unfold askedV; rw [if_neg g]
    rw [e1, e2, ev]
    exact ⟨by unfold InR; omega, fun _ => ⟨rfl, rfl⟩, fun g1 => ⟨by unfold InR; omega, fun _ => ⟨rfl, rfl⟩, fun g2 => ⟨fun _ => ⟨rfl, rfl⟩, fun g3 => ⟨fun _ => ⟨rfl, rfl⟩, fun g4 => ⟨fun _ => ⟨rfl, rfl⟩, fun g5 => ⟨fun g6 => absurd ⟨g1, g2, g3, g4, g5, g6⟩ g, fun _ => ⟨rfl, rfl⟩⟩⟩⟩⟩⟩⟩
/-! the class -/
def frX (I I' : IM) : Prop := ∀ f k i, ¬ (f = 23 ∨ f = 24 ∨ f = 25 ∨ (f = 8 ∧ i = 3) ∨ (f = 9 ∧ 4 ≤ i ∧ i ≤ 9)) → I' f k i = I f k i
theorem frX.rf {I : IM} : frX I I := fun _ _ _ _ => rfl
theorem frX.tr {I I' I'' : IM} (h : frX I I') (h' : frX I' I'') : frX I I'' := fun f k i hn => (h' f k i hn).trans (h f k i hn)
theorem frF.x {I I' : IM} (h : frF I I') : frX I I' := fun f k i hn => h f k i (by omega) (by omega)
theorem frX.up {I : IM} {j : Nat} {v : Int} (h : 4 ≤ j ∧ j ≤ 9) : frX I (upI I 9 0 j v) := fun f' k i hn => by
  by_cases e : f' = 9 ∧ k = 0
  · obtain ⟨rfl, rfl⟩ := e
    rw [upI_i (by omega)]
  · rw [upI_o e]
theorem frX.b {M : Mem} {I' : IM} (h : frX M.1 I') : frB M (I', M.2.1, M.2.2) := frB.I fun f k i hn => h f k i (by unfold scC at hn; omega)
theorem frX.k {M : Mem} {I' : IM} (h : frX M.1 I') : frG scK M (I', M.2.1, M.2.2) := frG.I fun f k i hn => h f k i (by unfold scK scA at hn; omega)
def AskC (x : Option (Nat × Int × Int)) (I : IM) : Prop := match x with
  | none => I 9 0 4 = 2 ∧ I 9 0 5 = -1 ∧ I 9 0 6 = -1
  | some (r, h, w) => I 9 0 4 = h ∧ I 9 0 5 = w ∧ I 9 0 6 = (r : Int)
/-- who is asked: all there up to the one who tells -/
def akd (Q : QT) (n n1 s cv place : Nat) : Nat → Bool := fun p => decide (p < nPp Q ∧ plF Q n1 p = place ∧ askF Q n n1 s cv place p = none)
theorem askF_none {n n1 s cv place : Nat} {k m : Nat} (h : askF Q n n1 s cv place m = none) (hk : k ≤ m) : askF Q n n1 s cv place k = none := by
  cases e : askF Q n n1 s cv place k with
  | none => rfl
  | some x => rw [askF_keep e hk] at h; cases h
theorem asked_more {k : Nat} {p : Nat → Bool} (hk : k < 12) (hp : p k = true) (h : ∀ i, k < i → i < 12 → p i = false) : aOr (bI 12 (fun i => decide (i < k) && p i)) (aShl 1 (k : Int)) = bI 12 p := by
  rw [bI_one (n := 12) (s := k) (by omega) (by omega), bI_or (by omega)]
  refine bI_ext fun i hi => ?_
  by_cases c : i < k
  · simp [c, show ¬ i = k by omega]
  · by_cases c2 : i = k
    · subst c2; simp [hp]
    · simp [c, c2, h i (by omega) hi]
theorem ask_56 {n1 n s cv place : Nat} {x3 x4 : Int} (hw : WFc Q) (hk : WFk Q) (hp : WFp Q) (hV : WFV Q) (hW : WaysC Q M.1) (hn1 : (n1 : Int) ≤ M.1 6 0 2) (hn : (n : Int) ≤ M.1 6 0 2) (hcv : cv < nCv Q) (hs : s < 12) (hpl : place < 8) : ∀ I, RelA Q (I, M.2.1, M.2.2) → frX M.1 I → I 9 0 4 = 2 → I 9 0 5 = -1 → I 9 0 6 = -1 → I 9 0 7 = 0 → ∃ I', Ex l G (d + 2) mX0_ask 56 [some (vR (some (9, 0))), some (vR (some (13, cv))), some (vI (s : Int)), some (vI x3), some (vI x4), some (vI (place : Int)), some (vR (some (14, n1))), some (vR (some (14, n))), some (vI 0), none, none, none, none] [] (I, M.2.1, M.2.2) none (I', M.2.1, M.2.2) ∧ RelA Q (I', M.2.1, M.2.2) ∧ frX M.1 I' ∧ AskC (askF Q n n1 s cv place (nPp Q)) I' ∧ I' 9 0 7 = bI 12 (akd Q n n1 s cv place) := by
  have h12 := nPp_le hw
  refine fun I hR hf i4 i5 i6 i7 => loopUp (P := fun k : Nat => askF Q n n1 s cv place k = none → ∀ I, RelA Q (I, M.2.1, M.2.2) → frX M.1 I → I 9 0 4 = 2 → I 9 0 5 = -1 → I 9 0 6 = -1 → I 9 0 7 = bI 12 (fun p => decide (p < k) && akd Q n n1 s cv place p) → ∃ I', Ex l G (d + 2) mX0_ask 56 [some (vR (some (9, 0))), some (vR (some (13, cv))), some (vI (s : Int)), some (vI x3), some (vI x4), some (vI (place : Int)), some (vR (some (14, n1))), some (vR (some (14, n))), some (vI (k : Int)), none, none, none, none] [] (I, M.2.1, M.2.2) none (I', M.2.1, M.2.2) ∧ RelA Q (I', M.2.1, M.2.2) ∧ frX M.1 I' ∧ AskC (askF Q n n1 s cv place (nPp Q)) I' ∧ I' 9 0 7 = bI 12 (akd Q n n1 s cv place)) 0 (nPp Q) (Nat.zero_le _) ?_ ?_ rfl I hR hf i4 i5 i6 ?_
  · intro k _ hkn ih hno I hR hf i4 i5 i6 i7
    have hS := hR.1
    have e1 : I 4 0 0 = (nPp Q : Int) := cppl_eq (M := (I, M.2.1, M.2.2)) hw hR
    have hask : askF Q n n1 s cv place (k + 1) = if plF Q n1 k = place then (tellF Q n n1 s cv place k).map (fun y => (k, y)) else none := by
      rw [show askF Q n n1 s cv place (k + 1) = (match askF Q n n1 s cv place k with
        | some x => some x
        | none => if plF Q n1 k = place then (tellF Q n n1 s cv place k).map (fun y => (k, y)) else none) from rfl, hno]
    have hpst : ∀ I2, frX M.1 I2 → (n1 : Int) ≤ I2 6 0 2 ∧ (n : Int) ≤ I2 6 0 2 := fun I2 hf2 => by
      rw [hf2 _ _ _ (by omega)]; exact ⟨hn1, hn⟩
    have L := hR.2.2.1.2.2.2.2.2 n1 (hpst I hf).1
    have hnc1 : n1 ≤ nCh Q := by have := hR.2.2.1.1; have := (hpst I hf).1; dsimp only at *; omega
    have hi1 : InR ((k : Int) + 1) := by unfold InR; omega
    have hplk := L.2.2.1 k hkn
    dsimp only at hplk
    have hpk := plF_in hw n1 k hnc1 (by omega)
    have hat : I 32 n1 (place : Int).toNat = bI 12 (fun p => decide (p < nPp Q ∧ plF Q n1 p = place)) := by rw [Int.toNat_natCast]; exact L.2.2.2 place hpl
    have ht := tb_bI (n := 12) (by omega) (fun p => decide (p < nPp Q ∧ plF Q n1 p = place))
    have hnn : 0 ≤ bI 12 (fun p => decide (p < nPp Q ∧ plF Q n1 p = place)) := bI_nn
    have hle : ¬ ((nPp Q : Int) ≤ (k : Int)) := by omega
    by_cases c : plF Q n1 k = place
    · have htk : tb (bI 12 (fun p => decide (p < nPp Q ∧ plF Q n1 p = place))) (k : Int) = true := by rw [ht k]; simp [hkn, c]; omega
      have hak : akd Q n n1 s cv place k = true := by unfold akd; exact decide_eq_true ⟨hkn, c, hno⟩
      rw [if_pos c] at hask
      have hseen := seen_at (M := (I, M.2.1, M.2.2)) (r := k) hw hk hnc1 hR.2.2.2.2.2 L hkn
      dsimp only at hseen
      obtain ⟨I2, hfit, R2, f2⟩ := fit_at2 (l := l) (G := G) (d := d) (M := (upI I 9 0 7 (aOr (I 9 0 7) (aShl 1 (k : Int))), M.2.1, M.2.2)) (n := n) (cv := cv) (k := n) (s := s) (seen := snF Q n1 k) (hR.up (by unfold relF; omega)) hw hV hcv hs rfl (by dsimp only; rw [upI_f rfl]; exact (hpst I hf).2)
      rw [fitV_S] at hfit
      have f2x : frX M.1 I2 := (hf.tr (frX.up (by omega))).tr f2.x
      have j4 : I2 9 0 4 = 2 := by rw [f2 _ _ _ (by omega) (by omega)]; dsimp only; rw [upI_i (by omega)]; exact i4
      have j5 : I2 9 0 5 = -1 := by rw [f2 _ _ _ (by omega) (by omega)]; dsimp only; rw [upI_i (by omega)]; exact i5
      have j6 : I2 9 0 6 = -1 := by rw [f2 _ _ _ (by omega) (by omega)]; dsimp only; rw [upI_i (by omega)]; exact i6
      have j7 : I2 9 0 7 = bI 12 (fun p => decide (p < k + 1) && akd Q n n1 s cv place p) := by
        rw [f2 _ _ _ (by omega) (by omega)]; dsimp only; rw [upI_s, i7]
        have := asked_more (k := k) (p := fun p => decide (p < k + 1) && akd Q n n1 s cv place p) (by omega) (by simp [hak]) (fun i h _ => by simp; intro _; omega)
        rw [← this]
        congr 1
        refine bI_ext fun i hi => ?_
        by_cases c3 : i < k
        · simp [c3, show i < k + 1 by omega]
        · simp [c3]
      have L2 := R2.2.2.1.2.2.2.2.2 n1 (hpst I2 f2x).1
      have tS := tb_bI (n := 12) (by omega) (fitS Q n s (snF Q n1 k) cv)
      have hb0 : 0 ≤ bI 12 (fitS Q n s (snF Q n1 k) cv) := bI_nn
      have fin : ∀ h w : Int, tellF Q n n1 s cv place k = some (h, w) → Ex l G (d + 2) mX0_ask 56 [some (vR (some (9, 0))), some (vR (some (13, cv))), some (vI (s : Int)), some (vI x3), some (vI x4), some (vI (place : Int)), some (vR (some (14, n1))), some (vR (some (14, n))), some (vI ((k : Int) + 1)), none, none, none, none] [] (upI (upI (upI I2 9 0 4 h) 9 0 5 w) 9 0 6 (k : Int), M.2.1, M.2.2) none (upI (upI (upI I2 9 0 4 h) 9 0 5 w) 9 0 6 (k : Int), M.2.1, M.2.2) ∧ RelA Q (upI (upI (upI I2 9 0 4 h) 9 0 5 w) 9 0 6 (k : Int), M.2.1, M.2.2) ∧ frX M.1 (upI (upI (upI I2 9 0 4 h) 9 0 5 w) 9 0 6 (k : Int)) ∧ AskC (askF Q n n1 s cv place (nPp Q)) (upI (upI (upI I2 9 0 4 h) 9 0 5 w) 9 0 6 (k : Int)) ∧ (upI (upI (upI I2 9 0 4 h) 9 0 5 w) 9 0 6 (k : Int)) 9 0 7 = bI 12 (akd Q n n1 s cv place) := by
        intro h w et
        have ek : askF Q n n1 s cv place (k + 1) = some (k, h, w) := by rw [hask, et]; rfl
        refine ⟨xX0_ask_56 hS ⟨fun _ => ⟨rfl, rfl⟩, fun _ => ⟨fun _ => ⟨rfl, rfl⟩, fun c2 => ?_⟩⟩, ((R2.up (by unfold relF; omega)).up (M := (_, M.2.1, M.2.2)) (by unfold relF; omega)).up (M := (_, M.2.1, M.2.2)) (by unfold relF; omega), ((f2x.tr (frX.up (by omega))).tr (frX.up (by omega))).tr (frX.up (by omega)), ?_, ?_⟩
        · dsimp only at c2; rw [upI_s] at c2; omega
        · rw [askF_keep (m := nPp Q) ek (by omega)]
          exact ⟨by rw [upI_i (by omega), upI_i (by omega), upI_s], by rw [upI_i (by omega), upI_s], by rw [upI_s]⟩
        · rw [upI_i (by omega), upI_i (by omega), upI_i (by omega), j7]
          refine bI_ext fun i hi => ?_
          by_cases c3 : i < k + 1
          · simp [c3]
          · have : askF Q n n1 s cv place i = some (k, h, w) := askF_keep ek (by omega)
            unfold akd
            simp [c3, this]
      have hnx : ∀ j : Nat, j < nPp Q → I2 46 0 ((place : Int) * 8 + plF Q n1 j).toNat = nx Q place (plF Q n1 j).toNat := fun j hj => by
        have hpj := plF_in hw n1 j hnc1 (by omega)
        rw [f2x _ _ _ (by omega), show ((place : Int) * 8 + plF Q n1 j).toNat = 8 * place + (plF Q n1 j).toNat by omega]
        exact hW.2 place (plF Q n1 j).toNat hpl (by omega)
      rcases least_or (fitS Q n s (snF Q n1 k) cv) 12 with hnf | ⟨j, g1, g2, g3⟩
      · have em : mnt Q n n1 s cv k = -1 := by unfold mnt; rw [hnf k (by omega), if_neg (by simp), firstF_none hnf]
        have et : tellF Q n n1 s cv place k = none := by unfold tellF; rw [if_pos em]
        obtain ⟨I', hx, g⟩ := ih (by rw [hask, et]; rfl) I2 R2 f2x j4 j5 j6 j7
        have kl := KX11_leastOf (l := l) (G := G) (d := d) (M := (I2, M.2.1, M.2.2)) (n := 12) (f := fitS Q n s (snF Q n1 k) cv) (by omega)
        refine ⟨I', xX0_ask_56 hS ?_, g⟩
        dsimp only
        rw [e1, hat, Int.toNat_natCast, hplk, hseen]
        exact ⟨fun c2 => absurd c2 hle, fun _ => ⟨fun c2 => absurd i6 c2, fun _ => ⟨⟨by omega, by omega, by omega⟩, fun _ => ⟨⟨by omega, by omega, by omega⟩, _, _, hfit, hS, ⟨by omega, fun _ => ⟨_, _, kl, hS, fun c2 => absurd (firstF_none hnf) c2, fun _ => ⟨hi1, hx⟩⟩, fun c2 => absurd c2 (by rw [tS k, hnf k (by omega)]; simp)⟩⟩, fun c2 => absurd htk c2⟩⟩⟩
      · cases eS : fitS Q n s (snF Q n1 k) cv k with
        | true =>
          have em : mnt Q n n1 s cv k = k := by unfold mnt; rw [if_pos eS]
          have et : tellF Q n n1 s cv place k = some (0, (k : Int)) := by unfold tellF; rw [em, if_neg (by omega), Int.toNat_natCast, if_pos c]
          have tk : tb (bI 12 (fitS Q n s (snF Q n1 k) cv)) (k : Int) = true := by rw [tS k, eS]; simp; omega
          obtain ⟨x1, x2⟩ := fin 0 (k : Int) et
          have hpl2 := L2.2.2.1 k hkn
          dsimp only at hpl2
          refine ⟨_, xX0_ask_56 hS ?_, x2⟩
          dsimp only
          rw [e1, hat, Int.toNat_natCast, hplk, hseen]
          refine ⟨fun c2 => absurd c2 hle, fun _ => ⟨fun c2 => absurd i6 c2, fun _ => ⟨⟨by omega, by omega, by omega⟩, fun _ => ⟨⟨by omega, by omega, by omega⟩, _, _, hfit, hS, ⟨by omega, fun c2 => absurd tk c2, fun _ => ⟨fun _ => ?_, fun c2 => by omega⟩⟩⟩, fun c2 => absurd htk c2⟩⟩⟩
          dsimp only
          simp only [hpl2, if_pos c]
          exact ⟨⟨by omega, by unfold InR; omega, by unfold InR; omega, by omega⟩, fun _ => ⟨hi1, x1⟩, fun c2 => absurd c c2⟩
        | false =>
          have hjp : j < nPp Q := fitS_in hp hkn h12 g1 g2
          have em : mnt Q n n1 s cv k = j := by unfold mnt; rw [eS, if_neg (by simp), firstF_at g3 g2 g1]
          have tk : ¬ tb (bI 12 (fitS Q n s (snF Q n1 k) cv)) (k : Int) = true := by rw [tS k, eS]; simp
          have kl := KX11_leastOf (l := l) (G := G) (d := d) (M := (I2, M.2.1, M.2.2)) (n := 12) (f := fitS Q n s (snF Q n1 k) cv) (by omega)
          rw [firstF_at g3 g2 g1] at kl
          have hpl2 := L2.2.2.1 j hjp
          dsimp only at hpl2
          have hpj := plF_in hw n1 j hnc1 (by omega)
          have hnj := hnx j hjp
          by_cases cj : plF Q n1 j = place
          · have et : tellF Q n n1 s cv place k = some (0, (j : Int)) := by unfold tellF; rw [em, if_neg (by omega), Int.toNat_natCast, if_pos cj]
            obtain ⟨x1, x2⟩ := fin 0 (j : Int) et
            refine ⟨_, xX0_ask_56 hS ?_, x2⟩
            dsimp only
            rw [e1, hat, Int.toNat_natCast, hplk, hseen]
            refine ⟨fun c2 => absurd c2 hle, fun _ => ⟨fun c2 => absurd i6 c2, fun _ => ⟨⟨by omega, by omega, by omega⟩, fun _ => ⟨⟨by omega, by omega, by omega⟩, _, _, hfit, hS, ⟨by omega, fun _ => ⟨_, _, kl, hS, fun _ => ?_, fun c2 => by omega⟩, fun c2 => absurd c2 tk⟩⟩, fun c2 => absurd htk c2⟩⟩⟩
            dsimp only
            simp only [Int.toNat_natCast, hpl2, if_pos cj]
            exact ⟨⟨by omega, by unfold InR; omega, by unfold InR; omega, by omega⟩, fun _ => ⟨hi1, x1⟩, fun c2 => absurd cj c2⟩
          · by_cases cn : nx Q place (plF Q n1 j).toNat = -1
            · have et : tellF Q n n1 s cv place k = none := by unfold tellF; rw [em, if_neg (by omega), Int.toNat_natCast, if_neg cj, if_pos cn]
              obtain ⟨I', hx, g⟩ := ih (by rw [hask, et]; rfl) I2 R2 f2x j4 j5 j6 j7
              refine ⟨I', xX0_ask_56 hS ?_, g⟩
              dsimp only
              rw [e1, hat, Int.toNat_natCast, hplk, hseen]
              refine ⟨fun c2 => absurd c2 hle, fun _ => ⟨fun c2 => absurd i6 c2, fun _ => ⟨⟨by omega, by omega, by omega⟩, fun _ => ⟨⟨by omega, by omega, by omega⟩, _, _, hfit, hS, ⟨by omega, fun _ => ⟨_, _, kl, hS, fun _ => ?_, fun c2 => by omega⟩, fun c2 => absurd c2 tk⟩⟩, fun c2 => absurd htk c2⟩⟩⟩
              dsimp only
              simp only [Int.toNat_natCast, hpl2, hnj]
              exact ⟨⟨by omega, by unfold InR; omega, by unfold InR; omega, by omega⟩, fun c2 => absurd c2 cj, fun _ => ⟨fun _ => ⟨hi1, hx⟩, fun c2 => absurd cn c2⟩⟩
            · have et : tellF Q n n1 s cv place k = some (1, nx Q place (plF Q n1 j).toNat) := by unfold tellF; rw [em, if_neg (by omega), Int.toNat_natCast, if_neg cj, if_neg cn]
              obtain ⟨x1, x2⟩ := fin 1 (nx Q place (plF Q n1 j).toNat) et
              refine ⟨_, xX0_ask_56 hS ?_, x2⟩
              dsimp only
              rw [e1, hat, Int.toNat_natCast, hplk, hseen]
              refine ⟨fun c2 => absurd c2 hle, fun _ => ⟨fun c2 => absurd i6 c2, fun _ => ⟨⟨by omega, by omega, by omega⟩, fun _ => ⟨⟨by omega, by omega, by omega⟩, _, _, hfit, hS, ⟨by omega, fun _ => ⟨_, _, kl, hS, fun _ => ?_, fun c2 => by omega⟩, fun c2 => absurd c2 tk⟩⟩, fun c2 => absurd htk c2⟩⟩⟩
              dsimp only
              simp only [Int.toNat_natCast, hpl2, hnj, if_neg cj]
              exact ⟨⟨by omega, by unfold InR; omega, by unfold InR; omega, by omega⟩, fun c2 => absurd c2 cj, fun _ => ⟨fun c2 => absurd c2 cn, fun _ => ⟨hi1, x1⟩⟩⟩
    · obtain ⟨I', hx, g⟩ := ih (by rw [hask, if_neg c]) I hR hf i4 i5 i6 (by
        rw [i7]
        refine bI_ext fun i hi => ?_
        by_cases c3 : i < k
        · simp [c3, show i < k + 1 by omega]
        · by_cases c4 : i = k
          · subst c4
            unfold akd
            simp [c]
          · simp [c3, show ¬ i < k + 1 by omega])
      refine ⟨I', xX0_ask_56 hS ?_, g⟩
      dsimp only
      rw [e1, hat]
      exact ⟨fun c2 => absurd c2 hle, fun _ => ⟨fun c2 => absurd i6 c2, fun _ => ⟨⟨by omega, by omega, by omega⟩, fun c2 => absurd c2 (by rw [ht k]; simp [c]), fun _ => ⟨hi1, hx⟩⟩⟩⟩
  · intro hno I hR hf i4 i5 i6 i7
    have e1 : I 4 0 0 = (nPp Q : Int) := cppl_eq (M := (I, M.2.1, M.2.2)) hw hR
    refine ⟨I, xX0_ask_56 hR.1 ⟨fun _ => ⟨rfl, rfl⟩, fun c => absurd ?_ c⟩, hR, hf, by rw [hno]; exact ⟨i4, i5, i6⟩, ?_⟩
    · dsimp only; rw [e1]; exact Int.le_refl _
    · rw [i7]
      refine bI_ext fun i hi => ?_
      by_cases c : i < nPp Q
      · simp [c]
      · unfold akd; simp [c]
  · rw [i7]
    exact ((bI_zero_iff (by omega) _).mpr fun i _ => by simp).symm
end AK2
