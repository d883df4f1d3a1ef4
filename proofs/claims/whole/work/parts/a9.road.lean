/-! road -/
set_option maxRecDepth 4000 in
theorem xX12_road_0 {l : Launch} {G : Gt} {d : Nat} {M M' : Mem} {r : Option Vl} {x1 : Int} {x2 : Int} {x3 : Int} (hS : Sh M.2.1) (h : 
    ((M.1 48 0 1) = 16 → r = some (vI (-1)) ∧ M' = M) ∧ (¬ ((M.1 48 0 1) = 16) → (¬ (0 ≤ x1 ∧ x1 < 8) → r = some (vI (-1)) ∧ M' = M) ∧ (0 ≤ x1 ∧ x1 < 8 → (¬ (0 ≤ x2 ∧ x2 < 8) → r = some (vI (-1)) ∧ M' = M) ∧ (0 ≤ x2 ∧ x2 < 8 → (x1 = x2 → r = some (vI (-1)) ∧ M' = M) ∧ (¬ (x1 = x2) → (¬ (1 ≤ x3 ∧ x3 ≤ 9) → r = some (vI (-1)) ∧ M' = M) ∧ (1 ≤ x3 ∧ x3 ≤ 9 → ∃ (r_3 : Int) (M_1 : Mem), Cl l G (d + 1) mX12_roadOf [vR (some (3, 0)), vI x1, vI x2] M (some (vI r_3)) M_1 ∧ Sh M_1.2.1 ∧ ((r_3 = (-1) → ((0 ≤ (M.1 48 0 1) ∧ (M.1 48 0 1) < 16) ∧ InR ((M_1.1 48 0 1) + 1)) ∧ r = some (vI (M.1 48 0 1)) ∧ M' = ((upI (upI (upI (upI M_1.1 53 0 (M.1 48 0 1).toNat x1) 54 0 (M.1 48 0 1).toNat x2) 55 0 (M.1 48 0 1).toNat x3) 48 0 1 ((M_1.1 48 0 1) + 1)), M_1.2.1, M_1.2.2)) ∧ (¬ (r_3 = (-1)) → r = some (vI (-1)) ∧ M' = M_1)))))))) : Cl l G (d + 2) mX12_road [vR (some (3, 0)), vI x1, vI x2, vI x3] M r M' := by
  show Ex l G (d + 2) mX12_road 0 [some (vR (some (3, 0))), some (vI x1), some (vI x2), some (vI x3), none] [] M r M'
  refine r_aload_n 1 dX12_road_0 rfl rfl ?_
  refine g_R 4 dX12_road_1 rfl rfl rfl fr_12_7 (sh_12_1 hS) ?_
  refine r_iconst 5 dX12_road_4 rfl (InR_of rfl) ?_
  refine a_I 6 6 dX12_road_5 rfl rfl rfl rfl ⟨by decide, by decide⟩ rfl ?_
  refine r_istore (ls' := [some (vR (some (3, 0))), some (vI x1), some (vI x2), some (vI x3), some (vI (M.1 48 0 1))]) 8 dX12_road_6 rfl rfl rfl rfl ?_
  refine r_iload 10 dX12_road_8 rfl rfl ?_
  refine r_bipush 12 dX12_road_10 rfl rfl ?_
  refine r_icmp_eq 15 56 dX12_road_12 rfl rfl (fun c => ?_) (fun c => ?_)
  · have h := h.1 (c)
    refine r_iconst 57 dX12_road_56 rfl (InR_of rfl) ?_
    exact r_iret dX12_road_57 rfl (.inl rfl) h.1 h.2
  · have h := h.2 (c)
    refine r_iload_n 16 dX12_road_15 rfl rfl ?_
    refine c_1 [vI x1] [] 19 dX12_road_16 rfl rfl mo_X12_isPlace ml_12_160 rfl rfl (KX12_isPlace) ?_
    refine r_if_eq 22 56 dX12_road_19 rfl rfl (fun c => ?_) (fun c => ?_)
    · have h := h.1 (b2_0.mp c)
      refine r_iconst 57 dX12_road_56 rfl (InR_of rfl) ?_
      exact r_iret dX12_road_57 rfl (.inl rfl) h.1 h.2
    · have h := h.2 (b2_1.mp c)
      refine r_iload_n 23 dX12_road_22 rfl rfl ?_
      refine c_1 [vI x2] [] 26 dX12_road_23 rfl rfl mo_X12_isPlace ml_12_160 rfl rfl (KX12_isPlace) ?_
      refine r_if_eq 29 56 dX12_road_26 rfl rfl (fun c => ?_) (fun c => ?_)
      · have h := h.1 (b2_0.mp c)
        refine r_iconst 57 dX12_road_56 rfl (InR_of rfl) ?_
        exact r_iret dX12_road_57 rfl (.inl rfl) h.1 h.2
      · have h := h.2 (b2_1.mp c)
        refine r_iload_n 30 dX12_road_29 rfl rfl ?_
        refine r_iload_n 31 dX12_road_30 rfl rfl ?_
        refine r_icmp_eq 34 56 dX12_road_31 rfl rfl (fun c => ?_) (fun c => ?_)
        · have h := h.1 (c)
          refine r_iconst 57 dX12_road_56 rfl (InR_of rfl) ?_
          exact r_iret dX12_road_57 rfl (.inl rfl) h.1 h.2
        · have h := h.2 (c)
          refine r_iload_n 35 dX12_road_34 rfl rfl ?_
          refine r_i2l 36 dX12_road_35 rfl ?_
          refine r_lconst (x := 1) 37 dX12_road_36 rfl (by decide +kernel) (InR_of rfl) ?_
          refine r_ldc2 (n := 9) 40 dX12_road_37 rfl (inT6 (List.mem_of_getElem? (i := 86) rfl) rfl) (by decide +kernel) (InR_of rfl) ?_
          refine c_1 [vL x3, vL 1, vL 9] [] 43 dX12_road_40 rfl rfl mo_X12_in ml_12_154 rfl rfl (KX12_in) ?_
          refine r_if_eq 46 56 dX12_road_43 rfl rfl (fun c => ?_) (fun c => ?_)
          · have h := h.1 (b2_0.mp c)
            refine r_iconst 57 dX12_road_56 rfl (InR_of rfl) ?_
            exact r_iret dX12_road_57 rfl (.inl rfl) h.1 h.2
          · have h := h.2 (b2_1.mp c)
            refine r_aload_n 47 dX12_road_46 rfl rfl ?_
            refine r_iload_n 48 dX12_road_47 rfl rfl ?_
            refine r_iload_n 49 dX12_road_48 rfl rfl ?_
            obtain ⟨r_3, M_1, hc_2, hS, h⟩ := h
            refine v_1 (ci := 12) (C := (RX12, TX12, 68)) [vI x1, vI x2] [] 52 dX12_road_49 rfl rfl rfl rfl rfl mo_X12_roadOf ml_12_166 rfl rfl hc_2 ?_
            refine r_iconst 53 dX12_road_52 rfl (InR_of rfl) ?_
            refine r_icmp_eq 56 58 dX12_road_53 rfl rfl (fun c => ?_) (fun c => ?_)
            · have h := h.1 (c)
              obtain ⟨⟨o_4, o_5⟩, h⟩ := h
              refine r_aload_n 59 dX12_road_58 rfl rfl ?_
              refine g_R 62 dX12_road_59 rfl rfl rfl fr_12_25 (sh_12_6 hS) ?_
              refine r_iload 64 dX12_road_62 rfl rfl ?_
              refine r_iload_n 65 dX12_road_64 rfl rfl ?_
              refine s_I 16 66 dX12_road_65 rfl rfl (by decide) rfl rfl o_4 ?_
              refine r_aload_n 67 dX12_road_66 rfl rfl ?_
              refine g_R 70 dX12_road_67 rfl rfl rfl fr_12_28 (mR_0 (sh_12_7 hS)) ?_
              refine r_iload 72 dX12_road_70 rfl rfl ?_
              refine r_iload_n 73 dX12_road_72 rfl rfl ?_
              refine s_I 16 74 dX12_road_73 rfl rfl (by decide) rfl rfl o_4 ?_
              refine r_aload_n 75 dX12_road_74 rfl rfl ?_
              refine g_R 78 dX12_road_75 rfl rfl rfl fr_12_31 (mR_0 (sh_12_8 hS)) ?_
              refine r_iload 80 dX12_road_78 rfl rfl ?_
              refine r_iload_n 81 dX12_road_80 rfl rfl ?_
              refine s_I 16 82 dX12_road_81 rfl rfl (by decide) rfl rfl o_4 ?_
              refine r_aload_n 83 dX12_road_82 rfl rfl ?_
              refine g_R 86 dX12_road_83 rfl rfl rfl fr_12_7 (mR_0 (sh_12_1 hS)) ?_
              refine r_iconst 87 dX12_road_86 rfl (InR_of rfl) ?_
              refine r_dup2 88 dX12_road_87 rfl rfl ?_
              refine a_I 6 89 dX12_road_88 rfl rfl rfl rfl ⟨by decide, by decide⟩ (mI_0 ((upI_f rfl).trans ((upI_f rfl).trans (upI_f rfl)))) ?_
              refine r_iconst 90 dX12_road_89 rfl (InR_of rfl) ?_
              refine r_iadd 91 dX12_road_90 rfl o_5 ?_
              refine s_I 6 92 dX12_road_91 rfl rfl (by decide) rfl rfl ⟨by decide, by decide⟩ ?_
              refine r_iload 94 dX12_road_92 rfl rfl ?_
              exact r_iret dX12_road_94 rfl (.inl rfl) h.1 h.2
            · have h := h.2 (c)
              refine r_iconst 57 dX12_road_56 rfl (InR_of rfl) ?_
              exact r_iret dX12_road_57 rfl (.inl rfl) h.1 h.2

set_option maxRecDepth 4000 in
theorem xX11_road_0 {l : Launch} {G : Gt} {d : Nat} {M M' : Mem} {r : Option Vl} {x1 : Int} {x2 : Int} {x3 : Int} (hS : Sh M.2.1) (h : 
    (¬ (0 ≤ x1 ∧ x1 < 8) → r = some (vI (-1)) ∧ M' = M) ∧ (0 ≤ x1 ∧ x1 < 8 → (¬ (0 ≤ x2 ∧ x2 < 8) → r = some (vI (-1)) ∧ M' = M) ∧ (0 ≤ x2 ∧ x2 < 8 → (x1 = x2 → r = some (vI (-1)) ∧ M' = M) ∧ (¬ (x1 = x2) → (x3 < 1 → r = some (vI (-1)) ∧ M' = M) ∧ (¬ (x3 < 1) → (x3 ≤ 9 → (16 ≤ (M.1 4 0 2) → r = some (vI (-1)) ∧ M' = M) ∧ (¬ (16 ≤ (M.1 4 0 2)) → (InR (x1 * 8) ∧ InR ((x1 * 8) + x2) ∧ (0 ≤ ((x1 * 8) + x2) ∧ ((x1 * 8) + x2) < 64)) ∧ (((M.1 34 0 ((x1 * 8) + x2).toNat) = 0 → (InR (x1 * 8) ∧ InR ((x1 * 8) + x2) ∧ (0 ≤ ((x1 * 8) + x2) ∧ ((x1 * 8) + x2) < 64) ∧ InR (x2 * 8) ∧ InR ((x2 * 8) + x1) ∧ (0 ≤ ((x2 * 8) + x1) ∧ ((x2 * 8) + x1) < 64)) ∧ (∃ (M_10 : Mem), Cl l G d mX10_measure [vR (some (7, 0)), vR (some (34, 0))] ((upI (upI M.1 34 0 ((x1 * 8) + x2).toNat x3) 34 0 ((x2 * 8) + x1).toNat x3), M.2.1, M.2.2) none M_10 ∧ Sh M_10.2.1 ∧ (InR ((M_10.1 4 0 2) + 1)) ∧ r = some (vI (M_10.1 4 0 2)) ∧ M' = ((upI M_10.1 4 0 2 ((M_10.1 4 0 2) + 1)), M_10.2.1, M_10.2.2))) ∧ (¬ ((M.1 34 0 ((x1 * 8) + x2).toNat) = 0) → r = some (vI (-1)) ∧ M' = M)))) ∧ (¬ (x3 ≤ 9) → r = some (vI (-1)) ∧ M' = M)))))) : Cl l G (d + 1) mX11_road [vR (some (2, 0)), vI x1, vI x2, vI x3] M r M' := by
  show Ex l G (d + 1) mX11_road 0 [some (vR (some (2, 0))), some (vI x1), some (vI x2), some (vI x3)] [] M r M'
  refine r_iload_n 1 dX11_road_0 rfl rfl ?_
  refine c_1 [vI x1] [] 4 dX11_road_1 rfl rfl mo_X11_isPlace ml_11_96 rfl rfl (KX11_isPlace) ?_
  refine r_if_eq 7 30 dX11_road_4 rfl rfl (fun c => ?_) (fun c => ?_)
  · have h := h.1 (b2_0.mp c)
    refine r_iconst 31 dX11_road_30 rfl (InR_of rfl) ?_
    exact r_iret dX11_road_31 rfl (.inl rfl) h.1 h.2
  · have h := h.2 (b2_1.mp c)
    refine r_iload_n 8 dX11_road_7 rfl rfl ?_
    refine c_1 [vI x2] [] 11 dX11_road_8 rfl rfl mo_X11_isPlace ml_11_96 rfl rfl (KX11_isPlace) ?_
    refine r_if_eq 14 30 dX11_road_11 rfl rfl (fun c => ?_) (fun c => ?_)
    · have h := h.1 (b2_0.mp c)
      refine r_iconst 31 dX11_road_30 rfl (InR_of rfl) ?_
      exact r_iret dX11_road_31 rfl (.inl rfl) h.1 h.2
    · have h := h.2 (b2_1.mp c)
      refine r_iload_n 15 dX11_road_14 rfl rfl ?_
      refine r_iload_n 16 dX11_road_15 rfl rfl ?_
      refine r_icmp_eq 19 30 dX11_road_16 rfl rfl (fun c => ?_) (fun c => ?_)
      · have h := h.1 (c)
        refine r_iconst 31 dX11_road_30 rfl (InR_of rfl) ?_
        exact r_iret dX11_road_31 rfl (.inl rfl) h.1 h.2
      · have h := h.2 (c)
        refine r_iload_n 20 dX11_road_19 rfl rfl ?_
        refine r_iconst 21 dX11_road_20 rfl (InR_of rfl) ?_
        refine r_icmp_lt 24 30 dX11_road_21 rfl rfl (fun c => ?_) (fun c => ?_)
        · have h := h.1 (c)
          refine r_iconst 31 dX11_road_30 rfl (InR_of rfl) ?_
          exact r_iret dX11_road_31 rfl (.inl rfl) h.1 h.2
        · have h := h.2 (c)
          refine r_iload_n 25 dX11_road_24 rfl rfl ?_
          refine r_bipush 27 dX11_road_25 rfl rfl ?_
          refine r_icmp_le 30 32 dX11_road_27 rfl rfl (fun c => ?_) (fun c => ?_)
          · have h := h.1 (c)
            refine r_aload_n 33 dX11_road_32 rfl rfl ?_
            refine g_R 36 dX11_road_33 rfl rfl rfl fr_11_12 (sh_11_0 hS) ?_
            refine g_I 39 dX11_road_36 rfl rfl rfl fi_11_100 rfl ?_
            refine r_bipush 41 dX11_road_39 rfl rfl ?_
            refine r_icmp_ge 44 61 dX11_road_41 rfl rfl (fun c => ?_) (fun c => ?_)
            · have h := h.1 (c)
              refine r_iconst 62 dX11_road_61 rfl (InR_of rfl) ?_
              exact r_iret dX11_road_62 rfl (.inl rfl) h.1 h.2
            · have h := h.2 (c)
              obtain ⟨⟨o_1, o_2, o_3⟩, h⟩ := h
              refine r_aload_n 45 dX11_road_44 rfl rfl ?_
              refine g_R 48 dX11_road_45 rfl rfl rfl fr_11_12 (sh_11_0 hS) ?_
              refine g_R 51 dX11_road_48 rfl rfl rfl fr_11_104 (sh_8_3 hS _) ?_
              refine r_iload_n 52 dX11_road_51 rfl rfl ?_
              refine r_bipush 54 dX11_road_52 rfl rfl ?_
              refine r_imul 55 dX11_road_54 rfl o_1 ?_
              refine r_iload_n 56 dX11_road_55 rfl rfl ?_
              refine r_iadd 57 dX11_road_56 rfl o_2 ?_
              refine a_I 64 58 dX11_road_57 rfl rfl rfl rfl o_3 rfl ?_
              refine r_if_eq 61 63 dX11_road_58 rfl rfl (fun c => ?_) (fun c => ?_)
              · have h := h.1 (c)
                obtain ⟨⟨o_4, o_5, o_6, o_7, o_8, o_9⟩, h⟩ := h
                refine r_aload_n 64 dX11_road_63 rfl rfl ?_
                refine g_R 67 dX11_road_64 rfl rfl rfl fr_11_12 (sh_11_0 hS) ?_
                refine g_R 70 dX11_road_67 rfl rfl rfl fr_11_104 (sh_8_3 hS _) ?_
                refine r_iload_n 71 dX11_road_70 rfl rfl ?_
                refine r_bipush 73 dX11_road_71 rfl rfl ?_
                refine r_imul 74 dX11_road_73 rfl o_4 ?_
                refine r_iload_n 75 dX11_road_74 rfl rfl ?_
                refine r_iadd 76 dX11_road_75 rfl o_5 ?_
                refine r_iload_n 77 dX11_road_76 rfl rfl ?_
                refine s_I 64 78 dX11_road_77 rfl rfl (by decide) rfl rfl o_6 ?_
                refine r_aload_n 79 dX11_road_78 rfl rfl ?_
                refine g_R 82 dX11_road_79 rfl rfl rfl fr_11_12 (mR_0 (sh_11_0 hS)) ?_
                refine g_R 85 dX11_road_82 rfl rfl rfl fr_11_104 (mR_0 (sh_8_3 hS _)) ?_
                refine r_iload_n 86 dX11_road_85 rfl rfl ?_
                refine r_bipush 88 dX11_road_86 rfl rfl ?_
                refine r_imul 89 dX11_road_88 rfl o_7 ?_
                refine r_iload_n 90 dX11_road_89 rfl rfl ?_
                refine r_iadd 91 dX11_road_90 rfl o_8 ?_
                refine r_iload_n 92 dX11_road_91 rfl rfl ?_
                refine s_I 64 93 dX11_road_92 rfl rfl (by decide) rfl rfl o_9 ?_
                refine r_aload_n 94 dX11_road_93 rfl rfl ?_
                refine g_R 97 dX11_road_94 rfl rfl rfl fr_11_28 (mR_0 (sh_11_2 hS)) ?_
                refine r_aload_n 98 dX11_road_97 rfl rfl ?_
                refine g_R 101 dX11_road_98 rfl rfl rfl fr_11_12 (mR_0 (sh_11_0 hS)) ?_
                refine g_R 104 dX11_road_101 rfl rfl rfl fr_11_104 (mR_0 (sh_8_3 hS _)) ?_
                obtain ⟨M_10, hc_11, hS, h⟩ := h
                refine v_0 (ci := 10) (C := (RX10, TX10, 2)) [vR (some (34, 0))] [] 107 dX11_road_104 rfl rfl rfl rfl rfl mo_X10_measure ml_11_107 rfl rfl hc_11 ?_
                obtain ⟨o_12, h⟩ := h
                refine r_aload_n 108 dX11_road_107 rfl rfl ?_
                refine g_R 111 dX11_road_108 rfl rfl rfl fr_11_12 (sh_11_0 hS) ?_
                refine r_dup 112 dX11_road_111 rfl rfl ?_
                refine g_I 115 dX11_road_112 rfl rfl rfl fi_11_100 rfl ?_
                refine r_dup_x1 116 dX11_road_115 rfl rfl ?_
                refine r_iconst 117 dX11_road_116 rfl (InR_of rfl) ?_
                refine r_iadd 118 dX11_road_117 rfl o_12 ?_
                refine p_I 121 dX11_road_118 rfl rfl rfl rfl pf_11_100 (.inl rfl) rfl ?_
                exact r_iret dX11_road_121 rfl (.inl rfl) h.1 h.2
              · have h := h.2 (c)
                refine r_iconst 62 dX11_road_61 rfl (InR_of rfl) ?_
                exact r_iret dX11_road_62 rfl (.inl rfl) h.1 h.2
          · have h := h.2 (c)
            refine r_iconst 31 dX11_road_30 rfl (InR_of rfl) ?_
            exact r_iret dX11_road_31 rfl (.inl rfl) h.1 h.2

def roadG (Q : QT) (a b dd : Int) : Prop := (0 ≤ a ∧ a < 8) ∧ (0 ≤ b ∧ b < 8) ∧ ¬ a = b ∧ (1 ≤ dd ∧ dd ≤ 9) ∧ ¬ Q 48 1 = 16 ∧ rd Q a b = 0
def rdQ (Q : QT) (a b dd : Int) : QT := upQ (upQ (upQ (upQ Q 53 (nRd Q) a) 54 (nRd Q) b) 55 (nRd Q) dd) 48 1 (Q 48 1 + 1)
def roadV (Q : QT) (a b dd : Int) : Int := if (0 ≤ a ∧ a < 8) ∧ (0 ≤ b ∧ b < 8) ∧ ¬ a = b ∧ (1 ≤ dd ∧ dd ≤ 9) ∧ ¬ Q 48 1 = 16 ∧ rd Q a b = 0 then Q 48 1 else -1
def roadQ (Q : QT) (a b dd : Int) : QT := if (0 ≤ a ∧ a < 8) ∧ (0 ≤ b ∧ b < 8) ∧ ¬ a = b ∧ (1 ≤ dd ∧ dd ≤ 9) ∧ ¬ Q 48 1 = 16 ∧ rd Q a b = 0 then rdQ Q a b dd else Q
section RD
variable {l : Launch} {G : Gt} {d : Nat} {Q : QT} {M : Mem} {a b dd : Int}
theorem rdQ_f {f : Nat} (h : ¬ (f = 53 ∨ f = 54 ∨ f = 55 ∨ f = 48)) : rdQ Q a b dd f = Q f := by
  unfold rdQ
  rw [upQ_f (by omega), upQ_f (by omega), upQ_f (by omega), upQ_f (by omega)]
theorem rdQ_s {i : Nat} (h : ¬ i = 1) : rdQ Q a b dd 48 i = Q 48 i := by
  unfold rdQ
  rw [upQ_i h, upQ_f (by omega), upQ_f (by omega), upQ_f (by omega)]
theorem rdQ_1 : rdQ Q a b dd 48 1 = Q 48 1 + 1 := upQ_s
theorem rdQ_53 {i : Nat} : rdQ Q a b dd 53 i = if i = nRd Q then a else Q 53 i := by
  unfold rdQ
  rw [upQ_f (by omega), upQ_f (by omega), upQ_f (by omega), upQ_c]
theorem rdQ_54 {i : Nat} : rdQ Q a b dd 54 i = if i = nRd Q then b else Q 54 i := by
  unfold rdQ
  rw [upQ_f (by omega), upQ_f (by omega), upQ_c, upQ_f (by omega)]
theorem rdQ_55 {i : Nat} : rdQ Q a b dd 55 i = if i = nRd Q then dd else Q 55 i := by
  unfold rdQ
  rw [upQ_f (by omega), upQ_c, upQ_f (by omega), upQ_f (by omega)]
theorem rdQ_c : eqC Q (rdQ Q a b dd) := ⟨rdQ_s (by omega), rdQ_s (by omega), rdQ_f (by omega), rdQ_f (by omega), rdQ_f (by omega), rdQ_f (by omega), rdQ_f (by omega), rdQ_f (by omega), rdQ_f (by omega)⟩
theorem rdQ_v : eqV Q (rdQ Q a b dd) := ⟨by rw [rdQ_f (by omega)], rdQ_f (by omega), rdQ_f (by omega), rdQ_f (by omega), rdQ_f (by omega), rdQ_f (by omega)⟩
theorem rdQ_M : eqM Q (rdQ Q a b dd) := ⟨rdQ_f (by omega), by rw [rdQ_f (by omega)], rdQ_f (by omega)⟩
theorem rdQ_n (h : WFr Q) : nRd (rdQ Q a b dd) = nRd Q + 1 := by
  unfold nRd
  rw [rdQ_1]
  have := h.1
  omega
theorem rdQ_rk {x y : Int} : ∀ n, n ≤ nRd Q → rkF (rdQ Q a b dd) x y n = rkF Q x y n := by
  intro n
  induction n with
  | zero => intro _; rfl
  | succ n ih =>
    intro hn
    unfold rkF
    rw [ih (by omega), rdQ_53, rdQ_54, if_neg (show ¬ n = nRd Q by omega), if_neg (show ¬ n = nRd Q by omega)]
theorem rdQ_ro (h : WFr Q) {x y : Int} : ro (rdQ Q a b dd) x y = match ro Q x y with
    | some k => some k
    | none => if (a = x ∧ b = y) ∨ (a = y ∧ b = x) then some (nRd Q) else none := by
  have e : ro (rdQ Q a b dd) x y = match rkF (rdQ Q a b dd) x y (nRd Q) with
    | some k => some k
    | none => if (rdQ Q a b dd 53 (nRd Q) = x ∧ rdQ Q a b dd 54 (nRd Q) = y) ∨ (rdQ Q a b dd 53 (nRd Q) = y ∧ rdQ Q a b dd 54 (nRd Q) = x) then some (nRd Q) else none := by
    unfold ro
    rw [rdQ_n h]
    rfl
  rw [e, rdQ_rk _ (Nat.le_refl _), rdQ_53, rdQ_54, if_pos rfl, if_pos rfl]
  rfl
theorem rdQ_rd (h : WFr Q) (h0 : rd Q a b = 0) {x y : Int} : rd (rdQ Q a b dd) x y = if (a = x ∧ b = y) ∨ (a = y ∧ b = x) then dd else rd Q x y := by
  have hn : ∀ x y, (a = x ∧ b = y) ∨ (a = y ∧ b = x) → ro Q x y = none := fun x y c => by
    cases e : ro Q x y with
    | none => rfl
    | some k =>
      have := rd_pos h e
      rcases c with ⟨c1, c2⟩ | ⟨c1, c2⟩
      · rw [← c1, ← c2] at this; omega
      · rw [← c1, ← c2, rd_sym] at this; omega
  have e1 : rd (rdQ Q a b dd) x y = match ro (rdQ Q a b dd) x y with
    | some k => rdQ Q a b dd 55 k
    | none => 0 := rfl
  rw [e1, rdQ_ro h]
  by_cases c : (a = x ∧ b = y) ∨ (a = y ∧ b = x)
  · rw [hn x y c]
    simp only [if_pos c]
    rw [rdQ_55, if_pos rfl]
  · unfold rd
    cases e : ro Q x y with
    | none =>
      show (match (if (a = x ∧ b = y) ∨ (a = y ∧ b = x) then some (nRd Q) else none) with
        | some k => rdQ Q a b dd 55 k
        | none => 0) = _
      rw [if_neg c, if_neg c]
    | some k =>
      show rdQ Q a b dd 55 k = _
      rw [rdQ_55, if_neg (by have := (rkF_some e).1; omega), if_neg c]
theorem rdQ_W (h : WFr Q) (g1 : 0 ≤ a ∧ a < 8) (g2 : 0 ≤ b ∧ b < 8) (g3 : ¬ a = b) (g4 : 1 ≤ dd ∧ dd ≤ 9) (g5 : ¬ Q 48 1 = 16) (g6 : rd Q a b = 0) : WFr (rdQ Q a b dd) := by
  refine ⟨by rw [rdQ_1]; have := h.1; omega, fun k hk => ?_⟩
  rw [rdQ_n h] at hk
  rw [rdQ_53, rdQ_54, rdQ_55, rdQ_ro h]
  by_cases e : k = nRd Q
  · rw [if_pos e, if_pos e, if_pos e]
    have hn : ro Q a b = none := by
      cases e2 : ro Q a b with
      | none => rfl
      | some j => have := rd_pos h e2; omega
    rw [hn]
    exact ⟨g1, g2, g3, g4, by dsimp only; rw [if_pos (.inl ⟨rfl, rfl⟩), e]⟩
  · rw [if_neg e, if_neg e, if_neg e]
    obtain ⟨q1, q2, q3, q4, q5⟩ := h.2 k (by omega)
    rw [q5]
    exact ⟨q1, q2, q3, q4, rfl⟩
theorem LetsC.q {Q' : QT} {j : Nat} (h : LetsC Q M j) (h3 : Q' 48 3 = Q 48 3) (h5 : Q' 48 5 = Q 48 5) (hf : ∀ f, 62 ≤ f → f ≤ 70 → Q' f = Q f) : LetsC Q' M j := by
  have en : nLt Q' = nLt Q := by unfold nLt; rw [h3]
  refine ⟨⟨by rw [h3]; exact h.1.1, by rw [h5]; exact h.1.2⟩, h.2.1, fun i hi => ?_⟩
  rw [en] at hi
  unfold LtC
  rw [hf _ (by omega) (by omega), hf _ (by omega) (by omega), hf _ (by omega) (by omega), hf _ (by omega) (by omega), hf _ (by omega) (by omega), hf _ (by omega) (by omega), hf _ (by omega) (by omega), hf _ (by omega) (by omega), hf _ (by omega) (by omega)]
  exact h.2.2 i hi
theorem roadQ_W (h : WFA Q) : WFA (roadQ Q a b dd) := by
  unfold roadQ
  split
  · rename_i g
    obtain ⟨g1, g2, g3, g4, g5, g6⟩ := g
    refine h.mk2 ⟨WFc_q rdQ_c h.1.1, rdQ_W h.1.2.1 g1 g2 g3 g4 g5 g6, ?_, ?_, ?_, ?_, ?_, ?_⟩ (WFV_q rdQ_v h.2.1) ?_ ?_ rdQ_M ⟨rdQ_f (by omega), rdQ_f (by omega)⟩
    · unfold WFk; rw [rdQ_f (by omega)]; exact h.1.2.2.1
    · unfold WFp; rw [rdQ_f (by omega), nPp_q rdQ_c]; exact h.1.2.2.2.1
    · exact h.l.eq (nPp_q rdQ_c) (nCv_q rdQ_v) (rdQ_s (by omega)) (rdQ_s (by omega)) (fun f h1 h2 => rdQ_f (by omega))
    · rw [rdQ_f (by omega), nPp_q rdQ_c]; exact h.1.2.2.2.2.2.1
    · rw [rdQ_f (by omega)]; exact h.1.2.2.2.2.2.2.1
    · rw [rdQ_f (show ¬ (52 = 53 ∨ 52 = 54 ∨ 52 = 55 ∨ 52 = 48) by omega), rdQ_s (by omega)]; exact h.1.2.2.2.2.2.2.2
    · rw [rdQ_f (by omega), rdQ_f (by omega)]; exact h.2.2.1
    · have hr := h.1.2.1.1
      have hk : nRd Q < 16 := by unfold nRd; omega
      unfold rdQ
      exact ((((h.2.2.2.1.up (fun _ _ => by unfold lenF; rw [if_neg (by omega), if_neg (by omega), if_neg (by omega), if_neg (by omega), if_pos (by omega)]; omega)).up (fun _ _ => by unfold lenF; rw [if_neg (by omega), if_neg (by omega), if_neg (by omega), if_neg (by omega), if_pos (by omega)]; omega)).up (fun _ _ => by unfold lenF; rw [if_neg (by omega), if_neg (by omega), if_neg (by omega), if_neg (by omega), if_pos (by omega)]; omega)).up (fun _ _ => by unfold lenF; rw [if_pos (by omega)]; omega))
  · exact h
theorem KX12_road (hS : Sh M.2.1) (hw : WFA Q) (hH : HoldsQ Q M.1) : ∃ I', Cl l G (d + 2) mX12_road [vR (some (3, 0)), vI a, vI b, vI dd] M (some (vI (roadV Q a b dd))) (I', M.2.1, M.2.2) ∧ HoldsQ (roadQ Q a b dd) I' ∧ frR M.1 I' := by
  have e1 : M.1 48 0 1 = Q 48 1 := hH.1 _ _ (by unfold perF; omega)
  have hr := hw.1.2.1.1
  have kr := KX12_roadOf (l := l) (G := G) (d := d + 1) (M := M) (a := a) (b := b) hS hw.1.2.1 hH.m.2.2.1
  unfold roadV roadQ
  by_cases g : (0 ≤ a ∧ a < 8) ∧ (0 ≤ b ∧ b < 8) ∧ ¬ a = b ∧ (1 ≤ dd ∧ dd ≤ 9) ∧ ¬ Q 48 1 = 16 ∧ rd Q a b = 0
  · rw [if_pos g, if_pos g]
    obtain ⟨g1, g2, g3, g4, g5, g6⟩ := g
    have er : roI Q a b = -1 := by
      rcases ro_or hw.1.2.1 a b with ⟨x, _⟩ | ⟨j, _, _, _, x⟩
      · exact x
      · omega
    rw [er] at kr
    have hk : (Q 48 1).toNat = nRd Q := rfl
    refine ⟨upI (upI (upI (upI M.1 53 0 (nRd Q) a) 54 0 (nRd Q) b) 55 0 (nRd Q) dd) 48 0 1 (Q 48 1 + 1), xX12_road_0 hS ?_, ?_, (((frR.up (by omega)).tr (frR.up (by omega))).tr (frR.up (by omega))).tr (frR.up (by omega))⟩
    · rw [e1, hk]
      refine ⟨fun c => absurd c g5, fun _ => ⟨fun c => absurd g1 c, fun _ => ⟨fun c => absurd g2 c, fun _ => ⟨fun c => absurd c g3, fun _ => ⟨fun c => absurd g4 c, fun _ => ⟨_, M, kr, hS, fun _ => ?_, fun c => absurd rfl c⟩⟩⟩⟩⟩⟩
      rw [e1]
      exact ⟨⟨by omega, by unfold InR; omega⟩, rfl, rfl⟩
    · exact (((hH.up (by unfold perF; omega) (by omega)).up (by unfold perF; omega) (by omega)).up (by unfold perF; omega) (by omega)).up (by unfold perF; omega) (by omega)
  · rw [if_neg g, if_neg g]
    refine ⟨M.1, xX12_road_0 hS ?_, hH, frR.rf⟩
    rw [e1]
    refine ⟨fun _ => ⟨rfl, rfl⟩, fun g5 => ⟨fun _ => ⟨rfl, rfl⟩, fun g1 => ⟨fun _ => ⟨rfl, rfl⟩, fun g2 => ⟨fun _ => ⟨rfl, rfl⟩, fun g3 => ⟨fun _ => ⟨rfl, rfl⟩, fun g4 => ⟨_, M, kr, hS, fun c => ?_, fun _ => ⟨rfl, rfl⟩⟩⟩⟩⟩⟩⟩
    exfalso
    refine g ⟨g1, g2, g3, g4, g5, ?_⟩
    rcases ro_or hw.1.2.1 a b with ⟨_, x⟩ | ⟨j, _, x, _, _⟩
    · exact x
    · omega
theorem KX11_road (hR : RelC Q M) (hw : WFA Q) : ∃ M', Cl l G (d + 2) mX11_road [vR (some (2, 0)), vI a, vI b, vI dd] M (some (vI (roadV Q a b dd))) M' ∧ RelC (roadQ Q a b dd) M' ∧ frK M M' := by
  have hS := hR.1.1.1
  have e1 : M.1 4 0 2 = Q 48 1 := hR.2.1.1.2.1
  have hr := hw.1.2.1.1
  unfold roadV roadQ
  by_cases g : (0 ≤ a ∧ a < 8) ∧ (0 ≤ b ∧ b < 8) ∧ ¬ a = b ∧ (1 ≤ dd ∧ dd ≤ 9) ∧ ¬ Q 48 1 = 16 ∧ rd Q a b = 0
  · rw [if_pos g, if_pos g]
    obtain ⟨g1, g2, g3, g4, g5, g6⟩ := g
    have hw' := rdQ_W (dd := dd) hw.1.2.1 g1 g2 g3 g4 g5 g6
    have i1 : (a * 8 + b).toNat = 8 * a.toNat + b.toNat := by omega
    have i2 : (b * 8 + a).toNat = 8 * b.toNat + a.toNat := by omega
    have era : M.1 34 0 (a * 8 + b).toNat = 0 := by
      rw [i1, hR.1.2.2 a.toNat b.toNat (by omega) (by omega), show ((a.toNat : Nat) : Int) = a by omega, show ((b.toNat : Nat) : Int) = b by omega]
      exact g6
    have hrd : RoadsC (rdQ Q a b dd) (upI (upI M.1 34 0 (8 * a.toNat + b.toNat) dd) 34 0 (8 * b.toNat + a.toNat) dd) 0 := fun x y hx hy => by
      rw [rdQ_rd hw.1.2.1 g6, upI_c, upI_c]
      by_cases c2 : 8 * x + y = 8 * b.toNat + a.toNat
      · rw [if_pos c2, if_pos (.inr (by omega))]
      · rw [if_neg c2]
        by_cases c1 : 8 * x + y = 8 * a.toNat + b.toNat
        · rw [if_pos c1, if_pos (.inl (by omega))]
        · rw [if_neg c1, if_neg (by omega)]
          exact hR.1.2.2 x y hx hy
    obtain ⟨I2, k1, k2, k3⟩ := KX10_measure (l := l) (G := G) (d := d) (M := (upI (upI M.1 34 0 (8 * a.toNat + b.toNat) dd) 34 0 (8 * b.toNat + a.toNat) dd, M.2.1, M.2.2)) (k := 0) hw' hS hrd
    dsimp only at k2
    have eo : ∀ f k i, ¬ ((f = 45 ∨ f = 46 ∨ f = 34) ∧ k = 0) → I2 f k i = M.1 f k i := fun f k i hn => by
      rw [k2 f k i (fun e => hn (by omega)), upI_o (by omega), upI_o (by omega)]
    have e2 : I2 4 0 2 = Q 48 1 := (eo _ _ _ (by omega)).trans e1
    have hrd2 : RoadsC (rdQ Q a b dd) I2 0 := fun x y hx hy => by rw [k2 _ _ _ (by omega)]; exact hrd x y hx hy
    have eo3 : ∀ f k i, ¬ ((f = 45 ∨ f = 46 ∨ f = 34) ∧ k = 0) → ¬ (f = 4 ∧ k = 0 ∧ i = 2) → upI I2 4 0 2 (Q 48 1 + 1) f k i = M.1 f k i := fun f k i hn hn2 => by
      by_cases e : f = 4 ∧ k = 0
      · obtain ⟨rfl, rfl⟩ := e
        rw [upI_i (by omega)]
        exact eo _ _ _ hn
      · rw [upI_o e]
        exact eo _ _ _ hn
    have hw3 : WaysC (rdQ Q a b dd) (upI I2 4 0 2 (Q 48 1 + 1)) := ⟨fun x y hx hy => by rw [upI_o (by omega)]; exact k3.1 x y hx hy, fun x y hx hy => by rw [upI_o (by omega)]; exact k3.2 x y hx hy⟩
    have hrd3 : RoadsC (rdQ Q a b dd) (upI I2 4 0 2 (Q 48 1 + 1)) 0 := fun x y hx hy => by rw [upI_o (by omega)]; exact hrd2 x y hx hy
    have hA : RelA (rdQ Q a b dd) (upI I2 4 0 2 (Q 48 1 + 1), M.2.1, M.2.2) := RelA_q rdQ_c rdQ_v (fun r hr' => by dsimp only; rw [eo3 _ _ _ (by omega) (by omega), rdQ_f (by omega)]; exact hR.1.1.2.2.2.2.2 r hr') (hR.1.1.I fun f k i hrl => eo3 f k i (by unfold relF at hrl; omega) (by unfold relF at hrl; omega))
    obtain ⟨⟨a1, a2, a3, a4⟩, a5, a6, a7, a8, a9, a10, a11⟩ := hR.2.1
    have hSt : StI (rdQ Q a b dd) (upI I2 4 0 2 (Q 48 1 + 1), M.2.1, M.2.2) 0 := by
      refine ⟨⟨?_, ?_, ?_, ?_⟩, fun i hi => ?_, hrd3, fun i hi => ?_, fun i hi => ?_, fun i hi => ?_, fun i hi => ?_, ?_⟩
      · dsimp only; rw [eo3 _ _ _ (by omega) (by omega), rdQ_s (by omega)]; exact a1
      · dsimp only; rw [upI_s, rdQ_1]
      · dsimp only; rw [eo3 _ _ _ (by omega) (by omega), rdQ_s (by omega)]; exact a3
      · dsimp only; rw [eo3 _ _ _ (by omega) (by omega), rdQ_s (by omega)]; exact a4
      · dsimp only; rw [eo3 _ _ _ (by omega) (by omega), rdQ_f (by omega)]; exact a5 i hi
      · dsimp only; rw [eo3 _ _ _ (by omega) (by omega), pk_q rdQ_c, srt_q rdQ_c]; exact a7 i (by rw [nCh_q rdQ_c] at hi; exact hi)
      · dsimp only; rw [eo3 _ _ _ (by omega) (by omega), rdQ_f (by omega)]; exact a8 i hi
      · dsimp only; rw [eo3 _ _ _ (by omega) (by omega), rdQ_f (by omega)]; exact a9 i hi
      · dsimp only; rw [eo3 _ _ _ (by omega) (by omega), rdQ_f (by omega)]; exact a10 i hi
      · exact (a11.fr (M' := (upI I2 4 0 2 (Q 48 1 + 1), M.2.1, M.2.2)) (fun i hi => by dsimp only; exact eo3 4 0 i (by omega) (by omega)) (fun _ => rfl) (fun i _ => ⟨fun x => by dsimp only; exact eo3 5 _ _ (by omega) (by omega), rfl⟩)).q (rdQ_s (by omega)) (rdQ_s (by omega)) (fun f h1 h2 => rdQ_f (by omega))
    refine ⟨(upI I2 4 0 2 (Q 48 1 + 1), M.2.1, M.2.2), xX11_road_0 hS ?_, hR.one hw ⟨hA, hw3, hrd3⟩ hSt (hR.2.2.1.fr (by rw [rdQ_f (by omega)]) (rdQ_f (by omega)) (by dsimp only; exact eo3 2 0 12 (by omega) (by omega)) (fun i => by dsimp only; exact eo3 16 0 i (by omega) (by omega))) rdQ_M (fun f k i hh => eo3 f k i (by omega) (by omega)) (fun _ _ _ _ => rfl) (fun _ _ => rfl), ⟨fun f k i hh => eo3 f k i (by omega) (by omega), ⟨rfl, rfl⟩, Nat.le_add_right _ _, Nat.le_add_right _ _⟩⟩
    rw [era, e1, i1, i2]
    refine ⟨fun c => absurd g1 c, fun _ => ⟨fun c => absurd g2 c, fun _ => ⟨fun c => absurd c g3, fun _ => ⟨fun c => by omega, fun _ => ⟨fun _ => ⟨fun c => by omega, fun _ => ⟨⟨by unfold InR; omega, by unfold InR; omega, by omega⟩, fun _ => ⟨⟨by unfold InR; omega, by unfold InR; omega, by omega, by unfold InR; omega, by unfold InR; omega, by omega⟩, _, k1, hS, ?_⟩, fun c => absurd rfl c⟩⟩, fun c => by omega⟩⟩⟩⟩⟩
    dsimp only
    rw [e2]
    exact ⟨by unfold InR; omega, rfl, rfl⟩
  · rw [if_neg g, if_neg g]
    refine ⟨M, xX11_road_0 hS ?_, hR, frK.rf⟩
    rw [e1]
    refine ⟨fun _ => ⟨rfl, rfl⟩, fun g1 => ⟨fun _ => ⟨rfl, rfl⟩, fun g2 => ⟨fun _ => ⟨rfl, rfl⟩, fun g3 => ⟨fun _ => ⟨rfl, rfl⟩, fun g4 => ⟨fun g4' => ⟨fun _ => ⟨rfl, rfl⟩, fun g5 => ⟨⟨by unfold InR; omega, by unfold InR; omega, by omega⟩, fun c => ?_, fun _ => ⟨rfl, rfl⟩⟩⟩, fun _ => ⟨rfl, rfl⟩⟩⟩⟩⟩⟩
    exfalso
    refine g ⟨g1, g2, g3, by omega, by omega, ?_⟩
    rw [show (a * 8 + b).toNat = 8 * a.toNat + b.toNat by omega, hR.1.2.2 a.toNat b.toNat (by omega) (by omega), show ((a.toNat : Nat) : Int) = a by omega, show ((b.toNat : Nat) : Int) = b by omega] at c
    exact c
end RD
