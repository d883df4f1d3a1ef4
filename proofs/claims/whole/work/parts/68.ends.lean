/-! how a letter ends: the reference -/
set_option maxRecDepth 4000 in
theorem xX12_endsFrom_0 {l : Launch} {G : Gt} {d : Nat} {M M' : Mem} {r : Option Vl} {x1 : Int} {x2 : Int} {x3 : Int} {x4 : Int} (h : 
    ∃ (M_1 : Mem), Cl l G d mX12_lays [vR (some (3, 0)), vI 0, vI x4] M none M_1 ∧ ((0 ≤ x3 ∧ x3 < 32)) ∧ Ex l G (d + 1) mX12_endsFrom 41 [some (vR (some (3, 0))), some (vI x1), some (vI x2), some (vI x3), some (vI x4), some (vI (aShl 1 x3)), some (vI 1), none, none] [] ((upI (upI (upI (upI (upI M_1.1 3 0 56 0) 3 0 57 (-1)) 3 0 58 x4) 3 0 59 x3) 3 0 60 0), M_1.2.1, M_1.2.2) r M') : Cl l G (d + 1) mX12_endsFrom [vR (some (3, 0)), vI x1, vI x2, vI x3, vI x4] M r M' := by
  show Ex l G (d + 1) mX12_endsFrom 0 [some (vR (some (3, 0))), some (vI x1), some (vI x2), some (vI x3), some (vI x4), none, none, none, none] [] M r M'
  refine r_aload_n 1 dX12_endsFrom_0 rfl rfl ?_
  refine r_iconst 2 dX12_endsFrom_1 rfl (InR_of rfl) ?_
  refine r_iload 4 dX12_endsFrom_2 rfl rfl ?_
  obtain ⟨M_1, hc_2, h⟩ := h
  refine v_0 (ci := 12) (C := (RX12, TX12, 68)) [vI 0, vI x4] [] 7 dX12_endsFrom_4 rfl rfl rfl rfl rfl mo_X12_lays ml_12_198 rfl rfl hc_2 ?_
  obtain ⟨o_3, h⟩ := h
  refine r_aload_n 8 dX12_endsFrom_7 rfl rfl ?_
  refine r_iconst 9 dX12_endsFrom_8 rfl (InR_of rfl) ?_
  refine p_I 12 dX12_endsFrom_9 rfl rfl rfl rfl pf_12_401 (.inl rfl) rfl ?_
  refine r_aload_n 13 dX12_endsFrom_12 rfl rfl ?_
  refine r_iconst 14 dX12_endsFrom_13 rfl (InR_of rfl) ?_
  refine p_I 17 dX12_endsFrom_14 rfl rfl rfl rfl pf_12_404 (.inl rfl) rfl ?_
  refine r_aload_n 18 dX12_endsFrom_17 rfl rfl ?_
  refine r_iload 20 dX12_endsFrom_18 rfl rfl ?_
  refine p_I 23 dX12_endsFrom_20 rfl rfl rfl rfl pf_12_407 (.inl rfl) rfl ?_
  refine r_aload_n 24 dX12_endsFrom_23 rfl rfl ?_
  refine r_iload_n 25 dX12_endsFrom_24 rfl rfl ?_
  refine p_I 28 dX12_endsFrom_25 rfl rfl rfl rfl pf_12_410 (.inl rfl) rfl ?_
  refine r_aload_n 29 dX12_endsFrom_28 rfl rfl ?_
  refine r_iconst 30 dX12_endsFrom_29 rfl (InR_of rfl) ?_
  refine p_I 33 dX12_endsFrom_30 rfl rfl rfl rfl pf_12_413 (.inl rfl) rfl ?_
  refine r_iconst 34 dX12_endsFrom_33 rfl (InR_of rfl) ?_
  refine r_iload_n 35 dX12_endsFrom_34 rfl rfl ?_
  refine r_ishl 36 dX12_endsFrom_35 rfl o_3 ?_
  refine r_istore (ls' := [some (vR (some (3, 0))), some (vI x1), some (vI x2), some (vI x3), some (vI x4), some (vI (aShl 1 x3)), none, none, none]) 38 dX12_endsFrom_36 rfl rfl rfl rfl ?_
  refine r_iconst 39 dX12_endsFrom_38 rfl (InR_of rfl) ?_
  refine r_istore (ls' := [some (vR (some (3, 0))), some (vI x1), some (vI x2), some (vI x3), some (vI x4), some (vI (aShl 1 x3)), some (vI 1), none, none]) 41 dX12_endsFrom_39 rfl rfl rfl rfl ?_
  exact h
set_option maxRecDepth 4000 in
theorem xX12_endsFrom_41 {l : Launch} {G : Gt} {d : Nat} {M M' : Mem} {r : Option Vl} {x1 : Int} {x2 : Int} {x3 : Int} {x4 : Int} {x5 : Int} {x6 : Int} (h : 
    (x6 = 0 → r = none ∧ M' = M) ∧ (¬ (x6 = 0) → (100 ≤ (M.1 3 0 60) → r = none ∧ M' = M) ∧ (¬ (100 ≤ (M.1 3 0 60)) → ∃ (M_1 : Mem), Cl l G d mX12_lays [vR (some (3, 0)), vI 1, vI (M.1 3 0 58)] M none M_1 ∧ (∃ (r_5 : Int) (M_3 : Mem), Cl l G d mX12_asks [vR (some (3, 0)), vI x2, vI x1, vI (M_1.1 3 0 59)] M_1 (some (vI r_5)) M_3 ∧ Sh M_3.2.1 ∧ ((¬ (r_5 = 1) → (¬ (r_5 = 2) → (¬ ((if r_5 = 0 then 1 else 2 : Int) = 0) → Ex l G (d + 1) mX12_endsFrom 41 [some (vR (some (3, 0))), some (vI x1), some (vI x2), some (vI x3), some (vI x4), some (vI x5), some (vI 0), none, none] [] ((upI (upI M_3.1 3 0 56 (if r_5 = 0 then 1 else 2 : Int)) 3 0 57 (M_3.1 3 0 48)), M_3.2.1, M_3.2.2) r M') ∧ ((if r_5 = 0 then 1 else 2 : Int) = 0 → ∃ (r_10 : Int) (M_8 : Mem), Cl l G d mX12_roadOf [vR (some (3, 0)), vI (M_3.1 3 0 59), vI (-1)] ((upI (upI M_3.1 3 0 56 (if r_5 = 0 then 1 else 2 : Int)) 3 0 57 (M_3.1 3 0 48)), M_3.2.1, M_3.2.2) (some (vI r_10)) M_8 ∧ Sh M_8.2.1 ∧ (((0 ≤ r_10 ∧ r_10 < 16) ∧ InR ((M_3.1 3 0 58) + (M_8.1 55 0 r_10.toNat))) ∧ (((if 999 < ((M_3.1 3 0 58) + (M_8.1 55 0 r_10.toNat)) then 0 else 1 : Int) = 0 → Ex l G (d + 1) mX12_endsFrom 41 [some (vR (some (3, 0))), some (vI x1), some (vI x2), some (vI x3), some (vI x4), some (vI x5), some (vI (if 999 < ((M_3.1 3 0 58) + (M_8.1 55 0 r_10.toNat)) then 0 else 1 : Int)), none, none] [] M_8 r M') ∧ (¬ ((if 999 < ((M_3.1 3 0 58) + (M_8.1 55 0 r_10.toNat)) then 0 else 1 : Int) = 0) → ∃ (r_17 : Int) (M_15 : Mem), Cl l G d mX12_roadOf [vR (some (3, 0)), vI (M_8.1 3 0 59), vI (-1)] M_8 (some (vI r_17)) M_15 ∧ ((0 ≤ r_17 ∧ r_17 < 16) ∧ InR ((M_8.1 3 0 58) + (M_15.1 55 0 r_17.toNat)) ∧ ((0 : Int) ≤ (-1) ∧ ((-1) : Int) < 32) ∧ InR ((M_15.1 3 0 60) + 1)) ∧ Ex l G (d + 1) mX12_endsFrom 41 [some (vR (some (3, 0))), some (vI x1), some (vI x2), some (vI x3), some (vI x4), some (vI (aOr x5 (aShl 1 (-1)))), some (vI (if 999 < ((M_3.1 3 0 58) + (M_8.1 55 0 r_10.toNat)) then 0 else 1 : Int)), none, none] [] ((upI (upI (upI M_15.1 3 0 58 ((M_8.1 3 0 58) + (M_15.1 55 0 r_17.toNat))) 3 0 59 (-1)) 3 0 60 ((M_15.1 3 0 60) + 1)), M_15.2.1, M_15.2.2) r M'))))) ∧ (r_5 = 2 → ∃ (r_24 : Int) (M_22 : Mem), Cl l G d mX12_unseen [vR (some (3, 0)), vI (M_3.1 3 0 59), vI x5] M_3 (some (vI r_24)) M_22 ∧ Sh M_22.2.1 ∧ ((¬ ((if r_5 = 0 then 1 else (if r_24 = (-1) then 2 else 0 : Int) : Int) = 0) → Ex l G (d + 1) mX12_endsFrom 41 [some (vR (some (3, 0))), some (vI x1), some (vI x2), some (vI x3), some (vI x4), some (vI x5), some (vI 0), none, none] [] ((upI (upI M_22.1 3 0 56 (if r_5 = 0 then 1 else (if r_24 = (-1) then 2 else 0 : Int) : Int)) 3 0 57 (M_22.1 3 0 48)), M_22.2.1, M_22.2.2) r M') ∧ ((if r_5 = 0 then 1 else (if r_24 = (-1) then 2 else 0 : Int) : Int) = 0 → ∃ (r_30 : Int) (M_28 : Mem), Cl l G d mX12_roadOf [vR (some (3, 0)), vI (M_22.1 3 0 59), vI r_24] ((upI (upI M_22.1 3 0 56 (if r_5 = 0 then 1 else (if r_24 = (-1) then 2 else 0 : Int) : Int)) 3 0 57 (M_22.1 3 0 48)), M_22.2.1, M_22.2.2) (some (vI r_30)) M_28 ∧ Sh M_28.2.1 ∧ (((0 ≤ r_30 ∧ r_30 < 16) ∧ InR ((M_22.1 3 0 58) + (M_28.1 55 0 r_30.toNat))) ∧ (((if 999 < ((M_22.1 3 0 58) + (M_28.1 55 0 r_30.toNat)) then 0 else 1 : Int) = 0 → Ex l G (d + 1) mX12_endsFrom 41 [some (vR (some (3, 0))), some (vI x1), some (vI x2), some (vI x3), some (vI x4), some (vI x5), some (vI (if 999 < ((M_22.1 3 0 58) + (M_28.1 55 0 r_30.toNat)) then 0 else 1 : Int)), none, none] [] M_28 r M') ∧ (¬ ((if 999 < ((M_22.1 3 0 58) + (M_28.1 55 0 r_30.toNat)) then 0 else 1 : Int) = 0) → ∃ (r_37 : Int) (M_35 : Mem), Cl l G d mX12_roadOf [vR (some (3, 0)), vI (M_28.1 3 0 59), vI r_24] M_28 (some (vI r_37)) M_35 ∧ ((0 ≤ r_37 ∧ r_37 < 16) ∧ InR ((M_28.1 3 0 58) + (M_35.1 55 0 r_37.toNat)) ∧ (0 ≤ r_24 ∧ r_24 < 32) ∧ InR ((M_35.1 3 0 60) + 1)) ∧ Ex l G (d + 1) mX12_endsFrom 41 [some (vR (some (3, 0))), some (vI x1), some (vI x2), some (vI x3), some (vI x4), some (vI (aOr x5 (aShl 1 r_24))), some (vI (if 999 < ((M_22.1 3 0 58) + (M_28.1 55 0 r_30.toNat)) then 0 else 1 : Int)), none, none] [] ((upI (upI (upI M_35.1 3 0 58 ((M_28.1 3 0 58) + (M_35.1 55 0 r_37.toNat))) 3 0 59 r_24) 3 0 60 ((M_35.1 3 0 60) + 1)), M_35.2.1, M_35.2.2) r M'))))))) ∧ (r_5 = 1 → (¬ ((if r_5 = 0 then 1 else (if (M_3.1 3 0 49) = (-1) then 2 else 0 : Int) : Int) = 0) → Ex l G (d + 1) mX12_endsFrom 41 [some (vR (some (3, 0))), some (vI x1), some (vI x2), some (vI x3), some (vI x4), some (vI x5), some (vI 0), none, none] [] ((upI (upI M_3.1 3 0 56 (if r_5 = 0 then 1 else (if (M_3.1 3 0 49) = (-1) then 2 else 0 : Int) : Int)) 3 0 57 (M_3.1 3 0 48)), M_3.2.1, M_3.2.2) r M') ∧ ((if r_5 = 0 then 1 else (if (M_3.1 3 0 49) = (-1) then 2 else 0 : Int) : Int) = 0 → ∃ (r_47 : Int) (M_45 : Mem), Cl l G d mX12_roadOf [vR (some (3, 0)), vI (M_3.1 3 0 59), vI (M_3.1 3 0 49)] ((upI (upI M_3.1 3 0 56 (if r_5 = 0 then 1 else (if (M_3.1 3 0 49) = (-1) then 2 else 0 : Int) : Int)) 3 0 57 (M_3.1 3 0 48)), M_3.2.1, M_3.2.2) (some (vI r_47)) M_45 ∧ Sh M_45.2.1 ∧ (((0 ≤ r_47 ∧ r_47 < 16) ∧ InR ((M_3.1 3 0 58) + (M_45.1 55 0 r_47.toNat))) ∧ (((if 999 < ((M_3.1 3 0 58) + (M_45.1 55 0 r_47.toNat)) then 0 else 1 : Int) = 0 → Ex l G (d + 1) mX12_endsFrom 41 [some (vR (some (3, 0))), some (vI x1), some (vI x2), some (vI x3), some (vI x4), some (vI x5), some (vI (if 999 < ((M_3.1 3 0 58) + (M_45.1 55 0 r_47.toNat)) then 0 else 1 : Int)), none, none] [] M_45 r M') ∧ (¬ ((if 999 < ((M_3.1 3 0 58) + (M_45.1 55 0 r_47.toNat)) then 0 else 1 : Int) = 0) → ∃ (r_54 : Int) (M_52 : Mem), Cl l G d mX12_roadOf [vR (some (3, 0)), vI (M_45.1 3 0 59), vI (M_3.1 3 0 49)] M_45 (some (vI r_54)) M_52 ∧ ((0 ≤ r_54 ∧ r_54 < 16) ∧ InR ((M_45.1 3 0 58) + (M_52.1 55 0 r_54.toNat)) ∧ (0 ≤ (M_3.1 3 0 49) ∧ (M_3.1 3 0 49) < 32) ∧ InR ((M_52.1 3 0 60) + 1)) ∧ Ex l G (d + 1) mX12_endsFrom 41 [some (vR (some (3, 0))), some (vI x1), some (vI x2), some (vI x3), some (vI x4), some (vI (aOr x5 (aShl 1 (M_3.1 3 0 49)))), some (vI (if 999 < ((M_3.1 3 0 58) + (M_45.1 55 0 r_47.toNat)) then 0 else 1 : Int)), none, none] [] ((upI (upI (upI M_52.1 3 0 58 ((M_45.1 3 0 58) + (M_52.1 55 0 r_54.toNat))) 3 0 59 (M_3.1 3 0 49)) 3 0 60 ((M_52.1 3 0 60) + 1)), M_52.2.1, M_52.2.2) r M')))))))))) : Ex l G (d + 1) mX12_endsFrom 41 [some (vR (some (3, 0))), some (vI x1), some (vI x2), some (vI x3), some (vI x4), some (vI x5), some (vI x6), none, none] [] M r M' := by
  refine r_iload 43 dX12_endsFrom_41 rfl rfl ?_
  refine r_if_eq 46 240 dX12_endsFrom_43 rfl rfl (fun c => ?_) (fun c => ?_)
  · have h := h.1 (c)
    exact r_vret dX12_endsFrom_240 rfl h.1 h.2
  · have h := h.2 (c)
    refine r_aload_n 47 dX12_endsFrom_46 rfl rfl ?_
    refine g_I 50 dX12_endsFrom_47 rfl rfl rfl fi_12_413 rfl ?_
    refine r_bipush 52 dX12_endsFrom_50 rfl rfl ?_
    refine r_icmp_ge 55 240 dX12_endsFrom_52 rfl rfl (fun c => ?_) (fun c => ?_)
    · have h := h.1 (c)
      exact r_vret dX12_endsFrom_240 rfl h.1 h.2
    · have h := h.2 (c)
      refine r_aload_n 56 dX12_endsFrom_55 rfl rfl ?_
      refine r_iconst 57 dX12_endsFrom_56 rfl (InR_of rfl) ?_
      refine r_aload_n 58 dX12_endsFrom_57 rfl rfl ?_
      refine g_I 61 dX12_endsFrom_58 rfl rfl rfl fi_12_407 rfl ?_
      obtain ⟨M_1, hc_2, h⟩ := h
      refine v_0 (ci := 12) (C := (RX12, TX12, 68)) [vI 1, vI (M.1 3 0 58)] [] 64 dX12_endsFrom_61 rfl rfl rfl rfl rfl mo_X12_lays ml_12_198 rfl rfl hc_2 ?_
      refine r_aload_n 65 dX12_endsFrom_64 rfl rfl ?_
      refine r_iload_n 66 dX12_endsFrom_65 rfl rfl ?_
      refine r_iload_n 67 dX12_endsFrom_66 rfl rfl ?_
      refine r_aload_n 68 dX12_endsFrom_67 rfl rfl ?_
      refine g_I 71 dX12_endsFrom_68 rfl rfl rfl fi_12_410 rfl ?_
      obtain ⟨r_5, M_3, hc_4, hS, h⟩ := h
      refine v_1 (ci := 12) (C := (RX12, TX12, 68)) [vI x2, vI x1, vI (M_1.1 3 0 59)] [] 74 dX12_endsFrom_71 rfl rfl rfl rfl rfl mo_X12_asks ml_12_352 rfl rfl hc_4 ?_
      refine r_istore (ls' := [some (vR (some (3, 0))), some (vI x1), some (vI x2), some (vI x3), some (vI x4), some (vI x5), some (vI x6), some (vI r_5), none]) 76 dX12_endsFrom_74 rfl rfl rfl rfl ?_
      refine r_iload 78 dX12_endsFrom_76 rfl rfl ?_
      refine r_iconst 79 dX12_endsFrom_78 rfl (InR_of rfl) ?_
      refine r_icmp_ne 82 89 dX12_endsFrom_79 rfl rfl (fun c => ?_) (fun c => ?_)
      · have h := h.1 (c)
        refine r_iload 91 dX12_endsFrom_89 rfl rfl ?_
        refine r_iconst 92 dX12_endsFrom_91 rfl (InR_of rfl) ?_
        refine r_icmp_ne 95 108 dX12_endsFrom_92 rfl rfl (fun c => ?_) (fun c => ?_)
        · have h := h.1 (c)
          refine r_iconst 109 dX12_endsFrom_108 rfl (InR_of rfl) ?_
          refine r_istore (ls' := [some (vR (some (3, 0))), some (vI x1), some (vI x2), some (vI x3), some (vI x4), some (vI x5), some (vI x6), some (vI r_5), some (vI (-1))]) 111 dX12_endsFrom_109 rfl rfl rfl rfl ?_
          refine r_aload_n 112 dX12_endsFrom_111 rfl rfl ?_
          refine r_iload 114 dX12_endsFrom_112 rfl rfl ?_
          have hJ_6 : Ex l G (d + 1) mX12_endsFrom 132 [some (vR (some (3, 0))), some (vI x1), some (vI x2), some (vI x3), some (vI x4), some (vI x5), some (vI x6), some (vI r_5), some (vI (-1))] [vI (if r_5 = 0 then 1 else 2 : Int), vR (some (3, 0))] M_3 r M' := by
            refine p_I 135 dX12_endsFrom_132 rfl rfl rfl rfl pf_12_401 (.inl rfl) rfl ?_
            refine r_aload_n 136 dX12_endsFrom_135 rfl rfl ?_
            refine r_aload_n 137 dX12_endsFrom_136 rfl rfl ?_
            refine g_I 140 dX12_endsFrom_137 rfl rfl rfl fi_12_337 (mI_0 (upI_i (by decide))) ?_
            refine p_I 143 dX12_endsFrom_140 rfl rfl rfl rfl pf_12_404 (.inl rfl) rfl ?_
            refine r_aload_n 144 dX12_endsFrom_143 rfl rfl ?_
            refine g_I 147 dX12_endsFrom_144 rfl rfl rfl fi_12_401 (mI_0 ((upI_i (by decide)).trans (upI_s))) ?_
            refine r_if_ne 150 180 dX12_endsFrom_147 rfl rfl (fun c => ?_) (fun c => ?_)
            · have h := h.1 (c)
              refine r_iconst 181 dX12_endsFrom_180 rfl (InR_of rfl) ?_
              refine r_istore (ls' := [some (vR (some (3, 0))), some (vI x1), some (vI x2), some (vI x3), some (vI x4), some (vI x5), some (vI 0), some (vI r_5), some (vI (-1))]) 183 dX12_endsFrom_181 rfl rfl rfl rfl ?_
              refine r_iload 185 dX12_endsFrom_183 rfl rfl ?_
              refine r_if_eq 188 237 dX12_endsFrom_185 rfl rfl (fun _ => ?_) (fun c => absurd (by decide) c)
              refine r_goto 41 dX12_endsFrom_237 rfl ?_
              exact Ex.weak h ⟨rfl, rfl, rfl, rfl, rfl, rfl, rfl, trivial⟩
            · have h := h.2 (Decidable.not_not.mp c)
              refine r_aload_n 151 dX12_endsFrom_150 rfl rfl ?_
              refine g_I 154 dX12_endsFrom_151 rfl rfl rfl fi_12_407 (mI_0 ((upI_i (by decide)).trans (upI_i (by decide)))) ?_
              refine r_aload_n 155 dX12_endsFrom_154 rfl rfl ?_
              refine g_R 158 dX12_endsFrom_155 rfl rfl rfl fr_12_31 (mR_0 (sh_12_8 hS)) ?_
              refine r_aload_n 159 dX12_endsFrom_158 rfl rfl ?_
              refine r_aload_n 160 dX12_endsFrom_159 rfl rfl ?_
              refine g_I 163 dX12_endsFrom_160 rfl rfl rfl fi_12_410 (mI_0 ((upI_i (by decide)).trans (upI_i (by decide)))) ?_
              refine r_iload 165 dX12_endsFrom_163 rfl rfl ?_
              obtain ⟨r_10, M_8, hc_9, hS, h⟩ := h
              refine v_1 (ci := 12) (C := (RX12, TX12, 68)) [vI (M_3.1 3 0 59), vI (-1)] [vR (some (55, 0)), vI (M_3.1 3 0 58)] 168 dX12_endsFrom_165 rfl rfl rfl rfl rfl mo_X12_roadOf ml_12_166 rfl rfl hc_9 ?_
              obtain ⟨⟨o_11, o_12⟩, h⟩ := h
              refine a_I 16 169 dX12_endsFrom_168 rfl rfl rfl rfl o_11 rfl ?_
              refine r_iadd 170 dX12_endsFrom_169 rfl o_12 ?_
              refine r_sipush 173 dX12_endsFrom_170 rfl rfl ?_
              have hJ_13 : Ex l G (d + 1) mX12_endsFrom 181 [some (vR (some (3, 0))), some (vI x1), some (vI x2), some (vI x3), some (vI x4), some (vI x5), some (vI x6), some (vI r_5), some (vI (-1))] [vI (if 999 < ((M_3.1 3 0 58) + (M_8.1 55 0 r_10.toNat)) then 0 else 1 : Int)] M_8 r M' := by
                refine r_istore (ls' := [some (vR (some (3, 0))), some (vI x1), some (vI x2), some (vI x3), some (vI x4), some (vI x5), some (vI (if 999 < ((M_3.1 3 0 58) + (M_8.1 55 0 r_10.toNat)) then 0 else 1 : Int)), some (vI r_5), some (vI (-1))]) 183 dX12_endsFrom_181 rfl rfl rfl rfl ?_
                refine r_iload 185 dX12_endsFrom_183 rfl rfl ?_
                refine r_if_eq 188 237 dX12_endsFrom_185 rfl rfl (fun c => ?_) (fun c => ?_)
                · have h := h.1 (c)
                  refine r_goto 41 dX12_endsFrom_237 rfl ?_
                  exact Ex.weak h ⟨rfl, rfl, rfl, rfl, rfl, rfl, rfl, trivial⟩
                · have h := h.2 (c)
                  refine r_aload_n 189 dX12_endsFrom_188 rfl rfl ?_
                  refine r_dup 190 dX12_endsFrom_189 rfl rfl ?_
                  refine g_I 193 dX12_endsFrom_190 rfl rfl rfl fi_12_407 rfl ?_
                  refine r_aload_n 194 dX12_endsFrom_193 rfl rfl ?_
                  refine g_R 197 dX12_endsFrom_194 rfl rfl rfl fr_12_31 (sh_12_8 hS) ?_
                  refine r_aload_n 198 dX12_endsFrom_197 rfl rfl ?_
                  refine r_aload_n 199 dX12_endsFrom_198 rfl rfl ?_
                  refine g_I 202 dX12_endsFrom_199 rfl rfl rfl fi_12_410 rfl ?_
                  refine r_iload 204 dX12_endsFrom_202 rfl rfl ?_
                  obtain ⟨r_17, M_15, hc_16, h⟩ := h
                  refine v_1 (ci := 12) (C := (RX12, TX12, 68)) [vI (M_8.1 3 0 59), vI (-1)] [vR (some (55, 0)), vI (M_8.1 3 0 58), vR (some (3, 0))] 207 dX12_endsFrom_204 rfl rfl rfl rfl rfl mo_X12_roadOf ml_12_166 rfl rfl hc_16 ?_
                  obtain ⟨⟨o_18, o_19, o_20, o_21⟩, h⟩ := h
                  refine a_I 16 208 dX12_endsFrom_207 rfl rfl rfl rfl o_18 rfl ?_
                  refine r_iadd 209 dX12_endsFrom_208 rfl o_19 ?_
                  refine p_I 212 dX12_endsFrom_209 rfl rfl rfl rfl pf_12_407 (.inl rfl) rfl ?_
                  refine r_aload_n 213 dX12_endsFrom_212 rfl rfl ?_
                  refine r_iload 215 dX12_endsFrom_213 rfl rfl ?_
                  refine p_I 218 dX12_endsFrom_215 rfl rfl rfl rfl pf_12_410 (.inl rfl) rfl ?_
                  refine r_iload 220 dX12_endsFrom_218 rfl rfl ?_
                  refine r_iconst 221 dX12_endsFrom_220 rfl (InR_of rfl) ?_
                  refine r_iload 223 dX12_endsFrom_221 rfl rfl ?_
                  refine r_ishl 224 dX12_endsFrom_223 rfl o_20 ?_
                  refine r_ior 225 dX12_endsFrom_224 rfl ?_
                  refine r_istore (ls' := [some (vR (some (3, 0))), some (vI x1), some (vI x2), some (vI x3), some (vI x4), some (vI (aOr x5 (aShl 1 (-1)))), some (vI (if 999 < ((M_3.1 3 0 58) + (M_8.1 55 0 r_10.toNat)) then 0 else 1 : Int)), some (vI r_5), some (vI (-1))]) 227 dX12_endsFrom_225 rfl rfl rfl rfl ?_
                  refine r_aload_n 228 dX12_endsFrom_227 rfl rfl ?_
                  refine r_dup 229 dX12_endsFrom_228 rfl rfl ?_
                  refine g_I 232 dX12_endsFrom_229 rfl rfl rfl fi_12_413 (mI_0 ((upI_i (by decide)).trans (upI_i (by decide)))) ?_
                  refine r_iconst 233 dX12_endsFrom_232 rfl (InR_of rfl) ?_
                  refine r_iadd 234 dX12_endsFrom_233 rfl o_21 ?_
                  refine p_I 237 dX12_endsFrom_234 rfl rfl rfl rfl pf_12_413 (.inl rfl) rfl ?_
                  refine r_goto 41 dX12_endsFrom_237 rfl ?_
                  exact Ex.weak h ⟨rfl, rfl, rfl, rfl, rfl, rfl, rfl, trivial⟩
              refine r_icmp_gt 176 180 dX12_endsFrom_173 rfl rfl (fun c => ?_) (fun c => ?_)
              · have c_14 := c
                refine r_iconst 181 dX12_endsFrom_180 rfl (InR_of rfl) ?_
                exact (Ex.at hJ_13 rfl (show [vI 0] = [vI (if 999 < ((M_3.1 3 0 58) + (M_8.1 55 0 r_10.toNat)) then 0 else 1 : Int)] by simp only [if_pos c_14]) rfl)
              · have c_14 := c
                refine r_iconst 177 dX12_endsFrom_176 rfl (InR_of rfl) ?_
                refine r_goto 181 dX12_endsFrom_177 rfl ?_
                exact (Ex.at hJ_13 rfl (show [vI 1] = [vI (if 999 < ((M_3.1 3 0 58) + (M_8.1 55 0 r_10.toNat)) then 0 else 1 : Int)] by simp only [if_neg c_14]) rfl)
          refine r_if_ne 117 121 dX12_endsFrom_114 rfl rfl (fun c => ?_) (fun c => ?_)
          · have c_7 := c
            refine r_iload 123 dX12_endsFrom_121 rfl rfl ?_
            refine r_iconst 124 dX12_endsFrom_123 rfl (InR_of rfl) ?_
            refine r_icmp_ne 127 131 dX12_endsFrom_124 rfl rfl (fun c => absurd c (by decide)) (fun _ => ?_)
            refine r_iconst 128 dX12_endsFrom_127 rfl (InR_of rfl) ?_
            refine r_goto 132 dX12_endsFrom_128 rfl ?_
            exact (Ex.at hJ_6 rfl (show [vI 2, vR (some (3, 0))] = [vI (if r_5 = 0 then 1 else 2 : Int), vR (some (3, 0))] by simp only [if_neg c_7]) rfl)
          · have c_7 := Decidable.not_not.mp c
            refine r_iconst 118 dX12_endsFrom_117 rfl (InR_of rfl) ?_
            refine r_goto 132 dX12_endsFrom_118 rfl ?_
            exact (Ex.at hJ_6 rfl (show [vI 1, vR (some (3, 0))] = [vI (if r_5 = 0 then 1 else 2 : Int), vR (some (3, 0))] by simp only [if_pos c_7]) rfl)
        · have h := h.2 (Decidable.not_not.mp c)
          refine r_aload_n 96 dX12_endsFrom_95 rfl rfl ?_
          refine r_aload_n 97 dX12_endsFrom_96 rfl rfl ?_
          refine g_I 100 dX12_endsFrom_97 rfl rfl rfl fi_12_410 rfl ?_
          refine r_iload 102 dX12_endsFrom_100 rfl rfl ?_
          obtain ⟨r_24, M_22, hc_23, hS, h⟩ := h
          refine v_1 (ci := 12) (C := (RX12, TX12, 68)) [vI (M_3.1 3 0 59), vI x5] [] 105 dX12_endsFrom_102 rfl rfl rfl rfl rfl mo_X12_unseen ml_12_355 rfl rfl hc_23 ?_
          refine r_goto 109 dX12_endsFrom_105 rfl ?_
          refine r_istore (ls' := [some (vR (some (3, 0))), some (vI x1), some (vI x2), some (vI x3), some (vI x4), some (vI x5), some (vI x6), some (vI r_5), some (vI r_24)]) 111 dX12_endsFrom_109 rfl rfl rfl rfl ?_
          refine r_aload_n 112 dX12_endsFrom_111 rfl rfl ?_
          refine r_iload 114 dX12_endsFrom_112 rfl rfl ?_
          have hJ_25 : Ex l G (d + 1) mX12_endsFrom 132 [some (vR (some (3, 0))), some (vI x1), some (vI x2), some (vI x3), some (vI x4), some (vI x5), some (vI x6), some (vI r_5), some (vI r_24)] [vI (if r_5 = 0 then 1 else (if r_24 = (-1) then 2 else 0 : Int) : Int), vR (some (3, 0))] M_22 r M' := by
            refine p_I 135 dX12_endsFrom_132 rfl rfl rfl rfl pf_12_401 (.inl rfl) rfl ?_
            refine r_aload_n 136 dX12_endsFrom_135 rfl rfl ?_
            refine r_aload_n 137 dX12_endsFrom_136 rfl rfl ?_
            refine g_I 140 dX12_endsFrom_137 rfl rfl rfl fi_12_337 (mI_0 (upI_i (by decide))) ?_
            refine p_I 143 dX12_endsFrom_140 rfl rfl rfl rfl pf_12_404 (.inl rfl) rfl ?_
            refine r_aload_n 144 dX12_endsFrom_143 rfl rfl ?_
            refine g_I 147 dX12_endsFrom_144 rfl rfl rfl fi_12_401 (mI_0 ((upI_i (by decide)).trans (upI_s))) ?_
            refine r_if_ne 150 180 dX12_endsFrom_147 rfl rfl (fun c => ?_) (fun c => ?_)
            · have h := h.1 (c)
              refine r_iconst 181 dX12_endsFrom_180 rfl (InR_of rfl) ?_
              refine r_istore (ls' := [some (vR (some (3, 0))), some (vI x1), some (vI x2), some (vI x3), some (vI x4), some (vI x5), some (vI 0), some (vI r_5), some (vI r_24)]) 183 dX12_endsFrom_181 rfl rfl rfl rfl ?_
              refine r_iload 185 dX12_endsFrom_183 rfl rfl ?_
              refine r_if_eq 188 237 dX12_endsFrom_185 rfl rfl (fun _ => ?_) (fun c => absurd (by decide) c)
              refine r_goto 41 dX12_endsFrom_237 rfl ?_
              exact Ex.weak h ⟨rfl, rfl, rfl, rfl, rfl, rfl, rfl, trivial⟩
            · have h := h.2 (Decidable.not_not.mp c)
              refine r_aload_n 151 dX12_endsFrom_150 rfl rfl ?_
              refine g_I 154 dX12_endsFrom_151 rfl rfl rfl fi_12_407 (mI_0 ((upI_i (by decide)).trans (upI_i (by decide)))) ?_
              refine r_aload_n 155 dX12_endsFrom_154 rfl rfl ?_
              refine g_R 158 dX12_endsFrom_155 rfl rfl rfl fr_12_31 (mR_0 (sh_12_8 hS)) ?_
              refine r_aload_n 159 dX12_endsFrom_158 rfl rfl ?_
              refine r_aload_n 160 dX12_endsFrom_159 rfl rfl ?_
              refine g_I 163 dX12_endsFrom_160 rfl rfl rfl fi_12_410 (mI_0 ((upI_i (by decide)).trans (upI_i (by decide)))) ?_
              refine r_iload 165 dX12_endsFrom_163 rfl rfl ?_
              obtain ⟨r_30, M_28, hc_29, hS, h⟩ := h
              refine v_1 (ci := 12) (C := (RX12, TX12, 68)) [vI (M_22.1 3 0 59), vI r_24] [vR (some (55, 0)), vI (M_22.1 3 0 58)] 168 dX12_endsFrom_165 rfl rfl rfl rfl rfl mo_X12_roadOf ml_12_166 rfl rfl hc_29 ?_
              obtain ⟨⟨o_31, o_32⟩, h⟩ := h
              refine a_I 16 169 dX12_endsFrom_168 rfl rfl rfl rfl o_31 rfl ?_
              refine r_iadd 170 dX12_endsFrom_169 rfl o_32 ?_
              refine r_sipush 173 dX12_endsFrom_170 rfl rfl ?_
              have hJ_33 : Ex l G (d + 1) mX12_endsFrom 181 [some (vR (some (3, 0))), some (vI x1), some (vI x2), some (vI x3), some (vI x4), some (vI x5), some (vI x6), some (vI r_5), some (vI r_24)] [vI (if 999 < ((M_22.1 3 0 58) + (M_28.1 55 0 r_30.toNat)) then 0 else 1 : Int)] M_28 r M' := by
                refine r_istore (ls' := [some (vR (some (3, 0))), some (vI x1), some (vI x2), some (vI x3), some (vI x4), some (vI x5), some (vI (if 999 < ((M_22.1 3 0 58) + (M_28.1 55 0 r_30.toNat)) then 0 else 1 : Int)), some (vI r_5), some (vI r_24)]) 183 dX12_endsFrom_181 rfl rfl rfl rfl ?_
                refine r_iload 185 dX12_endsFrom_183 rfl rfl ?_
                refine r_if_eq 188 237 dX12_endsFrom_185 rfl rfl (fun c => ?_) (fun c => ?_)
                · have h := h.1 (c)
                  refine r_goto 41 dX12_endsFrom_237 rfl ?_
                  exact Ex.weak h ⟨rfl, rfl, rfl, rfl, rfl, rfl, rfl, trivial⟩
                · have h := h.2 (c)
                  refine r_aload_n 189 dX12_endsFrom_188 rfl rfl ?_
                  refine r_dup 190 dX12_endsFrom_189 rfl rfl ?_
                  refine g_I 193 dX12_endsFrom_190 rfl rfl rfl fi_12_407 rfl ?_
                  refine r_aload_n 194 dX12_endsFrom_193 rfl rfl ?_
                  refine g_R 197 dX12_endsFrom_194 rfl rfl rfl fr_12_31 (sh_12_8 hS) ?_
                  refine r_aload_n 198 dX12_endsFrom_197 rfl rfl ?_
                  refine r_aload_n 199 dX12_endsFrom_198 rfl rfl ?_
                  refine g_I 202 dX12_endsFrom_199 rfl rfl rfl fi_12_410 rfl ?_
                  refine r_iload 204 dX12_endsFrom_202 rfl rfl ?_
                  obtain ⟨r_37, M_35, hc_36, h⟩ := h
                  refine v_1 (ci := 12) (C := (RX12, TX12, 68)) [vI (M_28.1 3 0 59), vI r_24] [vR (some (55, 0)), vI (M_28.1 3 0 58), vR (some (3, 0))] 207 dX12_endsFrom_204 rfl rfl rfl rfl rfl mo_X12_roadOf ml_12_166 rfl rfl hc_36 ?_
                  obtain ⟨⟨o_38, o_39, o_40, o_41⟩, h⟩ := h
                  refine a_I 16 208 dX12_endsFrom_207 rfl rfl rfl rfl o_38 rfl ?_
                  refine r_iadd 209 dX12_endsFrom_208 rfl o_39 ?_
                  refine p_I 212 dX12_endsFrom_209 rfl rfl rfl rfl pf_12_407 (.inl rfl) rfl ?_
                  refine r_aload_n 213 dX12_endsFrom_212 rfl rfl ?_
                  refine r_iload 215 dX12_endsFrom_213 rfl rfl ?_
                  refine p_I 218 dX12_endsFrom_215 rfl rfl rfl rfl pf_12_410 (.inl rfl) rfl ?_
                  refine r_iload 220 dX12_endsFrom_218 rfl rfl ?_
                  refine r_iconst 221 dX12_endsFrom_220 rfl (InR_of rfl) ?_
                  refine r_iload 223 dX12_endsFrom_221 rfl rfl ?_
                  refine r_ishl 224 dX12_endsFrom_223 rfl o_40 ?_
                  refine r_ior 225 dX12_endsFrom_224 rfl ?_
                  refine r_istore (ls' := [some (vR (some (3, 0))), some (vI x1), some (vI x2), some (vI x3), some (vI x4), some (vI (aOr x5 (aShl 1 r_24))), some (vI (if 999 < ((M_22.1 3 0 58) + (M_28.1 55 0 r_30.toNat)) then 0 else 1 : Int)), some (vI r_5), some (vI r_24)]) 227 dX12_endsFrom_225 rfl rfl rfl rfl ?_
                  refine r_aload_n 228 dX12_endsFrom_227 rfl rfl ?_
                  refine r_dup 229 dX12_endsFrom_228 rfl rfl ?_
                  refine g_I 232 dX12_endsFrom_229 rfl rfl rfl fi_12_413 (mI_0 ((upI_i (by decide)).trans (upI_i (by decide)))) ?_
                  refine r_iconst 233 dX12_endsFrom_232 rfl (InR_of rfl) ?_
                  refine r_iadd 234 dX12_endsFrom_233 rfl o_41 ?_
                  refine p_I 237 dX12_endsFrom_234 rfl rfl rfl rfl pf_12_413 (.inl rfl) rfl ?_
                  refine r_goto 41 dX12_endsFrom_237 rfl ?_
                  exact Ex.weak h ⟨rfl, rfl, rfl, rfl, rfl, rfl, rfl, trivial⟩
              refine r_icmp_gt 176 180 dX12_endsFrom_173 rfl rfl (fun c => ?_) (fun c => ?_)
              · have c_34 := c
                refine r_iconst 181 dX12_endsFrom_180 rfl (InR_of rfl) ?_
                exact (Ex.at hJ_33 rfl (show [vI 0] = [vI (if 999 < ((M_22.1 3 0 58) + (M_28.1 55 0 r_30.toNat)) then 0 else 1 : Int)] by simp only [if_pos c_34]) rfl)
              · have c_34 := c
                refine r_iconst 177 dX12_endsFrom_176 rfl (InR_of rfl) ?_
                refine r_goto 181 dX12_endsFrom_177 rfl ?_
                exact (Ex.at hJ_33 rfl (show [vI 1] = [vI (if 999 < ((M_22.1 3 0 58) + (M_28.1 55 0 r_30.toNat)) then 0 else 1 : Int)] by simp only [if_neg c_34]) rfl)
          refine r_if_ne 117 121 dX12_endsFrom_114 rfl rfl (fun c => ?_) (fun c => ?_)
          · have c_26 := c
            refine r_iload 123 dX12_endsFrom_121 rfl rfl ?_
            refine r_iconst 124 dX12_endsFrom_123 rfl (InR_of rfl) ?_
            refine r_icmp_ne 127 131 dX12_endsFrom_124 rfl rfl (fun c => ?_) (fun c => ?_)
            · have c_27 := c
              refine r_iconst 132 dX12_endsFrom_131 rfl (InR_of rfl) ?_
              exact (Ex.at hJ_25 rfl (show [vI 0, vR (some (3, 0))] = [vI (if r_5 = 0 then 1 else (if r_24 = (-1) then 2 else 0 : Int) : Int), vR (some (3, 0))] by simp only [if_neg c_26, if_neg c_27]) rfl)
            · have c_27 := Decidable.not_not.mp c
              refine r_iconst 128 dX12_endsFrom_127 rfl (InR_of rfl) ?_
              refine r_goto 132 dX12_endsFrom_128 rfl ?_
              exact (Ex.at hJ_25 rfl (show [vI 2, vR (some (3, 0))] = [vI (if r_5 = 0 then 1 else (if r_24 = (-1) then 2 else 0 : Int) : Int), vR (some (3, 0))] by simp only [if_neg c_26, if_pos c_27]) rfl)
          · have c_26 := Decidable.not_not.mp c
            refine r_iconst 118 dX12_endsFrom_117 rfl (InR_of rfl) ?_
            refine r_goto 132 dX12_endsFrom_118 rfl ?_
            exact (Ex.at hJ_25 rfl (show [vI 1, vR (some (3, 0))] = [vI (if r_5 = 0 then 1 else (if r_24 = (-1) then 2 else 0 : Int) : Int), vR (some (3, 0))] by simp only [if_pos c_26]) rfl)
      · have h := h.2 (Decidable.not_not.mp c)
        refine r_aload_n 83 dX12_endsFrom_82 rfl rfl ?_
        refine g_I 86 dX12_endsFrom_83 rfl rfl rfl fi_12_340 rfl ?_
        refine r_goto 109 dX12_endsFrom_86 rfl ?_
        refine r_istore (ls' := [some (vR (some (3, 0))), some (vI x1), some (vI x2), some (vI x3), some (vI x4), some (vI x5), some (vI x6), some (vI r_5), some (vI (M_3.1 3 0 49))]) 111 dX12_endsFrom_109 rfl rfl rfl rfl ?_
        refine r_aload_n 112 dX12_endsFrom_111 rfl rfl ?_
        refine r_iload 114 dX12_endsFrom_112 rfl rfl ?_
        have hJ_42 : Ex l G (d + 1) mX12_endsFrom 132 [some (vR (some (3, 0))), some (vI x1), some (vI x2), some (vI x3), some (vI x4), some (vI x5), some (vI x6), some (vI r_5), some (vI (M_3.1 3 0 49))] [vI (if r_5 = 0 then 1 else (if (M_3.1 3 0 49) = (-1) then 2 else 0 : Int) : Int), vR (some (3, 0))] M_3 r M' := by
          refine p_I 135 dX12_endsFrom_132 rfl rfl rfl rfl pf_12_401 (.inl rfl) rfl ?_
          refine r_aload_n 136 dX12_endsFrom_135 rfl rfl ?_
          refine r_aload_n 137 dX12_endsFrom_136 rfl rfl ?_
          refine g_I 140 dX12_endsFrom_137 rfl rfl rfl fi_12_337 (mI_0 (upI_i (by decide))) ?_
          refine p_I 143 dX12_endsFrom_140 rfl rfl rfl rfl pf_12_404 (.inl rfl) rfl ?_
          refine r_aload_n 144 dX12_endsFrom_143 rfl rfl ?_
          refine g_I 147 dX12_endsFrom_144 rfl rfl rfl fi_12_401 (mI_0 ((upI_i (by decide)).trans (upI_s))) ?_
          refine r_if_ne 150 180 dX12_endsFrom_147 rfl rfl (fun c => ?_) (fun c => ?_)
          · have h := h.1 (c)
            refine r_iconst 181 dX12_endsFrom_180 rfl (InR_of rfl) ?_
            refine r_istore (ls' := [some (vR (some (3, 0))), some (vI x1), some (vI x2), some (vI x3), some (vI x4), some (vI x5), some (vI 0), some (vI r_5), some (vI (M_3.1 3 0 49))]) 183 dX12_endsFrom_181 rfl rfl rfl rfl ?_
            refine r_iload 185 dX12_endsFrom_183 rfl rfl ?_
            refine r_if_eq 188 237 dX12_endsFrom_185 rfl rfl (fun _ => ?_) (fun c => absurd (by decide) c)
            refine r_goto 41 dX12_endsFrom_237 rfl ?_
            exact Ex.weak h ⟨rfl, rfl, rfl, rfl, rfl, rfl, rfl, trivial⟩
          · have h := h.2 (Decidable.not_not.mp c)
            refine r_aload_n 151 dX12_endsFrom_150 rfl rfl ?_
            refine g_I 154 dX12_endsFrom_151 rfl rfl rfl fi_12_407 (mI_0 ((upI_i (by decide)).trans (upI_i (by decide)))) ?_
            refine r_aload_n 155 dX12_endsFrom_154 rfl rfl ?_
            refine g_R 158 dX12_endsFrom_155 rfl rfl rfl fr_12_31 (mR_0 (sh_12_8 hS)) ?_
            refine r_aload_n 159 dX12_endsFrom_158 rfl rfl ?_
            refine r_aload_n 160 dX12_endsFrom_159 rfl rfl ?_
            refine g_I 163 dX12_endsFrom_160 rfl rfl rfl fi_12_410 (mI_0 ((upI_i (by decide)).trans (upI_i (by decide)))) ?_
            refine r_iload 165 dX12_endsFrom_163 rfl rfl ?_
            obtain ⟨r_47, M_45, hc_46, hS, h⟩ := h
            refine v_1 (ci := 12) (C := (RX12, TX12, 68)) [vI (M_3.1 3 0 59), vI (M_3.1 3 0 49)] [vR (some (55, 0)), vI (M_3.1 3 0 58)] 168 dX12_endsFrom_165 rfl rfl rfl rfl rfl mo_X12_roadOf ml_12_166 rfl rfl hc_46 ?_
            obtain ⟨⟨o_48, o_49⟩, h⟩ := h
            refine a_I 16 169 dX12_endsFrom_168 rfl rfl rfl rfl o_48 rfl ?_
            refine r_iadd 170 dX12_endsFrom_169 rfl o_49 ?_
            refine r_sipush 173 dX12_endsFrom_170 rfl rfl ?_
            have hJ_50 : Ex l G (d + 1) mX12_endsFrom 181 [some (vR (some (3, 0))), some (vI x1), some (vI x2), some (vI x3), some (vI x4), some (vI x5), some (vI x6), some (vI r_5), some (vI (M_3.1 3 0 49))] [vI (if 999 < ((M_3.1 3 0 58) + (M_45.1 55 0 r_47.toNat)) then 0 else 1 : Int)] M_45 r M' := by
              refine r_istore (ls' := [some (vR (some (3, 0))), some (vI x1), some (vI x2), some (vI x3), some (vI x4), some (vI x5), some (vI (if 999 < ((M_3.1 3 0 58) + (M_45.1 55 0 r_47.toNat)) then 0 else 1 : Int)), some (vI r_5), some (vI (M_3.1 3 0 49))]) 183 dX12_endsFrom_181 rfl rfl rfl rfl ?_
              refine r_iload 185 dX12_endsFrom_183 rfl rfl ?_
              refine r_if_eq 188 237 dX12_endsFrom_185 rfl rfl (fun c => ?_) (fun c => ?_)
              · have h := h.1 (c)
                refine r_goto 41 dX12_endsFrom_237 rfl ?_
                exact Ex.weak h ⟨rfl, rfl, rfl, rfl, rfl, rfl, rfl, trivial⟩
              · have h := h.2 (c)
                refine r_aload_n 189 dX12_endsFrom_188 rfl rfl ?_
                refine r_dup 190 dX12_endsFrom_189 rfl rfl ?_
                refine g_I 193 dX12_endsFrom_190 rfl rfl rfl fi_12_407 rfl ?_
                refine r_aload_n 194 dX12_endsFrom_193 rfl rfl ?_
                refine g_R 197 dX12_endsFrom_194 rfl rfl rfl fr_12_31 (sh_12_8 hS) ?_
                refine r_aload_n 198 dX12_endsFrom_197 rfl rfl ?_
                refine r_aload_n 199 dX12_endsFrom_198 rfl rfl ?_
                refine g_I 202 dX12_endsFrom_199 rfl rfl rfl fi_12_410 rfl ?_
                refine r_iload 204 dX12_endsFrom_202 rfl rfl ?_
                obtain ⟨r_54, M_52, hc_53, h⟩ := h
                refine v_1 (ci := 12) (C := (RX12, TX12, 68)) [vI (M_45.1 3 0 59), vI (M_3.1 3 0 49)] [vR (some (55, 0)), vI (M_45.1 3 0 58), vR (some (3, 0))] 207 dX12_endsFrom_204 rfl rfl rfl rfl rfl mo_X12_roadOf ml_12_166 rfl rfl hc_53 ?_
                obtain ⟨⟨o_55, o_56, o_57, o_58⟩, h⟩ := h
                refine a_I 16 208 dX12_endsFrom_207 rfl rfl rfl rfl o_55 rfl ?_
                refine r_iadd 209 dX12_endsFrom_208 rfl o_56 ?_
                refine p_I 212 dX12_endsFrom_209 rfl rfl rfl rfl pf_12_407 (.inl rfl) rfl ?_
                refine r_aload_n 213 dX12_endsFrom_212 rfl rfl ?_
                refine r_iload 215 dX12_endsFrom_213 rfl rfl ?_
                refine p_I 218 dX12_endsFrom_215 rfl rfl rfl rfl pf_12_410 (.inl rfl) rfl ?_
                refine r_iload 220 dX12_endsFrom_218 rfl rfl ?_
                refine r_iconst 221 dX12_endsFrom_220 rfl (InR_of rfl) ?_
                refine r_iload 223 dX12_endsFrom_221 rfl rfl ?_
                refine r_ishl 224 dX12_endsFrom_223 rfl o_57 ?_
                refine r_ior 225 dX12_endsFrom_224 rfl ?_
                refine r_istore (ls' := [some (vR (some (3, 0))), some (vI x1), some (vI x2), some (vI x3), some (vI x4), some (vI (aOr x5 (aShl 1 (M_3.1 3 0 49)))), some (vI (if 999 < ((M_3.1 3 0 58) + (M_45.1 55 0 r_47.toNat)) then 0 else 1 : Int)), some (vI r_5), some (vI (M_3.1 3 0 49))]) 227 dX12_endsFrom_225 rfl rfl rfl rfl ?_
                refine r_aload_n 228 dX12_endsFrom_227 rfl rfl ?_
                refine r_dup 229 dX12_endsFrom_228 rfl rfl ?_
                refine g_I 232 dX12_endsFrom_229 rfl rfl rfl fi_12_413 (mI_0 ((upI_i (by decide)).trans (upI_i (by decide)))) ?_
                refine r_iconst 233 dX12_endsFrom_232 rfl (InR_of rfl) ?_
                refine r_iadd 234 dX12_endsFrom_233 rfl o_58 ?_
                refine p_I 237 dX12_endsFrom_234 rfl rfl rfl rfl pf_12_413 (.inl rfl) rfl ?_
                refine r_goto 41 dX12_endsFrom_237 rfl ?_
                exact Ex.weak h ⟨rfl, rfl, rfl, rfl, rfl, rfl, rfl, trivial⟩
            refine r_icmp_gt 176 180 dX12_endsFrom_173 rfl rfl (fun c => ?_) (fun c => ?_)
            · have c_51 := c
              refine r_iconst 181 dX12_endsFrom_180 rfl (InR_of rfl) ?_
              exact (Ex.at hJ_50 rfl (show [vI 0] = [vI (if 999 < ((M_3.1 3 0 58) + (M_45.1 55 0 r_47.toNat)) then 0 else 1 : Int)] by simp only [if_pos c_51]) rfl)
            · have c_51 := c
              refine r_iconst 177 dX12_endsFrom_176 rfl (InR_of rfl) ?_
              refine r_goto 181 dX12_endsFrom_177 rfl ?_
              exact (Ex.at hJ_50 rfl (show [vI 1] = [vI (if 999 < ((M_3.1 3 0 58) + (M_45.1 55 0 r_47.toNat)) then 0 else 1 : Int)] by simp only [if_neg c_51]) rfl)
        refine r_if_ne 117 121 dX12_endsFrom_114 rfl rfl (fun c => ?_) (fun c => ?_)
        · have c_43 := c
          refine r_iload 123 dX12_endsFrom_121 rfl rfl ?_
          refine r_iconst 124 dX12_endsFrom_123 rfl (InR_of rfl) ?_
          refine r_icmp_ne 127 131 dX12_endsFrom_124 rfl rfl (fun c => ?_) (fun c => ?_)
          · have c_44 := c
            refine r_iconst 132 dX12_endsFrom_131 rfl (InR_of rfl) ?_
            exact (Ex.at hJ_42 rfl (show [vI 0, vR (some (3, 0))] = [vI (if r_5 = 0 then 1 else (if (M_3.1 3 0 49) = (-1) then 2 else 0 : Int) : Int), vR (some (3, 0))] by simp only [if_neg c_43, if_neg c_44]) rfl)
          · have c_44 := Decidable.not_not.mp c
            refine r_iconst 128 dX12_endsFrom_127 rfl (InR_of rfl) ?_
            refine r_goto 132 dX12_endsFrom_128 rfl ?_
            exact (Ex.at hJ_42 rfl (show [vI 2, vR (some (3, 0))] = [vI (if r_5 = 0 then 1 else (if (M_3.1 3 0 49) = (-1) then 2 else 0 : Int) : Int), vR (some (3, 0))] by simp only [if_neg c_43, if_pos c_44]) rfl)
        · have c_43 := Decidable.not_not.mp c
          refine r_iconst 118 dX12_endsFrom_117 rfl (InR_of rfl) ?_
          refine r_goto 132 dX12_endsFrom_118 rfl ?_
          exact (Ex.at hJ_42 rfl (show [vI 1, vR (some (3, 0))] = [vI (if r_5 = 0 then 1 else (if (M_3.1 3 0 49) = (-1) then 2 else 0 : Int) : Int), vR (some (3, 0))] by simp only [if_pos c_43]) rfl)

set_option maxRecDepth 4000 in
theorem xX12_endsRight_0 {l : Launch} {G : Gt} {d : Nat} {M M' : Mem} {r : Option Vl} {x1 : Int} {x2 : Int} {x3 : Int} {x4 : Int} {x5 : Int} (h : 
    ∃ (M_1 : Mem), Cl l G d mX12_endsFrom [vR (some (3, 0)), vI x1, vI x2, vI x4, vI x5] M none M_1 ∧ ((((if (M_1.1 3 0 56) = 1 then (if (M_1.1 3 0 57) = x3 then 1 else 0 : Int) else 0 : Int) = 0 ∨ (if (M_1.1 3 0 56) = 1 then (if (M_1.1 3 0 57) = x3 then 1 else 0 : Int) else 0 : Int) = 1)) ∧ r = some (vI (if (M_1.1 3 0 56) = 1 then (if (M_1.1 3 0 57) = x3 then 1 else 0 : Int) else 0 : Int)) ∧ M' = M_1)) : Cl l G (d + 1) mX12_endsRight [vR (some (3, 0)), vI x1, vI x2, vI x3, vI x4, vI x5] M r M' := by
  show Ex l G (d + 1) mX12_endsRight 0 [some (vR (some (3, 0))), some (vI x1), some (vI x2), some (vI x3), some (vI x4), some (vI x5)] [] M r M'
  refine r_aload_n 1 dX12_endsRight_0 rfl rfl ?_
  refine r_iload_n 2 dX12_endsRight_1 rfl rfl ?_
  refine r_iload_n 3 dX12_endsRight_2 rfl rfl ?_
  refine r_iload 5 dX12_endsRight_3 rfl rfl ?_
  refine r_iload 7 dX12_endsRight_5 rfl rfl ?_
  obtain ⟨M_1, hc_2, h⟩ := h
  refine v_0 (ci := 12) (C := (RX12, TX12, 68)) [vI x1, vI x2, vI x4, vI x5] [] 10 dX12_endsRight_7 rfl rfl rfl rfl rfl mo_X12_endsFrom ml_12_420 rfl rfl hc_2 ?_
  refine r_aload_n 11 dX12_endsRight_10 rfl rfl ?_
  refine g_I 14 dX12_endsRight_11 rfl rfl rfl fi_12_401 rfl ?_
  refine r_iconst 15 dX12_endsRight_14 rfl (InR_of rfl) ?_
  have hJ_3 : Ex l G (d + 1) mX12_endsRight 31 [some (vR (some (3, 0))), some (vI x1), some (vI x2), some (vI x3), some (vI x4), some (vI x5)] [vI (if (M_1.1 3 0 56) = 1 then (if (M_1.1 3 0 57) = x3 then 1 else 0 : Int) else 0 : Int)] M_1 r M' := by
    obtain ⟨o_6, h⟩ := h
    exact r_iret dX12_endsRight_31 rfl (.inr ⟨rfl, o_6⟩) h.1 h.2
  refine r_icmp_ne 18 30 dX12_endsRight_15 rfl rfl (fun c => ?_) (fun c => ?_)
  · have c_4 := c
    refine r_iconst 31 dX12_endsRight_30 rfl (InR_of rfl) ?_
    exact (Ex.at hJ_3 rfl (show [vI 0] = [vI (if (M_1.1 3 0 56) = 1 then (if (M_1.1 3 0 57) = x3 then 1 else 0 : Int) else 0 : Int)] by simp only [if_neg c_4]) rfl)
  · have c_4 := Decidable.not_not.mp c
    refine r_aload_n 19 dX12_endsRight_18 rfl rfl ?_
    refine g_I 22 dX12_endsRight_19 rfl rfl rfl fi_12_404 rfl ?_
    refine r_iload_n 23 dX12_endsRight_22 rfl rfl ?_
    refine r_icmp_ne 26 30 dX12_endsRight_23 rfl rfl (fun c => ?_) (fun c => ?_)
    · have c_5 := c
      refine r_iconst 31 dX12_endsRight_30 rfl (InR_of rfl) ?_
      exact (Ex.at hJ_3 rfl (show [vI 0] = [vI (if (M_1.1 3 0 56) = 1 then (if (M_1.1 3 0 57) = x3 then 1 else 0 : Int) else 0 : Int)] by simp only [if_pos c_4, if_neg c_5]) rfl)
    · have c_5 := Decidable.not_not.mp c
      refine r_iconst 27 dX12_endsRight_26 rfl (InR_of rfl) ?_
      refine r_goto 31 dX12_endsRight_27 rfl ?_
      exact (Ex.at hJ_3 rfl (show [vI 1] = [vI (if (M_1.1 3 0 56) = 1 then (if (M_1.1 3 0 57) = x3 then 1 else 0 : Int) else 0 : Int)] by simp only [if_pos c_4, if_pos c_5]) rfl)

def frU (I I' : IM) : Prop := ∀ f k i, ¬ ((f = 71 ∨ f = 72 ∨ f = 73 ∨ f = 82 ∨ f = 75 ∨ (f = 3 ∧ (i = 48 ∨ i = 49 ∨ i = 50))) ∧ k = 0) → I' f k i = I f k i
theorem frU.m {I I' : IM} (h : frU I I') : frM I I' := fun f k i hn => h f k i fun c => hn (by unfold scr; omega)
theorem frM.md {I : IM} {j : Nat} {v : Int} (h : ¬ j = 29 ∧ ¬ j = 33 ∧ ¬ j = 0) : frM I (upI I 3 0 j v) := fun f' k i hn => by
  by_cases e : f' = 3 ∧ k = 0
  · obtain ⟨rfl, rfl⟩ := e
    rw [upI_i (fun e => hn (by unfold scr; omega))]
  · rw [upI_o e]
theorem Laid.md {Q : QT} {I : IM} {row n j : Nat} {v : Int} (h : Laid Q I row n) : Laid Q (upI I 3 0 j v) row n := by
  refine ⟨fun p hp => ?_, fun p t hp ht => ?_, fun p hp => ?_⟩
  · rw [upI_f rfl]; exact h.1 p hp
  · rw [upI_f rfl]; exact h.2.1 p t hp ht
  · rw [upI_f rfl]; exact h.2.2 p hp
/-- as frM, and what is found stays -/
def frE (I I' : IM) : Prop := ∀ f k i, ¬ ((scr f i ∧ ¬ (f = 3 ∧ 61 ≤ i)) ∧ k = 0) → I' f k i = I f k i
theorem frE.rf {I : IM} : frE I I := fun _ _ _ _ => rfl
theorem frE.tr {I I' I'' : IM} (h : frE I I') (h' : frE I' I'') : frE I I'' := fun f k i hn => (h' f k i hn).trans (h f k i hn)
theorem frE.m {I I' : IM} (h : frE I I') : frM I I' := fun f k i hn => h f k i fun c => hn ⟨c.1.1, c.2⟩
theorem frU.e {I I' : IM} (h : frU I I') : frE I I' := fun f k i hn => h f k i fun c => hn (by unfold scr; omega)
theorem frE.ll {I I' : IM} {row : Nat} (h : sameL row I I') : frE I I' := fun f k i hn => h f k i fun c => hn (by unfold scr; omega)
theorem frE.md {I : IM} {j : Nat} {v : Int} (h : ¬ j = 29 ∧ ¬ j = 33 ∧ ¬ j = 0 ∧ j < 61) : frE I (upI I 3 0 j v) := fun f' k i hn => by
  by_cases e : f' = 3 ∧ k = 0
  · obtain ⟨rfl, rfl⟩ := e
    rw [upI_i (fun e => hn (by unfold scr; omega))]
  · rw [upI_o e]
def EndP (E : Nat → Int) (I : IM) : Prop := I 3 0 56 = E 5 ∧ I 3 0 57 = E 8 ∧ I 3 0 58 = E 7 ∧ I 3 0 59 = E 6 ∧ I 3 0 60 = E 10
section EN
variable {l : Launch} {G : Gt} {d : Nat} {Q : QT} {M : Mem}
theorem ref_ask {I : IM} {R : RM} {C : Ct} {cv : Nat} {L : Nat → Int} (hS : Sh R) (hq : WFQ Q) (hH : HoldsM Q I) (hL0 : Laid Q I 0 (dn Q (L 4))) (hL : WL Q L) (hcv : cv < nCv Q) : ∃ I1 I3 res, Cl l G (d + 3) mX12_lays [vR (some (3, 0)), vI 1, vI (L 7)] (I, R, C) none (I1, R, C) ∧ Cl l G (d + 3) mX12_asks [vR (some (3, 0)), vI (cv : Int), vI (L 1), vI (L 6)] (I1, R, C) (some (vI res)) (I3, R, C) ∧ frU I I1 ∧ frU I I3 ∧ Laid Q I3 0 (dn Q (L 4)) ∧ AskP (ask1 Q cv (L 1).toNat (L 4) (L 7) (L 6).toNat) res I3 := by
  have h12 := nPp_le hq.1
  have g1 := hL.1
  have g6 := hL.2.1
  have hc8 : cv < 8 := by have := hq.2.2.2.2.1; unfold nCv at hcv; omega
  obtain ⟨I1, c1, s1, L1⟩ := KX12_lays (l := l) (G := G) (d := d + 1) (M := (I, R, C)) (row := 1) (x2 := L 7) hS hq.1 hH.1 (by omega)
  have hH1 := hH.fr (frM.ll s1)
  have L0 := Laid.same (row' := 1) hL0 (by omega) (by omega) (by omega) s1
  obtain ⟨I3, res, c3, f3, a3⟩ := KX12_asks (l := l) (G := G) (d := d) (M := (I1, R, C)) (n := nD Q cv (L 4) (L 7)) (cv := cv) (s := (L 1).toNat) (place := (L 6).toNat) hS hq.1 hq.2.1 hq.2.2.1 hq.2.2.2.1 (dn_le Q (L 4)) (dn_le Q (L 7)) rfl hH1 L0 L1 hc8 (hq.2.2.2.2.2 cv hcv) (by omega) (by omega)
  rw [show (((L 1).toNat : Nat) : Int) = L 1 by omega, show (((L 6).toNat : Nat) : Int) = L 6 by omega] at c3
  have f1 : frU I I1 := fun f k i hn => s1 f k i (by omega)
  exact ⟨I1, I3, res, c1, c3, f1, fun f k i hn => (f3 f k i (by omega)).trans (f1 f k i hn), L0.fr3 f3, a3⟩
theorem ends_41 {cv : Nat} {x3 x4 sent : Int} (hS : Sh M.2.1) (hq : WFQ Q) (hcv : cv < nCv Q) : ∀ n : Nat, n ≤ 100 → ∀ (I : IM) (L : Nat → Int), HoldsM Q I → Laid Q I 0 (dn Q sent) → L 4 = sent → WL Q L → L 7 ≤ 999 → L 5 = 0 → L 8 = -1 → L 10 = 100 - (n : Int) → EndP L I → ∃ I', Ex l G (d + 4) mX12_endsFrom 41 [some (vR (some (3, 0))), some (vI (L 1)), some (vI (cv : Int)), some (vI x3), some (vI x4), some (vI (L 9)), some (vI 1), none, none] [] (I, M.2.1, M.2.2) none (I', M.2.1, M.2.2) ∧ frE I I' ∧ EndP (endL Q cv n L) I' := by
  intro n
  induction n with
  | zero =>
    intro _ I L hH h0 h4 hL h9 l5 l8 l10 he
    refine ⟨I, xX12_endsFrom_41 ⟨fun c => by omega, fun _ => ⟨fun _ => ⟨rfl, rfl⟩, fun c => absurd ?_ c⟩⟩, frE.rf, he⟩
    have := he.2.2.2.2
    dsimp only
    omega
  | succ n ih =>
    intro hn I L hH h0 h4 hL h9 l5 l8 l10 he
    obtain ⟨i56, i57, i58, i59, i60⟩ := he
    obtain ⟨I1, I3, res, c1, c3, f1, f3, L3, a3⟩ := ref_ask (l := l) (G := G) (d := d) (cv := cv) (R := M.2.1) (C := M.2.2) hS hq hH (by rw [h4]; exact h0) hL hcv
    have H3 := hH.fr f3.m
    have e58 : I3 3 0 58 = L 7 := by rw [f3 _ _ _ (by omega)]; exact i58
    have e59 : I3 3 0 59 = L 6 := by rw [f3 _ _ _ (by omega)]; exact i59
    have e60 : I3 3 0 60 = L 10 := by rw [f3 _ _ _ (by omega)]; exact i60
    have k1 : Cl l G (d + 3) mX12_lays [vR (some (3, 0)), vI 1, vI (I 3 0 58)] (I, M.2.1, M.2.2) none (I1, M.2.1, M.2.2) := by rw [i58]; exact c1
    have k3 : Cl l G (d + 3) mX12_asks [vR (some (3, 0)), vI (cv : Int), vI (L 1), vI (I1 3 0 59)] (I1, M.2.1, M.2.2) (some (vI res)) (I3, M.2.1, M.2.2) := by rw [f1 _ _ _ (by omega), i59]; exact c3
    have eE : endL Q cv (n + 1) L = if (stpL Q cv L).1 = 0 ∧ L 7 + rd Q (L 6) (stpL Q cv L).2 ≤ 999 then endL Q cv n (goL Q (stpL Q cv L).2 (askL (stpL Q cv L) (bI 12 (akL Q cv L)) L)) else askL (stpL Q cv L) (bI 12 (akL Q cv L)) L := rfl
    have stop : ∀ (a b : Int), (a = if (stpL Q cv L).1 = 0 then 0 else (stpL Q cv L).1) → (b = if (stpL Q cv L).1 = 1 then (stpL Q cv L).2 else -1) → ¬ ((stpL Q cv L).1 = 0 ∧ L 7 + rd Q (L 6) (stpL Q cv L).2 ≤ 999) → Ex l G (d + 4) mX12_endsFrom 41 [some (vR (some (3, 0))), some (vI (L 1)), some (vI (cv : Int)), some (vI x3), some (vI x4), some (vI (L 9)), some (vI 0), none, none] [] (upI (upI I3 3 0 56 a) 3 0 57 b, M.2.1, M.2.2) none (upI (upI I3 3 0 56 a) 3 0 57 b, M.2.1, M.2.2) ∧ frE I (upI (upI I3 3 0 56 a) 3 0 57 b) ∧ EndP (endL Q cv (n + 1) L) (upI (upI I3 3 0 56 a) 3 0 57 b) := by
      intro a b ha hb hc
      refine ⟨xX12_endsFrom_41 ⟨fun _ => ⟨rfl, rfl⟩, fun c => absurd rfl c⟩, (f3.e.tr (frE.md (by omega))).tr (frE.md (by omega)), ?_⟩
      rw [eE, if_neg hc]
      refine ⟨?_, ?_, ?_, ?_, ?_⟩
      · rw [upI_i (by omega), upI_s, ha]
        show _ = if (stpL Q cv L).1 = 0 then L 5 else (stpL Q cv L).1
        rw [l5]
      · rw [upI_s, hb]
        show _ = if (stpL Q cv L).1 = 1 then (stpL Q cv L).2 else L 8
        rw [l8]
      · rw [upI_i (by omega), upI_i (by omega)]; exact e58
      · rw [upI_i (by omega), upI_i (by omega)]; exact e59
      · rw [upI_i (by omega), upI_i (by omega)]; exact e60
    have step : ∀ (to : Int) (v : Nat), to = (v : Int) → v < 8 → stpL Q cv L = (0, (v : Int)) → 1 ≤ rd Q (L 6) v → I3 3 0 48 = -1 → ∃ I', ((¬ ((0 : Int) = 0) → Ex l G (d + 4) mX12_endsFrom 41 [some (vR (some (3, 0))), some (vI (L 1)), some (vI (cv : Int)), some (vI x3), some (vI x4), some (vI (L 9)), some (vI 0), none, none] [] (upI (upI I3 3 0 56 0) 3 0 57 (I3 3 0 48), M.2.1, M.2.2) none (I', M.2.1, M.2.2)) ∧ ((0 : Int) = 0 → ∃ (r_30 : Int) (M_28 : Mem), Cl l G (d + 3) mX12_roadOf [vR (some (3, 0)), vI (I3 3 0 59), vI to] (upI (upI I3 3 0 56 0) 3 0 57 (I3 3 0 48), M.2.1, M.2.2) (some (vI r_30)) M_28 ∧ Sh M_28.2.1 ∧ (((0 ≤ r_30 ∧ r_30 < 16) ∧ InR ((I3 3 0 58) + (M_28.1 55 0 r_30.toNat))) ∧ (((if 999 < ((I3 3 0 58) + (M_28.1 55 0 r_30.toNat)) then 0 else 1 : Int) = 0 → Ex l G (d + 4) mX12_endsFrom 41 [some (vR (some (3, 0))), some (vI (L 1)), some (vI (cv : Int)), some (vI x3), some (vI x4), some (vI (L 9)), some (vI (if 999 < ((I3 3 0 58) + (M_28.1 55 0 r_30.toNat)) then 0 else 1 : Int)), none, none] [] M_28 none (I', M.2.1, M.2.2)) ∧ (¬ ((if 999 < ((I3 3 0 58) + (M_28.1 55 0 r_30.toNat)) then 0 else 1 : Int) = 0) → ∃ (r_37 : Int) (M_35 : Mem), Cl l G (d + 3) mX12_roadOf [vR (some (3, 0)), vI (M_28.1 3 0 59), vI to] M_28 (some (vI r_37)) M_35 ∧ ((0 ≤ r_37 ∧ r_37 < 16) ∧ InR ((M_28.1 3 0 58) + (M_35.1 55 0 r_37.toNat)) ∧ (0 ≤ to ∧ to < 32) ∧ InR ((M_35.1 3 0 60) + 1)) ∧ Ex l G (d + 4) mX12_endsFrom 41 [some (vR (some (3, 0))), some (vI (L 1)), some (vI (cv : Int)), some (vI x3), some (vI x4), some (vI (aOr (L 9) (aShl 1 to))), some (vI (if 999 < ((I3 3 0 58) + (M_28.1 55 0 r_30.toNat)) then 0 else 1 : Int)), none, none] [] ((upI (upI (upI M_35.1 3 0 58 ((M_28.1 3 0 58) + (M_35.1 55 0 r_37.toNat))) 3 0 59 to) 3 0 60 ((M_35.1 3 0 60) + 1)), M_35.2.1, M_35.2.2) none (I', M.2.1, M.2.2)))))) ∧ frE I I' ∧ EndP (endL Q cv (n + 1) L) I' := by
      intro to v hto hv eS hr1 i48
      subst hto
      have hr9 := rd_in hq.2.1 (L 6) (v : Int)
      have g7 := hL.2.2.2.1
      have fJ : frE I (upI (upI I3 3 0 56 0) 3 0 57 (I3 3 0 48)) := (f3.e.tr (frE.md (by omega))).tr (frE.md (by omega))
      have HJ := hH.fr fJ.m
      have rJ := KX12_roadOf (l := l) (G := G) (d := d + 3) (M := (upI (upI I3 3 0 56 0) 3 0 57 (I3 3 0 48), M.2.1, M.2.2)) (a := L 6) (b := (v : Int)) hS hq.2.1 HJ.2.2.1
      rcases ro_or hq.2.1 (L 6) (v : Int) with ⟨_, q⟩ | ⟨j, q1, q2, q3, _⟩
      · omega
      rw [q2] at rJ
      have rJ' : Cl l G (d + 3) mX12_roadOf [vR (some (3, 0)), vI (I3 3 0 59), vI (v : Int)] (upI (upI I3 3 0 56 0) 3 0 57 (I3 3 0 48), M.2.1, M.2.2) (some (vI (j : Int))) (upI (upI I3 3 0 56 0) 3 0 57 (I3 3 0 48), M.2.1, M.2.2) := by rw [e59]; exact rJ
      have eR : (upI (upI I3 3 0 56 0) 3 0 57 (I3 3 0 48)) 55 0 (j : Int).toNat = rd Q (L 6) v := by rw [Int.toNat_natCast, q3]; exact HJ.2.2.1 _ j (by omega)
      have j58 : (upI (upI I3 3 0 56 0) 3 0 57 (I3 3 0 48)) 3 0 58 = L 7 := by rw [upI_i (by omega), upI_i (by omega)]; exact e58
      have j59 : (upI (upI I3 3 0 56 0) 3 0 57 (I3 3 0 48)) 3 0 59 = L 6 := by rw [upI_i (by omega), upI_i (by omega)]; exact e59
      have j60 : (upI (upI I3 3 0 56 0) 3 0 57 (I3 3 0 48)) 3 0 60 = L 10 := by rw [upI_i (by omega), upI_i (by omega)]; exact e60
      by_cases c : 999 < L 7 + rd Q (L 6) v
      · obtain ⟨x1, x2, x3⟩ := stop 0 (I3 3 0 48) (by rw [eS]; rfl) (by rw [eS, i48]; rfl) (by rw [eS]; dsimp only; omega)
        refine ⟨_, ⟨fun c2 => absurd rfl c2, fun _ => ⟨_, _, rJ', hS, ?_⟩⟩, x2, x3⟩
        dsimp only
        rw [if_pos (show 999 < I3 3 0 58 + (upI (upI I3 3 0 56 0) 3 0 57 (I3 3 0 48)) 55 0 (j : Int).toNat by rw [eR, e58]; exact c)]
        exact ⟨⟨by omega, by unfold InR; omega⟩, fun _ => x1, fun c2 => absurd rfl c2⟩
      · have hLa := hL.ask (stpL Q cv L) (bI 12 (akL Q cv L))
        have fK : frE I (upI (upI (upI (upI (upI I3 3 0 56 0) 3 0 57 (I3 3 0 48)) 3 0 58 (L 7 + rd Q (L 6) v)) 3 0 59 (v : Int)) 3 0 60 (L 10 + 1)) := ((fJ.tr (frE.md (by omega))).tr (frE.md (by omega))).tr (frE.md (by omega))
        obtain ⟨I', x1, x2, x3⟩ := ih (by omega) (upI (upI (upI (upI (upI I3 3 0 56 0) 3 0 57 (I3 3 0 48)) 3 0 58 (L 7 + rd Q (L 6) v)) 3 0 59 (v : Int)) 3 0 60 (L 10 + 1)) (goL Q (v : Int) (askL (stpL Q cv L) (bI 12 (akL Q cv L)) L)) (hH.fr fK.m) ((((((h4 ▸ L3 : Laid Q I3 0 (dn Q sent)).md).md).md).md).md) h4 (hLa.go hq hv hr1 (by show L 7 ≤ 1990; omega)) (by show L 7 + rd Q (L 6) v ≤ 999; omega) (by show (if (stpL Q cv L).1 = 0 then L 5 else (stpL Q cv L).1) = 0; rw [eS, l5]; rfl) (by show (if (stpL Q cv L).1 = 1 then (stpL Q cv L).2 else L 8) = -1; rw [eS, l8]; rfl) (by show L 10 + 1 = _; omega) (by
          refine ⟨?_, ?_, ?_, ?_, ?_⟩
          · rw [upI_i (by omega), upI_i (by omega), upI_i (by omega), upI_i (by omega), upI_s]
            show 0 = if (stpL Q cv L).1 = 0 then L 5 else (stpL Q cv L).1
            rw [eS, l5]; rfl
          · rw [upI_i (by omega), upI_i (by omega), upI_i (by omega), upI_s, i48]
            show -1 = if (stpL Q cv L).1 = 1 then (stpL Q cv L).2 else L 8
            rw [eS, l8]; rfl
          · rw [upI_i (by omega), upI_i (by omega), upI_s]; rfl
          · rw [upI_i (by omega), upI_s]; rfl
          · rw [upI_s]; rfl)
        refine ⟨I', ⟨fun c2 => absurd rfl c2, fun _ => ⟨_, _, rJ', hS, ?_⟩⟩, fK.tr x2, ?_⟩
        · dsimp only
          rw [if_neg (show ¬ 999 < I3 3 0 58 + (upI (upI I3 3 0 56 0) 3 0 57 (I3 3 0 48)) 55 0 (j : Int).toNat by rw [eR, e58]; exact c)]
          refine ⟨⟨by omega, by unfold InR; omega⟩, fun c2 => absurd c2 (by omega), fun _ => ⟨_, _, by rw [j59]; exact rJ, ?_⟩⟩
          dsimp only
          rw [eR, j58, j60]
          exact ⟨⟨by omega, by unfold InR; omega, by omega, by unfold InR; omega⟩, x1⟩
        · rw [eE, if_pos ⟨by rw [eS], by rw [eS]; dsimp only; omega⟩, show (stpL Q cv L).2 = (v : Int) by rw [eS]]
          exact x3
    have hlt : ¬ (100 ≤ I 3 0 60) := by omega
    rcases ask1_or (cv := cv) (s := (L 1).toNat) (place := (L 6).toNat) (sent := L 4) (day := L 7) hq with e | ⟨r, h, x, e, _, ⟨rfl, v, h1, rfl⟩ | ⟨rfl, v, h1, rfl, h3⟩⟩
    · rw [e] at a3
      obtain ⟨q1, q2, q3, q4⟩ := a3
      have eS : stpL Q cv L = if unsF Q (L 6).toNat (lw L) 8 = -1 then (2, -1) else (0, unsF Q (L 6).toNat (lw L) 8) := by unfold stpL stp; rw [e]
      have g6 := hL.2.1
      have nn := KX12_unseen (l := l) (G := G) (d := d + 2) (M := (I3, M.2.1, M.2.2)) (a := (L 6).toNat) (w := lw L) hS hq.2.1 H3.2.2.1
      rw [show (((L 6).toNat : Nat) : Int) = L 6 by omega] at nn
      have nn' : Cl l G (d + 3) mX12_unseen [vR (some (3, 0)), vI (I3 3 0 59), vI (L 9)] (I3, M.2.1, M.2.2) (some (vI (unsF Q (L 6).toNat (lw L) 8))) (I3, M.2.1, M.2.2) := by rw [e59, hL.2.2.1]; exact nn
      have r0 : ¬ res = 0 := by omega
      rcases unsF_or Q (L 6).toNat (lw L) 8 with u | ⟨v, u1, u2, u3⟩
      · rw [if_pos u] at eS
        obtain ⟨x1, x2, x3⟩ := stop 2 (I3 3 0 48) (by rw [eS]; rfl) (by rw [eS, q4]; rfl) (by rw [eS]; dsimp only; omega)
        refine ⟨_, xX12_endsFrom_41 ⟨fun c => by omega, fun _ => ⟨fun c => absurd c hlt, fun _ => ⟨_, k1, _, _, k3, hS, fun _ => ⟨fun c => absurd q1 c, fun _ => ⟨_, _, nn', hS, ?_⟩⟩, fun c => by omega⟩⟩⟩, x2, x3⟩
        rw [if_neg r0, if_pos u]
        exact ⟨fun _ => x1, fun c => by omega⟩
      · rw [if_neg (by omega), u2] at eS
        obtain ⟨I', x1, x2⟩ := step _ v u2 u1 eS (by rw [show (((L 6).toNat : Nat) : Int) = L 6 by omega] at u3; have := rd_in hq.2.1 (L 6) (v : Int); omega) q4
        refine ⟨I', xX12_endsFrom_41 ⟨fun c => by omega, fun _ => ⟨fun c => absurd c hlt, fun _ => ⟨_, k1, _, _, k3, hS, fun _ => ⟨fun c => absurd q1 c, fun _ => ⟨_, _, nn', hS, ?_⟩⟩, fun c => by omega⟩⟩⟩, x2⟩
        rw [if_neg r0, if_neg (show ¬ unsF Q (L 6).toNat (lw L) 8 = -1 by omega)]
        exact x1
    · rw [e] at a3
      obtain ⟨q1, q2, q3⟩ := a3
      have eS : stpL Q cv L = (1, (v : Int)) := by unfold stpL stp; rw [e]; rfl
      have q4 : I3 3 0 48 = (v : Int) := by
        rcases q3 with q | q
        · exact q.2
        · omega
      obtain ⟨x1, x2, x3⟩ := stop 1 (I3 3 0 48) (by rw [eS]; rfl) (by rw [eS, q4]; rfl) (by rw [eS]; dsimp only; omega)
      refine ⟨_, xX12_endsFrom_41 ⟨fun c => by omega, fun _ => ⟨fun c => absurd c hlt, fun _ => ⟨_, k1, _, _, k3, hS, fun _ => ⟨fun _ => ?_, fun c => by omega⟩, fun c => by omega⟩⟩⟩, x2, x3⟩
      rw [if_pos q1]
      exact ⟨fun _ => x1, fun c => by omega⟩
    · rw [e] at a3
      obtain ⟨q1, q2, q3⟩ := a3
      have eS : stpL Q cv L = (0, (v : Int)) := by unfold stpL stp; rw [e]; rfl
      have q4 : I3 3 0 49 = (v : Int) ∧ I3 3 0 48 = -1 := by
        rcases q3 with q | q
        · omega
        · exact q.2
      have g6 := hL.2.1
      obtain ⟨I', x1, x2⟩ := step _ v q4.1 h1 eS (by rw [show (((L 6).toNat : Nat) : Int) = L 6 by omega] at h3; have := rd_in hq.2.1 (L 6) (v : Int); omega) q4.2
      refine ⟨I', xX12_endsFrom_41 ⟨fun c => by omega, fun _ => ⟨fun c => absurd c hlt, fun _ => ⟨_, k1, _, _, k3, hS, fun c => absurd q1 c, fun _ => ?_⟩⟩⟩, x2⟩
      dsimp only
      rw [if_neg (show ¬ res = 0 by omega), if_neg (show ¬ I3 3 0 49 = -1 by omega)]
      exact x1
end EN
