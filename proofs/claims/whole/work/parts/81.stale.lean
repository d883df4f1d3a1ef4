/-! stale, alone, tellers, lied -/
set_option maxRecDepth 4000 in
theorem xX12_stale_0 {l : Launch} {G : Gt} {d : Nat} {M M' : Mem} {r : Option Vl} {x1 : Int} {x2 : Int} {x3 : Int} {x4 : Int} (hS : Sh M.2.1) (h : 
    (InR ((M.1 3 0 33) - 1)) ∧ ((¬ (0 ≤ x1 ∧ x1 < (M.1 3 0 33)) → r = some (vI (-1)) ∧ M' = M) ∧ (0 ≤ x1 ∧ x1 < (M.1 3 0 33) → (InR ((M.1 48 0 0) - 1)) ∧ ((¬ (0 ≤ x2 ∧ x2 < (M.1 48 0 0)) → r = some (vI (-1)) ∧ M' = M) ∧ (0 ≤ x2 ∧ x2 < (M.1 48 0 0) → (InR ((M.1 48 0 0) - 1)) ∧ ((¬ (0 ≤ x3 ∧ x3 < (M.1 48 0 0)) → r = some (vI (-1)) ∧ M' = M) ∧ (0 ≤ x3 ∧ x3 < (M.1 48 0 0) → (0 ≤ x4 ∧ x4 ≤ 999 → ∃ (M_4 : Mem), Cl l G (d + 1) mX12_lays [vR (some (3, 0)), vI 0, vI x4] M none M_4 ∧ Ex l G (d + 2) mX12_stale 45 [some (vR (some (3, 0))), some (vI x1), some (vI x2), some (vI x3), some (vI x4), some (vI x4)] [] M_4 r M') ∧ (¬ (0 ≤ x4 ∧ x4 ≤ 999) → r = some (vI (-1)) ∧ M' = M)))))))) : Cl l G (d + 2) mX12_stale [vR (some (3, 0)), vI x1, vI x2, vI x3, vI x4] M r M' := by
  show Ex l G (d + 2) mX12_stale 0 [some (vR (some (3, 0))), some (vI x1), some (vI x2), some (vI x3), some (vI x4), none] [] M r M'
  obtain ⟨o_1, h⟩ := h
  refine r_aload_n 1 dX12_stale_0 rfl rfl ?_
  refine r_iload_n 2 dX12_stale_1 rfl rfl ?_
  refine v_1 (ci := 12) (C := (RX12, TX12, 68)) [vI x1] [] 5 dX12_stale_2 rfl rfl rfl rfl rfl mo_X12_isCover ml_12_331 rfl rfl (KX12_isCover o_1) ?_
  refine r_if_eq 8 32 dX12_stale_5 rfl rfl (fun c => ?_) (fun c => ?_)
  · have h := h.1 (b2_0.mp c)
    refine r_iconst 33 dX12_stale_32 rfl (InR_of rfl) ?_
    exact r_iret dX12_stale_33 rfl (.inl rfl) h.1 h.2
  · have h := h.2 (b2_1.mp c)
    obtain ⟨o_2, h⟩ := h
    refine r_aload_n 9 dX12_stale_8 rfl rfl ?_
    refine r_iload_n 10 dX12_stale_9 rfl rfl ?_
    refine v_1 (ci := 12) (C := (RX12, TX12, 68)) [vI x2] [] 13 dX12_stale_10 rfl rfl rfl rfl rfl mo_X12_isPerson ml_12_175 rfl rfl (KX12_isPerson hS o_2) ?_
    refine r_if_eq 16 32 dX12_stale_13 rfl rfl (fun c => ?_) (fun c => ?_)
    · have h := h.1 (b2_0.mp c)
      refine r_iconst 33 dX12_stale_32 rfl (InR_of rfl) ?_
      exact r_iret dX12_stale_33 rfl (.inl rfl) h.1 h.2
    · have h := h.2 (b2_1.mp c)
      obtain ⟨o_3, h⟩ := h
      refine r_aload_n 17 dX12_stale_16 rfl rfl ?_
      refine r_iload_n 18 dX12_stale_17 rfl rfl ?_
      refine v_1 (ci := 12) (C := (RX12, TX12, 68)) [vI x3] [] 21 dX12_stale_18 rfl rfl rfl rfl rfl mo_X12_isPerson ml_12_175 rfl rfl (KX12_isPerson hS o_3) ?_
      refine r_if_eq 24 32 dX12_stale_21 rfl rfl (fun c => ?_) (fun c => ?_)
      · have h := h.1 (b2_0.mp c)
        refine r_iconst 33 dX12_stale_32 rfl (InR_of rfl) ?_
        exact r_iret dX12_stale_33 rfl (.inl rfl) h.1 h.2
      · have h := h.2 (b2_1.mp c)
        refine r_iload 26 dX12_stale_24 rfl rfl ?_
        refine c_1 [vI x4] [] 29 dX12_stale_26 rfl rfl mo_X12_isDay ml_12_170 rfl rfl (KX12_isDay) ?_
        refine r_if_ne 32 34 dX12_stale_29 rfl rfl (fun c => ?_) (fun c => ?_)
        · have h := h.1 (b2_1.mp c)
          refine r_aload_n 35 dX12_stale_34 rfl rfl ?_
          refine r_iconst 36 dX12_stale_35 rfl (InR_of rfl) ?_
          refine r_iload 38 dX12_stale_36 rfl rfl ?_
          obtain ⟨M_4, hc_5, h⟩ := h
          refine v_0 (ci := 12) (C := (RX12, TX12, 68)) [vI 0, vI x4] [] 41 dX12_stale_38 rfl rfl rfl rfl rfl mo_X12_lays ml_12_198 rfl rfl hc_5 ?_
          refine r_iload 43 dX12_stale_41 rfl rfl ?_
          refine r_istore (ls' := [some (vR (some (3, 0))), some (vI x1), some (vI x2), some (vI x3), some (vI x4), some (vI x4)]) 45 dX12_stale_43 rfl rfl rfl rfl ?_
          exact h
        · have h := h.2 (b2_0.mp (Decidable.not_not.mp c))
          refine r_iconst 33 dX12_stale_32 rfl (InR_of rfl) ?_
          exact r_iret dX12_stale_33 rfl (.inl rfl) h.1 h.2
set_option maxRecDepth 4000 in
theorem xX12_stale_45 {l : Launch} {G : Gt} {d : Nat} {M M' : Mem} {r : Option Vl} {x1 : Int} {x2 : Int} {x3 : Int} {x4 : Int} {x5 : Int} (h : 
    (InR (x4 + 99)) ∧ (((x4 + 99) < x5 → r = some (vI (-2)) ∧ M' = M) ∧ (¬ ((x4 + 99) < x5) → (999 < x5 → r = some (vI (-2)) ∧ M' = M) ∧ (¬ (999 < x5) → ∃ (M_2 : Mem), Cl l G (d + 1) mX12_lays [vR (some (3, 0)), vI 1, vI x5] M none M_2 ∧ (∃ (r_6 : Int) (M_4 : Mem), Cl l G (d + 1) mX12_fitting [vR (some (3, 0)), vI x1, vI x2, vI (-1)] M_2 (some (vI r_6)) M_4 ∧ (((0 ≤ x3 ∧ x3 < 32)) ∧ ((r_6 = (aShl 1 x3) → (InR (x5 + 1)) ∧ Ex l G (d + 2) mX12_stale 45 [some (vR (some (3, 0))), some (vI x1), some (vI x2), some (vI x3), some (vI x4), some (vI (x5 + 1))] [] M_4 r M') ∧ (¬ (r_6 = (aShl 1 x3)) → r = some (vI x5) ∧ M' = M_4)))))))) : Ex l G (d + 2) mX12_stale 45 [some (vR (some (3, 0))), some (vI x1), some (vI x2), some (vI x3), some (vI x4), some (vI x5)] [] M r M' := by
  obtain ⟨o_1, h⟩ := h
  refine r_iload 47 dX12_stale_45 rfl rfl ?_
  refine r_iload 49 dX12_stale_47 rfl rfl ?_
  refine r_bipush 51 dX12_stale_49 rfl rfl ?_
  refine r_iadd 52 dX12_stale_51 rfl o_1 ?_
  refine r_icmp_gt 55 92 dX12_stale_52 rfl rfl (fun c => ?_) (fun c => ?_)
  · have h := h.1 (c)
    refine r_bipush 94 dX12_stale_92 rfl rfl ?_
    exact r_iret dX12_stale_94 rfl (.inl rfl) h.1 h.2
  · have h := h.2 (c)
    refine r_iload 57 dX12_stale_55 rfl rfl ?_
    refine r_sipush 60 dX12_stale_57 rfl rfl ?_
    refine r_icmp_gt 63 92 dX12_stale_60 rfl rfl (fun c => ?_) (fun c => ?_)
    · have h := h.1 (c)
      refine r_bipush 94 dX12_stale_92 rfl rfl ?_
      exact r_iret dX12_stale_94 rfl (.inl rfl) h.1 h.2
    · have h := h.2 (c)
      refine r_aload_n 64 dX12_stale_63 rfl rfl ?_
      refine r_iconst 65 dX12_stale_64 rfl (InR_of rfl) ?_
      refine r_iload 67 dX12_stale_65 rfl rfl ?_
      obtain ⟨M_2, hc_3, h⟩ := h
      refine v_0 (ci := 12) (C := (RX12, TX12, 68)) [vI 1, vI x5] [] 70 dX12_stale_67 rfl rfl rfl rfl rfl mo_X12_lays ml_12_198 rfl rfl hc_3 ?_
      refine r_aload_n 71 dX12_stale_70 rfl rfl ?_
      refine r_iload_n 72 dX12_stale_71 rfl rfl ?_
      refine r_iload_n 73 dX12_stale_72 rfl rfl ?_
      refine r_iconst 74 dX12_stale_73 rfl (InR_of rfl) ?_
      obtain ⟨r_6, M_4, hc_5, h⟩ := h
      refine v_1 (ci := 12) (C := (RX12, TX12, 68)) [vI x1, vI x2, vI (-1)] [] 77 dX12_stale_74 rfl rfl rfl rfl rfl mo_X12_fitting ml_12_334 rfl rfl hc_5 ?_
      obtain ⟨o_7, h⟩ := h
      refine r_iconst 78 dX12_stale_77 rfl (InR_of rfl) ?_
      refine r_iload_n 79 dX12_stale_78 rfl rfl ?_
      refine r_ishl 80 dX12_stale_79 rfl o_7 ?_
      refine r_icmp_eq 83 86 dX12_stale_80 rfl rfl (fun c => ?_) (fun c => ?_)
      · have h := h.1 (c)
        obtain ⟨o_8, h⟩ := h
        refine r_iinc (ls' := [some (vR (some (3, 0))), some (vI x1), some (vI x2), some (vI x3), some (vI x4), some (vI (x5 + 1))]) 89 dX12_stale_86 rfl rfl rfl rfl o_8 rfl ?_
        refine r_goto 45 dX12_stale_89 rfl ?_
        exact h
      · have h := h.2 (c)
        refine r_iload 85 dX12_stale_83 rfl rfl ?_
        exact r_iret dX12_stale_85 rfl (.inl rfl) h.1 h.2

set_option maxRecDepth 4000 in
theorem xX11_stale_0 {l : Launch} {G : Gt} {d : Nat} {M M' : Mem} {r : Option Vl} {x1 : Int} {x2 : Int} {x3 : Int} {x4 : Int} (h : 
    ∃ (o_3 : Option Nm) (M_1 : Mem), Cl l G d mX11_coverOf [vR (some (2, 0)), vI x1] M (some (vR o_3)) M_1 ∧ Sh M_1.2.1 ∧ ((o_3 = none → r = some (vI (-1)) ∧ M' = M_1) ∧ (¬ (o_3 = none) → (¬ (0 ≤ x2 ∧ x2 < (M_1.1 4 0 0)) → r = some (vI (-1)) ∧ M' = M_1) ∧ (0 ≤ x2 ∧ x2 < (M_1.1 4 0 0) → (¬ (0 ≤ x3 ∧ x3 < (M_1.1 4 0 0)) → r = some (vI (-1)) ∧ M' = M_1) ∧ (0 ≤ x3 ∧ x3 < (M_1.1 4 0 0) → (0 ≤ x4 ∧ x4 ≤ 999 → (InR (x4 + 99)) ∧ Ex l G (d + 1) mX11_stale 55 [some (vR (some (2, 0))), some (vI x1), some (vI x2), some (vI x3), some (vI x4), some (vR o_3), some (vI (if 999 < (x4 + 99) then 999 else (x4 + 99) : Int)), some (vI x4)] [] M_1 r M') ∧ (¬ (0 ≤ x4 ∧ x4 ≤ 999) → r = some (vI (-1)) ∧ M' = M_1)))))) : Cl l G (d + 1) mX11_stale [vR (some (2, 0)), vI x1, vI x2, vI x3, vI x4] M r M' := by
  show Ex l G (d + 1) mX11_stale 0 [some (vR (some (2, 0))), some (vI x1), some (vI x2), some (vI x3), some (vI x4), none, none, none] [] M r M'
  refine r_aload_n 1 dX11_stale_0 rfl rfl ?_
  refine r_iload_n 2 dX11_stale_1 rfl rfl ?_
  obtain ⟨o_3, M_1, hc_2, hS, h⟩ := h
  refine v_1 (ci := 11) (C := (RX11, TX11, 16)) [vI x1] [] 5 dX11_stale_2 rfl rfl rfl rfl rfl mo_X11_coverOf ml_11_187 rfl rfl hc_2 ?_
  refine r_astore (ls' := [some (vR (some (2, 0))), some (vI x1), some (vI x2), some (vI x3), some (vI x4), some (vR o_3), none, none]) 7 dX11_stale_5 rfl rfl rfl rfl ?_
  refine r_aload 9 dX11_stale_7 rfl rfl ?_
  refine r_ifnull 12 36 dX11_stale_9 rfl rfl (fun c => ?_) (fun c => ?_)
  · have h := h.1 (c)
    refine r_iconst 37 dX11_stale_36 rfl (InR_of rfl) ?_
    exact r_iret dX11_stale_37 rfl (.inl rfl) h.1 h.2
  · have h := h.2 (c)
    refine r_aload_n 13 dX11_stale_12 rfl rfl ?_
    refine r_iload_n 14 dX11_stale_13 rfl rfl ?_
    refine v_1 (ci := 11) (C := (RX11, TX11, 16)) [vI x2] [] 17 dX11_stale_14 rfl rfl rfl rfl rfl mo_X11_isPerson ml_11_127 rfl rfl (KX11_isPerson hS) ?_
    refine r_if_eq 20 36 dX11_stale_17 rfl rfl (fun c => ?_) (fun c => ?_)
    · have h := h.1 (b2_0.mp c)
      refine r_iconst 37 dX11_stale_36 rfl (InR_of rfl) ?_
      exact r_iret dX11_stale_37 rfl (.inl rfl) h.1 h.2
    · have h := h.2 (b2_1.mp c)
      refine r_aload_n 21 dX11_stale_20 rfl rfl ?_
      refine r_iload_n 22 dX11_stale_21 rfl rfl ?_
      refine v_1 (ci := 11) (C := (RX11, TX11, 16)) [vI x3] [] 25 dX11_stale_22 rfl rfl rfl rfl rfl mo_X11_isPerson ml_11_127 rfl rfl (KX11_isPerson hS) ?_
      refine r_if_eq 28 36 dX11_stale_25 rfl rfl (fun c => ?_) (fun c => ?_)
      · have h := h.1 (b2_0.mp c)
        refine r_iconst 37 dX11_stale_36 rfl (InR_of rfl) ?_
        exact r_iret dX11_stale_37 rfl (.inl rfl) h.1 h.2
      · have h := h.2 (b2_1.mp c)
        refine r_iload 30 dX11_stale_28 rfl rfl ?_
        refine c_1 [vI x4] [] 33 dX11_stale_30 rfl rfl mo_X11_isDay ml_11_124 rfl rfl (KX11_isDay) ?_
        refine r_if_ne 36 38 dX11_stale_33 rfl rfl (fun c => ?_) (fun c => ?_)
        · have h := h.1 (b2_1.mp c)
          obtain ⟨o_4, h⟩ := h
          refine r_iload 40 dX11_stale_38 rfl rfl ?_
          refine r_bipush 42 dX11_stale_40 rfl rfl ?_
          refine r_iadd 43 dX11_stale_42 rfl o_4 ?_
          refine r_sipush 46 dX11_stale_43 rfl rfl ?_
          refine r_min 49 dX11_stale_46 rfl (inT4 (List.mem_of_getElem? (i := 66) rfl) rfl) rfl ?_
          refine r_istore (ls' := [some (vR (some (2, 0))), some (vI x1), some (vI x2), some (vI x3), some (vI x4), some (vR o_3), some (vI (if 999 < (x4 + 99) then 999 else (x4 + 99) : Int)), none]) 51 dX11_stale_49 rfl rfl rfl rfl ?_
          refine r_iload 53 dX11_stale_51 rfl rfl ?_
          refine r_istore (ls' := [some (vR (some (2, 0))), some (vI x1), some (vI x2), some (vI x3), some (vI x4), some (vR o_3), some (vI (if 999 < (x4 + 99) then 999 else (x4 + 99) : Int)), some (vI x4)]) 55 dX11_stale_53 rfl rfl rfl rfl ?_
          exact h
        · have h := h.2 (b2_0.mp (Decidable.not_not.mp c))
          refine r_iconst 37 dX11_stale_36 rfl (InR_of rfl) ?_
          exact r_iret dX11_stale_37 rfl (.inl rfl) h.1 h.2
set_option maxRecDepth 4000 in
theorem xX11_stale_55 {l : Launch} {G : Gt} {d : Nat} {M M' : Mem} {r : Option Vl} {x1 : Int} {x2 : Int} {x3 : Int} {x4 : Int} {o5 : Option Nm} {x6 : Int} {x7 : Int} (h : 
    (x6 < x7 → r = some (vI (-2)) ∧ M' = M) ∧ (¬ (x6 < x7) → ∃ k_1 : Nat, o5 = some (13, k_1) ∧ (∃ (r_5 : Int) (M_3 : Mem), Cl l G d mX11_fitFor [vR (some (2, 0)), vR (some (13, k_1)), vI x2, vI x4, vI x7, vI (-1)] M (some (vI r_5)) M_3 ∧ (((0 ≤ x3 ∧ x3 < 32)) ∧ ((r_5 = (aShl 1 x3) → (InR (x7 + 1)) ∧ Ex l G (d + 1) mX11_stale 55 [some (vR (some (2, 0))), some (vI x1), some (vI x2), some (vI x3), some (vI x4), some (vR (some (13, k_1))), some (vI x6), some (vI (x7 + 1))] [] M_3 r M') ∧ (¬ (r_5 = (aShl 1 x3)) → r = some (vI x7) ∧ M' = M_3)))))) : Ex l G (d + 1) mX11_stale 55 [some (vR (some (2, 0))), some (vI x1), some (vI x2), some (vI x3), some (vI x4), some (vR o5), some (vI x6), some (vI x7)] [] M r M' := by
  refine r_iload 57 dX11_stale_55 rfl rfl ?_
  refine r_iload 59 dX11_stale_57 rfl rfl ?_
  refine r_icmp_gt 62 89 dX11_stale_59 rfl rfl (fun c => ?_) (fun c => ?_)
  · have h := h.1 (c)
    refine r_bipush 91 dX11_stale_89 rfl rfl ?_
    exact r_iret dX11_stale_91 rfl (.inl rfl) h.1 h.2
  · have h := h.2 (c)
    refine r_aload_n 63 dX11_stale_62 rfl rfl ?_
    refine r_aload 65 dX11_stale_63 rfl rfl ?_
    refine r_iload_n 66 dX11_stale_65 rfl rfl ?_
    refine r_iload 68 dX11_stale_66 rfl rfl ?_
    refine r_iload 70 dX11_stale_68 rfl rfl ?_
    refine r_iconst 71 dX11_stale_70 rfl (InR_of rfl) ?_
    obtain ⟨k_1, e_2, h⟩ := h
    refine Ex.at (st2 := [vI (-1), vI x7, vI x4, vI x2, vR (some (13, k_1)), vR (some (2, 0))]) ?_ rfl (show [vI (-1), vI x7, vI x4, vI x2, vR o5, vR (some (2, 0))] = [vI (-1), vI x7, vI x4, vI x2, vR (some (13, k_1)), vR (some (2, 0))] by rw [e_2]) rfl
    obtain ⟨r_5, M_3, hc_4, h⟩ := h
    refine v_1 (ci := 11) (C := (RX11, TX11, 16)) [vR (some (13, k_1)), vI x2, vI x4, vI x7, vI (-1)] [] 74 dX11_stale_71 rfl rfl rfl rfl rfl mo_X11_fitFor ml_11_190 rfl rfl hc_4 ?_
    obtain ⟨o_6, h⟩ := h
    refine r_iconst 75 dX11_stale_74 rfl (InR_of rfl) ?_
    refine r_iload_n 76 dX11_stale_75 rfl rfl ?_
    refine r_ishl 77 dX11_stale_76 rfl o_6 ?_
    refine r_icmp_eq 80 83 dX11_stale_77 rfl rfl (fun c => ?_) (fun c => ?_)
    · have h := h.1 (c)
      obtain ⟨o_7, h⟩ := h
      refine r_iinc (ls' := [some (vR (some (2, 0))), some (vI x1), some (vI x2), some (vI x3), some (vI x4), some (vR o5), some (vI x6), some (vI (x7 + 1))]) 86 dX11_stale_83 rfl rfl rfl rfl o_7 rfl ?_
      refine r_goto 55 dX11_stale_86 rfl ?_
      exact (Ex.at h (show [some (vR (some (2, 0))), some (vI x1), some (vI x2), some (vI x3), some (vI x4), some (vR o5), some (vI x6), some (vI (x7 + 1))] = [some (vR (some (2, 0))), some (vI x1), some (vI x2), some (vI x3), some (vI x4), some (vR (some (13, k_1))), some (vI x6), some (vI (x7 + 1))] by rw [e_2]) rfl rfl)
    · have h := h.2 (c)
      refine r_iload 82 dX11_stale_80 rfl rfl ?_
      exact r_iret dX11_stale_82 rfl (.inl rfl) h.1 h.2

set_option maxRecDepth 4000 in
theorem xX12_alone_0 {l : Launch} {G : Gt} {d : Nat} {M M' : Mem} {r : Option Vl} {x1 : Int} {x2 : Int} {x3 : Int} {x4 : Int} (hS : Sh M.2.1) (h : 
    ((InR ((M.1 3 0 33) - 1) ∧ InR ((M.1 48 0 0) - 1))) ∧ ((¬ ((0 ≤ x1 ∧ x1 < (M.1 3 0 33)) ∧ (0 ≤ x2 ∧ x2 < (M.1 48 0 0)) ∧ (0 ≤ x4 ∧ x4 ≤ 999)) → r = some (vI (-1)) ∧ M' = M) ∧ ((0 ≤ x1 ∧ x1 < (M.1 3 0 33)) ∧ (0 ≤ x2 ∧ x2 < (M.1 48 0 0)) ∧ (0 ≤ x4 ∧ x4 ≤ 999) → (InR ((M.1 48 0 0) - 1)) ∧ ((0 ≤ x3 ∧ x3 < (M.1 48 0 0) → ∃ (M_3 : Mem), Cl l G (d + 2) mX12_lays [vR (some (3, 0)), vI 0, vI x4] M none M_3 ∧ Ex l G (d + 3) mX12_alone 35 [some (vR (some (3, 0))), some (vI x1), some (vI x2), some (vI x3), some (vI x4), some (vI 0), some (vI x4)] [] M_3 r M') ∧ (¬ (0 ≤ x3 ∧ x3 < (M.1 48 0 0)) → r = some (vI (-1)) ∧ M' = M))))) : Cl l G (d + 3) mX12_alone [vR (some (3, 0)), vI x1, vI x2, vI x3, vI x4] M r M' := by
  show Ex l G (d + 3) mX12_alone 0 [some (vR (some (3, 0))), some (vI x1), some (vI x2), some (vI x3), some (vI x4), none, none] [] M r M'
  obtain ⟨o_1, h⟩ := h
  refine r_aload_n 1 dX12_alone_0 rfl rfl ?_
  refine r_iload_n 2 dX12_alone_1 rfl rfl ?_
  refine r_iload_n 3 dX12_alone_2 rfl rfl ?_
  refine r_iload 5 dX12_alone_3 rfl rfl ?_
  refine v_1 (ci := 12) (C := (RX12, TX12, 68)) [vI x1, vI x2, vI x4] [] 8 dX12_alone_5 rfl rfl rfl rfl rfl mo_X12_isRead ml_12_449 rfl rfl (KX12_isRead hS o_1) ?_
  refine r_if_eq 11 19 dX12_alone_8 rfl rfl (fun c => ?_) (fun c => ?_)
  · have h := h.1 (b2_0.mp c)
    refine r_iconst 20 dX12_alone_19 rfl (InR_of rfl) ?_
    exact r_iret dX12_alone_20 rfl (.inl rfl) h.1 h.2
  · have h := h.2 (b2_1.mp c)
    obtain ⟨o_2, h⟩ := h
    refine r_aload_n 12 dX12_alone_11 rfl rfl ?_
    refine r_iload_n 13 dX12_alone_12 rfl rfl ?_
    refine v_1 (ci := 12) (C := (RX12, TX12, 68)) [vI x3] [] 16 dX12_alone_13 rfl rfl rfl rfl rfl mo_X12_isPerson ml_12_175 rfl rfl (KX12_isPerson hS o_2) ?_
    refine r_if_ne 19 21 dX12_alone_16 rfl rfl (fun c => ?_) (fun c => ?_)
    · have h := h.1 (b2_1.mp c)
      refine r_aload_n 22 dX12_alone_21 rfl rfl ?_
      refine r_iconst 23 dX12_alone_22 rfl (InR_of rfl) ?_
      refine r_iload 25 dX12_alone_23 rfl rfl ?_
      obtain ⟨M_3, hc_4, h⟩ := h
      refine v_0 (ci := 12) (C := (RX12, TX12, 68)) [vI 0, vI x4] [] 28 dX12_alone_25 rfl rfl rfl rfl rfl mo_X12_lays ml_12_198 rfl rfl hc_4 ?_
      refine r_iconst 29 dX12_alone_28 rfl (InR_of rfl) ?_
      refine r_istore (ls' := [some (vR (some (3, 0))), some (vI x1), some (vI x2), some (vI x3), some (vI x4), some (vI 0), none]) 31 dX12_alone_29 rfl rfl rfl rfl ?_
      refine r_iload 33 dX12_alone_31 rfl rfl ?_
      refine r_istore (ls' := [some (vR (some (3, 0))), some (vI x1), some (vI x2), some (vI x3), some (vI x4), some (vI 0), some (vI x4)]) 35 dX12_alone_33 rfl rfl rfl rfl ?_
      exact h
    · have h := h.2 (b2_0.mp (Decidable.not_not.mp c))
      refine r_iconst 20 dX12_alone_19 rfl (InR_of rfl) ?_
      exact r_iret dX12_alone_20 rfl (.inl rfl) h.1 h.2
set_option maxRecDepth 4000 in
theorem xX12_alone_35 {l : Launch} {G : Gt} {d : Nat} {M M' : Mem} {r : Option Vl} {x1 : Int} {x2 : Int} {x3 : Int} {x4 : Int} {x5 : Int} {x6 : Int} (h : 
    (InR (x4 + 100)) ∧ (((x4 + 100) ≤ x6 → r = some (vI x5) ∧ M' = M) ∧ (¬ ((x4 + 100) ≤ x6) → (999 < x6 → r = some (vI x5) ∧ M' = M) ∧ (¬ (999 < x6) → ∃ (M_2 : Mem), Cl l G (d + 2) mX12_lays [vR (some (3, 0)), vI 1, vI x6] M none M_2 ∧ (∃ (r_6 : Int) (M_4 : Mem), Cl l G (d + 2) mX12_fitting [vR (some (3, 0)), vI x1, vI x2, vI (-1)] M_2 (some (vI r_6)) M_4 ∧ ((0 ≤ x3 ∧ x3 < 32)) ∧ (InR (x5 + (if r_6 = (aShl 1 x3) then 1 else 0 : Int)) ∧ InR (x6 + 1)) ∧ Ex l G (d + 3) mX12_alone 35 [some (vR (some (3, 0))), some (vI x1), some (vI x2), some (vI x3), some (vI x4), some (vI (x5 + (if r_6 = (aShl 1 x3) then 1 else 0 : Int))), some (vI (x6 + 1))] [] M_4 r M'))))) : Ex l G (d + 3) mX12_alone 35 [some (vR (some (3, 0))), some (vI x1), some (vI x2), some (vI x3), some (vI x4), some (vI x5), some (vI x6)] [] M r M' := by
  obtain ⟨o_1, h⟩ := h
  refine r_iload 37 dX12_alone_35 rfl rfl ?_
  refine r_iload 39 dX12_alone_37 rfl rfl ?_
  refine r_bipush 41 dX12_alone_39 rfl rfl ?_
  refine r_iadd 42 dX12_alone_41 rfl o_1 ?_
  refine r_icmp_ge 45 89 dX12_alone_42 rfl rfl (fun c => ?_) (fun c => ?_)
  · have h := h.1 (c)
    refine r_iload 91 dX12_alone_89 rfl rfl ?_
    exact r_iret dX12_alone_91 rfl (.inl rfl) h.1 h.2
  · have h := h.2 (c)
    refine r_iload 47 dX12_alone_45 rfl rfl ?_
    refine r_sipush 50 dX12_alone_47 rfl rfl ?_
    refine r_icmp_gt 53 89 dX12_alone_50 rfl rfl (fun c => ?_) (fun c => ?_)
    · have h := h.1 (c)
      refine r_iload 91 dX12_alone_89 rfl rfl ?_
      exact r_iret dX12_alone_91 rfl (.inl rfl) h.1 h.2
    · have h := h.2 (c)
      refine r_aload_n 54 dX12_alone_53 rfl rfl ?_
      refine r_iconst 55 dX12_alone_54 rfl (InR_of rfl) ?_
      refine r_iload 57 dX12_alone_55 rfl rfl ?_
      obtain ⟨M_2, hc_3, h⟩ := h
      refine v_0 (ci := 12) (C := (RX12, TX12, 68)) [vI 1, vI x6] [] 60 dX12_alone_57 rfl rfl rfl rfl rfl mo_X12_lays ml_12_198 rfl rfl hc_3 ?_
      refine r_iload 62 dX12_alone_60 rfl rfl ?_
      refine r_aload_n 63 dX12_alone_62 rfl rfl ?_
      refine r_iload_n 64 dX12_alone_63 rfl rfl ?_
      refine r_iload_n 65 dX12_alone_64 rfl rfl ?_
      refine r_iconst 66 dX12_alone_65 rfl (InR_of rfl) ?_
      obtain ⟨r_6, M_4, hc_5, h⟩ := h
      refine v_1 (ci := 12) (C := (RX12, TX12, 68)) [vI x1, vI x2, vI (-1)] [vI x5] 69 dX12_alone_66 rfl rfl rfl rfl rfl mo_X12_fitting ml_12_334 rfl rfl hc_5 ?_
      obtain ⟨o_7, h⟩ := h
      refine r_iconst 70 dX12_alone_69 rfl (InR_of rfl) ?_
      refine r_iload_n 71 dX12_alone_70 rfl rfl ?_
      refine r_ishl 72 dX12_alone_71 rfl o_7 ?_
      have hJ_8 : Ex l G (d + 3) mX12_alone 80 [some (vR (some (3, 0))), some (vI x1), some (vI x2), some (vI x3), some (vI x4), some (vI x5), some (vI x6)] [vI (if r_6 = (aShl 1 x3) then 1 else 0 : Int), vI x5] M_4 r M' := by
        obtain ⟨⟨o_10, o_11⟩, h⟩ := h
        refine r_iadd 81 dX12_alone_80 rfl o_10 ?_
        refine r_istore (ls' := [some (vR (some (3, 0))), some (vI x1), some (vI x2), some (vI x3), some (vI x4), some (vI (x5 + (if r_6 = (aShl 1 x3) then 1 else 0 : Int))), some (vI x6)]) 83 dX12_alone_81 rfl rfl rfl rfl ?_
        refine r_iinc (ls' := [some (vR (some (3, 0))), some (vI x1), some (vI x2), some (vI x3), some (vI x4), some (vI (x5 + (if r_6 = (aShl 1 x3) then 1 else 0 : Int))), some (vI (x6 + 1))]) 86 dX12_alone_83 rfl rfl rfl rfl o_11 rfl ?_
        refine r_goto 35 dX12_alone_86 rfl ?_
        exact h
      refine r_icmp_ne 75 79 dX12_alone_72 rfl rfl (fun c => ?_) (fun c => ?_)
      · have c_9 := c
        refine r_iconst 80 dX12_alone_79 rfl (InR_of rfl) ?_
        exact (Ex.at hJ_8 rfl (show [vI 0, vI x5] = [vI (if r_6 = (aShl 1 x3) then 1 else 0 : Int), vI x5] by simp only [if_neg c_9]) rfl)
      · have c_9 := Decidable.not_not.mp c
        refine r_iconst 76 dX12_alone_75 rfl (InR_of rfl) ?_
        refine r_goto 80 dX12_alone_76 rfl ?_
        exact (Ex.at hJ_8 rfl (show [vI 1, vI x5] = [vI (if r_6 = (aShl 1 x3) then 1 else 0 : Int), vI x5] by simp only [if_pos c_9]) rfl)

set_option maxRecDepth 4000 in
theorem xX11_alone_0 {l : Launch} {G : Gt} {d : Nat} {M M' : Mem} {r : Option Vl} {x1 : Int} {x2 : Int} {x3 : Int} {x4 : Int} (h : 
    ∃ (o_3 : Option Nm) (M_1 : Mem), Cl l G d mX11_coverOf [vR (some (2, 0)), vI x1] M (some (vR o_3)) M_1 ∧ Sh M_1.2.1 ∧ ((o_3 = none → r = some (vI (-1)) ∧ M' = M_1) ∧ (¬ (o_3 = none) → (¬ (0 ≤ x2 ∧ x2 < (M_1.1 4 0 0)) → r = some (vI (-1)) ∧ M' = M_1) ∧ (0 ≤ x2 ∧ x2 < (M_1.1 4 0 0) → (¬ (0 ≤ x3 ∧ x3 < (M_1.1 4 0 0)) → r = some (vI (-1)) ∧ M' = M_1) ∧ (0 ≤ x3 ∧ x3 < (M_1.1 4 0 0) → (0 ≤ x4 ∧ x4 ≤ 999 → (InR (x4 + 99)) ∧ Ex l G (d + 1) mX11_alone 58 [some (vR (some (2, 0))), some (vI x1), some (vI x2), some (vI x3), some (vI x4), some (vR o_3), some (vI (if 999 < (x4 + 99) then 999 else (x4 + 99) : Int)), some (vI 0), some (vI x4)] [] M_1 r M') ∧ (¬ (0 ≤ x4 ∧ x4 ≤ 999) → r = some (vI (-1)) ∧ M' = M_1)))))) : Cl l G (d + 1) mX11_alone [vR (some (2, 0)), vI x1, vI x2, vI x3, vI x4] M r M' := by
  show Ex l G (d + 1) mX11_alone 0 [some (vR (some (2, 0))), some (vI x1), some (vI x2), some (vI x3), some (vI x4), none, none, none, none] [] M r M'
  refine r_aload_n 1 dX11_alone_0 rfl rfl ?_
  refine r_iload_n 2 dX11_alone_1 rfl rfl ?_
  obtain ⟨o_3, M_1, hc_2, hS, h⟩ := h
  refine v_1 (ci := 11) (C := (RX11, TX11, 16)) [vI x1] [] 5 dX11_alone_2 rfl rfl rfl rfl rfl mo_X11_coverOf ml_11_187 rfl rfl hc_2 ?_
  refine r_astore (ls' := [some (vR (some (2, 0))), some (vI x1), some (vI x2), some (vI x3), some (vI x4), some (vR o_3), none, none, none]) 7 dX11_alone_5 rfl rfl rfl rfl ?_
  refine r_aload 9 dX11_alone_7 rfl rfl ?_
  refine r_ifnull 12 36 dX11_alone_9 rfl rfl (fun c => ?_) (fun c => ?_)
  · have h := h.1 (c)
    refine r_iconst 37 dX11_alone_36 rfl (InR_of rfl) ?_
    exact r_iret dX11_alone_37 rfl (.inl rfl) h.1 h.2
  · have h := h.2 (c)
    refine r_aload_n 13 dX11_alone_12 rfl rfl ?_
    refine r_iload_n 14 dX11_alone_13 rfl rfl ?_
    refine v_1 (ci := 11) (C := (RX11, TX11, 16)) [vI x2] [] 17 dX11_alone_14 rfl rfl rfl rfl rfl mo_X11_isPerson ml_11_127 rfl rfl (KX11_isPerson hS) ?_
    refine r_if_eq 20 36 dX11_alone_17 rfl rfl (fun c => ?_) (fun c => ?_)
    · have h := h.1 (b2_0.mp c)
      refine r_iconst 37 dX11_alone_36 rfl (InR_of rfl) ?_
      exact r_iret dX11_alone_37 rfl (.inl rfl) h.1 h.2
    · have h := h.2 (b2_1.mp c)
      refine r_aload_n 21 dX11_alone_20 rfl rfl ?_
      refine r_iload_n 22 dX11_alone_21 rfl rfl ?_
      refine v_1 (ci := 11) (C := (RX11, TX11, 16)) [vI x3] [] 25 dX11_alone_22 rfl rfl rfl rfl rfl mo_X11_isPerson ml_11_127 rfl rfl (KX11_isPerson hS) ?_
      refine r_if_eq 28 36 dX11_alone_25 rfl rfl (fun c => ?_) (fun c => ?_)
      · have h := h.1 (b2_0.mp c)
        refine r_iconst 37 dX11_alone_36 rfl (InR_of rfl) ?_
        exact r_iret dX11_alone_37 rfl (.inl rfl) h.1 h.2
      · have h := h.2 (b2_1.mp c)
        refine r_iload 30 dX11_alone_28 rfl rfl ?_
        refine c_1 [vI x4] [] 33 dX11_alone_30 rfl rfl mo_X11_isDay ml_11_124 rfl rfl (KX11_isDay) ?_
        refine r_if_ne 36 38 dX11_alone_33 rfl rfl (fun c => ?_) (fun c => ?_)
        · have h := h.1 (b2_1.mp c)
          obtain ⟨o_4, h⟩ := h
          refine r_iload 40 dX11_alone_38 rfl rfl ?_
          refine r_bipush 42 dX11_alone_40 rfl rfl ?_
          refine r_iadd 43 dX11_alone_42 rfl o_4 ?_
          refine r_sipush 46 dX11_alone_43 rfl rfl ?_
          refine r_min 49 dX11_alone_46 rfl (inT4 (List.mem_of_getElem? (i := 66) rfl) rfl) rfl ?_
          refine r_istore (ls' := [some (vR (some (2, 0))), some (vI x1), some (vI x2), some (vI x3), some (vI x4), some (vR o_3), some (vI (if 999 < (x4 + 99) then 999 else (x4 + 99) : Int)), none, none]) 51 dX11_alone_49 rfl rfl rfl rfl ?_
          refine r_iconst 52 dX11_alone_51 rfl (InR_of rfl) ?_
          refine r_istore (ls' := [some (vR (some (2, 0))), some (vI x1), some (vI x2), some (vI x3), some (vI x4), some (vR o_3), some (vI (if 999 < (x4 + 99) then 999 else (x4 + 99) : Int)), some (vI 0), none]) 54 dX11_alone_52 rfl rfl rfl rfl ?_
          refine r_iload 56 dX11_alone_54 rfl rfl ?_
          refine r_istore (ls' := [some (vR (some (2, 0))), some (vI x1), some (vI x2), some (vI x3), some (vI x4), some (vR o_3), some (vI (if 999 < (x4 + 99) then 999 else (x4 + 99) : Int)), some (vI 0), some (vI x4)]) 58 dX11_alone_56 rfl rfl rfl rfl ?_
          exact h
        · have h := h.2 (b2_0.mp (Decidable.not_not.mp c))
          refine r_iconst 37 dX11_alone_36 rfl (InR_of rfl) ?_
          exact r_iret dX11_alone_37 rfl (.inl rfl) h.1 h.2
set_option maxRecDepth 4000 in
theorem xX11_alone_58 {l : Launch} {G : Gt} {d : Nat} {M M' : Mem} {r : Option Vl} {x1 : Int} {x2 : Int} {x3 : Int} {x4 : Int} {o5 : Option Nm} {x6 : Int} {x7 : Int} {x8 : Int} (h : 
    (x6 < x8 → r = some (vI x7) ∧ M' = M) ∧ (¬ (x6 < x8) → ∃ k_1 : Nat, o5 = some (13, k_1) ∧ (∃ (r_5 : Int) (M_3 : Mem), Cl l G d mX11_fitFor [vR (some (2, 0)), vR (some (13, k_1)), vI x2, vI x4, vI x8, vI (-1)] M (some (vI r_5)) M_3 ∧ (((0 ≤ x3 ∧ x3 < 32)) ∧ (((r_5 = (aShl 1 x3) → (InR (x7 + 1)))) ∧ (InR (x8 + 1)) ∧ Ex l G (d + 1) mX11_alone 58 [some (vR (some (2, 0))), some (vI x1), some (vI x2), some (vI x3), some (vI x4), some (vR (some (13, k_1))), some (vI x6), some (vI (if r_5 = (aShl 1 x3) then (x7 + 1) else x7 : Int)), some (vI (x8 + 1))] [] M_3 r M'))))) : Ex l G (d + 1) mX11_alone 58 [some (vR (some (2, 0))), some (vI x1), some (vI x2), some (vI x3), some (vI x4), some (vR o5), some (vI x6), some (vI x7), some (vI x8)] [] M r M' := by
  refine r_iload 60 dX11_alone_58 rfl rfl ?_
  refine r_iload 62 dX11_alone_60 rfl rfl ?_
  refine r_icmp_gt 65 92 dX11_alone_62 rfl rfl (fun c => ?_) (fun c => ?_)
  · have h := h.1 (c)
    refine r_iload 94 dX11_alone_92 rfl rfl ?_
    exact r_iret dX11_alone_94 rfl (.inl rfl) h.1 h.2
  · have h := h.2 (c)
    refine r_aload_n 66 dX11_alone_65 rfl rfl ?_
    refine r_aload 68 dX11_alone_66 rfl rfl ?_
    refine r_iload_n 69 dX11_alone_68 rfl rfl ?_
    refine r_iload 71 dX11_alone_69 rfl rfl ?_
    refine r_iload 73 dX11_alone_71 rfl rfl ?_
    refine r_iconst 74 dX11_alone_73 rfl (InR_of rfl) ?_
    obtain ⟨k_1, e_2, h⟩ := h
    refine Ex.at (st2 := [vI (-1), vI x8, vI x4, vI x2, vR (some (13, k_1)), vR (some (2, 0))]) ?_ rfl (show [vI (-1), vI x8, vI x4, vI x2, vR o5, vR (some (2, 0))] = [vI (-1), vI x8, vI x4, vI x2, vR (some (13, k_1)), vR (some (2, 0))] by rw [e_2]) rfl
    obtain ⟨r_5, M_3, hc_4, h⟩ := h
    refine v_1 (ci := 11) (C := (RX11, TX11, 16)) [vR (some (13, k_1)), vI x2, vI x4, vI x8, vI (-1)] [] 77 dX11_alone_74 rfl rfl rfl rfl rfl mo_X11_fitFor ml_11_190 rfl rfl hc_4 ?_
    obtain ⟨o_6, h⟩ := h
    refine r_iconst 78 dX11_alone_77 rfl (InR_of rfl) ?_
    refine r_iload_n 79 dX11_alone_78 rfl rfl ?_
    refine r_ishl 80 dX11_alone_79 rfl o_6 ?_
    obtain ⟨h0, h⟩ := h
    have hJ_7 : Ex l G (d + 1) mX11_alone 86 [some (vR (some (2, 0))), some (vI x1), some (vI x2), some (vI x3), some (vI x4), some (vR o5), some (vI x6), some (vI (if r_5 = (aShl 1 x3) then (x7 + 1) else x7 : Int)), some (vI x8)] [] M_3 r M' := by
      obtain ⟨o_10, h⟩ := h
      refine r_iinc (ls' := [some (vR (some (2, 0))), some (vI x1), some (vI x2), some (vI x3), some (vI x4), some (vR o5), some (vI x6), some (vI (if r_5 = (aShl 1 x3) then (x7 + 1) else x7 : Int)), some (vI (x8 + 1))]) 89 dX11_alone_86 rfl rfl rfl rfl o_10 rfl ?_
      refine r_goto 58 dX11_alone_89 rfl ?_
      exact (Ex.at h (show [some (vR (some (2, 0))), some (vI x1), some (vI x2), some (vI x3), some (vI x4), some (vR o5), some (vI x6), some (vI (if r_5 = (aShl 1 x3) then (x7 + 1) else x7 : Int)), some (vI (x8 + 1))] = [some (vR (some (2, 0))), some (vI x1), some (vI x2), some (vI x3), some (vI x4), some (vR (some (13, k_1))), some (vI x6), some (vI (if r_5 = (aShl 1 x3) then (x7 + 1) else x7 : Int)), some (vI (x8 + 1))] by rw [e_2]) rfl rfl)
    have h := h0
    refine r_icmp_ne 83 86 dX11_alone_80 rfl rfl (fun c => ?_) (fun c => ?_)
    · have c_8 := c
      exact (Ex.at hJ_7 (show [some (vR (some (2, 0))), some (vI x1), some (vI x2), some (vI x3), some (vI x4), some (vR o5), some (vI x6), some (vI x7), some (vI x8)] = [some (vR (some (2, 0))), some (vI x1), some (vI x2), some (vI x3), some (vI x4), some (vR o5), some (vI x6), some (vI (if r_5 = (aShl 1 x3) then (x7 + 1) else x7 : Int)), some (vI x8)] by simp only [if_neg c_8]) rfl rfl)
    · have c_8 := Decidable.not_not.mp c
      have h := h c_8
      have o_9 := h
      refine r_iinc (ls' := [some (vR (some (2, 0))), some (vI x1), some (vI x2), some (vI x3), some (vI x4), some (vR o5), some (vI x6), some (vI (x7 + 1)), some (vI x8)]) 86 dX11_alone_83 rfl rfl rfl rfl o_9 rfl ?_
      exact (Ex.at hJ_7 (show [some (vR (some (2, 0))), some (vI x1), some (vI x2), some (vI x3), some (vI x4), some (vR o5), some (vI x6), some (vI (x7 + 1)), some (vI x8)] = [some (vR (some (2, 0))), some (vI x1), some (vI x2), some (vI x3), some (vI x4), some (vR o5), some (vI x6), some (vI (if r_5 = (aShl 1 x3) then (x7 + 1) else x7 : Int)), some (vI x8)] by simp only [if_pos c_8]) rfl rfl)

set_option maxRecDepth 4000 in
theorem xX12_tellers_0 {l : Launch} {G : Gt} {d : Nat} {M M' : Mem} {r : Option Vl} {x1 : Int} {x2 : Int} {x3 : Int} (hS : Sh M.2.1) (h : 
    ((InR ((M.1 3 0 33) - 1) ∧ InR ((M.1 48 0 0) - 1))) ∧ (((0 ≤ x1 ∧ x1 < (M.1 3 0 33)) ∧ (0 ≤ x2 ∧ x2 < (M.1 48 0 0)) ∧ (0 ≤ x3 ∧ x3 ≤ 999) → ∃ (M_2 : Mem), Cl l G (d + 2) mX12_lays [vR (some (3, 0)), vI 0, vI x3] M none M_2 ∧ (∃ (M_4 : Mem), Cl l G (d + 2) mX12_lays [vR (some (3, 0)), vI 1, vI x3] M_2 none M_4 ∧ Ex l G (d + 3) mX12_tellers 30 [some (vR (some (3, 0))), some (vI x1), some (vI x2), some (vI x3), some (vI 0), some (vI 0)] [] M_4 r M')) ∧ (¬ ((0 ≤ x1 ∧ x1 < (M.1 3 0 33)) ∧ (0 ≤ x2 ∧ x2 < (M.1 48 0 0)) ∧ (0 ≤ x3 ∧ x3 ≤ 999)) → r = some (vI (-1)) ∧ M' = M))) : Cl l G (d + 3) mX12_tellers [vR (some (3, 0)), vI x1, vI x2, vI x3] M r M' := by
  show Ex l G (d + 3) mX12_tellers 0 [some (vR (some (3, 0))), some (vI x1), some (vI x2), some (vI x3), none, none] [] M r M'
  obtain ⟨o_1, h⟩ := h
  refine r_aload_n 1 dX12_tellers_0 rfl rfl ?_
  refine r_iload_n 2 dX12_tellers_1 rfl rfl ?_
  refine r_iload_n 3 dX12_tellers_2 rfl rfl ?_
  refine r_iload_n 4 dX12_tellers_3 rfl rfl ?_
  refine v_1 (ci := 12) (C := (RX12, TX12, 68)) [vI x1, vI x2, vI x3] [] 7 dX12_tellers_4 rfl rfl rfl rfl rfl mo_X12_isRead ml_12_449 rfl rfl (KX12_isRead hS o_1) ?_
  refine r_if_ne 10 12 dX12_tellers_7 rfl rfl (fun c => ?_) (fun c => ?_)
  · have h := h.1 (b2_1.mp c)
    refine r_aload_n 13 dX12_tellers_12 rfl rfl ?_
    refine r_iconst 14 dX12_tellers_13 rfl (InR_of rfl) ?_
    refine r_iload_n 15 dX12_tellers_14 rfl rfl ?_
    obtain ⟨M_2, hc_3, h⟩ := h
    refine v_0 (ci := 12) (C := (RX12, TX12, 68)) [vI 0, vI x3] [] 18 dX12_tellers_15 rfl rfl rfl rfl rfl mo_X12_lays ml_12_198 rfl rfl hc_3 ?_
    refine r_aload_n 19 dX12_tellers_18 rfl rfl ?_
    refine r_iconst 20 dX12_tellers_19 rfl (InR_of rfl) ?_
    refine r_iload_n 21 dX12_tellers_20 rfl rfl ?_
    obtain ⟨M_4, hc_5, h⟩ := h
    refine v_0 (ci := 12) (C := (RX12, TX12, 68)) [vI 1, vI x3] [] 24 dX12_tellers_21 rfl rfl rfl rfl rfl mo_X12_lays ml_12_198 rfl rfl hc_5 ?_
    refine r_iconst 25 dX12_tellers_24 rfl (InR_of rfl) ?_
    refine r_istore (ls' := [some (vR (some (3, 0))), some (vI x1), some (vI x2), some (vI x3), some (vI 0), none]) 27 dX12_tellers_25 rfl rfl rfl rfl ?_
    refine r_iconst 28 dX12_tellers_27 rfl (InR_of rfl) ?_
    refine r_istore (ls' := [some (vR (some (3, 0))), some (vI x1), some (vI x2), some (vI x3), some (vI 0), some (vI 0)]) 30 dX12_tellers_28 rfl rfl rfl rfl ?_
    exact h
  · have h := h.2 (b2_0.mp (Decidable.not_not.mp c))
    refine r_iconst 11 dX12_tellers_10 rfl (InR_of rfl) ?_
    exact r_iret dX12_tellers_11 rfl (.inl rfl) h.1 h.2
set_option maxRecDepth 4000 in
theorem xX12_tellers_30 {l : Launch} {G : Gt} {d : Nat} {M M' : Mem} {r : Option Vl} {x1 : Int} {x2 : Int} {x3 : Int} {x4 : Int} {x5 : Int} (hS : Sh M.2.1) (h : 
    ((M.1 48 0 0) ≤ x5 → r = some (vI x4) ∧ M' = M) ∧ (¬ ((M.1 48 0 0) ≤ x5) → ∃ (r_3 : Int) (M_1 : Mem), Cl l G (d + 2) mX12_fitting [vR (some (3, 0)), vI x1, vI x2, vI x5] M (some (vI r_3)) M_1 ∧ (((¬ (r_3 = 0) → ((0 ≤ x5 ∧ x5 < 32)))) ∧ (InR (x5 + 1)) ∧ Ex l G (d + 3) mX12_tellers 30 [some (vR (some (3, 0))), some (vI x1), some (vI x2), some (vI x3), some (vI (aOr x4 (if r_3 = 0 then 0 else (aShl 1 x5) : Int))), some (vI (x5 + 1))] [] M_1 r M'))) : Ex l G (d + 3) mX12_tellers 30 [some (vR (some (3, 0))), some (vI x1), some (vI x2), some (vI x3), some (vI x4), some (vI x5)] [] M r M' := by
  refine r_iload 32 dX12_tellers_30 rfl rfl ?_
  refine r_aload_n 33 dX12_tellers_32 rfl rfl ?_
  refine g_R 36 dX12_tellers_33 rfl rfl rfl fr_12_7 (sh_12_1 hS) ?_
  refine r_iconst 37 dX12_tellers_36 rfl (InR_of rfl) ?_
  refine a_I 6 38 dX12_tellers_37 rfl rfl rfl rfl ⟨by decide, by decide⟩ rfl ?_
  refine r_icmp_ge 41 71 dX12_tellers_38 rfl rfl (fun c => ?_) (fun c => ?_)
  · have h := h.1 (c)
    refine r_iload 73 dX12_tellers_71 rfl rfl ?_
    exact r_iret dX12_tellers_73 rfl (.inl rfl) h.1 h.2
  · have h := h.2 (c)
    refine r_iload 43 dX12_tellers_41 rfl rfl ?_
    refine r_aload_n 44 dX12_tellers_43 rfl rfl ?_
    refine r_iload_n 45 dX12_tellers_44 rfl rfl ?_
    refine r_iload_n 46 dX12_tellers_45 rfl rfl ?_
    refine r_iload 48 dX12_tellers_46 rfl rfl ?_
    obtain ⟨r_3, M_1, hc_2, h⟩ := h
    refine v_1 (ci := 12) (C := (RX12, TX12, 68)) [vI x1, vI x2, vI x5] [vI x4] 51 dX12_tellers_48 rfl rfl rfl rfl rfl mo_X12_fitting ml_12_334 rfl rfl hc_2 ?_
    obtain ⟨h0, h⟩ := h
    have hJ_4 : Ex l G (d + 3) mX12_tellers 62 [some (vR (some (3, 0))), some (vI x1), some (vI x2), some (vI x3), some (vI x4), some (vI x5)] [vI (if r_3 = 0 then 0 else (aShl 1 x5) : Int), vI x4] M_1 r M' := by
      obtain ⟨o_7, h⟩ := h
      refine r_ior 63 dX12_tellers_62 rfl ?_
      refine r_istore (ls' := [some (vR (some (3, 0))), some (vI x1), some (vI x2), some (vI x3), some (vI (aOr x4 (if r_3 = 0 then 0 else (aShl 1 x5) : Int))), some (vI x5)]) 65 dX12_tellers_63 rfl rfl rfl rfl ?_
      refine r_iinc (ls' := [some (vR (some (3, 0))), some (vI x1), some (vI x2), some (vI x3), some (vI (aOr x4 (if r_3 = 0 then 0 else (aShl 1 x5) : Int))), some (vI (x5 + 1))]) 68 dX12_tellers_65 rfl rfl rfl rfl o_7 rfl ?_
      refine r_goto 30 dX12_tellers_68 rfl ?_
      exact h
    have h := h0
    refine r_if_eq 54 61 dX12_tellers_51 rfl rfl (fun c => ?_) (fun c => ?_)
    · have c_5 := c
      refine r_iconst 62 dX12_tellers_61 rfl (InR_of rfl) ?_
      exact (Ex.at hJ_4 rfl (show [vI 0, vI x4] = [vI (if r_3 = 0 then 0 else (aShl 1 x5) : Int), vI x4] by simp only [if_pos c_5]) rfl)
    · have c_5 := c
      have h := h c_5
      have o_6 := h
      refine r_iconst 55 dX12_tellers_54 rfl (InR_of rfl) ?_
      refine r_iload 57 dX12_tellers_55 rfl rfl ?_
      refine r_ishl 58 dX12_tellers_57 rfl o_6 ?_
      refine r_goto 62 dX12_tellers_58 rfl ?_
      exact (Ex.at hJ_4 rfl (show [vI (aShl 1 x5), vI x4] = [vI (if r_3 = 0 then 0 else (aShl 1 x5) : Int), vI x4] by simp only [if_neg c_5]) rfl)

set_option maxRecDepth 4000 in
theorem xX11_tellers_0 {l : Launch} {G : Gt} {d : Nat} {M M' : Mem} {r : Option Vl} {x1 : Int} {x2 : Int} {x3 : Int} (h : 
    ∃ (o_3 : Option Nm) (M_1 : Mem), Cl l G d mX11_coverOf [vR (some (2, 0)), vI x1] M (some (vR o_3)) M_1 ∧ Sh M_1.2.1 ∧ ((o_3 = none → r = some (vI (-1)) ∧ M' = M_1) ∧ (¬ (o_3 = none) → (¬ (0 ≤ x2 ∧ x2 < (M_1.1 4 0 0)) → r = some (vI (-1)) ∧ M' = M_1) ∧ (0 ≤ x2 ∧ x2 < (M_1.1 4 0 0) → (0 ≤ x3 ∧ x3 ≤ 999 → Ex l G (d + 1) mX11_tellers 35 [some (vR (some (2, 0))), some (vI x1), some (vI x2), some (vI x3), some (vR o_3), some (vI 0), some (vI 0)] [] M_1 r M') ∧ (¬ (0 ≤ x3 ∧ x3 ≤ 999) → r = some (vI (-1)) ∧ M' = M_1))))) : Cl l G (d + 1) mX11_tellers [vR (some (2, 0)), vI x1, vI x2, vI x3] M r M' := by
  show Ex l G (d + 1) mX11_tellers 0 [some (vR (some (2, 0))), some (vI x1), some (vI x2), some (vI x3), none, none, none] [] M r M'
  refine r_aload_n 1 dX11_tellers_0 rfl rfl ?_
  refine r_iload_n 2 dX11_tellers_1 rfl rfl ?_
  obtain ⟨o_3, M_1, hc_2, hS, h⟩ := h
  refine v_1 (ci := 11) (C := (RX11, TX11, 16)) [vI x1] [] 5 dX11_tellers_2 rfl rfl rfl rfl rfl mo_X11_coverOf ml_11_187 rfl rfl hc_2 ?_
  refine r_astore (ls' := [some (vR (some (2, 0))), some (vI x1), some (vI x2), some (vI x3), some (vR o_3), none, none]) 7 dX11_tellers_5 rfl rfl rfl rfl ?_
  refine r_aload 9 dX11_tellers_7 rfl rfl ?_
  refine r_ifnull 12 27 dX11_tellers_9 rfl rfl (fun c => ?_) (fun c => ?_)
  · have h := h.1 (c)
    refine r_iconst 28 dX11_tellers_27 rfl (InR_of rfl) ?_
    exact r_iret dX11_tellers_28 rfl (.inl rfl) h.1 h.2
  · have h := h.2 (c)
    refine r_aload_n 13 dX11_tellers_12 rfl rfl ?_
    refine r_iload_n 14 dX11_tellers_13 rfl rfl ?_
    refine v_1 (ci := 11) (C := (RX11, TX11, 16)) [vI x2] [] 17 dX11_tellers_14 rfl rfl rfl rfl rfl mo_X11_isPerson ml_11_127 rfl rfl (KX11_isPerson hS) ?_
    refine r_if_eq 20 27 dX11_tellers_17 rfl rfl (fun c => ?_) (fun c => ?_)
    · have h := h.1 (b2_0.mp c)
      refine r_iconst 28 dX11_tellers_27 rfl (InR_of rfl) ?_
      exact r_iret dX11_tellers_28 rfl (.inl rfl) h.1 h.2
    · have h := h.2 (b2_1.mp c)
      refine r_iload_n 21 dX11_tellers_20 rfl rfl ?_
      refine c_1 [vI x3] [] 24 dX11_tellers_21 rfl rfl mo_X11_isDay ml_11_124 rfl rfl (KX11_isDay) ?_
      refine r_if_ne 27 29 dX11_tellers_24 rfl rfl (fun c => ?_) (fun c => ?_)
      · have h := h.1 (b2_1.mp c)
        refine r_iconst 30 dX11_tellers_29 rfl (InR_of rfl) ?_
        refine r_istore (ls' := [some (vR (some (2, 0))), some (vI x1), some (vI x2), some (vI x3), some (vR o_3), some (vI 0), none]) 32 dX11_tellers_30 rfl rfl rfl rfl ?_
        refine r_iconst 33 dX11_tellers_32 rfl (InR_of rfl) ?_
        refine r_istore (ls' := [some (vR (some (2, 0))), some (vI x1), some (vI x2), some (vI x3), some (vR o_3), some (vI 0), some (vI 0)]) 35 dX11_tellers_33 rfl rfl rfl rfl ?_
        exact h
      · have h := h.2 (b2_0.mp (Decidable.not_not.mp c))
        refine r_iconst 28 dX11_tellers_27 rfl (InR_of rfl) ?_
        exact r_iret dX11_tellers_28 rfl (.inl rfl) h.1 h.2
set_option maxRecDepth 4000 in
theorem xX11_tellers_35 {l : Launch} {G : Gt} {d : Nat} {M M' : Mem} {r : Option Vl} {x1 : Int} {x2 : Int} {x3 : Int} {o4 : Option Nm} {x5 : Int} {x6 : Int} (hS : Sh M.2.1) (h : 
    ((M.1 4 0 0) ≤ x6 → r = some (vI x5) ∧ M' = M) ∧ (¬ ((M.1 4 0 0) ≤ x6) → ∃ k_1 : Nat, o4 = some (13, k_1) ∧ (∃ (r_5 : Int) (M_3 : Mem), Cl l G d mX11_fitFor [vR (some (2, 0)), vR (some (13, k_1)), vI x2, vI x3, vI x3, vI x6] M (some (vI r_5)) M_3 ∧ (((¬ (r_5 = 0) → ((0 ≤ x6 ∧ x6 < 32)))) ∧ (InR (x6 + 1)) ∧ Ex l G (d + 1) mX11_tellers 35 [some (vR (some (2, 0))), some (vI x1), some (vI x2), some (vI x3), some (vR (some (13, k_1))), some (vI (if r_5 = 0 then x5 else (aOr x5 (aShl 1 x6)) : Int)), some (vI (x6 + 1))] [] M_3 r M')))) : Ex l G (d + 1) mX11_tellers 35 [some (vR (some (2, 0))), some (vI x1), some (vI x2), some (vI x3), some (vR o4), some (vI x5), some (vI x6)] [] M r M' := by
  refine r_iload 37 dX11_tellers_35 rfl rfl ?_
  refine r_aload_n 38 dX11_tellers_37 rfl rfl ?_
  refine g_R 41 dX11_tellers_38 rfl rfl rfl fr_11_12 (sh_11_0 hS) ?_
  refine g_I 44 dX11_tellers_41 rfl rfl rfl fi_11_111 rfl ?_
  refine r_icmp_ge 47 76 dX11_tellers_44 rfl rfl (fun c => ?_) (fun c => ?_)
  · have h := h.1 (c)
    refine r_iload 78 dX11_tellers_76 rfl rfl ?_
    exact r_iret dX11_tellers_78 rfl (.inl rfl) h.1 h.2
  · have h := h.2 (c)
    refine r_aload_n 48 dX11_tellers_47 rfl rfl ?_
    refine r_aload 50 dX11_tellers_48 rfl rfl ?_
    refine r_iload_n 51 dX11_tellers_50 rfl rfl ?_
    refine r_iload_n 52 dX11_tellers_51 rfl rfl ?_
    refine r_iload_n 53 dX11_tellers_52 rfl rfl ?_
    refine r_iload 55 dX11_tellers_53 rfl rfl ?_
    obtain ⟨k_1, e_2, h⟩ := h
    refine Ex.at (st2 := [vI x6, vI x3, vI x3, vI x2, vR (some (13, k_1)), vR (some (2, 0))]) ?_ rfl (show [vI x6, vI x3, vI x3, vI x2, vR o4, vR (some (2, 0))] = [vI x6, vI x3, vI x3, vI x2, vR (some (13, k_1)), vR (some (2, 0))] by rw [e_2]) rfl
    obtain ⟨r_5, M_3, hc_4, h⟩ := h
    refine v_1 (ci := 11) (C := (RX11, TX11, 16)) [vR (some (13, k_1)), vI x2, vI x3, vI x3, vI x6] [] 58 dX11_tellers_55 rfl rfl rfl rfl rfl mo_X11_fitFor ml_11_190 rfl rfl hc_4 ?_
    obtain ⟨h0, h⟩ := h
    have hJ_6 : Ex l G (d + 1) mX11_tellers 70 [some (vR (some (2, 0))), some (vI x1), some (vI x2), some (vI x3), some (vR o4), some (vI (if r_5 = 0 then x5 else (aOr x5 (aShl 1 x6)) : Int)), some (vI x6)] [] M_3 r M' := by
      obtain ⟨o_9, h⟩ := h
      refine r_iinc (ls' := [some (vR (some (2, 0))), some (vI x1), some (vI x2), some (vI x3), some (vR o4), some (vI (if r_5 = 0 then x5 else (aOr x5 (aShl 1 x6)) : Int)), some (vI (x6 + 1))]) 73 dX11_tellers_70 rfl rfl rfl rfl o_9 rfl ?_
      refine r_goto 35 dX11_tellers_73 rfl ?_
      exact (Ex.at h (show [some (vR (some (2, 0))), some (vI x1), some (vI x2), some (vI x3), some (vR o4), some (vI (if r_5 = 0 then x5 else (aOr x5 (aShl 1 x6)) : Int)), some (vI (x6 + 1))] = [some (vR (some (2, 0))), some (vI x1), some (vI x2), some (vI x3), some (vR (some (13, k_1))), some (vI (if r_5 = 0 then x5 else (aOr x5 (aShl 1 x6)) : Int)), some (vI (x6 + 1))] by rw [e_2]) rfl rfl)
    have h := h0
    refine r_if_eq 61 70 dX11_tellers_58 rfl rfl (fun c => ?_) (fun c => ?_)
    · have c_7 := c
      exact (Ex.at hJ_6 (show [some (vR (some (2, 0))), some (vI x1), some (vI x2), some (vI x3), some (vR o4), some (vI x5), some (vI x6)] = [some (vR (some (2, 0))), some (vI x1), some (vI x2), some (vI x3), some (vR o4), some (vI (if r_5 = 0 then x5 else (aOr x5 (aShl 1 x6)) : Int)), some (vI x6)] by simp only [if_pos c_7]) rfl rfl)
    · have c_7 := c
      have h := h c_7
      have o_8 := h
      refine r_iload 63 dX11_tellers_61 rfl rfl ?_
      refine r_iconst 64 dX11_tellers_63 rfl (InR_of rfl) ?_
      refine r_iload 66 dX11_tellers_64 rfl rfl ?_
      refine r_ishl 67 dX11_tellers_66 rfl o_8 ?_
      refine r_ior 68 dX11_tellers_67 rfl ?_
      refine r_istore (ls' := [some (vR (some (2, 0))), some (vI x1), some (vI x2), some (vI x3), some (vR o4), some (vI (aOr x5 (aShl 1 x6))), some (vI x6)]) 70 dX11_tellers_68 rfl rfl rfl rfl ?_
      exact (Ex.at hJ_6 (show [some (vR (some (2, 0))), some (vI x1), some (vI x2), some (vI x3), some (vR o4), some (vI (aOr x5 (aShl 1 x6))), some (vI x6)] = [some (vR (some (2, 0))), some (vI x1), some (vI x2), some (vI x3), some (vR o4), some (vI (if r_5 = 0 then x5 else (aOr x5 (aShl 1 x6)) : Int)), some (vI x6)] by simp only [if_neg c_7]) rfl rfl)

set_option maxRecDepth 4000 in
theorem xX12_lied_0 {l : Launch} {G : Gt} {d : Nat} {M M' : Mem} {r : Option Vl} {x1 : Int} {x2 : Int} {x3 : Int} (hS : Sh M.2.1) (h : 
    ((InR ((M.1 3 0 33) - 1) ∧ InR ((M.1 48 0 0) - 1))) ∧ (((0 ≤ x1 ∧ x1 < (M.1 3 0 33)) ∧ (0 ≤ x2 ∧ x2 < (M.1 48 0 0)) ∧ (0 ≤ x3 ∧ x3 ≤ 999) → ∃ (M_2 : Mem), Cl l G (d + 2) mX12_lays [vR (some (3, 0)), vI 0, vI x3] M none M_2 ∧ (∃ (M_4 : Mem), Cl l G (d + 2) mX12_lays [vR (some (3, 0)), vI 1, vI x3] M_2 none M_4 ∧ (∃ (r_8 : Int) (M_6 : Mem), Cl l G (d + 2) mX12_fitting [vR (some (3, 0)), vI x1, vI x2, vI (-1)] M_4 (some (vI r_8)) M_6 ∧ Ex l G (d + 3) mX12_lied 39 [some (vR (some (3, 0))), some (vI x1), some (vI x2), some (vI x3), some (vI r_8), some (vI 0), some (vI 0)] [] M_6 r M'))) ∧ (¬ ((0 ≤ x1 ∧ x1 < (M.1 3 0 33)) ∧ (0 ≤ x2 ∧ x2 < (M.1 48 0 0)) ∧ (0 ≤ x3 ∧ x3 ≤ 999)) → r = some (vI (-1)) ∧ M' = M))) : Cl l G (d + 3) mX12_lied [vR (some (3, 0)), vI x1, vI x2, vI x3] M r M' := by
  show Ex l G (d + 3) mX12_lied 0 [some (vR (some (3, 0))), some (vI x1), some (vI x2), some (vI x3), none, none, none] [] M r M'
  obtain ⟨o_1, h⟩ := h
  refine r_aload_n 1 dX12_lied_0 rfl rfl ?_
  refine r_iload_n 2 dX12_lied_1 rfl rfl ?_
  refine r_iload_n 3 dX12_lied_2 rfl rfl ?_
  refine r_iload_n 4 dX12_lied_3 rfl rfl ?_
  refine v_1 (ci := 12) (C := (RX12, TX12, 68)) [vI x1, vI x2, vI x3] [] 7 dX12_lied_4 rfl rfl rfl rfl rfl mo_X12_isRead ml_12_449 rfl rfl (KX12_isRead hS o_1) ?_
  refine r_if_ne 10 12 dX12_lied_7 rfl rfl (fun c => ?_) (fun c => ?_)
  · have h := h.1 (b2_1.mp c)
    refine r_aload_n 13 dX12_lied_12 rfl rfl ?_
    refine r_iconst 14 dX12_lied_13 rfl (InR_of rfl) ?_
    refine r_iload_n 15 dX12_lied_14 rfl rfl ?_
    obtain ⟨M_2, hc_3, h⟩ := h
    refine v_0 (ci := 12) (C := (RX12, TX12, 68)) [vI 0, vI x3] [] 18 dX12_lied_15 rfl rfl rfl rfl rfl mo_X12_lays ml_12_198 rfl rfl hc_3 ?_
    refine r_aload_n 19 dX12_lied_18 rfl rfl ?_
    refine r_iconst 20 dX12_lied_19 rfl (InR_of rfl) ?_
    refine r_iload_n 21 dX12_lied_20 rfl rfl ?_
    obtain ⟨M_4, hc_5, h⟩ := h
    refine v_0 (ci := 12) (C := (RX12, TX12, 68)) [vI 1, vI x3] [] 24 dX12_lied_21 rfl rfl rfl rfl rfl mo_X12_lays ml_12_198 rfl rfl hc_5 ?_
    refine r_aload_n 25 dX12_lied_24 rfl rfl ?_
    refine r_iload_n 26 dX12_lied_25 rfl rfl ?_
    refine r_iload_n 27 dX12_lied_26 rfl rfl ?_
    refine r_iconst 28 dX12_lied_27 rfl (InR_of rfl) ?_
    obtain ⟨r_8, M_6, hc_7, h⟩ := h
    refine v_1 (ci := 12) (C := (RX12, TX12, 68)) [vI x1, vI x2, vI (-1)] [] 31 dX12_lied_28 rfl rfl rfl rfl rfl mo_X12_fitting ml_12_334 rfl rfl hc_7 ?_
    refine r_istore (ls' := [some (vR (some (3, 0))), some (vI x1), some (vI x2), some (vI x3), some (vI r_8), none, none]) 33 dX12_lied_31 rfl rfl rfl rfl ?_
    refine r_iconst 34 dX12_lied_33 rfl (InR_of rfl) ?_
    refine r_istore (ls' := [some (vR (some (3, 0))), some (vI x1), some (vI x2), some (vI x3), some (vI r_8), some (vI 0), none]) 36 dX12_lied_34 rfl rfl rfl rfl ?_
    refine r_iconst 37 dX12_lied_36 rfl (InR_of rfl) ?_
    refine r_istore (ls' := [some (vR (some (3, 0))), some (vI x1), some (vI x2), some (vI x3), some (vI r_8), some (vI 0), some (vI 0)]) 39 dX12_lied_37 rfl rfl rfl rfl ?_
    exact h
  · have h := h.2 (b2_0.mp (Decidable.not_not.mp c))
    refine r_iconst 11 dX12_lied_10 rfl (InR_of rfl) ?_
    exact r_iret dX12_lied_11 rfl (.inl rfl) h.1 h.2
set_option maxRecDepth 4000 in
theorem xX12_lied_39 {l : Launch} {G : Gt} {d : Nat} {M M' : Mem} {r : Option Vl} {x1 : Int} {x2 : Int} {x3 : Int} {x4 : Int} {x5 : Int} {x6 : Int} (hS : Sh M.2.1) (h : 
    ((M.1 48 0 0) ≤ x6 → r = some (vI x5) ∧ M' = M) ∧ (¬ ((M.1 48 0 0) ≤ x6) → ∃ (r_3 : Int) (M_1 : Mem), Cl l G (d + 2) mX12_fitting [vR (some (3, 0)), vI x1, vI x2, vI x6] M (some (vI r_3)) M_1 ∧ (∃ (r_6 : Int) (M_4 : Mem), Cl l G (d + 2) mX12_seenBy [vR (some (3, 0)), vI x6] M_1 (some (vI r_6)) M_4 ∧ (((¬ (r_3 = (aAnd x4 r_6)) → ((0 ≤ x6 ∧ x6 < 32)))) ∧ (InR (x6 + 1)) ∧ Ex l G (d + 3) mX12_lied 39 [some (vR (some (3, 0))), some (vI x1), some (vI x2), some (vI x3), some (vI x4), some (vI (aOr x5 (if r_3 = (aAnd x4 r_6) then 0 else (aShl 1 x6) : Int))), some (vI (x6 + 1))] [] M_4 r M')))) : Ex l G (d + 3) mX12_lied 39 [some (vR (some (3, 0))), some (vI x1), some (vI x2), some (vI x3), some (vI x4), some (vI x5), some (vI x6)] [] M r M' := by
  refine r_iload 41 dX12_lied_39 rfl rfl ?_
  refine r_aload_n 42 dX12_lied_41 rfl rfl ?_
  refine g_R 45 dX12_lied_42 rfl rfl rfl fr_12_7 (sh_12_1 hS) ?_
  refine r_iconst 46 dX12_lied_45 rfl (InR_of rfl) ?_
  refine a_I 6 47 dX12_lied_46 rfl rfl rfl rfl ⟨by decide, by decide⟩ rfl ?_
  refine r_icmp_ge 50 89 dX12_lied_47 rfl rfl (fun c => ?_) (fun c => ?_)
  · have h := h.1 (c)
    refine r_iload 91 dX12_lied_89 rfl rfl ?_
    exact r_iret dX12_lied_91 rfl (.inl rfl) h.1 h.2
  · have h := h.2 (c)
    refine r_iload 52 dX12_lied_50 rfl rfl ?_
    refine r_aload_n 53 dX12_lied_52 rfl rfl ?_
    refine r_iload_n 54 dX12_lied_53 rfl rfl ?_
    refine r_iload_n 55 dX12_lied_54 rfl rfl ?_
    refine r_iload 57 dX12_lied_55 rfl rfl ?_
    obtain ⟨r_3, M_1, hc_2, h⟩ := h
    refine v_1 (ci := 12) (C := (RX12, TX12, 68)) [vI x1, vI x2, vI x6] [vI x5] 60 dX12_lied_57 rfl rfl rfl rfl rfl mo_X12_fitting ml_12_334 rfl rfl hc_2 ?_
    refine r_iload 62 dX12_lied_60 rfl rfl ?_
    refine r_aload_n 63 dX12_lied_62 rfl rfl ?_
    refine r_iload 65 dX12_lied_63 rfl rfl ?_
    obtain ⟨r_6, M_4, hc_5, h⟩ := h
    refine v_1 (ci := 12) (C := (RX12, TX12, 68)) [vI x6] [vI x4, vI r_3, vI x5] 68 dX12_lied_65 rfl rfl rfl rfl rfl mo_X12_seenBy ml_12_201 rfl rfl hc_5 ?_
    refine r_iand 69 dX12_lied_68 rfl ?_
    obtain ⟨h0, h⟩ := h
    have hJ_7 : Ex l G (d + 3) mX12_lied 80 [some (vR (some (3, 0))), some (vI x1), some (vI x2), some (vI x3), some (vI x4), some (vI x5), some (vI x6)] [vI (if r_3 = (aAnd x4 r_6) then 0 else (aShl 1 x6) : Int), vI x5] M_4 r M' := by
      obtain ⟨o_10, h⟩ := h
      refine r_ior 81 dX12_lied_80 rfl ?_
      refine r_istore (ls' := [some (vR (some (3, 0))), some (vI x1), some (vI x2), some (vI x3), some (vI x4), some (vI (aOr x5 (if r_3 = (aAnd x4 r_6) then 0 else (aShl 1 x6) : Int))), some (vI x6)]) 83 dX12_lied_81 rfl rfl rfl rfl ?_
      refine r_iinc (ls' := [some (vR (some (3, 0))), some (vI x1), some (vI x2), some (vI x3), some (vI x4), some (vI (aOr x5 (if r_3 = (aAnd x4 r_6) then 0 else (aShl 1 x6) : Int))), some (vI (x6 + 1))]) 86 dX12_lied_83 rfl rfl rfl rfl o_10 rfl ?_
      refine r_goto 39 dX12_lied_86 rfl ?_
      exact h
    have h := h0
    refine r_icmp_eq 72 79 dX12_lied_69 rfl rfl (fun c => ?_) (fun c => ?_)
    · have c_8 := c
      refine r_iconst 80 dX12_lied_79 rfl (InR_of rfl) ?_
      exact (Ex.at hJ_7 rfl (show [vI 0, vI x5] = [vI (if r_3 = (aAnd x4 r_6) then 0 else (aShl 1 x6) : Int), vI x5] by simp only [if_pos c_8]) rfl)
    · have c_8 := c
      have h := h c_8
      have o_9 := h
      refine r_iconst 73 dX12_lied_72 rfl (InR_of rfl) ?_
      refine r_iload 75 dX12_lied_73 rfl rfl ?_
      refine r_ishl 76 dX12_lied_75 rfl o_9 ?_
      refine r_goto 80 dX12_lied_76 rfl ?_
      exact (Ex.at hJ_7 rfl (show [vI (aShl 1 x6), vI x5] = [vI (if r_3 = (aAnd x4 r_6) then 0 else (aShl 1 x6) : Int), vI x5] by simp only [if_neg c_8]) rfl)

set_option maxRecDepth 4000 in
theorem xX11_lied_0 {l : Launch} {G : Gt} {d : Nat} {M M' : Mem} {r : Option Vl} {x1 : Int} {x2 : Int} {x3 : Int} (h : 
    ∃ (o_3 : Option Nm) (M_1 : Mem), Cl l G d mX11_coverOf [vR (some (2, 0)), vI x1] M (some (vR o_3)) M_1 ∧ Sh M_1.2.1 ∧ ((o_3 = none → r = some (vI (-1)) ∧ M' = M_1) ∧ (¬ (o_3 = none) → (¬ (0 ≤ x2 ∧ x2 < (M_1.1 4 0 0)) → r = some (vI (-1)) ∧ M' = M_1) ∧ (0 ≤ x2 ∧ x2 < (M_1.1 4 0 0) → (0 ≤ x3 ∧ x3 ≤ 999 → ∃ k_4 : Nat, o_3 = some (13, k_4) ∧ (∃ (r_8 : Int) (M_6 : Mem), Cl l G d mX11_fitFor [vR (some (2, 0)), vR (some (13, k_4)), vI x2, vI x3, vI x3, vI (-1)] M_1 (some (vI r_8)) M_6 ∧ Ex l G (d + 1) mX11_lied 47 [some (vR (some (2, 0))), some (vI x1), some (vI x2), some (vI x3), some (vR (some (13, k_4))), some (vI r_8), some (vI 0), some (vI 0)] [] M_6 r M')) ∧ (¬ (0 ≤ x3 ∧ x3 ≤ 999) → r = some (vI (-1)) ∧ M' = M_1))))) : Cl l G (d + 1) mX11_lied [vR (some (2, 0)), vI x1, vI x2, vI x3] M r M' := by
  show Ex l G (d + 1) mX11_lied 0 [some (vR (some (2, 0))), some (vI x1), some (vI x2), some (vI x3), none, none, none, none] [] M r M'
  refine r_aload_n 1 dX11_lied_0 rfl rfl ?_
  refine r_iload_n 2 dX11_lied_1 rfl rfl ?_
  obtain ⟨o_3, M_1, hc_2, hS, h⟩ := h
  refine v_1 (ci := 11) (C := (RX11, TX11, 16)) [vI x1] [] 5 dX11_lied_2 rfl rfl rfl rfl rfl mo_X11_coverOf ml_11_187 rfl rfl hc_2 ?_
  refine r_astore (ls' := [some (vR (some (2, 0))), some (vI x1), some (vI x2), some (vI x3), some (vR o_3), none, none, none]) 7 dX11_lied_5 rfl rfl rfl rfl ?_
  refine r_aload 9 dX11_lied_7 rfl rfl ?_
  refine r_ifnull 12 27 dX11_lied_9 rfl rfl (fun c => ?_) (fun c => ?_)
  · have h := h.1 (c)
    refine r_iconst 28 dX11_lied_27 rfl (InR_of rfl) ?_
    exact r_iret dX11_lied_28 rfl (.inl rfl) h.1 h.2
  · have h := h.2 (c)
    refine r_aload_n 13 dX11_lied_12 rfl rfl ?_
    refine r_iload_n 14 dX11_lied_13 rfl rfl ?_
    refine v_1 (ci := 11) (C := (RX11, TX11, 16)) [vI x2] [] 17 dX11_lied_14 rfl rfl rfl rfl rfl mo_X11_isPerson ml_11_127 rfl rfl (KX11_isPerson hS) ?_
    refine r_if_eq 20 27 dX11_lied_17 rfl rfl (fun c => ?_) (fun c => ?_)
    · have h := h.1 (b2_0.mp c)
      refine r_iconst 28 dX11_lied_27 rfl (InR_of rfl) ?_
      exact r_iret dX11_lied_28 rfl (.inl rfl) h.1 h.2
    · have h := h.2 (b2_1.mp c)
      refine r_iload_n 21 dX11_lied_20 rfl rfl ?_
      refine c_1 [vI x3] [] 24 dX11_lied_21 rfl rfl mo_X11_isDay ml_11_124 rfl rfl (KX11_isDay) ?_
      refine r_if_ne 27 29 dX11_lied_24 rfl rfl (fun c => ?_) (fun c => ?_)
      · have h := h.1 (b2_1.mp c)
        refine r_aload_n 30 dX11_lied_29 rfl rfl ?_
        refine r_aload 32 dX11_lied_30 rfl rfl ?_
        refine r_iload_n 33 dX11_lied_32 rfl rfl ?_
        refine r_iload_n 34 dX11_lied_33 rfl rfl ?_
        refine r_iload_n 35 dX11_lied_34 rfl rfl ?_
        refine r_iconst 36 dX11_lied_35 rfl (InR_of rfl) ?_
        obtain ⟨k_4, e_5, h⟩ := h
        refine Ex.at (st2 := [vI (-1), vI x3, vI x3, vI x2, vR (some (13, k_4)), vR (some (2, 0))]) ?_ rfl (show [vI (-1), vI x3, vI x3, vI x2, vR o_3, vR (some (2, 0))] = [vI (-1), vI x3, vI x3, vI x2, vR (some (13, k_4)), vR (some (2, 0))] by rw [e_5]) rfl
        obtain ⟨r_8, M_6, hc_7, h⟩ := h
        refine v_1 (ci := 11) (C := (RX11, TX11, 16)) [vR (some (13, k_4)), vI x2, vI x3, vI x3, vI (-1)] [] 39 dX11_lied_36 rfl rfl rfl rfl rfl mo_X11_fitFor ml_11_190 rfl rfl hc_7 ?_
        refine r_istore (ls' := [some (vR (some (2, 0))), some (vI x1), some (vI x2), some (vI x3), some (vR o_3), some (vI r_8), none, none]) 41 dX11_lied_39 rfl rfl rfl rfl ?_
        refine r_iconst 42 dX11_lied_41 rfl (InR_of rfl) ?_
        refine r_istore (ls' := [some (vR (some (2, 0))), some (vI x1), some (vI x2), some (vI x3), some (vR o_3), some (vI r_8), some (vI 0), none]) 44 dX11_lied_42 rfl rfl rfl rfl ?_
        refine r_iconst 45 dX11_lied_44 rfl (InR_of rfl) ?_
        refine r_istore (ls' := [some (vR (some (2, 0))), some (vI x1), some (vI x2), some (vI x3), some (vR o_3), some (vI r_8), some (vI 0), some (vI 0)]) 47 dX11_lied_45 rfl rfl rfl rfl ?_
        exact (Ex.at h (show [some (vR (some (2, 0))), some (vI x1), some (vI x2), some (vI x3), some (vR o_3), some (vI r_8), some (vI 0), some (vI 0)] = [some (vR (some (2, 0))), some (vI x1), some (vI x2), some (vI x3), some (vR (some (13, k_4))), some (vI r_8), some (vI 0), some (vI 0)] by rw [e_5]) rfl rfl)
      · have h := h.2 (b2_0.mp (Decidable.not_not.mp c))
        refine r_iconst 28 dX11_lied_27 rfl (InR_of rfl) ?_
        exact r_iret dX11_lied_28 rfl (.inl rfl) h.1 h.2
set_option maxRecDepth 4000 in
theorem xX11_lied_47 {l : Launch} {G : Gt} {d : Nat} {M M' : Mem} {r : Option Vl} {x1 : Int} {x2 : Int} {x3 : Int} {k4 : Nat} {x5 : Int} {x6 : Int} {x7 : Int} (hS : Sh M.2.1) (h : 
    ((M.1 4 0 0) ≤ x7 → r = some (vI x6) ∧ M' = M) ∧ (¬ ((M.1 4 0 0) ≤ x7) → ∃ (r_3 : Int) (M_1 : Mem), Cl l G d mX11_fitFor [vR (some (2, 0)), vR (some (13, k4)), vI x2, vI x3, vI x3, vI x7] M (some (vI r_3)) M_1 ∧ Sh M_1.2.1 ∧ (∃ (k_6 : Nat) (M_4 : Mem), Cl l G d mX6_on [vR (some (6, 0)), vI x3] M_1 (some (vR (some (14, k_6)))) M_4 ∧ (∃ (r_9 : Int) (M_7 : Mem), Cl l G d mX11_seenBy [vR (some (2, 0)), vI x7, vR (some (14, k_6))] M_4 (some (vI r_9)) M_7 ∧ (((¬ (r_3 = (aAnd x5 r_9)) → ((0 ≤ x7 ∧ x7 < 32)))) ∧ (InR (x7 + 1)) ∧ Ex l G (d + 1) mX11_lied 47 [some (vR (some (2, 0))), some (vI x1), some (vI x2), some (vI x3), some (vR (some (13, k4))), some (vI x5), some (vI (if r_3 = (aAnd x5 r_9) then x6 else (aOr x6 (aShl 1 x7)) : Int)), some (vI (x7 + 1))] [] M_7 r M'))))) : Ex l G (d + 1) mX11_lied 47 [some (vR (some (2, 0))), some (vI x1), some (vI x2), some (vI x3), some (vR (some (13, k4))), some (vI x5), some (vI x6), some (vI x7)] [] M r M' := by
  refine r_iload 49 dX11_lied_47 rfl rfl ?_
  refine r_aload_n 50 dX11_lied_49 rfl rfl ?_
  refine g_R 53 dX11_lied_50 rfl rfl rfl fr_11_12 (sh_11_0 hS) ?_
  refine g_I 56 dX11_lied_53 rfl rfl rfl fi_11_111 rfl ?_
  refine r_icmp_ge 59 105 dX11_lied_56 rfl rfl (fun c => ?_) (fun c => ?_)
  · have h := h.1 (c)
    refine r_iload 107 dX11_lied_105 rfl rfl ?_
    exact r_iret dX11_lied_107 rfl (.inl rfl) h.1 h.2
  · have h := h.2 (c)
    refine r_aload_n 60 dX11_lied_59 rfl rfl ?_
    refine r_aload 62 dX11_lied_60 rfl rfl ?_
    refine r_iload_n 63 dX11_lied_62 rfl rfl ?_
    refine r_iload_n 64 dX11_lied_63 rfl rfl ?_
    refine r_iload_n 65 dX11_lied_64 rfl rfl ?_
    refine r_iload 67 dX11_lied_65 rfl rfl ?_
    obtain ⟨r_3, M_1, hc_2, hS, h⟩ := h
    refine v_1 (ci := 11) (C := (RX11, TX11, 16)) [vR (some (13, k4)), vI x2, vI x3, vI x3, vI x7] [] 70 dX11_lied_67 rfl rfl rfl rfl rfl mo_X11_fitFor ml_11_190 rfl rfl hc_2 ?_
    refine r_iload 72 dX11_lied_70 rfl rfl ?_
    refine r_aload_n 73 dX11_lied_72 rfl rfl ?_
    refine r_iload 75 dX11_lied_73 rfl rfl ?_
    refine r_aload_n 76 dX11_lied_75 rfl rfl ?_
    refine g_R 79 dX11_lied_76 rfl rfl rfl fr_11_21 (sh_11_1 hS) ?_
    refine r_iload_n 80 dX11_lied_79 rfl rfl ?_
    obtain ⟨k_6, M_4, hc_5, h⟩ := h
    refine v_1 (ci := 6) (C := (RX6, TX6, 3)) [vI x3] [vI x7, vR (some (2, 0)), vI x5, vI r_3] 83 dX11_lied_80 rfl rfl rfl rfl rfl mo_X6_on ml_11_164 rfl rfl hc_5 ?_
    obtain ⟨r_9, M_7, hc_8, h⟩ := h
    refine v_1 (ci := 11) (C := (RX11, TX11, 16)) [vI x7, vR (some (14, k_6))] [vI x5, vI r_3] 86 dX11_lied_83 rfl rfl rfl rfl rfl mo_X11_seenBy ml_11_180 rfl rfl hc_8 ?_
    refine r_iand 87 dX11_lied_86 rfl ?_
    obtain ⟨h0, h⟩ := h
    have hJ_10 : Ex l G (d + 1) mX11_lied 99 [some (vR (some (2, 0))), some (vI x1), some (vI x2), some (vI x3), some (vR (some (13, k4))), some (vI x5), some (vI (if r_3 = (aAnd x5 r_9) then x6 else (aOr x6 (aShl 1 x7)) : Int)), some (vI x7)] [] M_7 r M' := by
      obtain ⟨o_13, h⟩ := h
      refine r_iinc (ls' := [some (vR (some (2, 0))), some (vI x1), some (vI x2), some (vI x3), some (vR (some (13, k4))), some (vI x5), some (vI (if r_3 = (aAnd x5 r_9) then x6 else (aOr x6 (aShl 1 x7)) : Int)), some (vI (x7 + 1))]) 102 dX11_lied_99 rfl rfl rfl rfl o_13 rfl ?_
      refine r_goto 47 dX11_lied_102 rfl ?_
      exact h
    have h := h0
    refine r_icmp_eq 90 99 dX11_lied_87 rfl rfl (fun c => ?_) (fun c => ?_)
    · have c_11 := c
      exact (Ex.at hJ_10 (show [some (vR (some (2, 0))), some (vI x1), some (vI x2), some (vI x3), some (vR (some (13, k4))), some (vI x5), some (vI x6), some (vI x7)] = [some (vR (some (2, 0))), some (vI x1), some (vI x2), some (vI x3), some (vR (some (13, k4))), some (vI x5), some (vI (if r_3 = (aAnd x5 r_9) then x6 else (aOr x6 (aShl 1 x7)) : Int)), some (vI x7)] by simp only [if_pos c_11]) rfl rfl)
    · have c_11 := c
      have h := h c_11
      have o_12 := h
      refine r_iload 92 dX11_lied_90 rfl rfl ?_
      refine r_iconst 93 dX11_lied_92 rfl (InR_of rfl) ?_
      refine r_iload 95 dX11_lied_93 rfl rfl ?_
      refine r_ishl 96 dX11_lied_95 rfl o_12 ?_
      refine r_ior 97 dX11_lied_96 rfl ?_
      refine r_istore (ls' := [some (vR (some (2, 0))), some (vI x1), some (vI x2), some (vI x3), some (vR (some (13, k4))), some (vI x5), some (vI (aOr x6 (aShl 1 x7))), some (vI x7)]) 99 dX11_lied_97 rfl rfl rfl rfl ?_
      exact (Ex.at hJ_10 (show [some (vR (some (2, 0))), some (vI x1), some (vI x2), some (vI x3), some (vR (some (13, k4))), some (vI x5), some (vI (aOr x6 (aShl 1 x7))), some (vI x7)] = [some (vR (some (2, 0))), some (vI x1), some (vI x2), some (vI x3), some (vR (some (13, k4))), some (vI x5), some (vI (if r_3 = (aAnd x5 r_9) then x6 else (aOr x6 (aShl 1 x7)) : Int)), some (vI x7)] by simp only [if_neg c_11]) rfl rfl)

def fV (Q : QT) (c s : Nat) (sent x r : Int) : Int := fitV Q (nD Q c sent x) s (snF Q (dn Q x) r) c
def stlF (Q : QT) (c s : Nat) (p : Int) (day : Int) : Nat → Int → Int
  | 0, _ => -2
  | n + 1, x => if fV Q c s day x (-1) = aShl 1 p then stlF Q c s p day n (x + 1) else x
def lastD (day : Int) : Int := if 999 < day + 99 then 999 else day + 99
def staleV (Q : QT) (c s p day : Int) : Int := if (0 ≤ c ∧ c < nCv Q) ∧ (0 ≤ s ∧ s < nPp Q) ∧ (0 ≤ p ∧ p < nPp Q) ∧ (0 ≤ day ∧ day ≤ 999) then stlF Q c.toNat s.toNat p day (lastD day - day + 1).toNat day else -1
def aloneV (Q : QT) (c s p day : Int) : Int := if (0 ≤ c ∧ c < nCv Q) ∧ (0 ≤ s ∧ s < nPp Q) ∧ (0 ≤ p ∧ p < nPp Q) ∧ (0 ≤ day ∧ day ≤ 999) then cntF (fun i => fV Q c.toNat s.toNat day (day + i) (-1) = aShl 1 p) (lastD day - day + 1).toNat else -1
def tellersV (Q : QT) (c s day : Int) : Int := if (0 ≤ c ∧ c < nCv Q) ∧ (0 ≤ s ∧ s < nPp Q) ∧ (0 ≤ day ∧ day ≤ 999) then bI (nPp Q) (fun r => decide (¬ fV Q c.toNat s.toNat day day r = 0)) else -1
def liedV (Q : QT) (c s day : Int) : Int := if (0 ≤ c ∧ c < nCv Q) ∧ (0 ≤ s ∧ s < nPp Q) ∧ (0 ≤ day ∧ day ≤ 999) then bI (nPp Q) (fun r => decide (¬ fV Q c.toNat s.toNat day day r = aAnd (fV Q c.toNat s.toNat day day (-1)) (bI 12 (snF Q (dn Q day) r)))) else -1
theorem bI_no {n : Nat} (h : n < 31) {p : Nat → Bool} {c : Prop} [Decidable c] (hc : ¬ c ↔ p n = true) : aOr (bI n p) (if c then 0 else aShl 1 (n : Int)) = bI (n + 1) p := by
  rw [← bI_step (c := ¬ c) h hc]
  by_cases e : c
  · rw [if_pos e, if_neg (fun x => x e)]
  · rw [if_neg e, if_pos e]
theorem bI_zor {n : Nat} (h : n ≤ 31) (p : Nat → Bool) : aOr (bI n p) 0 = bI n p := by
  refine bI_of h (aOr_in _ _) fun i hi => ?_
  rw [tb_or, tb_bI h, tb_zero]; simp
theorem bI_cl {n : Nat} (h : n < 31) {p : Nat → Bool} {c : Prop} [Decidable c] (hc : ¬ c ↔ p n = true) : (if c then bI n p else aOr (bI n p) (aShl 1 (n : Int))) = bI (n + 1) p := by
  rw [← bI_no h hc]
  by_cases e : c
  · rw [if_pos e, if_pos e, bI_zor (by omega)]
  · rw [if_neg e, if_neg e]
section ST
variable {l : Launch} {G : Gt} {d : Nat} {Q : QT} {M : Mem}
theorem ref_fitA {I : IM} {R : RM} {C : Ct} {c s : Nat} {sent x r : Int} (hS : Sh R) (hq : WFQ Q) (hH : HoldsM Q I) (hL0 : Laid Q I 0 (dn Q sent)) (hL1 : Laid Q I 1 (dn Q x)) (hc : c < nCv Q) (hs : s < nPp Q) (hr : r = -1 ∨ (0 ≤ r ∧ r < 12)) : ∃ I3, Cl l G (d + 2) mX12_fitting [vR (some (3, 0)), vI (c : Int), vI (s : Int), vI r] (I, R, C) (some (vI (fV Q c s sent x r))) (I3, R, C) ∧ frM I I3 ∧ Laid Q I3 0 (dn Q sent) ∧ Laid Q I3 1 (dn Q x) := by
  have h12 := nPp_le hq.1
  have hc8 : c < 8 := by have := hq.2.2.2.2.1; unfold nCv at hc; omega
  obtain ⟨F', c3⟩ := KX12_fitting (l := l) (G := G) (d := d) (M := (I, R, C)) (cv := c) (s := s) (r := r) hS hq.1 hq.2.2.1 (dn_le Q sent) (dn_le Q x) hH.1 hH.2.1 hL0 hL1 hc8 (hq.2.2.2.2.2 c hc) (by omega) hr
  exact ⟨_, c3, frM.se fun i => by unfold scr; omega, hL0.st, hL1.st⟩
theorem ref_fit {I : IM} {R : RM} {C : Ct} {c s : Nat} {sent x : Int} (hS : Sh R) (hq : WFQ Q) (hH : HoldsM Q I) (hL0 : Laid Q I 0 (dn Q sent)) (hc : c < nCv Q) (hs : s < nPp Q) : ∃ I1 I3, Cl l G (d + 2) mX12_lays [vR (some (3, 0)), vI 1, vI x] (I, R, C) none (I1, R, C) ∧ Cl l G (d + 2) mX12_fitting [vR (some (3, 0)), vI (c : Int), vI (s : Int), vI (-1)] (I1, R, C) (some (vI (fV Q c s sent x (-1)))) (I3, R, C) ∧ frM I I3 ∧ Laid Q I3 0 (dn Q sent) := by
  obtain ⟨I1, c1, s1, L1⟩ := KX12_lays (l := l) (G := G) (d := d) (M := (I, R, C)) (row := 1) (x2 := x) hS hq.1 hH.1 (by omega)
  have L0 := Laid.same (row' := 1) hL0 (by omega) (by omega) (by omega) s1
  obtain ⟨I3, c3, f3, L3, _⟩ := ref_fitA (l := l) (G := G) (d := d) (C := C) (r := -1) hS hq (hH.fr (frM.ll s1)) L0 L1 hc hs (.inl rfl)
  exact ⟨I1, I3, c1, c3, (frM.ll s1).tr f3, L3⟩
theorem lastD_in {day : Int} (h : 0 ≤ day ∧ day ≤ 999) : day ≤ lastD day ∧ lastD day ≤ 999 ∧ lastD day ≤ day + 99 ∧ (lastD day = 999 ∨ lastD day = day + 99) := by
  unfold lastD
  split <;> omega
theorem KX12_stale {c s p day : Int} (hS : Sh M.2.1) (hq : WFQ Q) (hH : HoldsM Q M.1) : ∃ I', Cl l G (d + 3) mX12_stale [vR (some (3, 0)), vI c, vI s, vI p, vI day] M (some (vI (staleV Q c s p day))) (I', M.2.1, M.2.2) ∧ frM M.1 I' := by
  have h12 := nPp_le hq.1
  have e1 := mppl_eq hq.1 hH
  have e2 : M.1 3 0 33 = (nCv Q : Int) := by rw [hH.2.2.2.1]; have := hq.2.2.2.2.1; unfold nCv; omega
  have hn8 : nCv Q ≤ 8 := by have := hq.2.2.2.2.1; unfold nCv; omega
  unfold staleV
  by_cases g : (0 ≤ c ∧ c < nCv Q) ∧ (0 ≤ s ∧ s < nPp Q) ∧ (0 ≤ p ∧ p < nPp Q) ∧ (0 ≤ day ∧ day ≤ 999)
  · rw [if_pos g]
    obtain ⟨g1, g2, g3, g4⟩ := g
    obtain ⟨b1, b2, b3, b4⟩ := lastD_in g4
    have key : ∀ (n : Nat) (x : Int), x + n = lastD day + 1 → 0 ≤ x → ∀ I, HoldsM Q I → Laid Q I 0 (dn Q day) → ∃ I', Ex l G (d + 3) mX12_stale 45 [some (vR (some (3, 0))), some (vI c), some (vI s), some (vI p), some (vI day), some (vI x)] [] (I, M.2.1, M.2.2) (some (vI (stlF Q c.toNat s.toNat p day n x))) (I', M.2.1, M.2.2) ∧ frM I I' := by
      intro n
      induction n with
      | zero =>
        intro x hx h0 I hI hL
        exact ⟨I, xX12_stale_45 ⟨by unfold InR; omega, fun _ => ⟨rfl, rfl⟩, fun c1 => ⟨fun _ => ⟨rfl, rfl⟩, fun c2 => by omega⟩⟩, frM.rf⟩
      | succ n ih =>
        intro x hx h0 I hI hL
        obtain ⟨I1, I3, c1, c3, f3, L3⟩ := ref_fit (l := l) (G := G) (d := d) (R := M.2.1) (C := M.2.2) (c := c.toNat) (s := s.toNat) (sent := day) (x := x) hS hq hI hL (by omega) (by omega)
        rw [show ((c.toNat : Nat) : Int) = c by omega, show ((s.toNat : Nat) : Int) = s by omega] at c3
        unfold stlF
        by_cases e : fV Q c.toNat s.toNat day x (-1) = aShl 1 p
        · rw [if_pos e]
          obtain ⟨I', x1, x2⟩ := ih (x + 1) (by omega) (by omega) I3 (hI.fr f3) L3
          exact ⟨I', xX12_stale_45 ⟨by unfold InR; omega, fun c => by omega, fun _ => ⟨fun c => by omega, fun _ => ⟨_, c1, _, _, c3, by omega, fun _ => ⟨by unfold InR; omega, x1⟩, fun c => absurd e c⟩⟩⟩, f3.tr x2⟩
        · rw [if_neg e]
          exact ⟨I3, xX12_stale_45 ⟨by unfold InR; omega, fun c => by omega, fun _ => ⟨fun c => by omega, fun _ => ⟨_, c1, _, _, c3, by omega, fun c => absurd c e, fun _ => ⟨rfl, rfl⟩⟩⟩⟩, f3⟩
    obtain ⟨I0, c0, s0, L0⟩ := KX12_lays (l := l) (G := G) (d := d) (row := 0) (x2 := day) hS hq.1 hH.1 (by omega)
    obtain ⟨I', x1, x2⟩ := key (lastD day - day + 1).toNat day (by omega) g4.1 I0 (hH.fr (frM.ll s0)) L0
    refine ⟨I', xX12_stale_0 hS ?_, (frM.ll s0).tr x2⟩
    rw [e1, e2]
    exact ⟨by unfold InR; omega, fun a => absurd g1 a, fun _ => ⟨by unfold InR; omega, fun a => absurd g2 a, fun _ => ⟨by unfold InR; omega, fun a => absurd g3 a, fun _ => ⟨fun _ => ⟨_, c0, x1⟩, fun a => absurd g4 a⟩⟩⟩⟩
  · rw [if_neg g]
    refine ⟨M.1, xX12_stale_0 hS ?_, frM.rf⟩
    rw [e1, e2]
    exact ⟨by unfold InR; omega, fun _ => ⟨rfl, rfl⟩, fun g1 => ⟨by unfold InR; omega, fun _ => ⟨rfl, rfl⟩, fun g2 => ⟨by unfold InR; omega, fun _ => ⟨rfl, rfl⟩, fun g3 => ⟨fun g4 => absurd ⟨g1, g2, g3, g4⟩ g, fun _ => ⟨rfl, rfl⟩⟩⟩⟩⟩
theorem KX12_alone {c s p day : Int} (hS : Sh M.2.1) (hq : WFQ Q) (hH : HoldsM Q M.1) : ∃ I', Cl l G (d + 3) mX12_alone [vR (some (3, 0)), vI c, vI s, vI p, vI day] M (some (vI (aloneV Q c s p day))) (I', M.2.1, M.2.2) ∧ frM M.1 I' := by
  have h12 := nPp_le hq.1
  have e1 := mppl_eq hq.1 hH
  have e2 : M.1 3 0 33 = (nCv Q : Int) := by rw [hH.2.2.2.1]; have := hq.2.2.2.2.1; unfold nCv; omega
  have hn8 : nCv Q ≤ 8 := by have := hq.2.2.2.2.1; unfold nCv; omega
  unfold aloneV
  by_cases g : (0 ≤ c ∧ c < nCv Q) ∧ (0 ≤ s ∧ s < nPp Q) ∧ (0 ≤ p ∧ p < nPp Q) ∧ (0 ≤ day ∧ day ≤ 999)
  · rw [if_pos g]
    obtain ⟨g1, g2, g3, g4⟩ := g
    obtain ⟨b1, b2, b3, b4⟩ := lastD_in g4
    obtain ⟨m, hm⟩ : ∃ m, (lastD day - day + 1).toNat = m := ⟨_, rfl⟩
    rw [hm]
    have key := loopUp (P := fun i : Nat => ∀ I, HoldsM Q I → Laid Q I 0 (dn Q day) → ∃ I', Ex l G (d + 3) mX12_alone 35 [some (vR (some (3, 0))), some (vI c), some (vI s), some (vI p), some (vI day), some (vI (cntF (fun i => fV Q c.toNat s.toNat day (day + i) (-1) = aShl 1 p) i)), some (vI (day + (i : Int)))] [] (I, M.2.1, M.2.2) (some (vI (cntF (fun i => fV Q c.toNat s.toNat day (day + i) (-1) = aShl 1 p) m))) (I', M.2.1, M.2.2) ∧ frM I I') 0 m (by omega) (by
      intro i _ hi ih I hI hL
      have hc := cntF_in (fun i => fV Q c.toNat s.toNat day (day + i) (-1) = aShl 1 p) i
      obtain ⟨I1, I3, c1, c3, f3, L3⟩ := ref_fit (l := l) (G := G) (d := d) (R := M.2.1) (C := M.2.2) (c := c.toNat) (s := s.toNat) (sent := day) (x := day + (i : Int)) hS hq hI hL (by omega) (by omega)
      rw [show ((c.toNat : Nat) : Int) = c by omega, show ((s.toNat : Nat) : Int) = s by omega] at c3
      obtain ⟨I', x1, x2⟩ := ih I3 (hI.fr f3) L3
      refine ⟨I', xX12_alone_35 ⟨by unfold InR; omega, fun c => by omega, fun _ => ⟨fun c => by omega, fun _ => ⟨_, c1, _, _, c3, by omega, ⟨?_, by unfold InR; omega⟩, ?_⟩⟩⟩, f3.tr x2⟩
      · unfold InR; split <;> omega
      · rw [show day + (i : Int) + 1 = day + ((i + 1 : Nat) : Int) by omega]
        exact x1) (by
      intro I hI hL
      exact ⟨I, xX12_alone_35 ⟨by unfold InR; omega, fun _ => ⟨rfl, rfl⟩, fun c1 => ⟨fun _ => ⟨rfl, rfl⟩, fun c2 => by omega⟩⟩, frM.rf⟩)
    obtain ⟨I0, c0, s0, L0⟩ := KX12_lays (l := l) (G := G) (d := d) (row := 0) (x2 := day) hS hq.1 hH.1 (by omega)
    obtain ⟨I', x1, x2⟩ := key I0 (hH.fr (frM.ll s0)) L0
    rw [show day + ((0 : Nat) : Int) = day by omega] at x1
    refine ⟨I', xX12_alone_0 hS ?_, (frM.ll s0).tr x2⟩
    rw [e1, e2]
    exact ⟨⟨by unfold InR; omega, by unfold InR; omega⟩, fun a => absurd ⟨g1, g2, g4⟩ a, fun _ => ⟨by unfold InR; omega, fun _ => ⟨_, c0, x1⟩, fun a => absurd g3 a⟩⟩
  · rw [if_neg g]
    refine ⟨M.1, xX12_alone_0 hS ?_, frM.rf⟩
    rw [e1, e2]
    exact ⟨⟨by unfold InR; omega, by unfold InR; omega⟩, fun _ => ⟨rfl, rfl⟩, fun g1 => ⟨by unfold InR; omega, fun g2 => absurd ⟨g1.1, g1.2.1, g2, g1.2.2⟩ g, fun _ => ⟨rfl, rfl⟩⟩⟩
theorem KX12_tellers {c s day : Int} (hS : Sh M.2.1) (hq : WFQ Q) (hH : HoldsM Q M.1) : ∃ I', Cl l G (d + 3) mX12_tellers [vR (some (3, 0)), vI c, vI s, vI day] M (some (vI (tellersV Q c s day))) (I', M.2.1, M.2.2) ∧ frM M.1 I' := by
  have h12 := nPp_le hq.1
  have e1 := mppl_eq hq.1 hH
  have e2 : M.1 3 0 33 = (nCv Q : Int) := by rw [hH.2.2.2.1]; have := hq.2.2.2.2.1; unfold nCv; omega
  have hn8 : nCv Q ≤ 8 := by have := hq.2.2.2.2.1; unfold nCv; omega
  unfold tellersV
  by_cases g : (0 ≤ c ∧ c < nCv Q) ∧ (0 ≤ s ∧ s < nPp Q) ∧ (0 ≤ day ∧ day ≤ 999)
  · rw [if_pos g]
    obtain ⟨g1, g2, g4⟩ := g
    have key := loopUp (P := fun i : Nat => ∀ I, HoldsM Q I → Laid Q I 0 (dn Q day) → Laid Q I 1 (dn Q day) → ∃ I', Ex l G (d + 3) mX12_tellers 30 [some (vR (some (3, 0))), some (vI c), some (vI s), some (vI day), some (vI (bI i (fun r => decide (¬ fV Q c.toNat s.toNat day day r = 0)))), some (vI (i : Int))] [] (I, M.2.1, M.2.2) (some (vI (bI (nPp Q) (fun r => decide (¬ fV Q c.toNat s.toNat day day r = 0))))) (I', M.2.1, M.2.2) ∧ frM I I') 0 (nPp Q) (by omega) (by
      intro i _ hi ih I hI hL hL1
      have e1 : I 48 0 0 = (nPp Q : Int) := mppl_eq (M := (I, M.2.1, M.2.2)) hq.1 hI
      obtain ⟨I3, c3, f3, L3, L4⟩ := ref_fitA (l := l) (G := G) (d := d) (R := M.2.1) (C := M.2.2) (c := c.toNat) (s := s.toNat) (sent := day) (x := day) (r := (i : Int)) hS hq hI hL hL1 (by omega) (by omega) (by omega)
      rw [show ((c.toNat : Nat) : Int) = c by omega, show ((s.toNat : Nat) : Int) = s by omega] at c3
      obtain ⟨I', x1, x2⟩ := ih I3 (hI.fr f3) L3 L4
      refine ⟨I', xX12_tellers_30 hS ⟨fun c => by dsimp only at c; omega, fun _ => ⟨_, _, c3, fun _ => by omega, by unfold InR; omega, ?_⟩⟩, f3.tr x2⟩
      rw [bI_no (by omega) (by simp)]
      exact x1) (by
      intro I hI hL hL1
      have e1 : I 48 0 0 = (nPp Q : Int) := mppl_eq (M := (I, M.2.1, M.2.2)) hq.1 hI
      exact ⟨I, xX12_tellers_30 hS ⟨fun _ => ⟨rfl, rfl⟩, fun c => absurd (by dsimp only; omega) c⟩, frM.rf⟩)
    obtain ⟨I0, c0, s0, L0⟩ := KX12_lays (l := l) (G := G) (d := d) (row := 0) (x2 := day) hS hq.1 hH.1 (by omega)
    obtain ⟨I1, c1, s1, L1⟩ := KX12_lays (l := l) (G := G) (d := d) (M := (I0, M.2.1, M.2.2)) (row := 1) (x2 := day) hS hq.1 (hH.fr (frM.ll s0)).1 (by omega)
    have f1 := (frM.ll s0).tr (frM.ll s1)
    obtain ⟨I', x1, x2⟩ := key I1 (hH.fr f1) (Laid.same (row' := 1) L0 (by omega) (by omega) (by omega) s1) L1
    refine ⟨I', xX12_tellers_0 hS ?_, f1.tr x2⟩
    rw [e1, e2]
    exact ⟨⟨by unfold InR; omega, by unfold InR; omega⟩, fun _ => ⟨_, c0, _, c1, x1⟩, fun a => absurd ⟨g1, g2, g4⟩ a⟩
  · rw [if_neg g]
    refine ⟨M.1, xX12_tellers_0 hS ?_, frM.rf⟩
    rw [e1, e2]
    exact ⟨⟨by unfold InR; omega, by unfold InR; omega⟩, fun g1 => absurd g1 g, fun _ => ⟨rfl, rfl⟩⟩
theorem KX12_lied {c s day : Int} (hS : Sh M.2.1) (hq : WFQ Q) (hH : HoldsM Q M.1) : ∃ I', Cl l G (d + 3) mX12_lied [vR (some (3, 0)), vI c, vI s, vI day] M (some (vI (liedV Q c s day))) (I', M.2.1, M.2.2) ∧ frM M.1 I' := by
  have h12 := nPp_le hq.1
  have e1 := mppl_eq hq.1 hH
  have e2 : M.1 3 0 33 = (nCv Q : Int) := by rw [hH.2.2.2.1]; have := hq.2.2.2.2.1; unfold nCv; omega
  have hn8 : nCv Q ≤ 8 := by have := hq.2.2.2.2.1; unfold nCv; omega
  unfold liedV
  by_cases g : (0 ≤ c ∧ c < nCv Q) ∧ (0 ≤ s ∧ s < nPp Q) ∧ (0 ≤ day ∧ day ≤ 999)
  · rw [if_pos g]
    obtain ⟨g1, g2, g4⟩ := g
    have key := loopUp (P := fun i : Nat => ∀ I, HoldsM Q I → Laid Q I 0 (dn Q day) → Laid Q I 1 (dn Q day) → ∃ I', Ex l G (d + 3) mX12_lied 39 [some (vR (some (3, 0))), some (vI c), some (vI s), some (vI day), some (vI (fV Q c.toNat s.toNat day day (-1))), some (vI (bI i (fun r => decide (¬ fV Q c.toNat s.toNat day day r = aAnd (fV Q c.toNat s.toNat day day (-1)) (bI 12 (snF Q (dn Q day) r)))))), some (vI (i : Int))] [] (I, M.2.1, M.2.2) (some (vI (bI (nPp Q) (fun r => decide (¬ fV Q c.toNat s.toNat day day r = aAnd (fV Q c.toNat s.toNat day day (-1)) (bI 12 (snF Q (dn Q day) r))))))) (I', M.2.1, M.2.2) ∧ frM I I') 0 (nPp Q) (by omega) (by
      intro i _ hi ih I hI hL hL1
      have e1 : I 48 0 0 = (nPp Q : Int) := mppl_eq (M := (I, M.2.1, M.2.2)) hq.1 hI
      obtain ⟨I3, c3, f3, L3, L4⟩ := ref_fitA (l := l) (G := G) (d := d) (R := M.2.1) (C := M.2.2) (c := c.toNat) (s := s.toNat) (sent := day) (x := day) (r := (i : Int)) hS hq hI hL hL1 (by omega) (by omega) (by omega)
      rw [show ((c.toNat : Nat) : Int) = c by omega, show ((s.toNat : Nat) : Int) = s by omega] at c3
      have H3 := hI.fr f3
      have sn := KX12_seenBy (l := l) (G := G) (d := d + 1) (M := (I3, M.2.1, M.2.2)) (r := (i : Int)) hS hq.1 hq.2.2.1 (dn_le Q day) H3.1 H3.2.1 L4 (by omega)
      obtain ⟨I', x1, x2⟩ := ih I3 H3 L3 L4
      refine ⟨I', xX12_lied_39 hS ⟨fun c => by dsimp only at c; omega, fun _ => ⟨_, _, c3, _, _, sn, fun _ => by omega, by unfold InR; omega, ?_⟩⟩, f3.tr x2⟩
      rw [bI_no (by omega) (by simp)]
      exact x1) (by
      intro I hI hL hL1
      have e1 : I 48 0 0 = (nPp Q : Int) := mppl_eq (M := (I, M.2.1, M.2.2)) hq.1 hI
      exact ⟨I, xX12_lied_39 hS ⟨fun _ => ⟨rfl, rfl⟩, fun c => absurd (by dsimp only; omega) c⟩, frM.rf⟩)
    obtain ⟨I0, c0, s0, L0⟩ := KX12_lays (l := l) (G := G) (d := d) (row := 0) (x2 := day) hS hq.1 hH.1 (by omega)
    obtain ⟨I1, c1, s1, L1⟩ := KX12_lays (l := l) (G := G) (d := d) (M := (I0, M.2.1, M.2.2)) (row := 1) (x2 := day) hS hq.1 (hH.fr (frM.ll s0)).1 (by omega)
    have f1 := (frM.ll s0).tr (frM.ll s1)
    obtain ⟨I3, c3, f3, L3, L4⟩ := ref_fitA (l := l) (G := G) (d := d) (R := M.2.1) (C := M.2.2) (c := c.toNat) (s := s.toNat) (sent := day) (x := day) (r := -1) hS hq (hH.fr f1) (Laid.same (row' := 1) L0 (by omega) (by omega) (by omega) s1) L1 (by omega) (by omega) (.inl rfl)
    rw [show ((c.toNat : Nat) : Int) = c by omega, show ((s.toNat : Nat) : Int) = s by omega] at c3
    obtain ⟨I', x1, x2⟩ := key I3 (hH.fr (f1.tr f3)) L3 L4
    refine ⟨I', xX12_lied_0 hS ?_, (f1.tr f3).tr x2⟩
    rw [e1, e2]
    exact ⟨⟨by unfold InR; omega, by unfold InR; omega⟩, fun _ => ⟨_, c0, _, c1, _, _, c3, x1⟩, fun a => absurd ⟨g1, g2, g4⟩ a⟩
  · rw [if_neg g]
    refine ⟨M.1, xX12_lied_0 hS ?_, frM.rf⟩
    rw [e1, e2]
    exact ⟨⟨by unfold InR; omega, by unfold InR; omega⟩, fun g1 => absurd g1 g, fun _ => ⟨rfl, rfl⟩⟩
end ST
