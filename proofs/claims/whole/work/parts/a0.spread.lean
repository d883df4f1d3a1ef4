/-! sure: the class, where a letter may come to -/
set_option maxRecDepth 4000 in
theorem xX9_reach_0 {l : Launch} {G : Gt} {d : Nat} {M M' : Mem} {r : Option Vl} {x1 : Int} {x2 : Int} {k3 : Nat} (h : 
    Ex l G (d + 1) mX9_reach 3 [some (vR (some (10, 0))), some (vI x1), some (vI x2), some (vR (some (34, k3))), some (vI 0), none] [] M r M') : Cl l G (d + 1) mX9_reach [vR (some (10, 0)), vI x1, vI x2, vR (some (34, k3))] M r M' := by
  show Ex l G (d + 1) mX9_reach 0 [some (vR (some (10, 0))), some (vI x1), some (vI x2), some (vR (some (34, k3))), none, none] [] M r M'
  refine r_iconst 1 dX9_reach_0 rfl (InR_of rfl) ?_
  refine r_istore (ls' := [some (vR (some (10, 0))), some (vI x1), some (vI x2), some (vR (some (34, k3))), some (vI 0), none]) 3 dX9_reach_1 rfl rfl rfl rfl ?_
  exact h
set_option maxRecDepth 4000 in
theorem xX9_reach_3 {l : Launch} {G : Gt} {d : Nat} {M M' : Mem} {r : Option Vl} {x1 : Int} {x2 : Int} {k3 : Nat} {x4 : Int} (hS : Sh M.2.1) (h : 
    (8 ≤ x4 → r = none ∧ M' = M) ∧ (¬ (8 ≤ x4) → (InR (x2 * 8) ∧ InR ((x2 * 8) + x4) ∧ (0 ≤ ((x2 * 8) + x4) ∧ ((x2 * 8) + x4) < 64) ∧ InR (x1 + (M.1 34 k3 ((x2 * 8) + x4).toNat)) ∧ InR (x1 * 8) ∧ InR ((x1 * 8) + x2) ∧ (0 ≤ ((x1 * 8) + x2) ∧ ((x1 * 8) + x2) < 488) ∧ (0 ≤ (M.1 42 0 ((x1 * 8) + x2).toNat) ∧ 0 ≤ x4 ∧ x4 < 32)) ∧ ((¬ (tb (M.1 42 0 ((x1 * 8) + x2).toNat) x4 = true) → (InR (x4 + 1)) ∧ Ex l G (d + 1) mX9_reach 3 [some (vR (some (10, 0))), some (vI x1), some (vI x2), some (vR (some (34, k3))), some (vI (x4 + 1)), none] [] M r M') ∧ (tb (M.1 42 0 ((x1 * 8) + x2).toNat) x4 = true → (61 ≤ (x1 + (M.1 34 k3 ((x2 * 8) + x4).toNat)) → (InR (x4 + 1)) ∧ Ex l G (d + 1) mX9_reach 3 [some (vR (some (10, 0))), some (vI x1), some (vI x2), some (vR (some (34, k3))), some (vI (x4 + 1)), none] [] M r M') ∧ (¬ (61 ≤ (x1 + (M.1 34 k3 ((x2 * 8) + x4).toNat))) → ((0 ≤ (x1 + (M.1 34 k3 ((x2 * 8) + x4).toNat)) ∧ (x1 + (M.1 34 k3 ((x2 * 8) + x4).toNat)) < 61) ∧ (0 ≤ x4 ∧ x4 < 32) ∧ InR (x4 + 1)) ∧ Ex l G (d + 1) mX9_reach 3 [some (vR (some (10, 0))), some (vI x1), some (vI x2), some (vR (some (34, k3))), some (vI (x4 + 1)), none] [] ((upI M.1 40 0 (x1 + (M.1 34 k3 ((x2 * 8) + x4).toNat)).toNat (aOr (M.1 40 0 (x1 + (M.1 34 k3 ((x2 * 8) + x4).toNat)).toNat) (aShl 1 x4))), M.2.1, M.2.2) r M'))))) : Ex l G (d + 1) mX9_reach 3 [some (vR (some (10, 0))), some (vI x1), some (vI x2), some (vR (some (34, k3))), some (vI x4), none] [] M r M' := by
  refine r_iload 5 dX9_reach_3 rfl rfl ?_
  refine r_bipush 7 dX9_reach_5 rfl rfl ?_
  refine r_icmp_ge 10 69 dX9_reach_7 rfl rfl (fun c => ?_) (fun c => ?_)
  · have h := h.1 (c)
    exact r_vret dX9_reach_69 rfl h.1 h.2
  · have h := h.2 (c)
    obtain ⟨⟨o_1, o_2, o_3, o_4, o_5, o_6, o_7, o_8⟩, h⟩ := h
    refine r_iload_n 11 dX9_reach_10 rfl rfl ?_
    refine r_aload_n 12 dX9_reach_11 rfl rfl ?_
    refine r_iload_n 13 dX9_reach_12 rfl rfl ?_
    refine r_bipush 15 dX9_reach_13 rfl rfl ?_
    refine r_imul 16 dX9_reach_15 rfl o_1 ?_
    refine r_iload 18 dX9_reach_16 rfl rfl ?_
    refine r_iadd 19 dX9_reach_18 rfl o_2 ?_
    refine a_I 64 20 dX9_reach_19 rfl rfl rfl rfl o_3 rfl ?_
    refine r_iadd 21 dX9_reach_20 rfl o_4 ?_
    refine r_istore (ls' := [some (vR (some (10, 0))), some (vI x1), some (vI x2), some (vR (some (34, k3))), some (vI x4), some (vI (x1 + (M.1 34 k3 ((x2 * 8) + x4).toNat)))]) 23 dX9_reach_21 rfl rfl rfl rfl ?_
    refine r_aload_n 24 dX9_reach_23 rfl rfl ?_
    refine g_R 27 dX9_reach_24 rfl rfl rfl fr_9_18 (sh_9_2 hS) ?_
    refine r_iload_n 28 dX9_reach_27 rfl rfl ?_
    refine r_bipush 30 dX9_reach_28 rfl rfl ?_
    refine r_imul 31 dX9_reach_30 rfl o_5 ?_
    refine r_iload_n 32 dX9_reach_31 rfl rfl ?_
    refine r_iadd 33 dX9_reach_32 rfl o_6 ?_
    refine a_I 488 34 dX9_reach_33 rfl rfl rfl rfl o_7 rfl ?_
    refine r_iload 36 dX9_reach_34 rfl rfl ?_
    refine n_1 [vI (M.1 42 0 ((x1 * 8) + x2).toNat), vI x4] [] 39 dX9_reach_36 rfl rfl mo_X11_hasBit ml_9_52 rfl rfl (KX11_hasBit o_8) ?_
    refine r_if_eq 42 63 dX9_reach_39 rfl rfl (fun c => ?_) (fun c => ?_)
    · have h := h.1 (b2_0.mp c)
      obtain ⟨o_9, h⟩ := h
      refine r_iinc (ls' := [some (vR (some (10, 0))), some (vI x1), some (vI x2), some (vR (some (34, k3))), some (vI (x4 + 1)), some (vI (x1 + (M.1 34 k3 ((x2 * 8) + x4).toNat)))]) 66 dX9_reach_63 rfl rfl rfl rfl o_9 rfl ?_
      refine r_goto 3 dX9_reach_66 rfl ?_
      exact Ex.weak h ⟨rfl, rfl, rfl, rfl, rfl, trivial⟩
    · have h := h.2 (b2_1.mp c)
      refine r_iload 44 dX9_reach_42 rfl rfl ?_
      refine r_bipush 46 dX9_reach_44 rfl rfl ?_
      refine r_icmp_ge 49 63 dX9_reach_46 rfl rfl (fun c => ?_) (fun c => ?_)
      · have h := h.1 (c)
        obtain ⟨o_10, h⟩ := h
        refine r_iinc (ls' := [some (vR (some (10, 0))), some (vI x1), some (vI x2), some (vR (some (34, k3))), some (vI (x4 + 1)), some (vI (x1 + (M.1 34 k3 ((x2 * 8) + x4).toNat)))]) 66 dX9_reach_63 rfl rfl rfl rfl o_10 rfl ?_
        refine r_goto 3 dX9_reach_66 rfl ?_
        exact Ex.weak h ⟨rfl, rfl, rfl, rfl, rfl, trivial⟩
      · have h := h.2 (c)
        obtain ⟨⟨o_11, o_12, o_13⟩, h⟩ := h
        refine r_aload_n 50 dX9_reach_49 rfl rfl ?_
        refine g_R 53 dX9_reach_50 rfl rfl rfl fr_9_11 (sh_9_0 hS) ?_
        refine r_iload 55 dX9_reach_53 rfl rfl ?_
        refine r_dup2 56 dX9_reach_55 rfl rfl ?_
        refine a_I 61 57 dX9_reach_56 rfl rfl rfl rfl o_11 rfl ?_
        refine r_iconst 58 dX9_reach_57 rfl (InR_of rfl) ?_
        refine r_iload 60 dX9_reach_58 rfl rfl ?_
        refine r_ishl 61 dX9_reach_60 rfl o_12 ?_
        refine r_ior 62 dX9_reach_61 rfl ?_
        refine s_I 61 63 dX9_reach_62 rfl rfl (by decide) rfl rfl o_11 ?_
        refine r_iinc (ls' := [some (vR (some (10, 0))), some (vI x1), some (vI x2), some (vR (some (34, k3))), some (vI (x4 + 1)), some (vI (x1 + (M.1 34 k3 ((x2 * 8) + x4).toNat)))]) 66 dX9_reach_63 rfl rfl rfl rfl o_13 rfl ?_
        refine r_goto 3 dX9_reach_66 rfl ?_
        exact Ex.weak h ⟨rfl, rfl, rfl, rfl, rfl, trivial⟩

set_option maxRecDepth 4000 in
theorem xX9_spread_0 {l : Launch} {G : Gt} {d : Nat} {M M' : Mem} {r : Option Vl} {k1 : Nat} {k3 : Nat} (hS : Sh M.2.1) (h : 
    (¬ ((M.2.1 5 k1 0) = none) → ((0 ≤ (M.1 5 k1 3) ∧ (M.1 5 k1 3) < 32)) ∧ Ex l G (d + 1) mX9_spread 31 [some (vR (some (10, 0))), some (vR (some (5, k1))), some (vR (some (9, 0))), some (vR (some (34, k3))), some (vI 0), none, none] [] ((upI (flI M.1 40 0 61 0) 40 0 0 (aShl 1 (M.1 5 k1 3))), M.2.1, M.2.2) r M') ∧ ((M.2.1 5 k1 0) = none → r = none ∧ M' = ((flI M.1 40 0 61 0), M.2.1, M.2.2))) : Cl l G (d + 1) mX9_spread [vR (some (10, 0)), vR (some (5, k1)), vR (some (9, 0)), vR (some (34, k3))] M r M' := by
  show Ex l G (d + 1) mX9_spread 0 [some (vR (some (10, 0))), some (vR (some (5, k1))), some (vR (some (9, 0))), some (vR (some (34, k3))), none, none, none] [] M r M'
  refine r_aload_n 1 dX9_spread_0 rfl rfl ?_
  refine g_R 4 dX9_spread_1 rfl rfl rfl fr_9_11 (sh_9_0 hS) ?_
  refine r_iconst 5 dX9_spread_4 rfl (InR_of rfl) ?_
  refine c_0 [vR (some (40, 0)), vI 0] [] 8 dX9_spread_5 rfl rfl mo_J7_fill_53178 ml_9_27 rfl rfl (KJ7_fl (n := 61) rfl (by decide) rfl (by decide)) ?_
  refine r_aload_n 9 dX9_spread_8 rfl rfl ?_
  refine g_R 12 dX9_spread_9 rfl rfl rfl fr_9_33 (mR_0 rfl) ?_
  refine r_ifnonnull 15 16 dX9_spread_12 rfl rfl (fun c => ?_) (fun c => ?_)
  · have h := h.1 (c)
    obtain ⟨o_1, h⟩ := h
    refine r_aload_n 17 dX9_spread_16 rfl rfl ?_
    refine g_R 20 dX9_spread_17 rfl rfl rfl fr_9_11 (mR_0 (sh_9_0 hS)) ?_
    refine r_iconst 21 dX9_spread_20 rfl (InR_of rfl) ?_
    refine r_iconst 22 dX9_spread_21 rfl (InR_of rfl) ?_
    refine r_aload_n 23 dX9_spread_22 rfl rfl ?_
    refine g_I 26 dX9_spread_23 rfl rfl rfl fi_9_39 (mI_0 (flI_f rfl)) ?_
    refine r_ishl 27 dX9_spread_26 rfl o_1 ?_
    refine s_I 61 28 dX9_spread_27 rfl rfl (by decide) rfl rfl ⟨by decide, by decide⟩ ?_
    refine r_iconst 29 dX9_spread_28 rfl (InR_of rfl) ?_
    refine r_istore (ls' := [some (vR (some (10, 0))), some (vR (some (5, k1))), some (vR (some (9, 0))), some (vR (some (34, k3))), some (vI 0), none, none]) 31 dX9_spread_29 rfl rfl rfl rfl ?_
    exact h
  · have h := h.2 (c)
    exact r_vret dX9_spread_15 rfl h.1 h.2
set_option maxRecDepth 4000 in
theorem xX9_spread_31 {l : Launch} {G : Gt} {d : Nat} {M M' : Mem} {r : Option Vl} {k1 : Nat} {k3 : Nat} {x4 : Int} (h : 
    (61 ≤ x4 → r = none ∧ M' = M) ∧ (¬ (61 ≤ x4) → (InR ((M.1 5 k1 4) + x4)) ∧ Ex l G (d + 1) mX9_spread 56 [some (vR (some (10, 0))), some (vR (some (5, k1))), some (vR (some (9, 0))), some (vR (some (34, k3))), some (vI x4), some (vI (if 999 < ((M.1 5 k1 4) + x4) then 999 else ((M.1 5 k1 4) + x4) : Int)), some (vI 0)] [] M r M')) : Ex l G (d + 1) mX9_spread 31 [some (vR (some (10, 0))), some (vR (some (5, k1))), some (vR (some (9, 0))), some (vR (some (34, k3))), some (vI x4), none, none] [] M r M' := by
  refine r_iload 33 dX9_spread_31 rfl rfl ?_
  refine r_bipush 35 dX9_spread_33 rfl rfl ?_
  refine r_icmp_ge 38 153 dX9_spread_35 rfl rfl (fun c => ?_) (fun c => ?_)
  · have h := h.1 (c)
    exact r_vret dX9_spread_153 rfl h.1 h.2
  · have h := h.2 (c)
    obtain ⟨o_1, h⟩ := h
    refine r_aload_n 39 dX9_spread_38 rfl rfl ?_
    refine g_I 42 dX9_spread_39 rfl rfl rfl fi_9_43 rfl ?_
    refine r_iload 44 dX9_spread_42 rfl rfl ?_
    refine r_iadd 45 dX9_spread_44 rfl o_1 ?_
    refine r_sipush 48 dX9_spread_45 rfl rfl ?_
    refine r_min 51 dX9_spread_48 rfl (inT4 (List.mem_of_getElem? (i := 158) rfl) rfl) rfl ?_
    refine r_istore (ls' := [some (vR (some (10, 0))), some (vR (some (5, k1))), some (vR (some (9, 0))), some (vR (some (34, k3))), some (vI x4), some (vI (if 999 < ((M.1 5 k1 4) + x4) then 999 else ((M.1 5 k1 4) + x4) : Int)), none]) 53 dX9_spread_51 rfl rfl rfl rfl ?_
    refine r_iconst 54 dX9_spread_53 rfl (InR_of rfl) ?_
    refine r_istore (ls' := [some (vR (some (10, 0))), some (vR (some (5, k1))), some (vR (some (9, 0))), some (vR (some (34, k3))), some (vI x4), some (vI (if 999 < ((M.1 5 k1 4) + x4) then 999 else ((M.1 5 k1 4) + x4) : Int)), some (vI 0)]) 56 dX9_spread_54 rfl rfl rfl rfl ?_
    exact h
set_option maxRecDepth 4000 in
theorem xX9_spread_56 {l : Launch} {G : Gt} {d : Nat} {M M' : Mem} {r : Option Vl} {k1 : Nat} {k3 : Nat} {x4 : Int} {x5 : Int} {x6 : Int} (hS : Sh M.2.1) (h : 
    (8 ≤ x6 → (InR (x4 + 1)) ∧ Ex l G (d + 1) mX9_spread 31 [some (vR (some (10, 0))), some (vR (some (5, k1))), some (vR (some (9, 0))), some (vR (some (34, k3))), some (vI (x4 + 1)), none, none] [] M r M') ∧ (¬ (8 ≤ x6) → ((0 ≤ x4 ∧ x4 < 61) ∧ (0 ≤ (M.1 40 0 x4.toNat) ∧ 0 ≤ x6 ∧ x6 < 32)) ∧ ((¬ (tb (M.1 40 0 x4.toNat) x6 = true) → (InR (x6 + 1)) ∧ Ex l G (d + 1) mX9_spread 56 [some (vR (some (10, 0))), some (vR (some (5, k1))), some (vR (some (9, 0))), some (vR (some (34, k3))), some (vI x4), some (vI x5), some (vI (x6 + 1))] [] M r M') ∧ (tb (M.1 40 0 x4.toNat) x6 = true → ∃ k_5 : Nat, (M.2.1 5 k1 0) = some (13, k_5) ∧ (∃ (M_7 : Mem), Cl l G d mX0_choose [vR (some (9, 0)), vR (some (13, k_5)), vI (M.1 5 k1 1), vI (M.1 5 k1 4), vI x5, vI x6] M none M_7 ∧ Sh M_7.2.1 ∧ (InR (x4 * 8) ∧ InR ((x4 * 8) + x6) ∧ (0 ≤ ((x4 * 8) + x6) ∧ ((x4 * 8) + x6) < 488)) ∧ (∃ (M_12 : Mem), Cl l G d mX9_reach [vR (some (10, 0)), vI x4, vI x6, vR (some (34, k3))] ((upI (upI M_7.1 41 0 ((x4 * 8) + x6).toNat (M_7.1 9 0 8)) 42 0 ((x4 * 8) + x6).toNat (M_7.1 9 0 9)), M_7.2.1, M_7.2.2) none M_12 ∧ (InR (x6 + 1)) ∧ Ex l G (d + 1) mX9_spread 56 [some (vR (some (10, 0))), some (vR (some (5, k1))), some (vR (some (9, 0))), some (vR (some (34, k3))), some (vI x4), some (vI x5), some (vI (x6 + 1))] [] M_12 r M')))))) : Ex l G (d + 1) mX9_spread 56 [some (vR (some (10, 0))), some (vR (some (5, k1))), some (vR (some (9, 0))), some (vR (some (34, k3))), some (vI x4), some (vI x5), some (vI x6)] [] M r M' := by
  refine r_iload 58 dX9_spread_56 rfl rfl ?_
  refine r_bipush 60 dX9_spread_58 rfl rfl ?_
  refine r_icmp_ge 63 147 dX9_spread_60 rfl rfl (fun c => ?_) (fun c => ?_)
  · have h := h.1 (c)
    obtain ⟨o_1, h⟩ := h
    refine r_iinc (ls' := [some (vR (some (10, 0))), some (vR (some (5, k1))), some (vR (some (9, 0))), some (vR (some (34, k3))), some (vI (x4 + 1)), some (vI x5), some (vI x6)]) 150 dX9_spread_147 rfl rfl rfl rfl o_1 rfl ?_
    refine r_goto 31 dX9_spread_150 rfl ?_
    exact Ex.weak h ⟨rfl, rfl, rfl, rfl, rfl, trivial⟩
  · have h := h.2 (c)
    obtain ⟨⟨o_2, o_3⟩, h⟩ := h
    refine r_aload_n 64 dX9_spread_63 rfl rfl ?_
    refine g_R 67 dX9_spread_64 rfl rfl rfl fr_9_11 (sh_9_0 hS) ?_
    refine r_iload 69 dX9_spread_67 rfl rfl ?_
    refine a_I 61 70 dX9_spread_69 rfl rfl rfl rfl o_2 rfl ?_
    refine r_iload 72 dX9_spread_70 rfl rfl ?_
    refine n_1 [vI (M.1 40 0 x4.toNat), vI x6] [] 75 dX9_spread_72 rfl rfl mo_X11_hasBit ml_9_52 rfl rfl (KX11_hasBit o_3) ?_
    refine r_if_eq 78 141 dX9_spread_75 rfl rfl (fun c => ?_) (fun c => ?_)
    · have h := h.1 (b2_0.mp c)
      obtain ⟨o_4, h⟩ := h
      refine r_iinc (ls' := [some (vR (some (10, 0))), some (vR (some (5, k1))), some (vR (some (9, 0))), some (vR (some (34, k3))), some (vI x4), some (vI x5), some (vI (x6 + 1))]) 144 dX9_spread_141 rfl rfl rfl rfl o_4 rfl ?_
      refine r_goto 56 dX9_spread_144 rfl ?_
      exact h
    · have h := h.2 (b2_1.mp c)
      refine r_aload_n 79 dX9_spread_78 rfl rfl ?_
      refine r_aload_n 80 dX9_spread_79 rfl rfl ?_
      refine g_R 83 dX9_spread_80 rfl rfl rfl fr_9_33 rfl ?_
      refine r_aload_n 84 dX9_spread_83 rfl rfl ?_
      refine g_I 87 dX9_spread_84 rfl rfl rfl fi_9_56 rfl ?_
      refine r_aload_n 88 dX9_spread_87 rfl rfl ?_
      refine g_I 91 dX9_spread_88 rfl rfl rfl fi_9_43 rfl ?_
      refine r_iload 93 dX9_spread_91 rfl rfl ?_
      refine r_iload 95 dX9_spread_93 rfl rfl ?_
      obtain ⟨k_5, e_6, h⟩ := h
      refine Ex.at (st2 := [vI x6, vI x5, vI (M.1 5 k1 4), vI (M.1 5 k1 1), vR (some (13, k_5)), vR (some (9, 0))]) ?_ rfl (show [vI x6, vI x5, vI (M.1 5 k1 4), vI (M.1 5 k1 1), vR (M.2.1 5 k1 0), vR (some (9, 0))] = [vI x6, vI x5, vI (M.1 5 k1 4), vI (M.1 5 k1 1), vR (some (13, k_5)), vR (some (9, 0))] by rw [e_6]) rfl
      obtain ⟨M_7, hc_8, hS, h⟩ := h
      refine v_0 (ci := 0) (C := (RX0, TX0, 13)) [vR (some (13, k_5)), vI (M.1 5 k1 1), vI (M.1 5 k1 4), vI x5, vI x6] [] 98 dX9_spread_95 rfl rfl rfl rfl rfl mo_X0_choose ml_9_59 rfl rfl hc_8 ?_
      obtain ⟨⟨o_9, o_10, o_11⟩, h⟩ := h
      refine r_aload_n 99 dX9_spread_98 rfl rfl ?_
      refine g_R 102 dX9_spread_99 rfl rfl rfl fr_9_15 (sh_9_1 hS) ?_
      refine r_iload 104 dX9_spread_102 rfl rfl ?_
      refine r_bipush 106 dX9_spread_104 rfl rfl ?_
      refine r_imul 107 dX9_spread_106 rfl o_9 ?_
      refine r_iload 109 dX9_spread_107 rfl rfl ?_
      refine r_iadd 110 dX9_spread_109 rfl o_10 ?_
      refine r_aload_n 111 dX9_spread_110 rfl rfl ?_
      refine g_I 114 dX9_spread_111 rfl rfl rfl fi_9_65 rfl ?_
      refine s_I 488 115 dX9_spread_114 rfl rfl (by decide) rfl rfl o_11 ?_
      refine r_aload_n 116 dX9_spread_115 rfl rfl ?_
      refine g_R 119 dX9_spread_116 rfl rfl rfl fr_9_18 (mR_0 (sh_9_2 hS)) ?_
      refine r_iload 121 dX9_spread_119 rfl rfl ?_
      refine r_bipush 123 dX9_spread_121 rfl rfl ?_
      refine r_imul 124 dX9_spread_123 rfl o_9 ?_
      refine r_iload 126 dX9_spread_124 rfl rfl ?_
      refine r_iadd 127 dX9_spread_126 rfl o_10 ?_
      refine r_aload_n 128 dX9_spread_127 rfl rfl ?_
      refine g_I 131 dX9_spread_128 rfl rfl rfl fi_9_67 (mI_0 (upI_f rfl)) ?_
      refine s_I 488 132 dX9_spread_131 rfl rfl (by decide) rfl rfl o_11 ?_
      refine r_aload_n 133 dX9_spread_132 rfl rfl ?_
      refine r_iload 135 dX9_spread_133 rfl rfl ?_
      refine r_iload 137 dX9_spread_135 rfl rfl ?_
      refine r_aload_n 138 dX9_spread_137 rfl rfl ?_
      obtain ⟨M_12, hc_13, h⟩ := h
      refine v_0 (ci := 9) (C := (RX9, TX9, 5)) [vI x4, vI x6, vR (some (34, k3))] [] 141 dX9_spread_138 rfl rfl rfl rfl rfl mo_X9_reach ml_9_69 rfl rfl hc_13 ?_
      obtain ⟨o_14, h⟩ := h
      refine r_iinc (ls' := [some (vR (some (10, 0))), some (vR (some (5, k1))), some (vR (some (9, 0))), some (vR (some (34, k3))), some (vI x4), some (vI x5), some (vI (x6 + 1))]) 144 dX9_spread_141 rfl rfl rfl rfl o_14 rfl ?_
      refine r_goto 56 dX9_spread_144 rfl ?_
      exact h

section RE
variable {l : Launch} {G : Gt} {d : Nat} {Q : QT} {M : Mem}
theorem bI_set {b : Int} {f : Nat → Bool} {v : Nat} (hv : v < 8) (h : b = bI 8 f) : aOr b (aShl 1 (v : Int)) = bI 8 (fun i => f i || decide (i = v)) := by
  rw [h, bI_one (n := 8) (by omega) hv, bI_or (by omega)]
theorem KX9_reach {a q : Nat} {t : Nat → Bool} (hR : RelB Q M) (hw : WFr Q) (ha : a < 61) (hq8 : q < 8) (ht : M.1 42 0 (8 * a + q) = bI 8 t) (hrd : ∀ v : Nat, v < 8 → t v = true → 1 ≤ rd Q (q : Int) (v : Int)) (hb : ∀ i, i < 61 → ∃ f, M.1 40 0 i = bI 8 f) : ∃ I', Cl l G (d + 1) mX9_reach [vR (some (10, 0)), vI (a : Int), vI (q : Int), vR (some (34, 0))] M none (I', M.2.1, M.2.2) ∧ (∀ f k i, ¬ (f = 40 ∧ k = 0) → I' f k i = M.1 f k i) ∧ (∀ i, i ≤ a → I' 40 0 i = M.1 40 0 i) ∧ (∀ i, i < 61 → ∃ f, I' 40 0 i = bI 8 f) ∧ (∀ i p : Nat, i < 61 → p < 8 → tb (M.1 40 0 i) (p : Int) = true → tb (I' 40 0 i) (p : Int) = true) ∧ ∀ v : Nat, v < 8 → t v = true → (a : Int) + rd Q (q : Int) (v : Int) ≤ 60 → tb (I' 40 0 (a + (rd Q (q : Int) (v : Int)).toNat)) (v : Int) = true := by
  have key : ∀ n v : Nat, n + v = 8 → ∀ I, (∀ f k i, ¬ (f = 40 ∧ k = 0) → I f k i = M.1 f k i) → (∀ i, i ≤ a → I 40 0 i = M.1 40 0 i) → (∀ i, i < 61 → ∃ f, I 40 0 i = bI 8 f) → (∀ i p : Nat, i < 61 → p < 8 → tb (M.1 40 0 i) (p : Int) = true → tb (I 40 0 i) (p : Int) = true) → (∀ v' : Nat, v' < v → t v' = true → (a : Int) + rd Q (q : Int) (v' : Int) ≤ 60 → tb (I 40 0 (a + (rd Q (q : Int) (v' : Int)).toNat)) (v' : Int) = true) → ∃ I', Ex l G (d + 1) mX9_reach 3 [some (vR (some (10, 0))), some (vI (a : Int)), some (vI (q : Int)), some (vR (some (34, 0))), some (vI (v : Int)), none] [] (I, M.2.1, M.2.2) none (I', M.2.1, M.2.2) ∧ (∀ f k i, ¬ (f = 40 ∧ k = 0) → I' f k i = M.1 f k i) ∧ (∀ i, i ≤ a → I' 40 0 i = M.1 40 0 i) ∧ (∀ i, i < 61 → ∃ f, I' 40 0 i = bI 8 f) ∧ (∀ i p : Nat, i < 61 → p < 8 → tb (M.1 40 0 i) (p : Int) = true → tb (I' 40 0 i) (p : Int) = true) ∧ ∀ v : Nat, v < 8 → t v = true → (a : Int) + rd Q (q : Int) (v : Int) ≤ 60 → tb (I' 40 0 (a + (rd Q (q : Int) (v : Int)).toNat)) (v : Int) = true := by
    intro n
    induction n with
    | zero =>
      intro v hv I h1 h2 h3 h4 h5
      exact ⟨I, xX9_reach_3 hR.1.1 ⟨fun _ => ⟨rfl, rfl⟩, fun c => absurd (by omega) c⟩, h1, h2, h3, h4, fun v' hv' => h5 v' (by omega)⟩
    | succ n ih =>
      intro v hv I h1 h2 h3 h4 h5
      have er : I 34 0 ((q : Int) * 8 + (v : Int)).toNat = rd Q (q : Int) (v : Int) := by
        rw [h1 _ _ _ (by omega), show ((q : Int) * 8 + (v : Int)).toNat = 8 * q + v by omega]
        exact hR.2.2 q v hq8 (by omega)
      have et : I 42 0 ((a : Int) * 8 + (q : Int)).toNat = bI 8 t := by
        rw [h1 _ _ _ (by omega), show ((a : Int) * 8 + (q : Int)).toNat = 8 * a + q by omega]
        exact ht
      have hr := rd_in hw (q : Int) (v : Int)
      have tv : tb (bI 8 t) (v : Int) = t v := by rw [tb_bI (by omega)]; simp [show v < 8 by omega]
      have nb : 0 ≤ bI 8 t := bI_nn
      have hle : ¬ (8 ≤ (v : Int)) := by omega
      have i1 : InR ((v : Int) + 1) := by unfold InR; omega
      have b0 : InR ((q : Int) * 8) ∧ InR (((q : Int) * 8) + (v : Int)) ∧ (0 ≤ (((q : Int) * 8) + (v : Int)) ∧ (((q : Int) * 8) + (v : Int)) < 64) ∧ InR ((a : Int) + rd Q (q : Int) (v : Int)) ∧ InR ((a : Int) * 8) ∧ InR (((a : Int) * 8) + (q : Int)) ∧ (0 ≤ (((a : Int) * 8) + (q : Int)) ∧ (((a : Int) * 8) + (q : Int)) < 488) ∧ (0 ≤ bI 8 t ∧ 0 ≤ (v : Int) ∧ (v : Int) < 32) := ⟨by unfold InR; omega, by unfold InR; omega, by omega, by unfold InR; omega, by unfold InR; omega, by unfold InR; omega, by omega, nb, by omega, by omega⟩
      have skip : (t v = true → ¬ ((a : Int) + rd Q (q : Int) (v : Int) ≤ 60)) → _ := fun hno => ih (v + 1) (by omega) I h1 h2 h3 h4 (fun v' hv' ht' h6 => by
        by_cases e : v' = v
        · subst e; exact absurd h6 (hno ht')
        · exact h5 v' (by omega) ht' h6)
      cases etv : t v with
      | false =>
        obtain ⟨I', x1, x2⟩ := skip (fun h => by rw [etv] at h; cases h)
        refine ⟨I', xX9_reach_3 hR.1.1 ?_, x2⟩
        dsimp only
        rw [er, et]
        exact ⟨fun c => absurd c hle, fun _ => ⟨b0, fun _ => ⟨i1, x1⟩, fun c => by rw [tv, etv] at c; cases c⟩⟩
      | true =>
        have h1r := hrd v (by omega) etv
        by_cases c6 : 61 ≤ (a : Int) + rd Q (q : Int) (v : Int)
        · obtain ⟨I', x1, x2⟩ := skip (fun _ => by omega)
          refine ⟨I', xX9_reach_3 hR.1.1 ?_, x2⟩
          dsimp only
          rw [er, et]
          exact ⟨fun c => absurd c hle, fun _ => ⟨b0, fun c => absurd (by rw [tv]; exact etv) c, fun _ => ⟨fun _ => ⟨i1, x1⟩, fun c => absurd c6 c⟩⟩⟩
        · have ei : ((a : Int) + rd Q (q : Int) (v : Int)).toNat = a + (rd Q (q : Int) (v : Int)).toNat := by omega
          obtain ⟨g, hg⟩ := h3 (a + (rd Q (q : Int) (v : Int)).toNat) (by omega)
          have hset := bI_set (v := v) (by omega) hg
          obtain ⟨I', x1, x2⟩ := ih (v + 1) (by omega) (upI I 40 0 (a + (rd Q (q : Int) (v : Int)).toNat) (aOr (I 40 0 (a + (rd Q (q : Int) (v : Int)).toNat)) (aShl 1 (v : Int)))) (fun f k i hn => by rw [upI_o hn]; exact h1 f k i hn) (fun i hi => by rw [upI_i (by omega)]; exact h2 i hi) (fun i hi => by
            by_cases e : i = a + (rd Q (q : Int) (v : Int)).toNat
            · rw [e, upI_s]; exact ⟨_, hset⟩
            · rw [upI_i e]; exact h3 i hi) (fun i p hi hp htp => by
            by_cases e : i = a + (rd Q (q : Int) (v : Int)).toNat
            · rw [e, upI_s, tb_or, ← e, h4 i p hi hp htp]; rfl
            · rw [upI_i e]; exact h4 i p hi hp htp) (fun v' hv' ht' h6 => by
            by_cases e2 : v' = v
            · subst e2
              rw [upI_s, hset, tb_bI (by omega)]
              simp
              omega
            · have := h5 v' (by omega) ht' h6
              by_cases e : a + (rd Q (q : Int) (v' : Int)).toNat = a + (rd Q (q : Int) (v : Int)).toNat
              · rw [e, upI_s, tb_or, ← e, this]; rfl
              · rw [upI_i e]; exact this)
          refine ⟨I', xX9_reach_3 hR.1.1 ?_, x2⟩
          dsimp only
          rw [er, et, ei]
          exact ⟨fun c => absurd c hle, fun _ => ⟨b0, fun c => absurd (by rw [tv]; exact etv) c, fun _ => ⟨fun c => absurd c c6, fun _ => ⟨⟨by omega, by omega, i1⟩, x1⟩⟩⟩⟩
  obtain ⟨I', x1, x2⟩ := key 8 0 rfl M.1 (fun _ _ _ _ => rfl) (fun _ _ => rfl) hb (fun _ _ _ _ h => h) (fun v' hv' => by omega)
  exact ⟨I', xX9_reach_0 x1, x2⟩
def OkS (Q : QT) (cv s : Nat) (day : Int) (I : IM) (a p : Nat) : Prop := ∃ o t : Nat → Bool, I 41 0 (8 * a + p) = bI 12 o ∧ I 42 0 (8 * a + p) = bI 8 t ∧ (∀ q, q < 12 → (o q = true ↔ opA Q cv s day a p q)) ∧ (∀ v, v < 8 → (t v = true ↔ ntA Q cv s day a p v)) ∧ ∀ v : Nat, v < 8 → ntA Q cv s day a p v → (a : Int) + rd Q (p : Int) (v : Int) ≤ 60 → tb (I 40 0 (a + (rd Q (p : Int) (v : Int)).toNat)) (v : Int) = true
def SpI (Q : QT) (cv s : Nat) (day : Int) (pl : Nat) (M0 : Mem) (a q : Nat) (M : Mem) : Prop := RelB Q M ∧ frB M0 M ∧ (M.2.1 5 8 0 = some (13, cv) ∧ M.1 5 8 1 = (s : Int) ∧ M.1 5 8 4 = day) ∧ (∀ i, i < 61 → ∃ f, M.1 40 0 i = bI 8 f) ∧ tb (M.1 40 0 0) (pl : Int) = true ∧ ∀ a' p' : Nat, (a' < a ∨ (a' = a ∧ p' < q)) → a' ≤ 60 → p' < 8 → tb (M.1 40 0 a') (p' : Int) = true → OkS Q cv s day M.1 a' p'
theorem spread_56 {cv s a pl : Nat} {day : Int} {M0 : Mem} (hq : WFQ Q) (hcv : cv < nCv Q) (hs : s < nPp Q) (ha : a ≤ 60) (hd : 0 ≤ day ∧ day ≤ 999) : ∀ n q : Nat, n + q = 8 → ∀ M, SpI Q cv s day pl M0 a q M → ∃ M', SpI Q cv s day pl M0 (a + 1) 0 M' ∧ ∀ res M'', Ex l G (d + 4) mX9_spread 31 [some (vR (some (10, 0))), some (vR (some (5, 8))), some (vR (some (9, 0))), some (vR (some (34, 0))), some (vI ((a : Int) + 1)), none, none] [] M' res M'' → Ex l G (d + 4) mX9_spread 56 [some (vR (some (10, 0))), some (vR (some (5, 8))), some (vR (some (9, 0))), some (vR (some (34, 0))), some (vI (a : Int)), some (vI (dyA day a)), some (vI (q : Int))] [] M res M'' := by
  have h12 := nPp_le hq.1
  intro n
  induction n with
  | zero =>
    intro q hq8 M hM
    obtain ⟨hR, hf, hL, hb, h0, hP⟩ := hM
    exact ⟨M, ⟨hR, hf, hL, hb, h0, fun a' p' h1 h2 h3 => hP a' p' (by omega) h2 h3⟩, fun res M'' hx => xX9_spread_56 hR.1.1 ⟨fun _ => ⟨by unfold InR; omega, hx⟩, fun c => absurd (by omega) c⟩⟩
  | succ n ih =>
    intro q hq8 M hM
    have hM2 := hM
    obtain ⟨hR, hf, hL, hb, h0, hP⟩ := hM2
    obtain ⟨fa, hfa⟩ := hb a (by omega)
    have nb : 0 ≤ bI 8 fa := bI_nn
    have hle : ¬ (8 ≤ (q : Int)) := by omega
    have i1 : InR ((q : Int) + 1) := by unfold InR; omega
    have b0 : (0 ≤ (a : Int) ∧ (a : Int) < 61) ∧ (0 ≤ bI 8 fa ∧ 0 ≤ (q : Int) ∧ (q : Int) < 32) := by omega
    by_cases ct : tb (M.1 40 0 a) (q : Int) = true
    · obtain ⟨M7, k1, R7, f7, o, t, g8, g9, ho, ht⟩ := KX0_choose (l := l) (G := G) (d := d) (sent := day) (day := dyA day a) (place := q) hR hq hcv (show s < 12 by omega) (by omega)
      have fB7 : frB M M7 := f7.b fun _ _ _ => scK.c
      have g : ∀ f i, (f = 40 ∨ f = 41 ∨ f = 42) → M7.1 f 0 i = M.1 f 0 i := fun f i hh => f7.1 _ _ _ (by unfold scK scA; omega)
      have R8 : RelB Q (upI (upI M7.1 41 0 (8 * a + q) (M7.1 9 0 8)) 42 0 (8 * a + q) (M7.1 9 0 9), M7.2.1, M7.2.2) := (R7.scr (f := 41) (k := 0) (i := 8 * a + q) (v := M7.1 9 0 8) (by unfold relF; omega) (by unfold scC; omega)).scr (by unfold relF; omega) (by unfold scC; omega)
      have fB8 : frB M7 (upI (upI M7.1 41 0 (8 * a + q) (M7.1 9 0 8)) 42 0 (8 * a + q) (M7.1 9 0 9), M7.2.1, M7.2.2) := (frB.up (f := 41) (k := 0) (i := 8 * a + q) (v := M7.1 9 0 8) (by unfold scC; omega)).tr (frB.up (by unfold scC; omega))
      obtain ⟨I9, k9, q1, q2, q3, q4, q5⟩ := KX9_reach (l := l) (G := G) (d := d + 2) (a := a) (q := q) (t := t) R8 hq.2.1 (by omega) (by omega) (by dsimp only; rw [upI_s]; exact g9) (fun v hv htv => ntA_rd hq.2.1 ((ht v hv).mp htv)) (fun i hi => by dsimp only; rw [upI_o (by omega), upI_o (by omega), g _ _ (by omega)]; exact hb i hi)
      dsimp only at q1 q2 q4
      have hreach : ∀ i, upI (upI M7.1 41 0 (8 * a + q) (M7.1 9 0 8)) 42 0 (8 * a + q) (M7.1 9 0 9) 40 0 i = M.1 40 0 i := fun i => by rw [upI_o (by omega), upI_o (by omega), g _ _ (by omega)]
      have R9 : RelB Q (I9, M7.2.1, M7.2.2) := R8.fr (R8.1.I fun f k i hr => q1 f k i (by unfold relF at hr; omega)) (frB.I fun f k i hn => q1 f k i (by unfold scC at hn; omega))
      have fB9 : frB (upI (upI M7.1 41 0 (8 * a + q) (M7.1 9 0 8)) 42 0 (8 * a + q) (M7.1 9 0 9), M7.2.1, M7.2.2) (I9, M7.2.1, M7.2.2) := frB.I fun f k i hn => q1 f k i (by unfold scC at hn; omega)
      have old : ∀ f i, (f = 41 ∨ f = 42) → ¬ i = 8 * a + q → I9 f 0 i = M.1 f 0 i := fun f i hh hn => by
        rw [q1 _ _ _ (by omega)]
        rcases hh with rfl | rfl
        · rw [upI_o (by omega), upI_i hn, g _ _ (by omega)]
        · rw [upI_i hn, upI_o (by omega), g _ _ (by omega)]
      have lt : ∀ i, I9 5 8 i = M.1 5 8 i := fun i => by
        rw [q1 _ _ _ (by omega), upI_o (by omega), upI_o (by omega)]
        exact f7.1 _ _ _ (by unfold scK scA; omega)
      have hS9 : SpI Q cv s day pl M0 a (q + 1) (I9, M7.2.1, M7.2.2) := by
        refine ⟨R9, ((hf.tr fB7).tr fB8).tr fB9, ⟨?_, ?_, ?_⟩, q3, ?_, fun a' p' h1 h2 h3 h4 => ?_⟩
        · dsimp only
          rw [f7.2.1 _ _ _ (by omega)]; exact hL.1
        · dsimp only
          rw [lt]; exact hL.2.1
        · dsimp only
          rw [lt]; exact hL.2.2
        · dsimp only
          rw [q2 0 (by omega), hreach]; exact h0
        · dsimp only at h4 ⊢
          by_cases e : a' = a ∧ p' = q
          · obtain ⟨rfl, rfl⟩ := e
            refine ⟨o, t, ?_, ?_, ho, ht, fun v hv hn h6 => q5 v hv ((ht v hv).mpr hn) h6⟩
            · rw [q1 _ _ _ (by omega), upI_o (by omega), upI_s]; exact g8
            · rw [q1 _ _ _ (by omega), upI_s]; exact g9
          · rw [q2 a' (by omega), hreach] at h4
            obtain ⟨o', t', z1, z2, z3, z4, z5⟩ := hP a' p' (by omega) h2 h3 h4
            refine ⟨o', t', ?_, ?_, z3, z4, fun v hv hn h6 => ?_⟩
            · rw [old _ _ (by omega) (by omega)]; exact z1
            · rw [old _ _ (by omega) (by omega)]; exact z2
            · exact q4 _ v (by omega) hv (by rw [hreach]; exact z5 v hv hn h6)
      obtain ⟨M', x1, x2⟩ := ih (q + 1) (by omega) _ hS9
      refine ⟨M', x1, fun res M'' hx => xX9_spread_56 hR.1.1 ?_⟩
      rw [Int.toNat_natCast, hfa, show ((a : Int) * 8 + (q : Int)).toNat = 8 * a + q by omega, hL.2.1, hL.2.2, ← hfa]
      rw [hfa] at ct
      rw [hfa]
      exact ⟨fun c => absurd c hle, fun _ => ⟨b0, fun c => absurd ct c, fun _ => ⟨cv, hL.1, M7, k1, R7.1.1, ⟨by unfold InR; omega, by unfold InR; omega, by omega⟩, _, k9, i1, x2 res M'' hx⟩⟩⟩
    · obtain ⟨M', x1, x2⟩ := ih (q + 1) (by omega) M ⟨hR, hf, hL, hb, h0, fun a' p' h1 h2 h3 h4 => by
        by_cases e : a' = a ∧ p' = q
        · rw [e.1, e.2] at h4; exact absurd h4 ct
        · exact hP a' p' (by omega) h2 h3 h4⟩
      refine ⟨M', x1, fun res M'' hx => xX9_spread_56 hR.1.1 ?_⟩
      rw [Int.toNat_natCast, hfa]
      rw [hfa] at ct
      exact ⟨fun c => absurd c hle, fun _ => ⟨b0, fun _ => ⟨i1, x2 res M'' hx⟩, fun c => absurd c ct⟩⟩
theorem KX9_spread {cv s pl : Nat} {day : Int} (hR : RelB Q M) (hq : WFQ Q) (hcv : cv < nCv Q) (hs : s < nPp Q) (hpl : pl < 8) (hd : 0 ≤ day ∧ day ≤ 999) (hL : M.2.1 5 8 0 = some (13, cv) ∧ M.1 5 8 1 = (s : Int) ∧ M.1 5 8 4 = day) (h3 : M.1 5 8 3 = (pl : Int)) : ∃ M', Cl l G (d + 4) mX9_spread [vR (some (10, 0)), vR (some (5, 8)), vR (some (9, 0)), vR (some (34, 0))] M none M' ∧ SpI Q cv s day pl M 61 0 M' := by
  have key : ∀ n a : Nat, n + a = 61 → ∀ M1, SpI Q cv s day pl M a 0 M1 → ∃ M', Ex l G (d + 4) mX9_spread 31 [some (vR (some (10, 0))), some (vR (some (5, 8))), some (vR (some (9, 0))), some (vR (some (34, 0))), some (vI (a : Int)), none, none] [] M1 none M' ∧ SpI Q cv s day pl M 61 0 M' := by
    intro n
    induction n with
    | zero =>
      intro a ha M1 h1
      have ea : a = 61 := by omega
      subst ea
      exact ⟨M1, xX9_spread_31 ⟨fun _ => ⟨rfl, rfl⟩, fun c => absurd (by omega) c⟩, h1⟩
    | succ n ih =>
      intro a ha M1 h1
      obtain ⟨M2, x1, x2⟩ := spread_56 (l := l) (G := G) (d := d) (M0 := M) (a := a) (pl := pl) (day := day) hq hcv hs (by omega) hd 8 0 rfl M1 h1
      obtain ⟨M', y1, y2⟩ := ih (a + 1) (by omega) M2 x1
      refine ⟨M', xX9_spread_31 ⟨fun c => by omega, fun _ => ⟨by rw [h1.2.2.1.2.2]; unfold InR; omega, ?_⟩⟩, y2⟩
      rw [h1.2.2.1.2.2]
      exact x2 _ _ y1
  have efl : ∀ i, i < 61 → flI M.1 40 0 61 0 40 0 i = 0 := fun i hi => by unfold flI; rw [seI_s, if_pos hi]
  have fI : ∀ f k i, ¬ (f = 40 ∧ k = 0) → upI (flI M.1 40 0 61 0) 40 0 0 (aShl 1 (pl : Int)) f k i = M.1 f k i := fun f k i hn => by
    rw [upI_o hn]
    unfold flI
    rw [seI_o hn]
  have fB : frB M (upI (flI M.1 40 0 61 0) 40 0 0 (aShl 1 (pl : Int)), M.2.1, M.2.2) := frB.I fun f k i hn => fI f k i (by unfold scC at hn; omega)
  have hb1 : aShl 1 (pl : Int) = bI 8 (fun i => decide (i = pl)) := bI_one (by omega) hpl
  obtain ⟨M', x1, x2⟩ := key 61 0 rfl (upI (flI M.1 40 0 61 0) 40 0 0 (aShl 1 (pl : Int)), M.2.1, M.2.2) ⟨hR.fr (hR.1.I fun f k i hr => fI f k i (by unfold relF at hr; omega)) fB, fB, ⟨hL.1, (fI _ _ _ (by omega)).trans hL.2.1, (fI _ _ _ (by omega)).trans hL.2.2⟩, fun i hi => by
      dsimp only
      by_cases e : i = 0
      · rw [e, upI_s]; exact ⟨_, hb1⟩
      · rw [upI_i e, efl i hi]; exact ⟨_, bI_false.symm⟩, by dsimp only; rw [upI_s, hb1, tb_bI (by omega)]; simp [hpl], fun a' p' h1 => by omega⟩
  refine ⟨M', xX9_spread_0 hR.1.1 ⟨fun _ => ⟨by rw [h3]; omega, ?_⟩, fun c => by rw [hL.1] at c; cases c⟩, x2⟩
  rw [h3]
  exact x1
end RE
