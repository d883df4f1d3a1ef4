set_option maxRecDepth 4000 in
theorem xX0_init_0 {l : Launch} {G : Gt} {d : Nat} {M M' : Mem} {r : Option Vl} {k1 : Nat} (h : 
    (∀ M_1 : Mem, newM M 20 144 144 = M_1 → r = none ∧ M' = (M_1.1, (upR (upR (upR (upR (upR M_1.2.1 9 0 12 (some (20, cCnt M.2.2 20))) 9 0 0 (some (4, k1))) 9 0 1 (some (6, 0))) 9 0 2 (some (7, 0))) 9 0 3 (some (8, 0))), M_1.2.2))) : Cl l G (d + 1) mX0_init [vR (some (9, 0)), vR (some (4, k1)), vR (some (6, 0)), vR (some (7, 0)), vR (some (8, 0))] M r M' := by
  show Ex l G (d + 1) mX0_init 0 [some (vR (some (9, 0))), some (vR (some (4, k1))), some (vR (some (6, 0))), some (vR (some (7, 0))), some (vR (some (8, 0)))] [] M r M'
  refine r_aload_n 1 dX0_init_0 rfl rfl ?_
  refine r_objInit 4 dX0_init_1 rfl rfl ⟨(inT1 (List.mem_of_getElem? (i := 225) rfl) rfl), (inT1 (List.mem_of_getElem? (i := 28) rfl) rfl), (inT1 (List.mem_of_getElem? (i := 29) rfl) rfl)⟩ rfl ?_
  refine r_aload_n 5 dX0_init_4 rfl rfl ?_
  refine r_sipush 8 dX0_init_5 rfl rfl ?_
  refine r_newa (f := 20) (k := 1) (n := 144) 10 dX0_init_8 rfl rfl rfl (by decide) (inT1 (List.mem_of_getElem? (i := 104) rfl) rfl) rfl (by decide) (.inl rfl) ?_
  generalize hM_1 : newM M 20 144 144 = M_1
  have h := h M_1 hM_1
  refine p_R 13 dX0_init_10 rfl rfl rfl rfl pf_0_9 (.inr rfl) rfl ?_
  refine r_aload_n 14 dX0_init_13 rfl rfl ?_
  refine r_aload_n 15 dX0_init_14 rfl rfl ?_
  refine p_R 18 dX0_init_15 rfl rfl rfl rfl pf_0_15 (.inr rfl) rfl ?_
  refine r_aload_n 19 dX0_init_18 rfl rfl ?_
  refine r_aload_n 20 dX0_init_19 rfl rfl ?_
  refine p_R 23 dX0_init_20 rfl rfl rfl rfl pf_0_19 (.inr rfl) rfl ?_
  refine r_aload_n 24 dX0_init_23 rfl rfl ?_
  refine r_aload_n 25 dX0_init_24 rfl rfl ?_
  refine p_R 28 dX0_init_25 rfl rfl rfl rfl pf_0_23 (.inr rfl) rfl ?_
  refine r_aload_n 29 dX0_init_28 rfl rfl ?_
  refine r_aload 31 dX0_init_29 rfl rfl ?_
  refine p_R 34 dX0_init_31 rfl rfl rfl rfl pf_0_27 (.inr rfl) rfl ?_
  exact r_vret dX0_init_34 rfl h.1 h.2

set_option maxRecDepth 4000 in
theorem xX0_ask_0 {l : Launch} {G : Gt} {d : Nat} {M M' : Mem} {r : Option Vl} {k1 : Nat} {x2 : Int} {x3 : Int} {x4 : Int} {x5 : Int} (hS : Sh M.2.1) (h : 
    ∃ (k_3 : Nat) (M_1 : Mem), Cl l G d mX6_on [vR (some (6, 0)), vI x4] M (some (vR (some (14, k_3)))) M_1 ∧ Sh M_1.2.1 ∧ (((M_1.1 13 k1 3) = 0 → ∃ (k_6 : Nat) (M_4 : Mem), Cl l G d mX6_on [vR (some (6, 0)), vI x3] M_1 (some (vR (some (14, k_6)))) M_4 ∧ Ex l G (d + 1) mX0_ask 56 [some (vR (some (9, 0))), some (vR (some (13, k1))), some (vI x2), some (vI x3), some (vI x4), some (vI x5), some (vR (some (14, k_3))), some (vR (some (14, k_6))), some (vI 0), none, none, none, none] [] ((upI (upI (upI (upI M_4.1 9 0 4 2) 9 0 5 (-1)) 9 0 6 (-1)) 9 0 7 0), M_4.2.1, M_4.2.2) r M') ∧ (¬ ((M_1.1 13 k1 3) = 0) → Ex l G (d + 1) mX0_ask 56 [some (vR (some (9, 0))), some (vR (some (13, k1))), some (vI x2), some (vI x3), some (vI x4), some (vI x5), some (vR (some (14, k_3))), some (vR (some (14, k_3))), some (vI 0), none, none, none, none] [] ((upI (upI (upI (upI M_1.1 9 0 4 2) 9 0 5 (-1)) 9 0 6 (-1)) 9 0 7 0), M_1.2.1, M_1.2.2) r M'))) : Cl l G (d + 1) mX0_ask [vR (some (9, 0)), vR (some (13, k1)), vI x2, vI x3, vI x4, vI x5] M r M' := by
  show Ex l G (d + 1) mX0_ask 0 [some (vR (some (9, 0))), some (vR (some (13, k1))), some (vI x2), some (vI x3), some (vI x4), some (vI x5), none, none, none, none, none, none, none] [] M r M'
  refine r_aload_n 1 dX0_ask_0 rfl rfl ?_
  refine g_R 4 dX0_ask_1 rfl rfl rfl fr_0_19 (sh_0_1 hS) ?_
  refine r_iload 6 dX0_ask_4 rfl rfl ?_
  obtain ⟨k_3, M_1, hc_2, hS, h⟩ := h
  refine v_1 (ci := 6) (C := (RX6, TX6, 3)) [vI x4] [] 9 dX0_ask_6 rfl rfl rfl rfl rfl mo_X6_on ml_0_31 rfl rfl hc_2 ?_
  refine r_astore (ls' := [some (vR (some (9, 0))), some (vR (some (13, k1))), some (vI x2), some (vI x3), some (vI x4), some (vI x5), some (vR (some (14, k_3))), none, none, none, none, none, none]) 11 dX0_ask_9 rfl rfl rfl rfl ?_
  refine r_aload_n 12 dX0_ask_11 rfl rfl ?_
  refine g_I 15 dX0_ask_12 rfl rfl rfl fi_0_37 rfl ?_
  refine r_if_eq 18 23 dX0_ask_15 rfl rfl (fun c => ?_) (fun c => ?_)
  · have h := h.1 (c)
    refine r_aload_n 24 dX0_ask_23 rfl rfl ?_
    refine g_R 27 dX0_ask_24 rfl rfl rfl fr_0_19 (sh_0_1 hS) ?_
    refine r_iload_n 28 dX0_ask_27 rfl rfl ?_
    obtain ⟨k_6, M_4, hc_5, h⟩ := h
    refine v_1 (ci := 6) (C := (RX6, TX6, 3)) [vI x3] [] 31 dX0_ask_28 rfl rfl rfl rfl rfl mo_X6_on ml_0_31 rfl rfl hc_5 ?_
    refine r_astore (ls' := [some (vR (some (9, 0))), some (vR (some (13, k1))), some (vI x2), some (vI x3), some (vI x4), some (vI x5), some (vR (some (14, k_3))), some (vR (some (14, k_6))), none, none, none, none, none]) 33 dX0_ask_31 rfl rfl rfl rfl ?_
    refine r_aload_n 34 dX0_ask_33 rfl rfl ?_
    refine r_iconst 35 dX0_ask_34 rfl (InR_of rfl) ?_
    refine p_I 38 dX0_ask_35 rfl rfl rfl rfl pf_0_43 (.inl rfl) rfl ?_
    refine r_aload_n 39 dX0_ask_38 rfl rfl ?_
    refine r_iconst 40 dX0_ask_39 rfl (InR_of rfl) ?_
    refine p_I 43 dX0_ask_40 rfl rfl rfl rfl pf_0_47 (.inl rfl) rfl ?_
    refine r_aload_n 44 dX0_ask_43 rfl rfl ?_
    refine r_iconst 45 dX0_ask_44 rfl (InR_of rfl) ?_
    refine p_I 48 dX0_ask_45 rfl rfl rfl rfl pf_0_50 (.inl rfl) rfl ?_
    refine r_aload_n 49 dX0_ask_48 rfl rfl ?_
    refine r_iconst 50 dX0_ask_49 rfl (InR_of rfl) ?_
    refine p_I 53 dX0_ask_50 rfl rfl rfl rfl pf_0_53 (.inl rfl) rfl ?_
    refine r_iconst 54 dX0_ask_53 rfl (InR_of rfl) ?_
    refine r_istore (ls' := [some (vR (some (9, 0))), some (vR (some (13, k1))), some (vI x2), some (vI x3), some (vI x4), some (vI x5), some (vR (some (14, k_3))), some (vR (some (14, k_6))), some (vI 0), none, none, none, none]) 56 dX0_ask_54 rfl rfl rfl rfl ?_
    exact h
  · have h := h.2 (c)
    refine r_aload 20 dX0_ask_18 rfl rfl ?_
    refine r_goto 31 dX0_ask_20 rfl ?_
    refine r_astore (ls' := [some (vR (some (9, 0))), some (vR (some (13, k1))), some (vI x2), some (vI x3), some (vI x4), some (vI x5), some (vR (some (14, k_3))), some (vR (some (14, k_3))), none, none, none, none, none]) 33 dX0_ask_31 rfl rfl rfl rfl ?_
    refine r_aload_n 34 dX0_ask_33 rfl rfl ?_
    refine r_iconst 35 dX0_ask_34 rfl (InR_of rfl) ?_
    refine p_I 38 dX0_ask_35 rfl rfl rfl rfl pf_0_43 (.inl rfl) rfl ?_
    refine r_aload_n 39 dX0_ask_38 rfl rfl ?_
    refine r_iconst 40 dX0_ask_39 rfl (InR_of rfl) ?_
    refine p_I 43 dX0_ask_40 rfl rfl rfl rfl pf_0_47 (.inl rfl) rfl ?_
    refine r_aload_n 44 dX0_ask_43 rfl rfl ?_
    refine r_iconst 45 dX0_ask_44 rfl (InR_of rfl) ?_
    refine p_I 48 dX0_ask_45 rfl rfl rfl rfl pf_0_50 (.inl rfl) rfl ?_
    refine r_aload_n 49 dX0_ask_48 rfl rfl ?_
    refine r_iconst 50 dX0_ask_49 rfl (InR_of rfl) ?_
    refine p_I 53 dX0_ask_50 rfl rfl rfl rfl pf_0_53 (.inl rfl) rfl ?_
    refine r_iconst 54 dX0_ask_53 rfl (InR_of rfl) ?_
    refine r_istore (ls' := [some (vR (some (9, 0))), some (vR (some (13, k1))), some (vI x2), some (vI x3), some (vI x4), some (vI x5), some (vR (some (14, k_3))), some (vR (some (14, k_3))), some (vI 0), none, none, none, none]) 56 dX0_ask_54 rfl rfl rfl rfl ?_
    exact h
set_option maxRecDepth 4000 in
theorem xX0_ask_56 {l : Launch} {G : Gt} {d : Nat} {M M' : Mem} {r : Option Vl} {k1 : Nat} {x2 : Int} {x3 : Int} {x4 : Int} {x5 : Int} {k6 : Nat} {k7 : Nat} {x8 : Int} (hS : Sh M.2.1) (h : 
    ((M.1 4 0 0) ≤ x8 → r = none ∧ M' = M) ∧ (¬ ((M.1 4 0 0) ≤ x8) → (¬ (M.1 9 0 6) = (-1) → r = none ∧ M' = M) ∧ (¬ (¬ (M.1 9 0 6) = (-1)) → ((0 ≤ x5 ∧ x5 < 8)) ∧ (∃ (r_4 : Int) (M_2 : Mem), Cl l G d mX11_hasBit [vI (M.1 32 k6 x5.toNat), vI x8] M (some (vI r_4)) M_2 ∧ Sh M_2.2.1 ∧ ((¬ r_4 = 0 → ((0 ≤ x8 ∧ x8 < 32) ∧ (0 ≤ x8 ∧ x8 < 12)) ∧ (∃ (r_9 : Int) (M_7 : Mem), Cl l G d mX7_seenFrom [vR (some (14, k6)), vI x8, vI (M_2.1 36 0 x8.toNat)] ((upI M_2.1 9 0 7 (aOr (M_2.1 9 0 7) (aShl 1 x8))), M_2.2.1, M_2.2.2) (some (vI r_9)) M_7 ∧ (∃ (r_12 : Int) (M_10 : Mem), Cl l G d mX3_fit [vR (some (8, 0)), vR (some (13, k1)), vI x2, vR (some (14, k7)), vI r_9] M_7 (some (vI r_12)) M_10 ∧ (∃ (r_15 : Int) (M_13 : Mem), Cl l G d mX11_hasBit [vI r_12, vI x8] M_10 (some (vI r_15)) M_13 ∧ Sh M_13.2.1 ∧ ((r_15 = 0 → ∃ (r_18 : Int) (M_16 : Mem), Cl l G d mX11_leastOf [vI r_12] M_13 (some (vI r_18)) M_16 ∧ Sh M_16.2.1 ∧ ((¬ r_18 = (-1) → ((0 ≤ r_18 ∧ r_18 < 12) ∧ InR (x5 * 8) ∧ InR ((x5 * 8) + (M_16.1 31 k6 r_18.toNat)) ∧ (0 ≤ ((x5 * 8) + (M_16.1 31 k6 r_18.toNat)) ∧ ((x5 * 8) + (M_16.1 31 k6 r_18.toNat)) < 64)) ∧ (((M_16.1 31 k6 r_18.toNat) = x5 → (InR (x8 + 1)) ∧ Ex l G (d + 1) mX0_ask 56 [some (vR (some (9, 0))), some (vR (some (13, k1))), some (vI x2), some (vI x3), some (vI x4), some (vI x5), some (vR (some (14, k6))), some (vR (some (14, k7))), some (vI (x8 + 1)), none, none, none, none] [] ((upI (upI (upI M_16.1 9 0 4 (if ¬ (M_16.1 31 k6 r_18.toNat) = x5 then 1 else 0 : Int)) 9 0 5 (if ¬ (M_16.1 31 k6 r_18.toNat) = x5 then (M_16.1 46 0 ((x5 * 8) + (M_16.1 31 k6 r_18.toNat)).toNat) else r_18 : Int)) 9 0 6 x8), M_16.2.1, M_16.2.2) r M') ∧ (¬ ((M_16.1 31 k6 r_18.toNat) = x5) → ((M_16.1 46 0 ((x5 * 8) + (M_16.1 31 k6 r_18.toNat)).toNat) = (-1) → (InR (x8 + 1)) ∧ Ex l G (d + 1) mX0_ask 56 [some (vR (some (9, 0))), some (vR (some (13, k1))), some (vI x2), some (vI x3), some (vI x4), some (vI x5), some (vR (some (14, k6))), some (vR (some (14, k7))), some (vI (x8 + 1)), none, none, none, none] [] M_16 r M') ∧ (¬ ((M_16.1 46 0 ((x5 * 8) + (M_16.1 31 k6 r_18.toNat)).toNat) = (-1)) → (InR (x8 + 1)) ∧ Ex l G (d + 1) mX0_ask 56 [some (vR (some (9, 0))), some (vR (some (13, k1))), some (vI x2), some (vI x3), some (vI x4), some (vI x5), some (vR (some (14, k6))), some (vR (some (14, k7))), some (vI (x8 + 1)), none, none, none, none] [] ((upI (upI (upI M_16.1 9 0 4 (if ¬ (M_16.1 31 k6 r_18.toNat) = x5 then 1 else 0 : Int)) 9 0 5 (if ¬ (M_16.1 31 k6 r_18.toNat) = x5 then (M_16.1 46 0 ((x5 * 8) + (M_16.1 31 k6 r_18.toNat)).toNat) else r_18 : Int)) 9 0 6 x8), M_16.2.1, M_16.2.2) r M')))) ∧ (¬ (¬ r_18 = (-1)) → (InR (x8 + 1)) ∧ Ex l G (d + 1) mX0_ask 56 [some (vR (some (9, 0))), some (vR (some (13, k1))), some (vI x2), some (vI x3), some (vI x4), some (vI x5), some (vR (some (14, k6))), some (vR (some (14, k7))), some (vI (x8 + 1)), none, none, none, none] [] M_16 r M'))) ∧ (¬ (r_15 = 0) → (¬ x8 = (-1) → ((0 ≤ x8 ∧ x8 < 12) ∧ InR (x5 * 8) ∧ InR ((x5 * 8) + (M_13.1 31 k6 x8.toNat)) ∧ (0 ≤ ((x5 * 8) + (M_13.1 31 k6 x8.toNat)) ∧ ((x5 * 8) + (M_13.1 31 k6 x8.toNat)) < 64)) ∧ (((M_13.1 31 k6 x8.toNat) = x5 → (InR (x8 + 1)) ∧ Ex l G (d + 1) mX0_ask 56 [some (vR (some (9, 0))), some (vR (some (13, k1))), some (vI x2), some (vI x3), some (vI x4), some (vI x5), some (vR (some (14, k6))), some (vR (some (14, k7))), some (vI (x8 + 1)), none, none, none, none] [] ((upI (upI (upI M_13.1 9 0 4 (if ¬ (M_13.1 31 k6 x8.toNat) = x5 then 1 else 0 : Int)) 9 0 5 (if ¬ (M_13.1 31 k6 x8.toNat) = x5 then (M_13.1 46 0 ((x5 * 8) + (M_13.1 31 k6 x8.toNat)).toNat) else x8 : Int)) 9 0 6 x8), M_13.2.1, M_13.2.2) r M') ∧ (¬ ((M_13.1 31 k6 x8.toNat) = x5) → ((M_13.1 46 0 ((x5 * 8) + (M_13.1 31 k6 x8.toNat)).toNat) = (-1) → (InR (x8 + 1)) ∧ Ex l G (d + 1) mX0_ask 56 [some (vR (some (9, 0))), some (vR (some (13, k1))), some (vI x2), some (vI x3), some (vI x4), some (vI x5), some (vR (some (14, k6))), some (vR (some (14, k7))), some (vI (x8 + 1)), none, none, none, none] [] M_13 r M') ∧ (¬ ((M_13.1 46 0 ((x5 * 8) + (M_13.1 31 k6 x8.toNat)).toNat) = (-1)) → (InR (x8 + 1)) ∧ Ex l G (d + 1) mX0_ask 56 [some (vR (some (9, 0))), some (vR (some (13, k1))), some (vI x2), some (vI x3), some (vI x4), some (vI x5), some (vR (some (14, k6))), some (vR (some (14, k7))), some (vI (x8 + 1)), none, none, none, none] [] ((upI (upI (upI M_13.1 9 0 4 (if ¬ (M_13.1 31 k6 x8.toNat) = x5 then 1 else 0 : Int)) 9 0 5 (if ¬ (M_13.1 31 k6 x8.toNat) = x5 then (M_13.1 46 0 ((x5 * 8) + (M_13.1 31 k6 x8.toNat)).toNat) else x8 : Int)) 9 0 6 x8), M_13.2.1, M_13.2.2) r M')))) ∧ (¬ (¬ x8 = (-1)) → (InR (x8 + 1)) ∧ Ex l G (d + 1) mX0_ask 56 [some (vR (some (9, 0))), some (vR (some (13, k1))), some (vI x2), some (vI x3), some (vI x4), some (vI x5), some (vR (some (14, k6))), some (vR (some (14, k7))), some (vI (x8 + 1)), none, none, none, none] [] M_13 r M'))))))) ∧ (¬ (¬ r_4 = 0) → (InR (x8 + 1)) ∧ Ex l G (d + 1) mX0_ask 56 [some (vR (some (9, 0))), some (vR (some (13, k1))), some (vI x2), some (vI x3), some (vI x4), some (vI x5), some (vR (some (14, k6))), some (vR (some (14, k7))), some (vI (x8 + 1)), none, none, none, none] [] M_2 r M')))))) : Ex l G (d + 1) mX0_ask 56 [some (vR (some (9, 0))), some (vR (some (13, k1))), some (vI x2), some (vI x3), some (vI x4), some (vI x5), some (vR (some (14, k6))), some (vR (some (14, k7))), some (vI x8), none, none, none, none] [] M r M' := by
  refine r_iload 58 dX0_ask_56 rfl rfl ?_
  refine r_aload_n 59 dX0_ask_58 rfl rfl ?_
  refine g_R 62 dX0_ask_59 rfl rfl rfl fr_0_15 (sh_0_0 hS) ?_
  refine g_I 65 dX0_ask_62 rfl rfl rfl fi_0_56 rfl ?_
  refine r_icmp_ge 68 256 dX0_ask_65 rfl rfl (fun c => ?_) (fun c => ?_)
  · have h := h.1 (c)
    exact r_vret dX0_ask_256 rfl h.1 h.2
  · have h := h.2 (c)
    refine r_aload_n 69 dX0_ask_68 rfl rfl ?_
    refine g_I 72 dX0_ask_69 rfl rfl rfl fi_0_50 rfl ?_
    refine r_iconst 73 dX0_ask_72 rfl (InR_of rfl) ?_
    refine r_icmp_ne 76 256 dX0_ask_73 rfl rfl (fun c => ?_) (fun c => ?_)
    · have h := h.1 (c)
      exact r_vret dX0_ask_256 rfl h.1 h.2
    · have h := h.2 (c)
      obtain ⟨o_1, h⟩ := h
      refine r_aload 78 dX0_ask_76 rfl rfl ?_
      refine g_R 81 dX0_ask_78 rfl rfl rfl fr_0_61 (sh_7_4 hS _) ?_
      refine r_iload 83 dX0_ask_81 rfl rfl ?_
      refine a_I 8 84 dX0_ask_83 rfl rfl rfl rfl o_1 rfl ?_
      refine r_iload 86 dX0_ask_84 rfl rfl ?_
      obtain ⟨r_4, M_2, hc_3, hS, h⟩ := h
      refine n_1 [vI (M.1 32 k6 x5.toNat), vI x8] [] 89 dX0_ask_86 rfl rfl mo_X11_hasBit ml_0_66 rfl rfl hc_3 ?_
      refine r_if_ne 92 95 dX0_ask_89 rfl rfl (fun c => ?_) (fun c => ?_)
      · have h := h.1 (c)
        obtain ⟨⟨o_5, o_6⟩, h⟩ := h
        refine r_aload_n 96 dX0_ask_95 rfl rfl ?_
        refine r_dup 97 dX0_ask_96 rfl rfl ?_
        refine g_I 100 dX0_ask_97 rfl rfl rfl fi_0_53 rfl ?_
        refine r_iconst 101 dX0_ask_100 rfl (InR_of rfl) ?_
        refine r_iload 103 dX0_ask_101 rfl rfl ?_
        refine r_ishl 104 dX0_ask_103 rfl o_5 ?_
        refine r_ior 105 dX0_ask_104 rfl ?_
        refine p_I 108 dX0_ask_105 rfl rfl rfl rfl pf_0_53 (.inl rfl) rfl ?_
        refine r_aload_n 109 dX0_ask_108 rfl rfl ?_
        refine g_R 112 dX0_ask_109 rfl rfl rfl fr_0_27 (mR_0 (sh_0_3 hS)) ?_
        refine r_aload_n 113 dX0_ask_112 rfl rfl ?_
        refine r_iload_n 114 dX0_ask_113 rfl rfl ?_
        refine r_aload 116 dX0_ask_114 rfl rfl ?_
        refine r_aload 118 dX0_ask_116 rfl rfl ?_
        refine r_iload 120 dX0_ask_118 rfl rfl ?_
        refine r_aload_n 121 dX0_ask_120 rfl rfl ?_
        refine g_R 124 dX0_ask_121 rfl rfl rfl fr_0_15 (mR_0 (sh_0_0 hS)) ?_
        refine g_R 127 dX0_ask_124 rfl rfl rfl fr_0_70 (mR_0 (sh_8_6 hS _)) ?_
        refine r_iload 129 dX0_ask_127 rfl rfl ?_
        refine a_I 12 130 dX0_ask_129 rfl rfl rfl rfl o_6 (mI_0 (upI_f rfl)) ?_
        obtain ⟨r_9, M_7, hc_8, h⟩ := h
        refine v_1 (ci := 7) (C := (RX7, TX7, 5)) [vI x8, vI (M_2.1 36 0 x8.toNat)] [vR (some (14, k7)), vI x2, vR (some (13, k1)), vR (some (8, 0))] 133 dX0_ask_130 rfl rfl rfl rfl rfl mo_X7_seenFrom ml_0_73 rfl rfl hc_8 ?_
        obtain ⟨r_12, M_10, hc_11, h⟩ := h
        refine v_1 (ci := 3) (C := (RX3, TX3, 4)) [vR (some (13, k1)), vI x2, vR (some (14, k7)), vI r_9] [] 136 dX0_ask_133 rfl rfl rfl rfl rfl mo_X3_fit ml_0_77 rfl rfl hc_11 ?_
        refine r_istore (ls' := [some (vR (some (9, 0))), some (vR (some (13, k1))), some (vI x2), some (vI x3), some (vI x4), some (vI x5), some (vR (some (14, k6))), some (vR (some (14, k7))), some (vI x8), some (vI r_12), none, none, none]) 138 dX0_ask_136 rfl rfl rfl rfl ?_
        refine r_iload 140 dX0_ask_138 rfl rfl ?_
        refine r_iload 142 dX0_ask_140 rfl rfl ?_
        obtain ⟨r_15, M_13, hc_14, hS, h⟩ := h
        refine n_1 [vI r_12, vI x8] [] 145 dX0_ask_142 rfl rfl mo_X11_hasBit ml_0_66 rfl rfl hc_14 ?_
        refine r_if_eq 148 153 dX0_ask_145 rfl rfl (fun c => ?_) (fun c => ?_)
        · have h := h.1 (c)
          refine r_iload 155 dX0_ask_153 rfl rfl ?_
          obtain ⟨r_18, M_16, hc_17, hS, h⟩ := h
          refine n_1 [vI r_12] [] 158 dX0_ask_155 rfl rfl mo_X11_leastOf ml_0_83 rfl rfl hc_17 ?_
          refine r_istore (ls' := [some (vR (some (9, 0))), some (vR (some (13, k1))), some (vI x2), some (vI x3), some (vI x4), some (vI x5), some (vR (some (14, k6))), some (vR (some (14, k7))), some (vI x8), some (vI r_12), some (vI r_18), none, none]) 160 dX0_ask_158 rfl rfl rfl rfl ?_
          refine r_iload 162 dX0_ask_160 rfl rfl ?_
          refine r_iconst 163 dX0_ask_162 rfl (InR_of rfl) ?_
          refine r_icmp_ne 166 169 dX0_ask_163 rfl rfl (fun c => ?_) (fun c => ?_)
          · have h := h.1 (c)
            obtain ⟨⟨o_19, o_20, o_21, o_22⟩, h⟩ := h
            refine r_aload 171 dX0_ask_169 rfl rfl ?_
            refine g_R 174 dX0_ask_171 rfl rfl rfl fr_0_87 (sh_7_3 hS _) ?_
            refine r_iload 176 dX0_ask_174 rfl rfl ?_
            refine a_I 12 177 dX0_ask_176 rfl rfl rfl rfl o_19 rfl ?_
            refine r_istore (ls' := [some (vR (some (9, 0))), some (vR (some (13, k1))), some (vI x2), some (vI x3), some (vI x4), some (vI x5), some (vR (some (14, k6))), some (vR (some (14, k7))), some (vI x8), some (vI r_12), some (vI r_18), some (vI (M_16.1 31 k6 r_18.toNat)), none]) 179 dX0_ask_177 rfl rfl rfl rfl ?_
            refine r_aload_n 180 dX0_ask_179 rfl rfl ?_
            refine g_R 183 dX0_ask_180 rfl rfl rfl fr_0_23 (sh_0_2 hS) ?_
            refine g_R 186 dX0_ask_183 rfl rfl rfl fr_0_90 (sh_10_1 hS) ?_
            refine r_iload 188 dX0_ask_186 rfl rfl ?_
            refine r_bipush 190 dX0_ask_188 rfl rfl ?_
            refine r_imul 191 dX0_ask_190 rfl o_20 ?_
            refine r_iload 193 dX0_ask_191 rfl rfl ?_
            refine r_iadd 194 dX0_ask_193 rfl o_21 ?_
            refine a_I 64 195 dX0_ask_194 rfl rfl rfl rfl o_22 rfl ?_
            refine r_istore (ls' := [some (vR (some (9, 0))), some (vR (some (13, k1))), some (vI x2), some (vI x3), some (vI x4), some (vI x5), some (vR (some (14, k6))), some (vR (some (14, k7))), some (vI x8), some (vI r_12), some (vI r_18), some (vI (M_16.1 31 k6 r_18.toNat)), some (vI (M_16.1 46 0 ((x5 * 8) + (M_16.1 31 k6 r_18.toNat)).toNat))]) 197 dX0_ask_195 rfl rfl rfl rfl ?_
            refine r_iload 199 dX0_ask_197 rfl rfl ?_
            refine r_iload 201 dX0_ask_199 rfl rfl ?_
            refine r_icmp_eq 204 210 dX0_ask_201 rfl rfl (fun c => ?_) (fun c => ?_)
            · have h := h.1 (c)
              refine r_aload_n 211 dX0_ask_210 rfl rfl ?_
              refine r_iload 213 dX0_ask_211 rfl rfl ?_
              refine r_iload 215 dX0_ask_213 rfl rfl ?_
              have hJ_23 : Ex l G (d + 1) mX0_ask 223 [some (vR (some (9, 0))), some (vR (some (13, k1))), some (vI x2), some (vI x3), some (vI x4), some (vI x5), some (vR (some (14, k6))), some (vR (some (14, k7))), some (vI x8), some (vI r_12), some (vI r_18), some (vI (M_16.1 31 k6 r_18.toNat)), some (vI (M_16.1 46 0 ((x5 * 8) + (M_16.1 31 k6 r_18.toNat)).toNat))] [vI (if ¬ (M_16.1 31 k6 r_18.toNat) = x5 then 1 else 0 : Int), vR (some (9, 0))] M_16 r M' := by
                refine p_I 226 dX0_ask_223 rfl rfl rfl rfl pf_0_43 (.inl rfl) rfl ?_
                refine r_aload_n 227 dX0_ask_226 rfl rfl ?_
                refine r_iload 229 dX0_ask_227 rfl rfl ?_
                refine r_iload 231 dX0_ask_229 rfl rfl ?_
                have hJ_25 : Ex l G (d + 1) mX0_ask 241 [some (vR (some (9, 0))), some (vR (some (13, k1))), some (vI x2), some (vI x3), some (vI x4), some (vI x5), some (vR (some (14, k6))), some (vR (some (14, k7))), some (vI x8), some (vI r_12), some (vI r_18), some (vI (M_16.1 31 k6 r_18.toNat)), some (vI (M_16.1 46 0 ((x5 * 8) + (M_16.1 31 k6 r_18.toNat)).toNat))] [vI (if ¬ (M_16.1 31 k6 r_18.toNat) = x5 then (M_16.1 46 0 ((x5 * 8) + (M_16.1 31 k6 r_18.toNat)).toNat) else r_18 : Int), vR (some (9, 0))] ((upI M_16.1 9 0 4 (if ¬ (M_16.1 31 k6 r_18.toNat) = x5 then 1 else 0 : Int)), M_16.2.1, M_16.2.2) r M' := by
                  obtain ⟨o_27, h⟩ := h
                  refine p_I 244 dX0_ask_241 rfl rfl rfl rfl pf_0_47 (.inl rfl) rfl ?_
                  refine r_aload_n 245 dX0_ask_244 rfl rfl ?_
                  refine r_iload 247 dX0_ask_245 rfl rfl ?_
                  refine p_I 250 dX0_ask_247 rfl rfl rfl rfl pf_0_50 (.inl rfl) rfl ?_
                  refine r_iinc (ls' := [some (vR (some (9, 0))), some (vR (some (13, k1))), some (vI x2), some (vI x3), some (vI x4), some (vI x5), some (vR (some (14, k6))), some (vR (some (14, k7))), some (vI (x8 + 1)), some (vI r_12), some (vI r_18), some (vI (M_16.1 31 k6 r_18.toNat)), some (vI (M_16.1 46 0 ((x5 * 8) + (M_16.1 31 k6 r_18.toNat)).toNat))]) 253 dX0_ask_250 rfl rfl rfl rfl o_27 rfl ?_
                  refine r_goto 56 dX0_ask_253 rfl ?_
                  exact Ex.weak h ⟨rfl, rfl, rfl, rfl, rfl, rfl, rfl, rfl, rfl, trivial⟩
                refine r_icmp_ne 234 239 dX0_ask_231 rfl rfl (fun c => ?_) (fun c => ?_)
                · have c_26 := c
                  refine r_iload 241 dX0_ask_239 rfl rfl ?_
                  exact (Ex.at hJ_25 rfl (show [vI (M_16.1 46 0 ((x5 * 8) + (M_16.1 31 k6 r_18.toNat)).toNat), vR (some (9, 0))] = [vI (if ¬ (M_16.1 31 k6 r_18.toNat) = x5 then (M_16.1 46 0 ((x5 * 8) + (M_16.1 31 k6 r_18.toNat)).toNat) else r_18 : Int), vR (some (9, 0))] by simp only [if_pos c_26]) rfl)
                · have c_26 := c
                  refine r_iload 236 dX0_ask_234 rfl rfl ?_
                  refine r_goto 241 dX0_ask_236 rfl ?_
                  exact (Ex.at hJ_25 rfl (show [vI r_18, vR (some (9, 0))] = [vI (if ¬ (M_16.1 31 k6 r_18.toNat) = x5 then (M_16.1 46 0 ((x5 * 8) + (M_16.1 31 k6 r_18.toNat)).toNat) else r_18 : Int), vR (some (9, 0))] by simp only [if_neg c_26]) rfl)
              refine r_icmp_ne 218 222 dX0_ask_215 rfl rfl (fun c => ?_) (fun c => ?_)
              · have c_24 := c
                refine r_iconst 223 dX0_ask_222 rfl (InR_of rfl) ?_
                exact (Ex.at hJ_23 rfl (show [vI 1, vR (some (9, 0))] = [vI (if ¬ (M_16.1 31 k6 r_18.toNat) = x5 then 1 else 0 : Int), vR (some (9, 0))] by simp only [if_pos c_24]) rfl)
              · have c_24 := c
                refine r_iconst 219 dX0_ask_218 rfl (InR_of rfl) ?_
                refine r_goto 223 dX0_ask_219 rfl ?_
                exact (Ex.at hJ_23 rfl (show [vI 0, vR (some (9, 0))] = [vI (if ¬ (M_16.1 31 k6 r_18.toNat) = x5 then 1 else 0 : Int), vR (some (9, 0))] by simp only [if_neg c_24]) rfl)
            · have h := h.2 (c)
              refine r_iload 206 dX0_ask_204 rfl rfl ?_
              refine r_iconst 207 dX0_ask_206 rfl (InR_of rfl) ?_
              refine r_icmp_eq 210 250 dX0_ask_207 rfl rfl (fun c => ?_) (fun c => ?_)
              · have h := h.1 (c)
                obtain ⟨o_28, h⟩ := h
                refine r_iinc (ls' := [some (vR (some (9, 0))), some (vR (some (13, k1))), some (vI x2), some (vI x3), some (vI x4), some (vI x5), some (vR (some (14, k6))), some (vR (some (14, k7))), some (vI (x8 + 1)), some (vI r_12), some (vI r_18), some (vI (M_16.1 31 k6 r_18.toNat)), some (vI (M_16.1 46 0 ((x5 * 8) + (M_16.1 31 k6 r_18.toNat)).toNat))]) 253 dX0_ask_250 rfl rfl rfl rfl o_28 rfl ?_
                refine r_goto 56 dX0_ask_253 rfl ?_
                exact Ex.weak h ⟨rfl, rfl, rfl, rfl, rfl, rfl, rfl, rfl, rfl, trivial⟩
              · have h := h.2 (c)
                refine r_aload_n 211 dX0_ask_210 rfl rfl ?_
                refine r_iload 213 dX0_ask_211 rfl rfl ?_
                refine r_iload 215 dX0_ask_213 rfl rfl ?_
                have hJ_29 : Ex l G (d + 1) mX0_ask 223 [some (vR (some (9, 0))), some (vR (some (13, k1))), some (vI x2), some (vI x3), some (vI x4), some (vI x5), some (vR (some (14, k6))), some (vR (some (14, k7))), some (vI x8), some (vI r_12), some (vI r_18), some (vI (M_16.1 31 k6 r_18.toNat)), some (vI (M_16.1 46 0 ((x5 * 8) + (M_16.1 31 k6 r_18.toNat)).toNat))] [vI (if ¬ (M_16.1 31 k6 r_18.toNat) = x5 then 1 else 0 : Int), vR (some (9, 0))] M_16 r M' := by
                  refine p_I 226 dX0_ask_223 rfl rfl rfl rfl pf_0_43 (.inl rfl) rfl ?_
                  refine r_aload_n 227 dX0_ask_226 rfl rfl ?_
                  refine r_iload 229 dX0_ask_227 rfl rfl ?_
                  refine r_iload 231 dX0_ask_229 rfl rfl ?_
                  have hJ_31 : Ex l G (d + 1) mX0_ask 241 [some (vR (some (9, 0))), some (vR (some (13, k1))), some (vI x2), some (vI x3), some (vI x4), some (vI x5), some (vR (some (14, k6))), some (vR (some (14, k7))), some (vI x8), some (vI r_12), some (vI r_18), some (vI (M_16.1 31 k6 r_18.toNat)), some (vI (M_16.1 46 0 ((x5 * 8) + (M_16.1 31 k6 r_18.toNat)).toNat))] [vI (if ¬ (M_16.1 31 k6 r_18.toNat) = x5 then (M_16.1 46 0 ((x5 * 8) + (M_16.1 31 k6 r_18.toNat)).toNat) else r_18 : Int), vR (some (9, 0))] ((upI M_16.1 9 0 4 (if ¬ (M_16.1 31 k6 r_18.toNat) = x5 then 1 else 0 : Int)), M_16.2.1, M_16.2.2) r M' := by
                    obtain ⟨o_33, h⟩ := h
                    refine p_I 244 dX0_ask_241 rfl rfl rfl rfl pf_0_47 (.inl rfl) rfl ?_
                    refine r_aload_n 245 dX0_ask_244 rfl rfl ?_
                    refine r_iload 247 dX0_ask_245 rfl rfl ?_
                    refine p_I 250 dX0_ask_247 rfl rfl rfl rfl pf_0_50 (.inl rfl) rfl ?_
                    refine r_iinc (ls' := [some (vR (some (9, 0))), some (vR (some (13, k1))), some (vI x2), some (vI x3), some (vI x4), some (vI x5), some (vR (some (14, k6))), some (vR (some (14, k7))), some (vI (x8 + 1)), some (vI r_12), some (vI r_18), some (vI (M_16.1 31 k6 r_18.toNat)), some (vI (M_16.1 46 0 ((x5 * 8) + (M_16.1 31 k6 r_18.toNat)).toNat))]) 253 dX0_ask_250 rfl rfl rfl rfl o_33 rfl ?_
                    refine r_goto 56 dX0_ask_253 rfl ?_
                    exact Ex.weak h ⟨rfl, rfl, rfl, rfl, rfl, rfl, rfl, rfl, rfl, trivial⟩
                  refine r_icmp_ne 234 239 dX0_ask_231 rfl rfl (fun c => ?_) (fun c => ?_)
                  · have c_32 := c
                    refine r_iload 241 dX0_ask_239 rfl rfl ?_
                    exact (Ex.at hJ_31 rfl (show [vI (M_16.1 46 0 ((x5 * 8) + (M_16.1 31 k6 r_18.toNat)).toNat), vR (some (9, 0))] = [vI (if ¬ (M_16.1 31 k6 r_18.toNat) = x5 then (M_16.1 46 0 ((x5 * 8) + (M_16.1 31 k6 r_18.toNat)).toNat) else r_18 : Int), vR (some (9, 0))] by simp only [if_pos c_32]) rfl)
                  · have c_32 := c
                    refine r_iload 236 dX0_ask_234 rfl rfl ?_
                    refine r_goto 241 dX0_ask_236 rfl ?_
                    exact (Ex.at hJ_31 rfl (show [vI r_18, vR (some (9, 0))] = [vI (if ¬ (M_16.1 31 k6 r_18.toNat) = x5 then (M_16.1 46 0 ((x5 * 8) + (M_16.1 31 k6 r_18.toNat)).toNat) else r_18 : Int), vR (some (9, 0))] by simp only [if_neg c_32]) rfl)
                refine r_icmp_ne 218 222 dX0_ask_215 rfl rfl (fun c => ?_) (fun c => ?_)
                · have c_30 := c
                  refine r_iconst 223 dX0_ask_222 rfl (InR_of rfl) ?_
                  exact (Ex.at hJ_29 rfl (show [vI 1, vR (some (9, 0))] = [vI (if ¬ (M_16.1 31 k6 r_18.toNat) = x5 then 1 else 0 : Int), vR (some (9, 0))] by simp only [if_pos c_30]) rfl)
                · have c_30 := c
                  refine r_iconst 219 dX0_ask_218 rfl (InR_of rfl) ?_
                  refine r_goto 223 dX0_ask_219 rfl ?_
                  exact (Ex.at hJ_29 rfl (show [vI 0, vR (some (9, 0))] = [vI (if ¬ (M_16.1 31 k6 r_18.toNat) = x5 then 1 else 0 : Int), vR (some (9, 0))] by simp only [if_neg c_30]) rfl)
          · have h := h.2 (c)
            obtain ⟨o_34, h⟩ := h
            refine r_goto 250 dX0_ask_166 rfl ?_
            refine r_iinc (ls' := [some (vR (some (9, 0))), some (vR (some (13, k1))), some (vI x2), some (vI x3), some (vI x4), some (vI x5), some (vR (some (14, k6))), some (vR (some (14, k7))), some (vI (x8 + 1)), some (vI r_12), some (vI r_18), none, none]) 253 dX0_ask_250 rfl rfl rfl rfl o_34 rfl ?_
            refine r_goto 56 dX0_ask_253 rfl ?_
            exact Ex.weak h ⟨rfl, rfl, rfl, rfl, rfl, rfl, rfl, rfl, rfl, trivial⟩
        · have h := h.2 (c)
          refine r_iload 150 dX0_ask_148 rfl rfl ?_
          refine r_goto 158 dX0_ask_150 rfl ?_
          refine r_istore (ls' := [some (vR (some (9, 0))), some (vR (some (13, k1))), some (vI x2), some (vI x3), some (vI x4), some (vI x5), some (vR (some (14, k6))), some (vR (some (14, k7))), some (vI x8), some (vI r_12), some (vI x8), none, none]) 160 dX0_ask_158 rfl rfl rfl rfl ?_
          refine r_iload 162 dX0_ask_160 rfl rfl ?_
          refine r_iconst 163 dX0_ask_162 rfl (InR_of rfl) ?_
          refine r_icmp_ne 166 169 dX0_ask_163 rfl rfl (fun c => ?_) (fun c => ?_)
          · have h := h.1 (c)
            obtain ⟨⟨o_35, o_36, o_37, o_38⟩, h⟩ := h
            refine r_aload 171 dX0_ask_169 rfl rfl ?_
            refine g_R 174 dX0_ask_171 rfl rfl rfl fr_0_87 (sh_7_3 hS _) ?_
            refine r_iload 176 dX0_ask_174 rfl rfl ?_
            refine a_I 12 177 dX0_ask_176 rfl rfl rfl rfl o_35 rfl ?_
            refine r_istore (ls' := [some (vR (some (9, 0))), some (vR (some (13, k1))), some (vI x2), some (vI x3), some (vI x4), some (vI x5), some (vR (some (14, k6))), some (vR (some (14, k7))), some (vI x8), some (vI r_12), some (vI x8), some (vI (M_13.1 31 k6 x8.toNat)), none]) 179 dX0_ask_177 rfl rfl rfl rfl ?_
            refine r_aload_n 180 dX0_ask_179 rfl rfl ?_
            refine g_R 183 dX0_ask_180 rfl rfl rfl fr_0_23 (sh_0_2 hS) ?_
            refine g_R 186 dX0_ask_183 rfl rfl rfl fr_0_90 (sh_10_1 hS) ?_
            refine r_iload 188 dX0_ask_186 rfl rfl ?_
            refine r_bipush 190 dX0_ask_188 rfl rfl ?_
            refine r_imul 191 dX0_ask_190 rfl o_36 ?_
            refine r_iload 193 dX0_ask_191 rfl rfl ?_
            refine r_iadd 194 dX0_ask_193 rfl o_37 ?_
            refine a_I 64 195 dX0_ask_194 rfl rfl rfl rfl o_38 rfl ?_
            refine r_istore (ls' := [some (vR (some (9, 0))), some (vR (some (13, k1))), some (vI x2), some (vI x3), some (vI x4), some (vI x5), some (vR (some (14, k6))), some (vR (some (14, k7))), some (vI x8), some (vI r_12), some (vI x8), some (vI (M_13.1 31 k6 x8.toNat)), some (vI (M_13.1 46 0 ((x5 * 8) + (M_13.1 31 k6 x8.toNat)).toNat))]) 197 dX0_ask_195 rfl rfl rfl rfl ?_
            refine r_iload 199 dX0_ask_197 rfl rfl ?_
            refine r_iload 201 dX0_ask_199 rfl rfl ?_
            refine r_icmp_eq 204 210 dX0_ask_201 rfl rfl (fun c => ?_) (fun c => ?_)
            · have h := h.1 (c)
              refine r_aload_n 211 dX0_ask_210 rfl rfl ?_
              refine r_iload 213 dX0_ask_211 rfl rfl ?_
              refine r_iload 215 dX0_ask_213 rfl rfl ?_
              have hJ_39 : Ex l G (d + 1) mX0_ask 223 [some (vR (some (9, 0))), some (vR (some (13, k1))), some (vI x2), some (vI x3), some (vI x4), some (vI x5), some (vR (some (14, k6))), some (vR (some (14, k7))), some (vI x8), some (vI r_12), some (vI x8), some (vI (M_13.1 31 k6 x8.toNat)), some (vI (M_13.1 46 0 ((x5 * 8) + (M_13.1 31 k6 x8.toNat)).toNat))] [vI (if ¬ (M_13.1 31 k6 x8.toNat) = x5 then 1 else 0 : Int), vR (some (9, 0))] M_13 r M' := by
                refine p_I 226 dX0_ask_223 rfl rfl rfl rfl pf_0_43 (.inl rfl) rfl ?_
                refine r_aload_n 227 dX0_ask_226 rfl rfl ?_
                refine r_iload 229 dX0_ask_227 rfl rfl ?_
                refine r_iload 231 dX0_ask_229 rfl rfl ?_
                have hJ_41 : Ex l G (d + 1) mX0_ask 241 [some (vR (some (9, 0))), some (vR (some (13, k1))), some (vI x2), some (vI x3), some (vI x4), some (vI x5), some (vR (some (14, k6))), some (vR (some (14, k7))), some (vI x8), some (vI r_12), some (vI x8), some (vI (M_13.1 31 k6 x8.toNat)), some (vI (M_13.1 46 0 ((x5 * 8) + (M_13.1 31 k6 x8.toNat)).toNat))] [vI (if ¬ (M_13.1 31 k6 x8.toNat) = x5 then (M_13.1 46 0 ((x5 * 8) + (M_13.1 31 k6 x8.toNat)).toNat) else x8 : Int), vR (some (9, 0))] ((upI M_13.1 9 0 4 (if ¬ (M_13.1 31 k6 x8.toNat) = x5 then 1 else 0 : Int)), M_13.2.1, M_13.2.2) r M' := by
                  obtain ⟨o_43, h⟩ := h
                  refine p_I 244 dX0_ask_241 rfl rfl rfl rfl pf_0_47 (.inl rfl) rfl ?_
                  refine r_aload_n 245 dX0_ask_244 rfl rfl ?_
                  refine r_iload 247 dX0_ask_245 rfl rfl ?_
                  refine p_I 250 dX0_ask_247 rfl rfl rfl rfl pf_0_50 (.inl rfl) rfl ?_
                  refine r_iinc (ls' := [some (vR (some (9, 0))), some (vR (some (13, k1))), some (vI x2), some (vI x3), some (vI x4), some (vI x5), some (vR (some (14, k6))), some (vR (some (14, k7))), some (vI (x8 + 1)), some (vI r_12), some (vI x8), some (vI (M_13.1 31 k6 x8.toNat)), some (vI (M_13.1 46 0 ((x5 * 8) + (M_13.1 31 k6 x8.toNat)).toNat))]) 253 dX0_ask_250 rfl rfl rfl rfl o_43 rfl ?_
                  refine r_goto 56 dX0_ask_253 rfl ?_
                  exact Ex.weak h ⟨rfl, rfl, rfl, rfl, rfl, rfl, rfl, rfl, rfl, trivial⟩
                refine r_icmp_ne 234 239 dX0_ask_231 rfl rfl (fun c => ?_) (fun c => ?_)
                · have c_42 := c
                  refine r_iload 241 dX0_ask_239 rfl rfl ?_
                  exact (Ex.at hJ_41 rfl (show [vI (M_13.1 46 0 ((x5 * 8) + (M_13.1 31 k6 x8.toNat)).toNat), vR (some (9, 0))] = [vI (if ¬ (M_13.1 31 k6 x8.toNat) = x5 then (M_13.1 46 0 ((x5 * 8) + (M_13.1 31 k6 x8.toNat)).toNat) else x8 : Int), vR (some (9, 0))] by simp only [if_pos c_42]) rfl)
                · have c_42 := c
                  refine r_iload 236 dX0_ask_234 rfl rfl ?_
                  refine r_goto 241 dX0_ask_236 rfl ?_
                  exact (Ex.at hJ_41 rfl (show [vI x8, vR (some (9, 0))] = [vI (if ¬ (M_13.1 31 k6 x8.toNat) = x5 then (M_13.1 46 0 ((x5 * 8) + (M_13.1 31 k6 x8.toNat)).toNat) else x8 : Int), vR (some (9, 0))] by simp only [if_neg c_42]) rfl)
              refine r_icmp_ne 218 222 dX0_ask_215 rfl rfl (fun c => ?_) (fun c => ?_)
              · have c_40 := c
                refine r_iconst 223 dX0_ask_222 rfl (InR_of rfl) ?_
                exact (Ex.at hJ_39 rfl (show [vI 1, vR (some (9, 0))] = [vI (if ¬ (M_13.1 31 k6 x8.toNat) = x5 then 1 else 0 : Int), vR (some (9, 0))] by simp only [if_pos c_40]) rfl)
              · have c_40 := c
                refine r_iconst 219 dX0_ask_218 rfl (InR_of rfl) ?_
                refine r_goto 223 dX0_ask_219 rfl ?_
                exact (Ex.at hJ_39 rfl (show [vI 0, vR (some (9, 0))] = [vI (if ¬ (M_13.1 31 k6 x8.toNat) = x5 then 1 else 0 : Int), vR (some (9, 0))] by simp only [if_neg c_40]) rfl)
            · have h := h.2 (c)
              refine r_iload 206 dX0_ask_204 rfl rfl ?_
              refine r_iconst 207 dX0_ask_206 rfl (InR_of rfl) ?_
              refine r_icmp_eq 210 250 dX0_ask_207 rfl rfl (fun c => ?_) (fun c => ?_)
              · have h := h.1 (c)
                obtain ⟨o_44, h⟩ := h
                refine r_iinc (ls' := [some (vR (some (9, 0))), some (vR (some (13, k1))), some (vI x2), some (vI x3), some (vI x4), some (vI x5), some (vR (some (14, k6))), some (vR (some (14, k7))), some (vI (x8 + 1)), some (vI r_12), some (vI x8), some (vI (M_13.1 31 k6 x8.toNat)), some (vI (M_13.1 46 0 ((x5 * 8) + (M_13.1 31 k6 x8.toNat)).toNat))]) 253 dX0_ask_250 rfl rfl rfl rfl o_44 rfl ?_
                refine r_goto 56 dX0_ask_253 rfl ?_
                exact Ex.weak h ⟨rfl, rfl, rfl, rfl, rfl, rfl, rfl, rfl, rfl, trivial⟩
              · have h := h.2 (c)
                refine r_aload_n 211 dX0_ask_210 rfl rfl ?_
                refine r_iload 213 dX0_ask_211 rfl rfl ?_
                refine r_iload 215 dX0_ask_213 rfl rfl ?_
                have hJ_45 : Ex l G (d + 1) mX0_ask 223 [some (vR (some (9, 0))), some (vR (some (13, k1))), some (vI x2), some (vI x3), some (vI x4), some (vI x5), some (vR (some (14, k6))), some (vR (some (14, k7))), some (vI x8), some (vI r_12), some (vI x8), some (vI (M_13.1 31 k6 x8.toNat)), some (vI (M_13.1 46 0 ((x5 * 8) + (M_13.1 31 k6 x8.toNat)).toNat))] [vI (if ¬ (M_13.1 31 k6 x8.toNat) = x5 then 1 else 0 : Int), vR (some (9, 0))] M_13 r M' := by
                  refine p_I 226 dX0_ask_223 rfl rfl rfl rfl pf_0_43 (.inl rfl) rfl ?_
                  refine r_aload_n 227 dX0_ask_226 rfl rfl ?_
                  refine r_iload 229 dX0_ask_227 rfl rfl ?_
                  refine r_iload 231 dX0_ask_229 rfl rfl ?_
                  have hJ_47 : Ex l G (d + 1) mX0_ask 241 [some (vR (some (9, 0))), some (vR (some (13, k1))), some (vI x2), some (vI x3), some (vI x4), some (vI x5), some (vR (some (14, k6))), some (vR (some (14, k7))), some (vI x8), some (vI r_12), some (vI x8), some (vI (M_13.1 31 k6 x8.toNat)), some (vI (M_13.1 46 0 ((x5 * 8) + (M_13.1 31 k6 x8.toNat)).toNat))] [vI (if ¬ (M_13.1 31 k6 x8.toNat) = x5 then (M_13.1 46 0 ((x5 * 8) + (M_13.1 31 k6 x8.toNat)).toNat) else x8 : Int), vR (some (9, 0))] ((upI M_13.1 9 0 4 (if ¬ (M_13.1 31 k6 x8.toNat) = x5 then 1 else 0 : Int)), M_13.2.1, M_13.2.2) r M' := by
                    obtain ⟨o_49, h⟩ := h
                    refine p_I 244 dX0_ask_241 rfl rfl rfl rfl pf_0_47 (.inl rfl) rfl ?_
                    refine r_aload_n 245 dX0_ask_244 rfl rfl ?_
                    refine r_iload 247 dX0_ask_245 rfl rfl ?_
                    refine p_I 250 dX0_ask_247 rfl rfl rfl rfl pf_0_50 (.inl rfl) rfl ?_
                    refine r_iinc (ls' := [some (vR (some (9, 0))), some (vR (some (13, k1))), some (vI x2), some (vI x3), some (vI x4), some (vI x5), some (vR (some (14, k6))), some (vR (some (14, k7))), some (vI (x8 + 1)), some (vI r_12), some (vI x8), some (vI (M_13.1 31 k6 x8.toNat)), some (vI (M_13.1 46 0 ((x5 * 8) + (M_13.1 31 k6 x8.toNat)).toNat))]) 253 dX0_ask_250 rfl rfl rfl rfl o_49 rfl ?_
                    refine r_goto 56 dX0_ask_253 rfl ?_
                    exact Ex.weak h ⟨rfl, rfl, rfl, rfl, rfl, rfl, rfl, rfl, rfl, trivial⟩
                  refine r_icmp_ne 234 239 dX0_ask_231 rfl rfl (fun c => ?_) (fun c => ?_)
                  · have c_48 := c
                    refine r_iload 241 dX0_ask_239 rfl rfl ?_
                    exact (Ex.at hJ_47 rfl (show [vI (M_13.1 46 0 ((x5 * 8) + (M_13.1 31 k6 x8.toNat)).toNat), vR (some (9, 0))] = [vI (if ¬ (M_13.1 31 k6 x8.toNat) = x5 then (M_13.1 46 0 ((x5 * 8) + (M_13.1 31 k6 x8.toNat)).toNat) else x8 : Int), vR (some (9, 0))] by simp only [if_pos c_48]) rfl)
                  · have c_48 := c
                    refine r_iload 236 dX0_ask_234 rfl rfl ?_
                    refine r_goto 241 dX0_ask_236 rfl ?_
                    exact (Ex.at hJ_47 rfl (show [vI x8, vR (some (9, 0))] = [vI (if ¬ (M_13.1 31 k6 x8.toNat) = x5 then (M_13.1 46 0 ((x5 * 8) + (M_13.1 31 k6 x8.toNat)).toNat) else x8 : Int), vR (some (9, 0))] by simp only [if_neg c_48]) rfl)
                refine r_icmp_ne 218 222 dX0_ask_215 rfl rfl (fun c => ?_) (fun c => ?_)
                · have c_46 := c
                  refine r_iconst 223 dX0_ask_222 rfl (InR_of rfl) ?_
                  exact (Ex.at hJ_45 rfl (show [vI 1, vR (some (9, 0))] = [vI (if ¬ (M_13.1 31 k6 x8.toNat) = x5 then 1 else 0 : Int), vR (some (9, 0))] by simp only [if_pos c_46]) rfl)
                · have c_46 := c
                  refine r_iconst 219 dX0_ask_218 rfl (InR_of rfl) ?_
                  refine r_goto 223 dX0_ask_219 rfl ?_
                  exact (Ex.at hJ_45 rfl (show [vI 0, vR (some (9, 0))] = [vI (if ¬ (M_13.1 31 k6 x8.toNat) = x5 then 1 else 0 : Int), vR (some (9, 0))] by simp only [if_neg c_46]) rfl)
          · have h := h.2 (c)
            obtain ⟨o_50, h⟩ := h
            refine r_goto 250 dX0_ask_166 rfl ?_
            refine r_iinc (ls' := [some (vR (some (9, 0))), some (vR (some (13, k1))), some (vI x2), some (vI x3), some (vI x4), some (vI x5), some (vR (some (14, k6))), some (vR (some (14, k7))), some (vI (x8 + 1)), some (vI r_12), some (vI x8), none, none]) 253 dX0_ask_250 rfl rfl rfl rfl o_50 rfl ?_
            refine r_goto 56 dX0_ask_253 rfl ?_
            exact Ex.weak h ⟨rfl, rfl, rfl, rfl, rfl, rfl, rfl, rfl, rfl, trivial⟩
      · have h := h.2 (c)
        obtain ⟨o_51, h⟩ := h
        refine r_goto 250 dX0_ask_92 rfl ?_
        refine r_iinc (ls' := [some (vR (some (9, 0))), some (vR (some (13, k1))), some (vI x2), some (vI x3), some (vI x4), some (vI x5), some (vR (some (14, k6))), some (vR (some (14, k7))), some (vI (x8 + 1)), none, none, none, none]) 253 dX0_ask_250 rfl rfl rfl rfl o_51 rfl ?_
        refine r_goto 56 dX0_ask_253 rfl ?_
        exact h

set_option maxRecDepth 4000 in
theorem xX0_choose_0 {l : Launch} {G : Gt} {d : Nat} {M M' : Mem} {r : Option Vl} {k1 : Nat} {x2 : Int} {x3 : Int} {x4 : Int} {x5 : Int} (hS : Sh M.2.1) (h : 
    ∃ (k_3 : Nat) (M_1 : Mem), Cl l G d mX6_on [vR (some (6, 0)), vI x4] M (some (vR (some (14, k_3)))) M_1 ∧ Sh M_1.2.1 ∧ (((M_1.1 13 k1 3) = 0 → ∃ (k_6 : Nat) (M_4 : Mem), Cl l G d mX6_on [vR (some (6, 0)), vI x3] M_1 (some (vR (some (14, k_6)))) M_4 ∧ Ex l G (d + 1) mX0_choose 46 [some (vR (some (9, 0))), some (vR (some (13, k1))), some (vI x2), some (vI x3), some (vI x4), some (vI x5), some (vR (some (14, k_3))), some (vR (some (14, k_6))), some (vI 0), none, none, none] [] ((upI (upI M_4.1 9 0 8 0) 9 0 9 0), M_4.2.1, M_4.2.2) r M') ∧ (¬ ((M_1.1 13 k1 3) = 0) → Ex l G (d + 1) mX0_choose 46 [some (vR (some (9, 0))), some (vR (some (13, k1))), some (vI x2), some (vI x3), some (vI x4), some (vI x5), some (vR (some (14, k_3))), some (vR (some (14, k_3))), some (vI 0), none, none, none] [] ((upI (upI M_1.1 9 0 8 0) 9 0 9 0), M_1.2.1, M_1.2.2) r M'))) : Cl l G (d + 1) mX0_choose [vR (some (9, 0)), vR (some (13, k1)), vI x2, vI x3, vI x4, vI x5] M r M' := by
  show Ex l G (d + 1) mX0_choose 0 [some (vR (some (9, 0))), some (vR (some (13, k1))), some (vI x2), some (vI x3), some (vI x4), some (vI x5), none, none, none, none, none, none] [] M r M'
  refine r_aload_n 1 dX0_choose_0 rfl rfl ?_
  refine g_R 4 dX0_choose_1 rfl rfl rfl fr_0_19 (sh_0_1 hS) ?_
  refine r_iload 6 dX0_choose_4 rfl rfl ?_
  obtain ⟨k_3, M_1, hc_2, hS, h⟩ := h
  refine v_1 (ci := 6) (C := (RX6, TX6, 3)) [vI x4] [] 9 dX0_choose_6 rfl rfl rfl rfl rfl mo_X6_on ml_0_31 rfl rfl hc_2 ?_
  refine r_astore (ls' := [some (vR (some (9, 0))), some (vR (some (13, k1))), some (vI x2), some (vI x3), some (vI x4), some (vI x5), some (vR (some (14, k_3))), none, none, none, none, none]) 11 dX0_choose_9 rfl rfl rfl rfl ?_
  refine r_aload_n 12 dX0_choose_11 rfl rfl ?_
  refine g_I 15 dX0_choose_12 rfl rfl rfl fi_0_37 rfl ?_
  refine r_if_eq 18 23 dX0_choose_15 rfl rfl (fun c => ?_) (fun c => ?_)
  · have h := h.1 (c)
    refine r_aload_n 24 dX0_choose_23 rfl rfl ?_
    refine g_R 27 dX0_choose_24 rfl rfl rfl fr_0_19 (sh_0_1 hS) ?_
    refine r_iload_n 28 dX0_choose_27 rfl rfl ?_
    obtain ⟨k_6, M_4, hc_5, h⟩ := h
    refine v_1 (ci := 6) (C := (RX6, TX6, 3)) [vI x3] [] 31 dX0_choose_28 rfl rfl rfl rfl rfl mo_X6_on ml_0_31 rfl rfl hc_5 ?_
    refine r_astore (ls' := [some (vR (some (9, 0))), some (vR (some (13, k1))), some (vI x2), some (vI x3), some (vI x4), some (vI x5), some (vR (some (14, k_3))), some (vR (some (14, k_6))), none, none, none, none]) 33 dX0_choose_31 rfl rfl rfl rfl ?_
    refine r_aload_n 34 dX0_choose_33 rfl rfl ?_
    refine r_iconst 35 dX0_choose_34 rfl (InR_of rfl) ?_
    refine p_I 38 dX0_choose_35 rfl rfl rfl rfl pf_0_95 (.inl rfl) rfl ?_
    refine r_aload_n 39 dX0_choose_38 rfl rfl ?_
    refine r_iconst 40 dX0_choose_39 rfl (InR_of rfl) ?_
    refine p_I 43 dX0_choose_40 rfl rfl rfl rfl pf_0_98 (.inl rfl) rfl ?_
    refine r_iconst 44 dX0_choose_43 rfl (InR_of rfl) ?_
    refine r_istore (ls' := [some (vR (some (9, 0))), some (vR (some (13, k1))), some (vI x2), some (vI x3), some (vI x4), some (vI x5), some (vR (some (14, k_3))), some (vR (some (14, k_6))), some (vI 0), none, none, none]) 46 dX0_choose_44 rfl rfl rfl rfl ?_
    exact h
  · have h := h.2 (c)
    refine r_aload 20 dX0_choose_18 rfl rfl ?_
    refine r_goto 31 dX0_choose_20 rfl ?_
    refine r_astore (ls' := [some (vR (some (9, 0))), some (vR (some (13, k1))), some (vI x2), some (vI x3), some (vI x4), some (vI x5), some (vR (some (14, k_3))), some (vR (some (14, k_3))), none, none, none, none]) 33 dX0_choose_31 rfl rfl rfl rfl ?_
    refine r_aload_n 34 dX0_choose_33 rfl rfl ?_
    refine r_iconst 35 dX0_choose_34 rfl (InR_of rfl) ?_
    refine p_I 38 dX0_choose_35 rfl rfl rfl rfl pf_0_95 (.inl rfl) rfl ?_
    refine r_aload_n 39 dX0_choose_38 rfl rfl ?_
    refine r_iconst 40 dX0_choose_39 rfl (InR_of rfl) ?_
    refine p_I 43 dX0_choose_40 rfl rfl rfl rfl pf_0_98 (.inl rfl) rfl ?_
    refine r_iconst 44 dX0_choose_43 rfl (InR_of rfl) ?_
    refine r_istore (ls' := [some (vR (some (9, 0))), some (vR (some (13, k1))), some (vI x2), some (vI x3), some (vI x4), some (vI x5), some (vR (some (14, k_3))), some (vR (some (14, k_3))), some (vI 0), none, none, none]) 46 dX0_choose_44 rfl rfl rfl rfl ?_
    exact h
set_option maxRecDepth 4000 in
theorem xX0_choose_46 {l : Launch} {G : Gt} {d : Nat} {M M' : Mem} {r : Option Vl} {k1 : Nat} {x2 : Int} {x3 : Int} {x4 : Int} {x5 : Int} {k6 : Nat} {k7 : Nat} {x8 : Int} (hS : Sh M.2.1) (h : 
    ((M.1 4 0 0) ≤ x8 → r = none ∧ M' = M) ∧ (¬ ((M.1 4 0 0) ≤ x8) → (¬ (aOr (M.1 9 0 8) (M.1 9 0 9)) = 0 → r = none ∧ M' = M) ∧ (¬ (¬ (aOr (M.1 9 0 8) (M.1 9 0 9)) = 0) → ((0 ≤ x5 ∧ x5 < 8)) ∧ (∃ (r_4 : Int) (M_2 : Mem), Cl l G d mX11_hasBit [vI (M.1 32 k6 x5.toNat), vI x8] M (some (vI r_4)) M_2 ∧ Sh M_2.2.1 ∧ ((¬ r_4 = 0 → ((0 ≤ x8 ∧ x8 < 12)) ∧ (∃ (r_8 : Int) (M_6 : Mem), Cl l G d mX7_seenFrom [vR (some (14, k6)), vI x8, vI (M_2.1 36 0 x8.toNat)] M_2 (some (vI r_8)) M_6 ∧ (∃ (r_11 : Int) (M_9 : Mem), Cl l G d mX3_fit [vR (some (8, 0)), vR (some (13, k1)), vI x2, vR (some (14, k7)), vI r_8] M_6 (some (vI r_11)) M_9 ∧ (∃ (r_14 : Int) (M_12 : Mem), Cl l G d mX11_hasBit [vI r_11, vI x8] M_9 (some (vI r_14)) M_12 ∧ Sh M_12.2.1 ∧ ((r_14 = 0 → ((0 ≤ x5 ∧ x5 < 8)) ∧ Ex l G (d + 1) mX0_choose 156 [some (vR (some (9, 0))), some (vR (some (13, k1))), some (vI x2), some (vI x3), some (vI x4), some (vI x5), some (vR (some (14, k6))), some (vR (some (14, k7))), some (vI x8), some (vI r_11), some (vI 0), none] [] ((upI M_12.1 9 0 8 (aAnd r_11 (M_12.1 32 k6 x5.toNat))), M_12.2.1, M_12.2.2) r M') ∧ (¬ (r_14 = 0) → ((0 ≤ x8 ∧ x8 < 32)) ∧ r = none ∧ M' = ((upI M_12.1 9 0 8 (aShl 1 x8)), M_12.2.1, M_12.2.2))))))) ∧ (¬ (¬ r_4 = 0) → (InR (x8 + 1)) ∧ Ex l G (d + 1) mX0_choose 46 [some (vR (some (9, 0))), some (vR (some (13, k1))), some (vI x2), some (vI x3), some (vI x4), some (vI x5), some (vR (some (14, k6))), some (vR (some (14, k7))), some (vI (x8 + 1)), none, none, none] [] M_2 r M')))))) : Ex l G (d + 1) mX0_choose 46 [some (vR (some (9, 0))), some (vR (some (13, k1))), some (vI x2), some (vI x3), some (vI x4), some (vI x5), some (vR (some (14, k6))), some (vR (some (14, k7))), some (vI x8), none, none, none] [] M r M' := by
  refine r_iload 48 dX0_choose_46 rfl rfl ?_
  refine r_aload_n 49 dX0_choose_48 rfl rfl ?_
  refine g_R 52 dX0_choose_49 rfl rfl rfl fr_0_15 (sh_0_0 hS) ?_
  refine g_I 55 dX0_choose_52 rfl rfl rfl fi_0_56 rfl ?_
  refine r_icmp_ge 58 226 dX0_choose_55 rfl rfl (fun c => ?_) (fun c => ?_)
  · have h := h.1 (c)
    exact r_vret dX0_choose_226 rfl h.1 h.2
  · have h := h.2 (c)
    refine r_aload_n 59 dX0_choose_58 rfl rfl ?_
    refine g_I 62 dX0_choose_59 rfl rfl rfl fi_0_95 rfl ?_
    refine r_aload_n 63 dX0_choose_62 rfl rfl ?_
    refine g_I 66 dX0_choose_63 rfl rfl rfl fi_0_98 rfl ?_
    refine r_ior 67 dX0_choose_66 rfl ?_
    refine r_if_ne 70 226 dX0_choose_67 rfl rfl (fun c => ?_) (fun c => ?_)
    · have h := h.1 (c)
      exact r_vret dX0_choose_226 rfl h.1 h.2
    · have h := h.2 (c)
      obtain ⟨o_1, h⟩ := h
      refine r_aload 72 dX0_choose_70 rfl rfl ?_
      refine g_R 75 dX0_choose_72 rfl rfl rfl fr_0_61 (sh_7_4 hS _) ?_
      refine r_iload 77 dX0_choose_75 rfl rfl ?_
      refine a_I 8 78 dX0_choose_77 rfl rfl rfl rfl o_1 rfl ?_
      refine r_iload 80 dX0_choose_78 rfl rfl ?_
      obtain ⟨r_4, M_2, hc_3, hS, h⟩ := h
      refine n_1 [vI (M.1 32 k6 x5.toNat), vI x8] [] 83 dX0_choose_80 rfl rfl mo_X11_hasBit ml_0_66 rfl rfl hc_3 ?_
      refine r_if_ne 86 89 dX0_choose_83 rfl rfl (fun c => ?_) (fun c => ?_)
      · have h := h.1 (c)
        obtain ⟨o_5, h⟩ := h
        refine r_aload_n 90 dX0_choose_89 rfl rfl ?_
        refine g_R 93 dX0_choose_90 rfl rfl rfl fr_0_27 (sh_0_3 hS) ?_
        refine r_aload_n 94 dX0_choose_93 rfl rfl ?_
        refine r_iload_n 95 dX0_choose_94 rfl rfl ?_
        refine r_aload 97 dX0_choose_95 rfl rfl ?_
        refine r_aload 99 dX0_choose_97 rfl rfl ?_
        refine r_iload 101 dX0_choose_99 rfl rfl ?_
        refine r_aload_n 102 dX0_choose_101 rfl rfl ?_
        refine g_R 105 dX0_choose_102 rfl rfl rfl fr_0_15 (sh_0_0 hS) ?_
        refine g_R 108 dX0_choose_105 rfl rfl rfl fr_0_70 (sh_8_6 hS _) ?_
        refine r_iload 110 dX0_choose_108 rfl rfl ?_
        refine a_I 12 111 dX0_choose_110 rfl rfl rfl rfl o_5 rfl ?_
        obtain ⟨r_8, M_6, hc_7, h⟩ := h
        refine v_1 (ci := 7) (C := (RX7, TX7, 5)) [vI x8, vI (M_2.1 36 0 x8.toNat)] [vR (some (14, k7)), vI x2, vR (some (13, k1)), vR (some (8, 0))] 114 dX0_choose_111 rfl rfl rfl rfl rfl mo_X7_seenFrom ml_0_73 rfl rfl hc_7 ?_
        obtain ⟨r_11, M_9, hc_10, h⟩ := h
        refine v_1 (ci := 3) (C := (RX3, TX3, 4)) [vR (some (13, k1)), vI x2, vR (some (14, k7)), vI r_8] [] 117 dX0_choose_114 rfl rfl rfl rfl rfl mo_X3_fit ml_0_77 rfl rfl hc_10 ?_
        refine r_istore (ls' := [some (vR (some (9, 0))), some (vR (some (13, k1))), some (vI x2), some (vI x3), some (vI x4), some (vI x5), some (vR (some (14, k6))), some (vR (some (14, k7))), some (vI x8), some (vI r_11), none, none]) 119 dX0_choose_117 rfl rfl rfl rfl ?_
        refine r_iload 121 dX0_choose_119 rfl rfl ?_
        refine r_iload 123 dX0_choose_121 rfl rfl ?_
        obtain ⟨r_14, M_12, hc_13, hS, h⟩ := h
        refine n_1 [vI r_11, vI x8] [] 126 dX0_choose_123 rfl rfl mo_X11_hasBit ml_0_66 rfl rfl hc_13 ?_
        refine r_if_eq 129 138 dX0_choose_126 rfl rfl (fun c => ?_) (fun c => ?_)
        · have h := h.1 (c)
          obtain ⟨o_15, h⟩ := h
          refine r_aload_n 139 dX0_choose_138 rfl rfl ?_
          refine r_iload 141 dX0_choose_139 rfl rfl ?_
          refine r_aload 143 dX0_choose_141 rfl rfl ?_
          refine g_R 146 dX0_choose_143 rfl rfl rfl fr_0_61 (sh_7_4 hS _) ?_
          refine r_iload 148 dX0_choose_146 rfl rfl ?_
          refine a_I 8 149 dX0_choose_148 rfl rfl rfl rfl o_15 rfl ?_
          refine r_iand 150 dX0_choose_149 rfl ?_
          refine p_I 153 dX0_choose_150 rfl rfl rfl rfl pf_0_95 (.inl rfl) rfl ?_
          refine r_iconst 154 dX0_choose_153 rfl (InR_of rfl) ?_
          refine r_istore (ls' := [some (vR (some (9, 0))), some (vR (some (13, k1))), some (vI x2), some (vI x3), some (vI x4), some (vI x5), some (vR (some (14, k6))), some (vR (some (14, k7))), some (vI x8), some (vI r_11), some (vI 0), none]) 156 dX0_choose_154 rfl rfl rfl rfl ?_
          exact h
        · have h := h.2 (c)
          obtain ⟨o_16, h⟩ := h
          refine r_aload_n 130 dX0_choose_129 rfl rfl ?_
          refine r_iconst 131 dX0_choose_130 rfl (InR_of rfl) ?_
          refine r_iload 133 dX0_choose_131 rfl rfl ?_
          refine r_ishl 134 dX0_choose_133 rfl o_16 ?_
          refine p_I 137 dX0_choose_134 rfl rfl rfl rfl pf_0_95 (.inl rfl) rfl ?_
          exact r_vret dX0_choose_137 rfl h.1 h.2
      · have h := h.2 (c)
        obtain ⟨o_17, h⟩ := h
        refine r_goto 220 dX0_choose_86 rfl ?_
        refine r_iinc (ls' := [some (vR (some (9, 0))), some (vR (some (13, k1))), some (vI x2), some (vI x3), some (vI x4), some (vI x5), some (vR (some (14, k6))), some (vR (some (14, k7))), some (vI (x8 + 1)), none, none, none]) 223 dX0_choose_220 rfl rfl rfl rfl o_17 rfl ?_
        refine r_goto 46 dX0_choose_223 rfl ?_
        exact h
set_option maxRecDepth 4000 in
theorem xX0_choose_156 {l : Launch} {G : Gt} {d : Nat} {M M' : Mem} {r : Option Vl} {k1 : Nat} {x2 : Int} {x3 : Int} {x4 : Int} {x5 : Int} {k6 : Nat} {k7 : Nat} {x8 : Int} {x9 : Int} {x10 : Int} (hS : Sh M.2.1) (h : 
    (8 ≤ x10 → (InR (x8 + 1)) ∧ Ex l G (d + 1) mX0_choose 46 [some (vR (some (9, 0))), some (vR (some (13, k1))), some (vI x2), some (vI x3), some (vI x4), some (vI x5), some (vR (some (14, k6))), some (vR (some (14, k7))), some (vI (x8 + 1)), none, none, none] [] M r M') ∧ (¬ (8 ≤ x10) → (InR (x5 * 8) ∧ InR ((x5 * 8) + x10) ∧ (0 ≤ ((x5 * 8) + x10) ∧ ((x5 * 8) + x10) < 64) ∧ (0 ≤ x10 ∧ x10 < 8)) ∧ (((aAnd x9 (M.1 32 k6 x10.toNat)) = 0 → (InR (x10 + 1)) ∧ Ex l G (d + 1) mX0_choose 156 [some (vR (some (9, 0))), some (vR (some (13, k1))), some (vI x2), some (vI x3), some (vI x4), some (vI x5), some (vR (some (14, k6))), some (vR (some (14, k7))), some (vI x8), some (vI x9), some (vI (x10 + 1)), none] [] M r M') ∧ (¬ ((aAnd x9 (M.1 32 k6 x10.toNat)) = 0) → ((M.1 46 0 ((x5 * 8) + x10).toNat) = (-1) → (InR (x10 + 1)) ∧ Ex l G (d + 1) mX0_choose 156 [some (vR (some (9, 0))), some (vR (some (13, k1))), some (vI x2), some (vI x3), some (vI x4), some (vI x5), some (vR (some (14, k6))), some (vR (some (14, k7))), some (vI x8), some (vI x9), some (vI (x10 + 1)), none] [] M r M') ∧ (¬ ((M.1 46 0 ((x5 * 8) + x10).toNat) = (-1)) → ((0 ≤ (M.1 46 0 ((x5 * 8) + x10).toNat) ∧ (M.1 46 0 ((x5 * 8) + x10).toNat) < 32) ∧ InR (x10 + 1)) ∧ Ex l G (d + 1) mX0_choose 156 [some (vR (some (9, 0))), some (vR (some (13, k1))), some (vI x2), some (vI x3), some (vI x4), some (vI x5), some (vR (some (14, k6))), some (vR (some (14, k7))), some (vI x8), some (vI x9), some (vI (x10 + 1)), none] [] ((upI M.1 9 0 9 (aOr (M.1 9 0 9) (aShl 1 (M.1 46 0 ((x5 * 8) + x10).toNat)))), M.2.1, M.2.2) r M'))))) : Ex l G (d + 1) mX0_choose 156 [some (vR (some (9, 0))), some (vR (some (13, k1))), some (vI x2), some (vI x3), some (vI x4), some (vI x5), some (vR (some (14, k6))), some (vR (some (14, k7))), some (vI x8), some (vI x9), some (vI x10), none] [] M r M' := by
  refine r_iload 158 dX0_choose_156 rfl rfl ?_
  refine r_bipush 160 dX0_choose_158 rfl rfl ?_
  refine r_icmp_ge 163 220 dX0_choose_160 rfl rfl (fun c => ?_) (fun c => ?_)
  · have h := h.1 (c)
    obtain ⟨o_1, h⟩ := h
    refine r_iinc (ls' := [some (vR (some (9, 0))), some (vR (some (13, k1))), some (vI x2), some (vI x3), some (vI x4), some (vI x5), some (vR (some (14, k6))), some (vR (some (14, k7))), some (vI (x8 + 1)), some (vI x9), some (vI x10), none]) 223 dX0_choose_220 rfl rfl rfl rfl o_1 rfl ?_
    refine r_goto 46 dX0_choose_223 rfl ?_
    exact Ex.weak h ⟨rfl, rfl, rfl, rfl, rfl, rfl, rfl, rfl, rfl, trivial⟩
  · have h := h.2 (c)
    obtain ⟨⟨o_2, o_3, o_4, o_5⟩, h⟩ := h
    refine r_aload_n 164 dX0_choose_163 rfl rfl ?_
    refine g_R 167 dX0_choose_164 rfl rfl rfl fr_0_23 (sh_0_2 hS) ?_
    refine g_R 170 dX0_choose_167 rfl rfl rfl fr_0_90 (sh_10_1 hS) ?_
    refine r_iload 172 dX0_choose_170 rfl rfl ?_
    refine r_bipush 174 dX0_choose_172 rfl rfl ?_
    refine r_imul 175 dX0_choose_174 rfl o_2 ?_
    refine r_iload 177 dX0_choose_175 rfl rfl ?_
    refine r_iadd 178 dX0_choose_177 rfl o_3 ?_
    refine a_I 64 179 dX0_choose_178 rfl rfl rfl rfl o_4 rfl ?_
    refine r_istore (ls' := [some (vR (some (9, 0))), some (vR (some (13, k1))), some (vI x2), some (vI x3), some (vI x4), some (vI x5), some (vR (some (14, k6))), some (vR (some (14, k7))), some (vI x8), some (vI x9), some (vI x10), some (vI (M.1 46 0 ((x5 * 8) + x10).toNat))]) 181 dX0_choose_179 rfl rfl rfl rfl ?_
    refine r_iload 183 dX0_choose_181 rfl rfl ?_
    refine r_aload 185 dX0_choose_183 rfl rfl ?_
    refine g_R 188 dX0_choose_185 rfl rfl rfl fr_0_61 (sh_7_4 hS _) ?_
    refine r_iload 190 dX0_choose_188 rfl rfl ?_
    refine a_I 8 191 dX0_choose_190 rfl rfl rfl rfl o_5 rfl ?_
    refine r_iand 192 dX0_choose_191 rfl ?_
    refine r_if_eq 195 214 dX0_choose_192 rfl rfl (fun c => ?_) (fun c => ?_)
    · have h := h.1 (c)
      obtain ⟨o_6, h⟩ := h
      refine r_iinc (ls' := [some (vR (some (9, 0))), some (vR (some (13, k1))), some (vI x2), some (vI x3), some (vI x4), some (vI x5), some (vR (some (14, k6))), some (vR (some (14, k7))), some (vI x8), some (vI x9), some (vI (x10 + 1)), some (vI (M.1 46 0 ((x5 * 8) + x10).toNat))]) 217 dX0_choose_214 rfl rfl rfl rfl o_6 rfl ?_
      refine r_goto 156 dX0_choose_217 rfl ?_
      exact Ex.weak h ⟨rfl, rfl, rfl, rfl, rfl, rfl, rfl, rfl, rfl, rfl, rfl, trivial⟩
    · have h := h.2 (c)
      refine r_iload 197 dX0_choose_195 rfl rfl ?_
      refine r_iconst 198 dX0_choose_197 rfl (InR_of rfl) ?_
      refine r_icmp_eq 201 214 dX0_choose_198 rfl rfl (fun c => ?_) (fun c => ?_)
      · have h := h.1 (c)
        obtain ⟨o_7, h⟩ := h
        refine r_iinc (ls' := [some (vR (some (9, 0))), some (vR (some (13, k1))), some (vI x2), some (vI x3), some (vI x4), some (vI x5), some (vR (some (14, k6))), some (vR (some (14, k7))), some (vI x8), some (vI x9), some (vI (x10 + 1)), some (vI (M.1 46 0 ((x5 * 8) + x10).toNat))]) 217 dX0_choose_214 rfl rfl rfl rfl o_7 rfl ?_
        refine r_goto 156 dX0_choose_217 rfl ?_
        exact Ex.weak h ⟨rfl, rfl, rfl, rfl, rfl, rfl, rfl, rfl, rfl, rfl, rfl, trivial⟩
      · have h := h.2 (c)
        obtain ⟨⟨o_8, o_9⟩, h⟩ := h
        refine r_aload_n 202 dX0_choose_201 rfl rfl ?_
        refine r_dup 203 dX0_choose_202 rfl rfl ?_
        refine g_I 206 dX0_choose_203 rfl rfl rfl fi_0_98 rfl ?_
        refine r_iconst 207 dX0_choose_206 rfl (InR_of rfl) ?_
        refine r_iload 209 dX0_choose_207 rfl rfl ?_
        refine r_ishl 210 dX0_choose_209 rfl o_8 ?_
        refine r_ior 211 dX0_choose_210 rfl ?_
        refine p_I 214 dX0_choose_211 rfl rfl rfl rfl pf_0_98 (.inl rfl) rfl ?_
        refine r_iinc (ls' := [some (vR (some (9, 0))), some (vR (some (13, k1))), some (vI x2), some (vI x3), some (vI x4), some (vI x5), some (vR (some (14, k6))), some (vR (some (14, k7))), some (vI x8), some (vI x9), some (vI (x10 + 1)), some (vI (M.1 46 0 ((x5 * 8) + x10).toNat))]) 217 dX0_choose_214 rfl rfl rfl rfl o_9 rfl ?_
        refine r_goto 156 dX0_choose_217 rfl ?_
        exact Ex.weak h ⟨rfl, rfl, rfl, rfl, rfl, rfl, rfl, rfl, rfl, rfl, rfl, trivial⟩

set_option maxRecDepth 4000 in
theorem xX0_askOn_0 {l : Launch} {G : Gt} {d : Nat} {M M' : Mem} {r : Option Vl} {k1 : Nat} (h : 
    (¬ ((M.2.1 5 k1 0) = none) → ∃ k_1 : Nat, (M.2.1 5 k1 0) = some (13, k_1) ∧ (∃ (M_3 : Mem), Cl l G d mX0_ask [vR (some (9, 0)), vR (some (13, k_1)), vI (M.1 5 k1 1), vI (M.1 5 k1 4), vI (M.1 5 k1 7), vI (M.1 5 k1 6)] M none M_3 ∧ ((¬ (M_3.1 9 0 4) = 0 → (¬ (M_3.1 9 0 4) = 1 → ∃ (r_7 : Int) (M_5 : Mem), Cl l G d mX0_nearestNew [vR (some (9, 0)), vR (some (5, k1))] ((upI M_3.1 5 k1 11 (aOr (M_3.1 5 k1 11) (M_3.1 9 0 7))), M_3.2.1, M_3.2.2) (some (vI r_7)) M_5 ∧ ((¬ r_7 = (-1) → r = some (vI r_7) ∧ M' = M_5) ∧ (¬ (¬ r_7 = (-1)) → r = some (vI r_7) ∧ M' = ((upI M_5.1 5 k1 5 2), M_5.2.1, M_5.2.2)))) ∧ (¬ (¬ (M_3.1 9 0 4) = 1) → (¬ (M_3.1 9 0 5) = (-1) → r = some (vI (M_3.1 9 0 5)) ∧ M' = ((upI M_3.1 5 k1 11 (aOr (M_3.1 5 k1 11) (M_3.1 9 0 7))), M_3.2.1, M_3.2.2)) ∧ (¬ (¬ (M_3.1 9 0 5) = (-1)) → r = some (vI (M_3.1 9 0 5)) ∧ M' = ((upI (upI M_3.1 5 k1 11 (aOr (M_3.1 5 k1 11) (M_3.1 9 0 7))) 5 k1 5 2), M_3.2.1, M_3.2.2)))) ∧ (¬ (¬ (M_3.1 9 0 4) = 0) → r = some (vI (-1)) ∧ M' = ((upI (upI (upI M_3.1 5 k1 11 (aOr (M_3.1 5 k1 11) (M_3.1 9 0 7))) 5 k1 5 1) 5 k1 8 (M_3.1 9 0 5)), M_3.2.1, M_3.2.2))))) ∧ ((M.2.1 5 k1 0) = none → r = some (vI (-1)) ∧ M' = M)) : Cl l G (d + 1) mX0_askOn [vR (some (9, 0)), vR (some (5, k1))] M r M' := by
  show Ex l G (d + 1) mX0_askOn 0 [some (vR (some (9, 0))), some (vR (some (5, k1))), none] [] M r M'
  refine r_aload_n 1 dX0_askOn_0 rfl rfl ?_
  refine g_R 4 dX0_askOn_1 rfl rfl rfl fr_0_101 rfl ?_
  refine r_ifnonnull 7 9 dX0_askOn_4 rfl rfl (fun c => ?_) (fun c => ?_)
  · have h := h.1 (c)
    refine r_aload_n 10 dX0_askOn_9 rfl rfl ?_
    refine r_aload_n 11 dX0_askOn_10 rfl rfl ?_
    refine g_R 14 dX0_askOn_11 rfl rfl rfl fr_0_101 rfl ?_
    refine r_aload_n 15 dX0_askOn_14 rfl rfl ?_
    refine g_I 18 dX0_askOn_15 rfl rfl rfl fi_0_107 rfl ?_
    refine r_aload_n 19 dX0_askOn_18 rfl rfl ?_
    refine g_I 22 dX0_askOn_19 rfl rfl rfl fi_0_110 rfl ?_
    refine r_aload_n 23 dX0_askOn_22 rfl rfl ?_
    refine g_I 26 dX0_askOn_23 rfl rfl rfl fi_0_113 rfl ?_
    refine r_aload_n 27 dX0_askOn_26 rfl rfl ?_
    refine g_I 30 dX0_askOn_27 rfl rfl rfl fi_0_116 rfl ?_
    obtain ⟨k_1, e_2, h⟩ := h
    refine Ex.at (st2 := [vI (M.1 5 k1 6), vI (M.1 5 k1 7), vI (M.1 5 k1 4), vI (M.1 5 k1 1), vR (some (13, k_1)), vR (some (9, 0))]) ?_ rfl (show [vI (M.1 5 k1 6), vI (M.1 5 k1 7), vI (M.1 5 k1 4), vI (M.1 5 k1 1), vR (M.2.1 5 k1 0), vR (some (9, 0))] = [vI (M.1 5 k1 6), vI (M.1 5 k1 7), vI (M.1 5 k1 4), vI (M.1 5 k1 1), vR (some (13, k_1)), vR (some (9, 0))] by rw [e_2]) rfl
    obtain ⟨M_3, hc_4, h⟩ := h
    refine v_0 (ci := 0) (C := (RX0, TX0, 13)) [vR (some (13, k_1)), vI (M.1 5 k1 1), vI (M.1 5 k1 4), vI (M.1 5 k1 7), vI (M.1 5 k1 6)] [] 33 dX0_askOn_30 rfl rfl rfl rfl rfl mo_X0_ask ml_0_119 rfl rfl hc_4 ?_
    refine r_aload_n 34 dX0_askOn_33 rfl rfl ?_
    refine r_dup 35 dX0_askOn_34 rfl rfl ?_
    refine g_I 38 dX0_askOn_35 rfl rfl rfl fi_0_123 rfl ?_
    refine r_aload_n 39 dX0_askOn_38 rfl rfl ?_
    refine g_I 42 dX0_askOn_39 rfl rfl rfl fi_0_53 rfl ?_
    refine r_ior 43 dX0_askOn_42 rfl ?_
    refine p_I 46 dX0_askOn_43 rfl rfl rfl rfl pf_0_123 (.inl rfl) rfl ?_
    refine r_aload_n 47 dX0_askOn_46 rfl rfl ?_
    refine g_I 50 dX0_askOn_47 rfl rfl rfl fi_0_43 (mI_0 (upI_f rfl)) ?_
    refine r_if_ne 53 68 dX0_askOn_50 rfl rfl (fun c => ?_) (fun c => ?_)
    · have h := h.1 (c)
      refine r_aload_n 69 dX0_askOn_68 rfl rfl ?_
      refine g_I 72 dX0_askOn_69 rfl rfl rfl fi_0_43 (mI_0 (upI_f rfl)) ?_
      refine r_iconst 73 dX0_askOn_72 rfl (InR_of rfl) ?_
      refine r_icmp_ne 76 83 dX0_askOn_73 rfl rfl (fun c => ?_) (fun c => ?_)
      · have h := h.1 (c)
        refine r_aload_n 84 dX0_askOn_83 rfl rfl ?_
        refine r_aload_n 85 dX0_askOn_84 rfl rfl ?_
        obtain ⟨r_7, M_5, hc_6, h⟩ := h
        refine v_1 (ci := 0) (C := (RX0, TX0, 13)) [vR (some (5, k1))] [] 88 dX0_askOn_85 rfl rfl rfl rfl rfl mo_X0_nearestNew ml_0_130 rfl rfl hc_6 ?_
        refine r_istore_n (ls' := [some (vR (some (9, 0))), some (vR (some (5, k1))), some (vI r_7)]) 89 dX0_askOn_88 rfl rfl rfl rfl ?_
        refine r_iload_n 90 dX0_askOn_89 rfl rfl ?_
        refine r_iconst 91 dX0_askOn_90 rfl (InR_of rfl) ?_
        refine r_icmp_ne 94 99 dX0_askOn_91 rfl rfl (fun c => ?_) (fun c => ?_)
        · have h := h.1 (c)
          refine r_iload_n 100 dX0_askOn_99 rfl rfl ?_
          exact r_iret dX0_askOn_100 rfl (.inl rfl) h.1 h.2
        · have h := h.2 (c)
          refine r_aload_n 95 dX0_askOn_94 rfl rfl ?_
          refine r_iconst 96 dX0_askOn_95 rfl (InR_of rfl) ?_
          refine p_I 99 dX0_askOn_96 rfl rfl rfl rfl pf_0_124 (.inl rfl) rfl ?_
          refine r_iload_n 100 dX0_askOn_99 rfl rfl ?_
          exact r_iret dX0_askOn_100 rfl (.inl rfl) h.1 h.2
      · have h := h.2 (c)
        refine r_aload_n 77 dX0_askOn_76 rfl rfl ?_
        refine g_I 80 dX0_askOn_77 rfl rfl rfl fi_0_47 (mI_0 (upI_f rfl)) ?_
        refine r_goto 88 dX0_askOn_80 rfl ?_
        refine r_istore_n (ls' := [some (vR (some (9, 0))), some (vR (some (5, k1))), some (vI (M_3.1 9 0 5))]) 89 dX0_askOn_88 rfl rfl rfl rfl ?_
        refine r_iload_n 90 dX0_askOn_89 rfl rfl ?_
        refine r_iconst 91 dX0_askOn_90 rfl (InR_of rfl) ?_
        refine r_icmp_ne 94 99 dX0_askOn_91 rfl rfl (fun c => ?_) (fun c => ?_)
        · have h := h.1 (c)
          refine r_iload_n 100 dX0_askOn_99 rfl rfl ?_
          exact r_iret dX0_askOn_100 rfl (.inl rfl) h.1 h.2
        · have h := h.2 (c)
          refine r_aload_n 95 dX0_askOn_94 rfl rfl ?_
          refine r_iconst 96 dX0_askOn_95 rfl (InR_of rfl) ?_
          refine p_I 99 dX0_askOn_96 rfl rfl rfl rfl pf_0_124 (.inl rfl) rfl ?_
          refine r_iload_n 100 dX0_askOn_99 rfl rfl ?_
          exact r_iret dX0_askOn_100 rfl (.inl rfl) h.1 h.2
    · have h := h.2 (c)
      refine r_aload_n 54 dX0_askOn_53 rfl rfl ?_
      refine r_iconst 55 dX0_askOn_54 rfl (InR_of rfl) ?_
      refine p_I 58 dX0_askOn_55 rfl rfl rfl rfl pf_0_124 (.inl rfl) rfl ?_
      refine r_aload_n 59 dX0_askOn_58 rfl rfl ?_
      refine r_aload_n 60 dX0_askOn_59 rfl rfl ?_
      refine g_I 63 dX0_askOn_60 rfl rfl rfl fi_0_47 (mI_0 ((upI_f rfl).trans (upI_f rfl))) ?_
      refine p_I 66 dX0_askOn_63 rfl rfl rfl rfl pf_0_127 (.inl rfl) rfl ?_
      refine r_iconst 67 dX0_askOn_66 rfl (InR_of rfl) ?_
      exact r_iret dX0_askOn_67 rfl (.inl rfl) h.1 h.2
  · have h := h.2 (c)
    refine r_iconst 8 dX0_askOn_7 rfl (InR_of rfl) ?_
    exact r_iret dX0_askOn_8 rfl (.inl rfl) h.1 h.2

set_option maxRecDepth 4000 in
theorem xX0_nearestNew_0 {l : Launch} {G : Gt} {d : Nat} {M M' : Mem} {r : Option Vl} {k1 : Nat} (h : 
    Ex l G (d + 1) mX0_nearestNew 8 [some (vR (some (9, 0))), some (vR (some (5, k1))), some (vI (-1)), some (vI 10), some (vI 0), none] [] M r M') : Cl l G (d + 1) mX0_nearestNew [vR (some (9, 0)), vR (some (5, k1))] M r M' := by
  show Ex l G (d + 1) mX0_nearestNew 0 [some (vR (some (9, 0))), some (vR (some (5, k1))), none, none, none, none] [] M r M'
  refine r_iconst 1 dX0_nearestNew_0 rfl (InR_of rfl) ?_
  refine r_istore_n (ls' := [some (vR (some (9, 0))), some (vR (some (5, k1))), some (vI (-1)), none, none, none]) 2 dX0_nearestNew_1 rfl rfl rfl rfl ?_
  refine r_bipush 4 dX0_nearestNew_2 rfl rfl ?_
  refine r_istore_n (ls' := [some (vR (some (9, 0))), some (vR (some (5, k1))), some (vI (-1)), some (vI 10), none, none]) 5 dX0_nearestNew_4 rfl rfl rfl rfl ?_
  refine r_iconst 6 dX0_nearestNew_5 rfl (InR_of rfl) ?_
  refine r_istore (ls' := [some (vR (some (9, 0))), some (vR (some (5, k1))), some (vI (-1)), some (vI 10), some (vI 0), none]) 8 dX0_nearestNew_6 rfl rfl rfl rfl ?_
  exact h
set_option maxRecDepth 4000 in
theorem xX0_nearestNew_8 {l : Launch} {G : Gt} {d : Nat} {M M' : Mem} {r : Option Vl} {k1 : Nat} {x2 : Int} {x3 : Int} {x4 : Int} (hS : Sh M.2.1) (h : 
    (8 ≤ x4 → r = some (vI x2) ∧ M' = M) ∧ (¬ (8 ≤ x4) → (InR ((M.1 5 k1 6) * 8) ∧ InR (((M.1 5 k1 6) * 8) + x4) ∧ (0 ≤ (((M.1 5 k1 6) * 8) + x4) ∧ (((M.1 5 k1 6) * 8) + x4) < 64)) ∧ (((M.1 34 0 (((M.1 5 k1 6) * 8) + x4).toNat) = 0 → (InR (x4 + 1)) ∧ Ex l G (d + 1) mX0_nearestNew 8 [some (vR (some (9, 0))), some (vR (some (5, k1))), some (vI x2), some (vI x3), some (vI (x4 + 1)), none] [] M r M') ∧ (¬ ((M.1 34 0 (((M.1 5 k1 6) * 8) + x4).toNat) = 0) → (x3 ≤ (M.1 34 0 (((M.1 5 k1 6) * 8) + x4).toNat) → (InR (x4 + 1)) ∧ Ex l G (d + 1) mX0_nearestNew 8 [some (vR (some (9, 0))), some (vR (some (5, k1))), some (vI x2), some (vI x3), some (vI (x4 + 1)), none] [] M r M') ∧ (¬ (x3 ≤ (M.1 34 0 (((M.1 5 k1 6) * 8) + x4).toNat)) → ∃ (r_8 : Int) (M_6 : Mem), Cl l G d mX11_hasBit [vI (M.1 5 k1 9), vI x4] M (some (vI r_8)) M_6 ∧ (InR (x4 + 1)) ∧ Ex l G (d + 1) mX0_nearestNew 8 [some (vR (some (9, 0))), some (vR (some (5, k1))), some (vI (if ¬ r_8 = 0 then x2 else x4 : Int)), some (vI (if ¬ r_8 = 0 then x3 else (M.1 34 0 (((M.1 5 k1 6) * 8) + x4).toNat) : Int)), some (vI (x4 + 1)), none] [] M_6 r M'))))) : Ex l G (d + 1) mX0_nearestNew 8 [some (vR (some (9, 0))), some (vR (some (5, k1))), some (vI x2), some (vI x3), some (vI x4), none] [] M r M' := by
  refine r_iload 10 dX0_nearestNew_8 rfl rfl ?_
  refine r_bipush 12 dX0_nearestNew_10 rfl rfl ?_
  refine r_icmp_ge 15 70 dX0_nearestNew_12 rfl rfl (fun c => ?_) (fun c => ?_)
  · have h := h.1 (c)
    refine r_iload_n 71 dX0_nearestNew_70 rfl rfl ?_
    exact r_iret dX0_nearestNew_71 rfl (.inl rfl) h.1 h.2
  · have h := h.2 (c)
    obtain ⟨⟨o_1, o_2, o_3⟩, h⟩ := h
    refine r_aload_n 16 dX0_nearestNew_15 rfl rfl ?_
    refine g_R 19 dX0_nearestNew_16 rfl rfl rfl fr_0_15 (sh_0_0 hS) ?_
    refine g_R 22 dX0_nearestNew_19 rfl rfl rfl fr_0_134 (sh_8_3 hS _) ?_
    refine r_aload_n 23 dX0_nearestNew_22 rfl rfl ?_
    refine g_I 26 dX0_nearestNew_23 rfl rfl rfl fi_0_116 rfl ?_
    refine r_bipush 28 dX0_nearestNew_26 rfl rfl ?_
    refine r_imul 29 dX0_nearestNew_28 rfl o_1 ?_
    refine r_iload 31 dX0_nearestNew_29 rfl rfl ?_
    refine r_iadd 32 dX0_nearestNew_31 rfl o_2 ?_
    refine a_I 64 33 dX0_nearestNew_32 rfl rfl rfl rfl o_3 rfl ?_
    refine r_istore (ls' := [some (vR (some (9, 0))), some (vR (some (5, k1))), some (vI x2), some (vI x3), some (vI x4), some (vI (M.1 34 0 (((M.1 5 k1 6) * 8) + x4).toNat))]) 35 dX0_nearestNew_33 rfl rfl rfl rfl ?_
    refine r_iload 37 dX0_nearestNew_35 rfl rfl ?_
    refine r_if_eq 40 64 dX0_nearestNew_37 rfl rfl (fun c => ?_) (fun c => ?_)
    · have h := h.1 (c)
      obtain ⟨o_4, h⟩ := h
      refine r_iinc (ls' := [some (vR (some (9, 0))), some (vR (some (5, k1))), some (vI x2), some (vI x3), some (vI (x4 + 1)), some (vI (M.1 34 0 (((M.1 5 k1 6) * 8) + x4).toNat))]) 67 dX0_nearestNew_64 rfl rfl rfl rfl o_4 rfl ?_
      refine r_goto 8 dX0_nearestNew_67 rfl ?_
      exact Ex.weak h ⟨rfl, rfl, rfl, rfl, rfl, trivial⟩
    · have h := h.2 (c)
      refine r_iload 42 dX0_nearestNew_40 rfl rfl ?_
      refine r_iload_n 43 dX0_nearestNew_42 rfl rfl ?_
      refine r_icmp_ge 46 64 dX0_nearestNew_43 rfl rfl (fun c => ?_) (fun c => ?_)
      · have h := h.1 (c)
        obtain ⟨o_5, h⟩ := h
        refine r_iinc (ls' := [some (vR (some (9, 0))), some (vR (some (5, k1))), some (vI x2), some (vI x3), some (vI (x4 + 1)), some (vI (M.1 34 0 (((M.1 5 k1 6) * 8) + x4).toNat))]) 67 dX0_nearestNew_64 rfl rfl rfl rfl o_5 rfl ?_
        refine r_goto 8 dX0_nearestNew_67 rfl ?_
        exact Ex.weak h ⟨rfl, rfl, rfl, rfl, rfl, trivial⟩
      · have h := h.2 (c)
        refine r_aload_n 47 dX0_nearestNew_46 rfl rfl ?_
        refine g_I 50 dX0_nearestNew_47 rfl rfl rfl fi_0_137 rfl ?_
        refine r_iload 52 dX0_nearestNew_50 rfl rfl ?_
        obtain ⟨r_8, M_6, hc_7, h⟩ := h
        refine n_1 [vI (M.1 5 k1 9), vI x4] [] 55 dX0_nearestNew_52 rfl rfl mo_X11_hasBit ml_0_66 rfl rfl hc_7 ?_
        have hJ_9 : Ex l G (d + 1) mX0_nearestNew 64 [some (vR (some (9, 0))), some (vR (some (5, k1))), some (vI (if ¬ r_8 = 0 then x2 else x4 : Int)), some (vI (if ¬ r_8 = 0 then x3 else (M.1 34 0 (((M.1 5 k1 6) * 8) + x4).toNat) : Int)), some (vI x4), some (vI (M.1 34 0 (((M.1 5 k1 6) * 8) + x4).toNat))] [] M_6 r M' := by
          obtain ⟨o_11, h⟩ := h
          refine r_iinc (ls' := [some (vR (some (9, 0))), some (vR (some (5, k1))), some (vI (if ¬ r_8 = 0 then x2 else x4 : Int)), some (vI (if ¬ r_8 = 0 then x3 else (M.1 34 0 (((M.1 5 k1 6) * 8) + x4).toNat) : Int)), some (vI (x4 + 1)), some (vI (M.1 34 0 (((M.1 5 k1 6) * 8) + x4).toNat))]) 67 dX0_nearestNew_64 rfl rfl rfl rfl o_11 rfl ?_
          refine r_goto 8 dX0_nearestNew_67 rfl ?_
          exact Ex.weak h ⟨rfl, rfl, rfl, rfl, rfl, trivial⟩
        refine r_if_ne 58 64 dX0_nearestNew_55 rfl rfl (fun c => ?_) (fun c => ?_)
        · have c_10 := c
          exact (Ex.at hJ_9 (show [some (vR (some (9, 0))), some (vR (some (5, k1))), some (vI x2), some (vI x3), some (vI x4), some (vI (M.1 34 0 (((M.1 5 k1 6) * 8) + x4).toNat))] = [some (vR (some (9, 0))), some (vR (some (5, k1))), some (vI (if ¬ r_8 = 0 then x2 else x4 : Int)), some (vI (if ¬ r_8 = 0 then x3 else (M.1 34 0 (((M.1 5 k1 6) * 8) + x4).toNat) : Int)), some (vI x4), some (vI (M.1 34 0 (((M.1 5 k1 6) * 8) + x4).toNat))] by simp only [if_pos c_10]) rfl rfl)
        · have c_10 := c
          refine r_iload 60 dX0_nearestNew_58 rfl rfl ?_
          refine r_istore_n (ls' := [some (vR (some (9, 0))), some (vR (some (5, k1))), some (vI x4), some (vI x3), some (vI x4), some (vI (M.1 34 0 (((M.1 5 k1 6) * 8) + x4).toNat))]) 61 dX0_nearestNew_60 rfl rfl rfl rfl ?_
          refine r_iload 63 dX0_nearestNew_61 rfl rfl ?_
          refine r_istore_n (ls' := [some (vR (some (9, 0))), some (vR (some (5, k1))), some (vI x4), some (vI (M.1 34 0 (((M.1 5 k1 6) * 8) + x4).toNat)), some (vI x4), some (vI (M.1 34 0 (((M.1 5 k1 6) * 8) + x4).toNat))]) 64 dX0_nearestNew_63 rfl rfl rfl rfl ?_
          exact (Ex.at hJ_9 (show [some (vR (some (9, 0))), some (vR (some (5, k1))), some (vI x4), some (vI (M.1 34 0 (((M.1 5 k1 6) * 8) + x4).toNat)), some (vI x4), some (vI (M.1 34 0 (((M.1 5 k1 6) * 8) + x4).toNat))] = [some (vR (some (9, 0))), some (vR (some (5, k1))), some (vI (if ¬ r_8 = 0 then x2 else x4 : Int)), some (vI (if ¬ r_8 = 0 then x3 else (M.1 34 0 (((M.1 5 k1 6) * 8) + x4).toNat) : Int)), some (vI x4), some (vI (M.1 34 0 (((M.1 5 k1 6) * 8) + x4).toNat))] by simp only [if_neg c_10]) rfl rfl)

set_option maxRecDepth 4000 in
theorem xX0_comesInTime_0 {l : Launch} {G : Gt} {d : Nat} {M M' : Mem} {r : Option Vl} {k1 : Nat} {x2 : Int} (hS : Sh M.2.1) (h : 
    (InR ((M.1 5 k1 6) * 8) ∧ InR (((M.1 5 k1 6) * 8) + x2) ∧ (0 ≤ (((M.1 5 k1 6) * 8) + x2) ∧ (((M.1 5 k1 6) * 8) + x2) < 64) ∧ InR ((M.1 5 k1 7) + (M.1 34 0 (((M.1 5 k1 6) * 8) + x2).toNat))) ∧ ((((if 999 < ((M.1 5 k1 7) + (M.1 34 0 (((M.1 5 k1 6) * 8) + x2).toNat)) then 0 else 1 : Int) = 0 ∨ (if 999 < ((M.1 5 k1 7) + (M.1 34 0 (((M.1 5 k1 6) * 8) + x2).toNat)) then 0 else 1 : Int) = 1)) ∧ r = some (vI (if 999 < ((M.1 5 k1 7) + (M.1 34 0 (((M.1 5 k1 6) * 8) + x2).toNat)) then 0 else 1 : Int)) ∧ M' = M)) : Cl l G d mX0_comesInTime [vR (some (9, 0)), vR (some (5, k1)), vI x2] M r M' := by
  show Ex l G d mX0_comesInTime 0 [some (vR (some (9, 0))), some (vR (some (5, k1))), some (vI x2)] [] M r M'
  obtain ⟨⟨o_1, o_2, o_3, o_4⟩, h⟩ := h
  refine r_aload_n 1 dX0_comesInTime_0 rfl rfl ?_
  refine g_I 4 dX0_comesInTime_1 rfl rfl rfl fi_0_113 rfl ?_
  refine r_aload_n 5 dX0_comesInTime_4 rfl rfl ?_
  refine g_R 8 dX0_comesInTime_5 rfl rfl rfl fr_0_15 (sh_0_0 hS) ?_
  refine g_R 11 dX0_comesInTime_8 rfl rfl rfl fr_0_134 (sh_8_3 hS _) ?_
  refine r_aload_n 12 dX0_comesInTime_11 rfl rfl ?_
  refine g_I 15 dX0_comesInTime_12 rfl rfl rfl fi_0_116 rfl ?_
  refine r_bipush 17 dX0_comesInTime_15 rfl rfl ?_
  refine r_imul 18 dX0_comesInTime_17 rfl o_1 ?_
  refine r_iload_n 19 dX0_comesInTime_18 rfl rfl ?_
  refine r_iadd 20 dX0_comesInTime_19 rfl o_2 ?_
  refine a_I 64 21 dX0_comesInTime_20 rfl rfl rfl rfl o_3 rfl ?_
  refine r_iadd 22 dX0_comesInTime_21 rfl o_4 ?_
  refine r_sipush 25 dX0_comesInTime_22 rfl rfl ?_
  have hJ_5 : Ex l G d mX0_comesInTime 33 [some (vR (some (9, 0))), some (vR (some (5, k1))), some (vI x2)] [vI (if 999 < ((M.1 5 k1 7) + (M.1 34 0 (((M.1 5 k1 6) * 8) + x2).toNat)) then 0 else 1 : Int)] M r M' := by
    obtain ⟨o_7, h⟩ := h
    exact r_iret dX0_comesInTime_33 rfl (.inr ⟨rfl, o_7⟩) h.1 h.2
  refine r_icmp_gt 28 32 dX0_comesInTime_25 rfl rfl (fun c => ?_) (fun c => ?_)
  · have c_6 := c
    refine r_iconst 33 dX0_comesInTime_32 rfl (InR_of rfl) ?_
    exact (Ex.at hJ_5 rfl (show [vI 0] = [vI (if 999 < ((M.1 5 k1 7) + (M.1 34 0 (((M.1 5 k1 6) * 8) + x2).toNat)) then 0 else 1 : Int)] by simp only [if_pos c_6]) rfl)
  · have c_6 := c
    refine r_iconst 29 dX0_comesInTime_28 rfl (InR_of rfl) ?_
    refine r_goto 33 dX0_comesInTime_29 rfl ?_
    exact (Ex.at hJ_5 rfl (show [vI 1] = [vI (if 999 < ((M.1 5 k1 7) + (M.1 34 0 (((M.1 5 k1 6) * 8) + x2).toNat)) then 0 else 1 : Int)] by simp only [if_neg c_6]) rfl)

set_option maxRecDepth 4000 in
theorem xX0_goTo_0 {l : Launch} {G : Gt} {d : Nat} {M M' : Mem} {r : Option Vl} {k1 : Nat} {x2 : Int} (hS : Sh M.2.1) (h : 
    (InR ((M.1 5 k1 6) * 8) ∧ InR (((M.1 5 k1 6) * 8) + x2) ∧ (0 ≤ (((M.1 5 k1 6) * 8) + x2) ∧ (((M.1 5 k1 6) * 8) + x2) < 64) ∧ InR ((M.1 5 k1 7) + (M.1 34 0 (((M.1 5 k1 6) * 8) + x2).toNat)) ∧ (0 ≤ x2 ∧ x2 < 32) ∧ InR ((M.1 5 k1 10) + 1)) ∧ r = none ∧ M' = ((upI (upI (upI (upI M.1 5 k1 7 ((M.1 5 k1 7) + (M.1 34 0 (((M.1 5 k1 6) * 8) + x2).toNat))) 5 k1 6 x2) 5 k1 9 (aOr (M.1 5 k1 9) (aShl 1 x2))) 5 k1 10 ((M.1 5 k1 10) + 1)), M.2.1, M.2.2)) : Cl l G d mX0_goTo [vR (some (9, 0)), vR (some (5, k1)), vI x2] M r M' := by
  show Ex l G d mX0_goTo 0 [some (vR (some (9, 0))), some (vR (some (5, k1))), some (vI x2)] [] M r M'
  obtain ⟨⟨o_1, o_2, o_3, o_4, o_5, o_6⟩, h⟩ := h
  refine r_aload_n 1 dX0_goTo_0 rfl rfl ?_
  refine r_dup 2 dX0_goTo_1 rfl rfl ?_
  refine g_I 5 dX0_goTo_2 rfl rfl rfl fi_0_113 rfl ?_
  refine r_aload_n 6 dX0_goTo_5 rfl rfl ?_
  refine g_R 9 dX0_goTo_6 rfl rfl rfl fr_0_15 (sh_0_0 hS) ?_
  refine g_R 12 dX0_goTo_9 rfl rfl rfl fr_0_134 (sh_8_3 hS _) ?_
  refine r_aload_n 13 dX0_goTo_12 rfl rfl ?_
  refine g_I 16 dX0_goTo_13 rfl rfl rfl fi_0_116 rfl ?_
  refine r_bipush 18 dX0_goTo_16 rfl rfl ?_
  refine r_imul 19 dX0_goTo_18 rfl o_1 ?_
  refine r_iload_n 20 dX0_goTo_19 rfl rfl ?_
  refine r_iadd 21 dX0_goTo_20 rfl o_2 ?_
  refine a_I 64 22 dX0_goTo_21 rfl rfl rfl rfl o_3 rfl ?_
  refine r_iadd 23 dX0_goTo_22 rfl o_4 ?_
  refine p_I 26 dX0_goTo_23 rfl rfl rfl rfl pf_0_113 (.inl rfl) rfl ?_
  refine r_aload_n 27 dX0_goTo_26 rfl rfl ?_
  refine r_iload_n 28 dX0_goTo_27 rfl rfl ?_
  refine p_I 31 dX0_goTo_28 rfl rfl rfl rfl pf_0_116 (.inl rfl) rfl ?_
  refine r_aload_n 32 dX0_goTo_31 rfl rfl ?_
  refine r_dup 33 dX0_goTo_32 rfl rfl ?_
  refine g_I 36 dX0_goTo_33 rfl rfl rfl fi_0_137 (mI_0 ((upI_i (by decide)).trans (upI_i (by decide)))) ?_
  refine r_iconst 37 dX0_goTo_36 rfl (InR_of rfl) ?_
  refine r_iload_n 38 dX0_goTo_37 rfl rfl ?_
  refine r_ishl 39 dX0_goTo_38 rfl o_5 ?_
  refine r_ior 40 dX0_goTo_39 rfl ?_
  refine p_I 43 dX0_goTo_40 rfl rfl rfl rfl pf_0_137 (.inl rfl) rfl ?_
  refine r_aload_n 44 dX0_goTo_43 rfl rfl ?_
  refine r_dup 45 dX0_goTo_44 rfl rfl ?_
  refine g_I 48 dX0_goTo_45 rfl rfl rfl fi_0_140 (mI_0 ((upI_i (by decide)).trans ((upI_i (by decide)).trans (upI_i (by decide))))) ?_
  refine r_iconst 49 dX0_goTo_48 rfl (InR_of rfl) ?_
  refine r_iadd 50 dX0_goTo_49 rfl o_6 ?_
  refine p_I 53 dX0_goTo_50 rfl rfl rfl rfl pf_0_140 (.inl rfl) rfl ?_
  exact r_vret dX0_goTo_53 rfl h.1 h.2

set_option maxRecDepth 4000 in
theorem xX0_oneDay_0 {l : Launch} {G : Gt} {d : Nat} {M M' : Mem} {r : Option Vl}  (h : 
    Ex l G (d + 1) mX0_oneDay 2 [some (vR (some (9, 0))), some (vI 0), none, none] [] M r M') : Cl l G (d + 1) mX0_oneDay [vR (some (9, 0))] M r M' := by
  show Ex l G (d + 1) mX0_oneDay 0 [some (vR (some (9, 0))), none, none, none] [] M r M'
  refine r_iconst 1 dX0_oneDay_0 rfl (InR_of rfl) ?_
  refine r_istore_n (ls' := [some (vR (some (9, 0))), some (vI 0), none, none]) 2 dX0_oneDay_1 rfl rfl rfl rfl ?_
  exact h
set_option maxRecDepth 4000 in
theorem xX0_oneDay_2 {l : Launch} {G : Gt} {d : Nat} {M M' : Mem} {r : Option Vl} {x1 : Int} (hS : Sh M.2.1) (h : 
    ((M.1 4 0 8) ≤ x1 → (InR ((M.1 4 0 10) + 1)) ∧ r = none ∧ M' = ((upI M.1 4 0 10 ((M.1 4 0 10) + 1)), M.2.1, M.2.2)) ∧ (¬ ((M.1 4 0 8) ≤ x1) → ((0 ≤ x1 ∧ x1 < 8)) ∧ (∃ k_3 : Nat, (M.2.1 38 0 x1.toNat) = some (5, k_3) ∧ ((¬ (M.1 5 k_3 5) = 0 → (InR (x1 + 1)) ∧ Ex l G (d + 1) mX0_oneDay 2 [some (vR (some (9, 0))), some (vI (x1 + 1)), none, none] [] M r M') ∧ (¬ (¬ (M.1 5 k_3 5) = 0) → (¬ (M.1 5 k_3 7) = (M.1 4 0 10) → (InR (x1 + 1)) ∧ Ex l G (d + 1) mX0_oneDay 2 [some (vR (some (9, 0))), some (vI (x1 + 1)), none, none] [] M r M') ∧ (¬ (¬ (M.1 5 k_3 7) = (M.1 4 0 10)) → ∃ (r_9 : Int) (M_7 : Mem), Cl l G d mX0_askOn [vR (some (9, 0)), vR (some (5, k_3))] M (some (vI r_9)) M_7 ∧ ((r_9 = (-1) → (InR (x1 + 1)) ∧ Ex l G (d + 1) mX0_oneDay 2 [some (vR (some (9, 0))), some (vI (x1 + 1)), none, none] [] M_7 r M') ∧ (¬ (r_9 = (-1)) → ∃ (M_11 : Mem), Cl l G d mX0_goTo [vR (some (9, 0)), vR (some (5, k_3)), vI r_9] M_7 none M_11 ∧ (InR (x1 + 1)) ∧ Ex l G (d + 1) mX0_oneDay 2 [some (vR (some (9, 0))), some (vI (x1 + 1)), none, none] [] M_11 r M')))))))) : Ex l G (d + 1) mX0_oneDay 2 [some (vR (some (9, 0))), some (vI x1), none, none] [] M r M' := by
  refine r_iload_n 3 dX0_oneDay_2 rfl rfl ?_
  refine r_aload_n 4 dX0_oneDay_3 rfl rfl ?_
  refine g_R 7 dX0_oneDay_4 rfl rfl rfl fr_0_15 (sh_0_0 hS) ?_
  refine g_I 10 dX0_oneDay_7 rfl rfl rfl fi_0_143 rfl ?_
  refine r_icmp_ge 13 67 dX0_oneDay_10 rfl rfl (fun c => ?_) (fun c => ?_)
  · have h := h.1 (c)
    obtain ⟨o_1, h⟩ := h
    refine r_aload_n 68 dX0_oneDay_67 rfl rfl ?_
    refine g_R 71 dX0_oneDay_68 rfl rfl rfl fr_0_15 (sh_0_0 hS) ?_
    refine r_dup 72 dX0_oneDay_71 rfl rfl ?_
    refine g_I 75 dX0_oneDay_72 rfl rfl rfl fi_0_150 rfl ?_
    refine r_iconst 76 dX0_oneDay_75 rfl (InR_of rfl) ?_
    refine r_iadd 77 dX0_oneDay_76 rfl o_1 ?_
    refine p_I 80 dX0_oneDay_77 rfl rfl rfl rfl pf_0_150 (.inl rfl) rfl ?_
    exact r_vret dX0_oneDay_80 rfl h.1 h.2
  · have h := h.2 (c)
    obtain ⟨o_2, h⟩ := h
    refine r_aload_n 14 dX0_oneDay_13 rfl rfl ?_
    refine g_R 17 dX0_oneDay_14 rfl rfl rfl fr_0_15 (sh_0_0 hS) ?_
    refine g_R 20 dX0_oneDay_17 rfl rfl rfl fr_0_146 (sh_8_9 hS _) ?_
    refine r_iload_n 21 dX0_oneDay_20 rfl rfl ?_
    refine a_R (ci := 5) 8 22 dX0_oneDay_21 rfl rfl rfl rfl rfl o_2 rfl ?_
    refine r_astore_n (ls' := [some (vR (some (9, 0))), some (vI x1), some (vR (M.2.1 38 0 x1.toNat)), none]) 23 dX0_oneDay_22 rfl rfl rfl rfl ?_
    refine r_aload_n 24 dX0_oneDay_23 rfl rfl ?_
    obtain ⟨k_3, e_4, h⟩ := h
    refine g_I 27 dX0_oneDay_24 rfl e_4 rfl fi_0_124 rfl ?_
    refine r_if_ne 30 61 dX0_oneDay_27 rfl rfl (fun c => ?_) (fun c => ?_)
    · have h := h.1 (c)
      obtain ⟨o_5, h⟩ := h
      refine r_iinc (ls' := [some (vR (some (9, 0))), some (vI (x1 + 1)), some (vR (M.2.1 38 0 x1.toNat)), none]) 64 dX0_oneDay_61 rfl rfl rfl rfl o_5 rfl ?_
      refine r_goto 2 dX0_oneDay_64 rfl ?_
      exact Ex.weak (Ex.at h rfl rfl rfl) ⟨rfl, rfl, trivial⟩
    · have h := h.2 (c)
      refine r_aload_n 31 dX0_oneDay_30 rfl rfl ?_
      refine g_I 34 dX0_oneDay_31 rfl e_4 rfl fi_0_113 rfl ?_
      refine r_aload_n 35 dX0_oneDay_34 rfl rfl ?_
      refine g_R 38 dX0_oneDay_35 rfl rfl rfl fr_0_15 (sh_0_0 hS) ?_
      refine g_I 41 dX0_oneDay_38 rfl rfl rfl fi_0_150 rfl ?_
      refine r_icmp_ne 44 61 dX0_oneDay_41 rfl rfl (fun c => ?_) (fun c => ?_)
      · have h := h.1 (c)
        obtain ⟨o_6, h⟩ := h
        refine r_iinc (ls' := [some (vR (some (9, 0))), some (vI (x1 + 1)), some (vR (M.2.1 38 0 x1.toNat)), none]) 64 dX0_oneDay_61 rfl rfl rfl rfl o_6 rfl ?_
        refine r_goto 2 dX0_oneDay_64 rfl ?_
        exact Ex.weak (Ex.at h rfl rfl rfl) ⟨rfl, rfl, trivial⟩
      · have h := h.2 (c)
        refine r_aload_n 45 dX0_oneDay_44 rfl rfl ?_
        refine r_aload_n 46 dX0_oneDay_45 rfl rfl ?_
        refine Ex.at (st2 := [vR (some (5, k_3)), vR (some (9, 0))]) ?_ rfl (show [vR (M.2.1 38 0 x1.toNat), vR (some (9, 0))] = [vR (some (5, k_3)), vR (some (9, 0))] by rw [e_4]) rfl
        obtain ⟨r_9, M_7, hc_8, h⟩ := h
        refine v_1 (ci := 0) (C := (RX0, TX0, 13)) [vR (some (5, k_3))] [] 49 dX0_oneDay_46 rfl rfl rfl rfl rfl mo_X0_askOn ml_0_153 rfl rfl hc_8 ?_
        refine r_istore_n (ls' := [some (vR (some (9, 0))), some (vI x1), some (vR (M.2.1 38 0 x1.toNat)), some (vI r_9)]) 50 dX0_oneDay_49 rfl rfl rfl rfl ?_
        refine r_iload_n 51 dX0_oneDay_50 rfl rfl ?_
        refine r_iconst 52 dX0_oneDay_51 rfl (InR_of rfl) ?_
        refine r_icmp_eq 55 61 dX0_oneDay_52 rfl rfl (fun c => ?_) (fun c => ?_)
        · have h := h.1 (c)
          obtain ⟨o_10, h⟩ := h
          refine r_iinc (ls' := [some (vR (some (9, 0))), some (vI (x1 + 1)), some (vR (M.2.1 38 0 x1.toNat)), some (vI r_9)]) 64 dX0_oneDay_61 rfl rfl rfl rfl o_10 rfl ?_
          refine r_goto 2 dX0_oneDay_64 rfl ?_
          exact Ex.weak (Ex.at h rfl rfl rfl) ⟨rfl, rfl, trivial⟩
        · have h := h.2 (c)
          refine r_aload_n 56 dX0_oneDay_55 rfl rfl ?_
          refine r_aload_n 57 dX0_oneDay_56 rfl rfl ?_
          refine r_iload_n 58 dX0_oneDay_57 rfl rfl ?_
          refine Ex.at (st2 := [vI r_9, vR (some (5, k_3)), vR (some (9, 0))]) ?_ rfl (show [vI r_9, vR (M.2.1 38 0 x1.toNat), vR (some (9, 0))] = [vI r_9, vR (some (5, k_3)), vR (some (9, 0))] by rw [e_4]) rfl
          obtain ⟨M_11, hc_12, h⟩ := h
          refine v_0 (ci := 0) (C := (RX0, TX0, 13)) [vR (some (5, k_3)), vI r_9] [] 61 dX0_oneDay_58 rfl rfl rfl rfl rfl mo_X0_goTo ml_0_156 rfl rfl hc_12 ?_
          obtain ⟨o_13, h⟩ := h
          refine r_iinc (ls' := [some (vR (some (9, 0))), some (vI (x1 + 1)), some (vR (M.2.1 38 0 x1.toNat)), some (vI r_9)]) 64 dX0_oneDay_61 rfl rfl rfl rfl o_13 rfl ?_
          refine r_goto 2 dX0_oneDay_64 rfl ?_
          exact Ex.weak (Ex.at h rfl rfl rfl) ⟨rfl, rfl, trivial⟩

set_option maxRecDepth 4000 in
theorem xX0_goToEnd_0 {l : Launch} {G : Gt} {d : Nat} {M M' : Mem} {r : Option Vl} {k1 : Nat} (h : 
    Ex l G (d + 1) mX0_goToEnd 2 [some (vR (some (9, 0))), some (vR (some (5, k1))), some (vI 0), none] [] M r M') : Cl l G (d + 1) mX0_goToEnd [vR (some (9, 0)), vR (some (5, k1))] M r M' := by
  show Ex l G (d + 1) mX0_goToEnd 0 [some (vR (some (9, 0))), some (vR (some (5, k1))), none, none] [] M r M'
  refine r_iconst 1 dX0_goToEnd_0 rfl (InR_of rfl) ?_
  refine r_istore_n (ls' := [some (vR (some (9, 0))), some (vR (some (5, k1))), some (vI 0), none]) 2 dX0_goToEnd_1 rfl rfl rfl rfl ?_
  exact h
set_option maxRecDepth 4000 in
theorem xX0_goToEnd_2 {l : Launch} {G : Gt} {d : Nat} {M M' : Mem} {r : Option Vl} {k1 : Nat} {x2 : Int} (h : 
    (100 ≤ x2 → r = none ∧ M' = M) ∧ (¬ (100 ≤ x2) → ∃ (r_3 : Int) (M_1 : Mem), Cl l G d mX0_askOn [vR (some (9, 0)), vR (some (5, k1))] M (some (vI r_3)) M_1 ∧ ((r_3 = (-1) → r = none ∧ M' = M_1) ∧ (¬ (r_3 = (-1)) → ∃ (r_6 : Int) (M_4 : Mem), Cl l G d mX0_comesInTime [vR (some (9, 0)), vR (some (5, k1)), vI r_3] M_1 (some (vI r_6)) M_4 ∧ ((¬ r_6 = 0 → ∃ (M_7 : Mem), Cl l G d mX0_goTo [vR (some (9, 0)), vR (some (5, k1)), vI r_3] M_4 none M_7 ∧ (InR (x2 + 1)) ∧ Ex l G (d + 1) mX0_goToEnd 2 [some (vR (some (9, 0))), some (vR (some (5, k1))), some (vI (x2 + 1)), none] [] M_7 r M') ∧ (¬ (¬ r_6 = 0) → r = none ∧ M' = M_4)))))) : Ex l G (d + 1) mX0_goToEnd 2 [some (vR (some (9, 0))), some (vR (some (5, k1))), some (vI x2), none] [] M r M' := by
  refine r_iload_n 3 dX0_goToEnd_2 rfl rfl ?_
  refine r_bipush 5 dX0_goToEnd_3 rfl rfl ?_
  refine r_icmp_ge 8 41 dX0_goToEnd_5 rfl rfl (fun c => ?_) (fun c => ?_)
  · have h := h.1 (c)
    exact r_vret dX0_goToEnd_41 rfl h.1 h.2
  · have h := h.2 (c)
    refine r_aload_n 9 dX0_goToEnd_8 rfl rfl ?_
    refine r_aload_n 10 dX0_goToEnd_9 rfl rfl ?_
    obtain ⟨r_3, M_1, hc_2, h⟩ := h
    refine v_1 (ci := 0) (C := (RX0, TX0, 13)) [vR (some (5, k1))] [] 13 dX0_goToEnd_10 rfl rfl rfl rfl rfl mo_X0_askOn ml_0_153 rfl rfl hc_2 ?_
    refine r_istore_n (ls' := [some (vR (some (9, 0))), some (vR (some (5, k1))), some (vI x2), some (vI r_3)]) 14 dX0_goToEnd_13 rfl rfl rfl rfl ?_
    refine r_iload_n 15 dX0_goToEnd_14 rfl rfl ?_
    refine r_iconst 16 dX0_goToEnd_15 rfl (InR_of rfl) ?_
    refine r_icmp_eq 19 28 dX0_goToEnd_16 rfl rfl (fun c => ?_) (fun c => ?_)
    · have h := h.1 (c)
      exact r_vret dX0_goToEnd_28 rfl h.1 h.2
    · have h := h.2 (c)
      refine r_aload_n 20 dX0_goToEnd_19 rfl rfl ?_
      refine r_aload_n 21 dX0_goToEnd_20 rfl rfl ?_
      refine r_iload_n 22 dX0_goToEnd_21 rfl rfl ?_
      obtain ⟨r_6, M_4, hc_5, h⟩ := h
      refine v_1 (ci := 0) (C := (RX0, TX0, 13)) [vR (some (5, k1)), vI r_3] [] 25 dX0_goToEnd_22 rfl rfl rfl rfl rfl mo_X0_comesInTime ml_0_160 rfl rfl hc_5 ?_
      refine r_if_ne 28 29 dX0_goToEnd_25 rfl rfl (fun c => ?_) (fun c => ?_)
      · have h := h.1 (c)
        refine r_aload_n 30 dX0_goToEnd_29 rfl rfl ?_
        refine r_aload_n 31 dX0_goToEnd_30 rfl rfl ?_
        refine r_iload_n 32 dX0_goToEnd_31 rfl rfl ?_
        obtain ⟨M_7, hc_8, h⟩ := h
        refine v_0 (ci := 0) (C := (RX0, TX0, 13)) [vR (some (5, k1)), vI r_3] [] 35 dX0_goToEnd_32 rfl rfl rfl rfl rfl mo_X0_goTo ml_0_156 rfl rfl hc_8 ?_
        obtain ⟨o_9, h⟩ := h
        refine r_iinc (ls' := [some (vR (some (9, 0))), some (vR (some (5, k1))), some (vI (x2 + 1)), some (vI r_3)]) 38 dX0_goToEnd_35 rfl rfl rfl rfl o_9 rfl ?_
        refine r_goto 2 dX0_goToEnd_38 rfl ?_
        exact Ex.weak h ⟨rfl, rfl, rfl, trivial⟩
      · have h := h.2 (c)
        exact r_vret dX0_goToEnd_28 rfl h.1 h.2

set_option maxRecDepth 4000 in
theorem xX0_findNeeds_0 {l : Launch} {G : Gt} {d : Nat} {M M' : Mem} {r : Option Vl} {k1 : Nat} (h : 
    ∃ (r_3 : Int) (M_1 : Mem), Cl l G d mX0_endsRight [vR (some (9, 0)), vR (some (5, k1)), vI (-1), vI (-1)] ((upI (upI M.1 9 0 10 (-2)) 9 0 11 (-2)), M.2.1, M.2.2) (some (vI r_3)) M_1 ∧ ((r_3 = 0 → Ex l G (d + 1) mX0_findNeeds 30 [some (vR (some (9, 0))), some (vR (some (5, k1))), some (vI 144), some (vI 0), none, none] [] M_1 r M') ∧ (¬ (r_3 = 0) → r = some (vI 0) ∧ M' = M_1))) : Cl l G (d + 1) mX0_findNeeds [vR (some (9, 0)), vR (some (5, k1))] M r M' := by
  show Ex l G (d + 1) mX0_findNeeds 0 [some (vR (some (9, 0))), some (vR (some (5, k1))), none, none, none, none] [] M r M'
  refine r_aload_n 1 dX0_findNeeds_0 rfl rfl ?_
  refine r_bipush 3 dX0_findNeeds_1 rfl rfl ?_
  refine p_I 6 dX0_findNeeds_3 rfl rfl rfl rfl pf_0_164 (.inl rfl) rfl ?_
  refine r_aload_n 7 dX0_findNeeds_6 rfl rfl ?_
  refine r_bipush 9 dX0_findNeeds_7 rfl rfl ?_
  refine p_I 12 dX0_findNeeds_9 rfl rfl rfl rfl pf_0_167 (.inl rfl) rfl ?_
  refine r_aload_n 13 dX0_findNeeds_12 rfl rfl ?_
  refine r_aload_n 14 dX0_findNeeds_13 rfl rfl ?_
  refine r_iconst 15 dX0_findNeeds_14 rfl (InR_of rfl) ?_
  refine r_iconst 16 dX0_findNeeds_15 rfl (InR_of rfl) ?_
  obtain ⟨r_3, M_1, hc_2, h⟩ := h
  refine v_1 (ci := 0) (C := (RX0, TX0, 13)) [vR (some (5, k1)), vI (-1), vI (-1)] [] 19 dX0_findNeeds_16 rfl rfl rfl rfl rfl mo_X0_endsRight ml_0_170 rfl rfl hc_2 ?_
  refine r_if_eq 22 24 dX0_findNeeds_19 rfl rfl (fun c => ?_) (fun c => ?_)
  · have h := h.1 (c)
    refine r_sipush 27 dX0_findNeeds_24 rfl rfl ?_
    refine r_istore_n (ls' := [some (vR (some (9, 0))), some (vR (some (5, k1))), some (vI 144), none, none, none]) 28 dX0_findNeeds_27 rfl rfl rfl rfl ?_
    refine r_iconst 29 dX0_findNeeds_28 rfl (InR_of rfl) ?_
    refine r_istore_n (ls' := [some (vR (some (9, 0))), some (vR (some (5, k1))), some (vI 144), some (vI 0), none, none]) 30 dX0_findNeeds_29 rfl rfl rfl rfl ?_
    exact h
  · have h := h.2 (c)
    refine r_iconst 23 dX0_findNeeds_22 rfl (InR_of rfl) ?_
    exact r_iret dX0_findNeeds_23 rfl (.inl rfl) h.1 h.2
set_option maxRecDepth 4000 in
theorem xX0_findNeeds_30 {l : Launch} {G : Gt} {d : Nat} {M M' : Mem} {r : Option Vl} {k1 : Nat} {x2 : Int} {x3 : Int} (hS : Sh M.2.1) (h : 
    (x2 ≤ x3 → Ex l G (d + 1) mX0_findNeeds 85 [some (vR (some (9, 0))), some (vR (some (5, k1))), some (vI x2), some (vI 0), none, none] [] M r M') ∧ (¬ (x2 ≤ x3) → ((0 ≤ x3 ∧ x3 < 144)) ∧ (∃ (r_4 : Int) (M_2 : Mem), Cl l G d mX0_isNotKnown [vR (some (9, 0)), vI x3] ((upI M.1 20 0 x3.toNat 0), M.2.1, M.2.2) (some (vI r_4)) M_2 ∧ ((r_4 = 0 → (InR (x3 + 1)) ∧ Ex l G (d + 1) mX0_findNeeds 30 [some (vR (some (9, 0))), some (vR (some (5, k1))), some (vI x2), some (vI (x3 + 1)), none, none] [] M_2 r M') ∧ (¬ (r_4 = 0) → ∃ (r_8 : Int) (M_6 : Mem), Cl l G d mX0_endsRight [vR (some (9, 0)), vR (some (5, k1)), vI x3, vI (-1)] M_2 (some (vI r_8)) M_6 ∧ Sh M_6.2.1 ∧ ((r_8 = 0 → ((0 ≤ x3 ∧ x3 < 144) ∧ InR (x3 + 1)) ∧ Ex l G (d + 1) mX0_findNeeds 30 [some (vR (some (9, 0))), some (vR (some (5, k1))), some (vI x2), some (vI (x3 + 1)), none, none] [] ((upI M_6.1 20 0 x3.toNat (M_6.1 5 k1 11)), M_6.2.1, M_6.2.2) r M') ∧ (¬ (r_8 = 0) → r = some (vI 1) ∧ M' = ((upI M_6.1 9 0 10 x3), M_6.2.1, M_6.2.2)))))))) : Ex l G (d + 1) mX0_findNeeds 30 [some (vR (some (9, 0))), some (vR (some (5, k1))), some (vI x2), some (vI x3), none, none] [] M r M' := by
  refine r_iload_n 31 dX0_findNeeds_30 rfl rfl ?_
  refine r_iload_n 32 dX0_findNeeds_31 rfl rfl ?_
  refine r_icmp_ge 35 83 dX0_findNeeds_32 rfl rfl (fun c => ?_) (fun c => ?_)
  · have h := h.1 (c)
    refine r_iconst 84 dX0_findNeeds_83 rfl (InR_of rfl) ?_
    refine r_istore_n (ls' := [some (vR (some (9, 0))), some (vR (some (5, k1))), some (vI x2), some (vI 0), none, none]) 85 dX0_findNeeds_84 rfl rfl rfl rfl ?_
    exact h
  · have h := h.2 (c)
    obtain ⟨o_1, h⟩ := h
    refine r_aload_n 36 dX0_findNeeds_35 rfl rfl ?_
    refine g_R 39 dX0_findNeeds_36 rfl rfl rfl fr_0_9 (sh_0_12 hS) ?_
    refine r_iload_n 40 dX0_findNeeds_39 rfl rfl ?_
    refine r_iconst 41 dX0_findNeeds_40 rfl (InR_of rfl) ?_
    refine s_I 144 42 dX0_findNeeds_41 rfl rfl (by decide) rfl rfl o_1 ?_
    refine r_aload_n 43 dX0_findNeeds_42 rfl rfl ?_
    refine r_iload_n 44 dX0_findNeeds_43 rfl rfl ?_
    obtain ⟨r_4, M_2, hc_3, h⟩ := h
    refine v_1 (ci := 0) (C := (RX0, TX0, 13)) [vI x3] [] 47 dX0_findNeeds_44 rfl rfl rfl rfl rfl mo_X0_isNotKnown ml_0_174 rfl rfl hc_3 ?_
    refine r_if_eq 50 77 dX0_findNeeds_47 rfl rfl (fun c => ?_) (fun c => ?_)
    · have h := h.1 (c)
      obtain ⟨o_5, h⟩ := h
      refine r_iinc (ls' := [some (vR (some (9, 0))), some (vR (some (5, k1))), some (vI x2), some (vI (x3 + 1)), none, none]) 80 dX0_findNeeds_77 rfl rfl rfl rfl o_5 rfl ?_
      refine r_goto 30 dX0_findNeeds_80 rfl ?_
      exact h
    · have h := h.2 (c)
      refine r_aload_n 51 dX0_findNeeds_50 rfl rfl ?_
      refine r_aload_n 52 dX0_findNeeds_51 rfl rfl ?_
      refine r_iload_n 53 dX0_findNeeds_52 rfl rfl ?_
      refine r_iconst 54 dX0_findNeeds_53 rfl (InR_of rfl) ?_
      obtain ⟨r_8, M_6, hc_7, hS, h⟩ := h
      refine v_1 (ci := 0) (C := (RX0, TX0, 13)) [vR (some (5, k1)), vI x3, vI (-1)] [] 57 dX0_findNeeds_54 rfl rfl rfl rfl rfl mo_X0_endsRight ml_0_170 rfl rfl hc_7 ?_
      refine r_if_eq 60 67 dX0_findNeeds_57 rfl rfl (fun c => ?_) (fun c => ?_)
      · have h := h.1 (c)
        obtain ⟨⟨o_9, o_10⟩, h⟩ := h
        refine r_aload_n 68 dX0_findNeeds_67 rfl rfl ?_
        refine g_R 71 dX0_findNeeds_68 rfl rfl rfl fr_0_9 (sh_0_12 hS) ?_
        refine r_iload_n 72 dX0_findNeeds_71 rfl rfl ?_
        refine r_aload_n 73 dX0_findNeeds_72 rfl rfl ?_
        refine g_I 76 dX0_findNeeds_73 rfl rfl rfl fi_0_123 rfl ?_
        refine s_I 144 77 dX0_findNeeds_76 rfl rfl (by decide) rfl rfl o_9 ?_
        refine r_iinc (ls' := [some (vR (some (9, 0))), some (vR (some (5, k1))), some (vI x2), some (vI (x3 + 1)), none, none]) 80 dX0_findNeeds_77 rfl rfl rfl rfl o_10 rfl ?_
        refine r_goto 30 dX0_findNeeds_80 rfl ?_
        exact h
      · have h := h.2 (c)
        refine r_aload_n 61 dX0_findNeeds_60 rfl rfl ?_
        refine r_iload_n 62 dX0_findNeeds_61 rfl rfl ?_
        refine p_I 65 dX0_findNeeds_62 rfl rfl rfl rfl pf_0_164 (.inl rfl) rfl ?_
        refine r_iconst 66 dX0_findNeeds_65 rfl (InR_of rfl) ?_
        exact r_iret dX0_findNeeds_66 rfl (.inl rfl) h.1 h.2
set_option maxRecDepth 4000 in
theorem xX0_findNeeds_85 {l : Launch} {G : Gt} {d : Nat} {M M' : Mem} {r : Option Vl} {k1 : Nat} {x2 : Int} {x3 : Int} (h : 
    (x2 ≤ x3 → r = some (vI (-2)) ∧ M' = M) ∧ (¬ (x2 ≤ x3) → (InR (x3 + 1)) ∧ Ex l G (d + 1) mX0_findNeeds 95 [some (vR (some (9, 0))), some (vR (some (5, k1))), some (vI x2), some (vI x3), some (vI (x3 + 1)), none] [] M r M')) : Ex l G (d + 1) mX0_findNeeds 85 [some (vR (some (9, 0))), some (vR (some (5, k1))), some (vI x2), some (vI x3), none, none] [] M r M' := by
  refine r_iload_n 86 dX0_findNeeds_85 rfl rfl ?_
  refine r_iload_n 87 dX0_findNeeds_86 rfl rfl ?_
  refine r_icmp_ge 90 183 dX0_findNeeds_87 rfl rfl (fun c => ?_) (fun c => ?_)
  · have h := h.1 (c)
    refine r_bipush 185 dX0_findNeeds_183 rfl rfl ?_
    exact r_iret dX0_findNeeds_185 rfl (.inl rfl) h.1 h.2
  · have h := h.2 (c)
    obtain ⟨o_1, h⟩ := h
    refine r_iload_n 91 dX0_findNeeds_90 rfl rfl ?_
    refine r_iconst 92 dX0_findNeeds_91 rfl (InR_of rfl) ?_
    refine r_iadd 93 dX0_findNeeds_92 rfl o_1 ?_
    refine r_istore (ls' := [some (vR (some (9, 0))), some (vR (some (5, k1))), some (vI x2), some (vI x3), some (vI (x3 + 1)), none]) 95 dX0_findNeeds_93 rfl rfl rfl rfl ?_
    exact h
set_option maxRecDepth 4000 in
theorem xX0_findNeeds_95 {l : Launch} {G : Gt} {d : Nat} {M M' : Mem} {r : Option Vl} {k1 : Nat} {x2 : Int} {x3 : Int} {x4 : Int} (hS : Sh M.2.1) (h : 
    (x2 ≤ x4 → (InR (x3 + 1)) ∧ Ex l G (d + 1) mX0_findNeeds 85 [some (vR (some (9, 0))), some (vR (some (5, k1))), some (vI x2), some (vI (x3 + 1)), none, none] [] M r M') ∧ (¬ (x2 ≤ x4) → ((0 ≤ x3 ∧ x3 < 144) ∧ 0 ≤ x4) ∧ (∃ (r_6 : Int) (M_4 : Mem), Cl l G d mX11_hasBit [vI (M.1 20 0 x3.toNat), vI (x4 / 12)] M (some (vI r_6)) M_4 ∧ Sh M_4.2.1 ∧ ((r_6 = 0 → (InR (x4 + 1)) ∧ Ex l G (d + 1) mX0_findNeeds 95 [some (vR (some (9, 0))), some (vR (some (5, k1))), some (vI x2), some (vI x3), some (vI (x4 + 1)), none] [] M_4 r M') ∧ (¬ (r_6 = 0) → ((0 ≤ x4 ∧ x4 < 144) ∧ 0 ≤ x3) ∧ (∃ (r_12 : Int) (M_10 : Mem), Cl l G d mX11_hasBit [vI (M_4.1 20 0 x4.toNat), vI (x3 / 12)] M_4 (some (vI r_12)) M_10 ∧ (((if r_12 = 0 then 0 else 1 : Int) = 0 → (InR (x4 + 1)) ∧ Ex l G (d + 1) mX0_findNeeds 95 [some (vR (some (9, 0))), some (vR (some (5, k1))), some (vI x2), some (vI x3), some (vI (x4 + 1)), none] [] M_10 r M') ∧ (¬ ((if r_12 = 0 then 0 else 1 : Int) = 0) → ∃ (r_18 : Int) (M_16 : Mem), Cl l G d mX0_endsRight [vR (some (9, 0)), vR (some (5, k1)), vI x3, vI x4] M_10 (some (vI r_18)) M_16 ∧ ((r_18 = 0 → (InR (x4 + 1)) ∧ Ex l G (d + 1) mX0_findNeeds 95 [some (vR (some (9, 0))), some (vR (some (5, k1))), some (vI x2), some (vI x3), some (vI (x4 + 1)), none] [] M_16 r M') ∧ (¬ (r_18 = 0) → r = some (vI 2) ∧ M' = ((upI (upI M_16.1 9 0 10 x3) 9 0 11 x4), M_16.2.1, M_16.2.2))))))))))) : Ex l G (d + 1) mX0_findNeeds 95 [some (vR (some (9, 0))), some (vR (some (5, k1))), some (vI x2), some (vI x3), some (vI x4), none] [] M r M' := by
  refine r_iload 97 dX0_findNeeds_95 rfl rfl ?_
  refine r_iload_n 98 dX0_findNeeds_97 rfl rfl ?_
  refine r_icmp_ge 101 177 dX0_findNeeds_98 rfl rfl (fun c => ?_) (fun c => ?_)
  · have h := h.1 (c)
    obtain ⟨o_1, h⟩ := h
    refine r_iinc (ls' := [some (vR (some (9, 0))), some (vR (some (5, k1))), some (vI x2), some (vI (x3 + 1)), some (vI x4), none]) 180 dX0_findNeeds_177 rfl rfl rfl rfl o_1 rfl ?_
    refine r_goto 85 dX0_findNeeds_180 rfl ?_
    exact Ex.weak h ⟨rfl, rfl, rfl, rfl, trivial⟩
  · have h := h.2 (c)
    obtain ⟨⟨o_2, o_3⟩, h⟩ := h
    refine r_aload_n 102 dX0_findNeeds_101 rfl rfl ?_
    refine g_R 105 dX0_findNeeds_102 rfl rfl rfl fr_0_9 (sh_0_12 hS) ?_
    refine r_iload_n 106 dX0_findNeeds_105 rfl rfl ?_
    refine a_I 144 107 dX0_findNeeds_106 rfl rfl rfl rfl o_2 rfl ?_
    refine r_iload 109 dX0_findNeeds_107 rfl rfl ?_
    refine r_bipush 111 dX0_findNeeds_109 rfl rfl ?_
    refine r_idiv 112 dX0_findNeeds_111 rfl ⟨o_3, by decide⟩ ?_
    obtain ⟨r_6, M_4, hc_5, hS, h⟩ := h
    refine n_1 [vI (M.1 20 0 x3.toNat), vI (x4 / 12)] [] 115 dX0_findNeeds_112 rfl rfl mo_X11_hasBit ml_0_66 rfl rfl hc_5 ?_
    refine r_if_eq 118 139 dX0_findNeeds_115 rfl rfl (fun c => ?_) (fun c => ?_)
    · have h := h.1 (c)
      obtain ⟨o_7, h⟩ := h
      refine r_iconst 140 dX0_findNeeds_139 rfl (InR_of rfl) ?_
      refine r_istore (ls' := [some (vR (some (9, 0))), some (vR (some (5, k1))), some (vI x2), some (vI x3), some (vI x4), some (vI 0)]) 142 dX0_findNeeds_140 rfl rfl rfl rfl ?_
      refine r_iload 144 dX0_findNeeds_142 rfl rfl ?_
      refine r_if_eq 147 171 dX0_findNeeds_144 rfl rfl (fun _ => ?_) (fun c => absurd (by decide) c)
      refine r_iinc (ls' := [some (vR (some (9, 0))), some (vR (some (5, k1))), some (vI x2), some (vI x3), some (vI (x4 + 1)), some (vI 0)]) 174 dX0_findNeeds_171 rfl rfl rfl rfl o_7 rfl ?_
      refine r_goto 95 dX0_findNeeds_174 rfl ?_
      exact Ex.weak h ⟨rfl, rfl, rfl, rfl, rfl, trivial⟩
    · have h := h.2 (c)
      obtain ⟨⟨o_8, o_9⟩, h⟩ := h
      refine r_aload_n 119 dX0_findNeeds_118 rfl rfl ?_
      refine g_R 122 dX0_findNeeds_119 rfl rfl rfl fr_0_9 (sh_0_12 hS) ?_
      refine r_iload 124 dX0_findNeeds_122 rfl rfl ?_
      refine a_I 144 125 dX0_findNeeds_124 rfl rfl rfl rfl o_8 rfl ?_
      refine r_iload_n 126 dX0_findNeeds_125 rfl rfl ?_
      refine r_bipush 128 dX0_findNeeds_126 rfl rfl ?_
      refine r_idiv 129 dX0_findNeeds_128 rfl ⟨o_9, by decide⟩ ?_
      obtain ⟨r_12, M_10, hc_11, h⟩ := h
      refine n_1 [vI (M_4.1 20 0 x4.toNat), vI (x3 / 12)] [] 132 dX0_findNeeds_129 rfl rfl mo_X11_hasBit ml_0_66 rfl rfl hc_11 ?_
      have hJ_13 : Ex l G (d + 1) mX0_findNeeds 140 [some (vR (some (9, 0))), some (vR (some (5, k1))), some (vI x2), some (vI x3), some (vI x4), none] [vI (if r_12 = 0 then 0 else 1 : Int)] M_10 r M' := by
        refine r_istore (ls' := [some (vR (some (9, 0))), some (vR (some (5, k1))), some (vI x2), some (vI x3), some (vI x4), some (vI (if r_12 = 0 then 0 else 1 : Int))]) 142 dX0_findNeeds_140 rfl rfl rfl rfl ?_
        refine r_iload 144 dX0_findNeeds_142 rfl rfl ?_
        refine r_if_eq 147 171 dX0_findNeeds_144 rfl rfl (fun c => ?_) (fun c => ?_)
        · have h := h.1 (c)
          obtain ⟨o_15, h⟩ := h
          refine r_iinc (ls' := [some (vR (some (9, 0))), some (vR (some (5, k1))), some (vI x2), some (vI x3), some (vI (x4 + 1)), some (vI (if r_12 = 0 then 0 else 1 : Int))]) 174 dX0_findNeeds_171 rfl rfl rfl rfl o_15 rfl ?_
          refine r_goto 95 dX0_findNeeds_174 rfl ?_
          exact Ex.weak h ⟨rfl, rfl, rfl, rfl, rfl, trivial⟩
        · have h := h.2 (c)
          refine r_aload_n 148 dX0_findNeeds_147 rfl rfl ?_
          refine r_aload_n 149 dX0_findNeeds_148 rfl rfl ?_
          refine r_iload_n 150 dX0_findNeeds_149 rfl rfl ?_
          refine r_iload 152 dX0_findNeeds_150 rfl rfl ?_
          obtain ⟨r_18, M_16, hc_17, h⟩ := h
          refine v_1 (ci := 0) (C := (RX0, TX0, 13)) [vR (some (5, k1)), vI x3, vI x4] [] 155 dX0_findNeeds_152 rfl rfl rfl rfl rfl mo_X0_endsRight ml_0_170 rfl rfl hc_17 ?_
          refine r_if_eq 158 171 dX0_findNeeds_155 rfl rfl (fun c => ?_) (fun c => ?_)
          · have h := h.1 (c)
            obtain ⟨o_19, h⟩ := h
            refine r_iinc (ls' := [some (vR (some (9, 0))), some (vR (some (5, k1))), some (vI x2), some (vI x3), some (vI (x4 + 1)), some (vI (if r_12 = 0 then 0 else 1 : Int))]) 174 dX0_findNeeds_171 rfl rfl rfl rfl o_19 rfl ?_
            refine r_goto 95 dX0_findNeeds_174 rfl ?_
            exact Ex.weak h ⟨rfl, rfl, rfl, rfl, rfl, trivial⟩
          · have h := h.2 (c)
            refine r_aload_n 159 dX0_findNeeds_158 rfl rfl ?_
            refine r_iload_n 160 dX0_findNeeds_159 rfl rfl ?_
            refine p_I 163 dX0_findNeeds_160 rfl rfl rfl rfl pf_0_164 (.inl rfl) rfl ?_
            refine r_aload_n 164 dX0_findNeeds_163 rfl rfl ?_
            refine r_iload 166 dX0_findNeeds_164 rfl rfl ?_
            refine p_I 169 dX0_findNeeds_166 rfl rfl rfl rfl pf_0_167 (.inl rfl) rfl ?_
            refine r_iconst 170 dX0_findNeeds_169 rfl (InR_of rfl) ?_
            exact r_iret dX0_findNeeds_170 rfl (.inl rfl) h.1 h.2
      refine r_if_eq 135 139 dX0_findNeeds_132 rfl rfl (fun c => ?_) (fun c => ?_)
      · have c_14 := c
        refine r_iconst 140 dX0_findNeeds_139 rfl (InR_of rfl) ?_
        exact (Ex.at hJ_13 rfl (show [vI 0] = [vI (if r_12 = 0 then 0 else 1 : Int)] by simp only [if_pos c_14]) rfl)
      · have c_14 := c
        refine r_iconst 136 dX0_findNeeds_135 rfl (InR_of rfl) ?_
        refine r_goto 140 dX0_findNeeds_136 rfl ?_
        exact (Ex.at hJ_13 rfl (show [vI 1] = [vI (if r_12 = 0 then 0 else 1 : Int)] by simp only [if_neg c_14]) rfl)

set_option maxRecDepth 4000 in
theorem xX0_isNotKnown_0 {l : Launch} {G : Gt} {d : Nat} {M M' : Mem} {r : Option Vl} {x1 : Int} (hS : Sh M.2.1) (h : 
    (0 ≤ x1 ∧ 0 ≤ x1) ∧ (((if (M.1 4 0 0) ≤ (x1 / 12) then 0 else (if (M.1 4 0 0) ≤ (x1 % 12) then 0 else (if (x1 / 12) = (x1 % 12) then 0 else 1 : Int) : Int) : Int) = 0 → r = some (vI 0) ∧ M' = M) ∧ (¬ ((if (M.1 4 0 0) ≤ (x1 / 12) then 0 else (if (M.1 4 0 0) ≤ (x1 % 12) then 0 else (if (x1 / 12) = (x1 % 12) then 0 else 1 : Int) : Int) : Int) = 0) → ((0 ≤ (x1 / 12) ∧ (x1 / 12) < 12)) ∧ (∃ (r_10 : Int) (M_8 : Mem), Cl l G d mX11_hasBit [vI (M.1 36 0 (x1 / 12).toNat), vI (x1 % 12)] M (some (vI r_10)) M_8 ∧ ((((if ¬ r_10 = 0 then 0 else 1 : Int) = 0 ∨ (if ¬ r_10 = 0 then 0 else 1 : Int) = 1)) ∧ r = some (vI (if ¬ r_10 = 0 then 0 else 1 : Int)) ∧ M' = M_8))))) : Cl l G (d + 1) mX0_isNotKnown [vR (some (9, 0)), vI x1] M r M' := by
  show Ex l G (d + 1) mX0_isNotKnown 0 [some (vR (some (9, 0))), some (vI x1), none, none, none] [] M r M'
  obtain ⟨⟨o_1, o_2⟩, h⟩ := h
  refine r_iload_n 1 dX0_isNotKnown_0 rfl rfl ?_
  refine r_bipush 3 dX0_isNotKnown_1 rfl rfl ?_
  refine r_idiv 4 dX0_isNotKnown_3 rfl ⟨o_1, by decide⟩ ?_
  refine r_istore_n (ls' := [some (vR (some (9, 0))), some (vI x1), some (vI (x1 / 12)), none, none]) 5 dX0_isNotKnown_4 rfl rfl rfl rfl ?_
  refine r_iload_n 6 dX0_isNotKnown_5 rfl rfl ?_
  refine r_bipush 8 dX0_isNotKnown_6 rfl rfl ?_
  refine r_irem 9 dX0_isNotKnown_8 rfl ⟨o_2, by decide⟩ ?_
  refine r_istore_n (ls' := [some (vR (some (9, 0))), some (vI x1), some (vI (x1 / 12)), some (vI (x1 % 12)), none]) 10 dX0_isNotKnown_9 rfl rfl rfl rfl ?_
  refine r_iload_n 11 dX0_isNotKnown_10 rfl rfl ?_
  refine r_aload_n 12 dX0_isNotKnown_11 rfl rfl ?_
  refine g_R 15 dX0_isNotKnown_12 rfl rfl rfl fr_0_15 (sh_0_0 hS) ?_
  refine g_I 18 dX0_isNotKnown_15 rfl rfl rfl fi_0_56 rfl ?_
  have hJ_3 : Ex l G (d + 1) mX0_isNotKnown 42 [some (vR (some (9, 0))), some (vI x1), some (vI (x1 / 12)), some (vI (x1 % 12)), none] [vI (if (M.1 4 0 0) ≤ (x1 / 12) then 0 else (if (M.1 4 0 0) ≤ (x1 % 12) then 0 else (if (x1 / 12) = (x1 % 12) then 0 else 1 : Int) : Int) : Int)] M r M' := by
    refine r_istore (ls' := [some (vR (some (9, 0))), some (vI x1), some (vI (x1 / 12)), some (vI (x1 % 12)), some (vI (if (M.1 4 0 0) ≤ (x1 / 12) then 0 else (if (M.1 4 0 0) ≤ (x1 % 12) then 0 else (if (x1 / 12) = (x1 % 12) then 0 else 1 : Int) : Int) : Int))]) 44 dX0_isNotKnown_42 rfl rfl rfl rfl ?_
    refine r_iload 46 dX0_isNotKnown_44 rfl rfl ?_
    refine r_if_eq 49 69 dX0_isNotKnown_46 rfl rfl (fun c => ?_) (fun c => ?_)
    · have h := h.1 (c)
      refine r_iconst 70 dX0_isNotKnown_69 rfl (InR_of rfl) ?_
      exact r_iret dX0_isNotKnown_70 rfl (.inr ⟨rfl, (.inl rfl)⟩) h.1 h.2
    · have h := h.2 (c)
      obtain ⟨o_7, h⟩ := h
      refine r_aload_n 50 dX0_isNotKnown_49 rfl rfl ?_
      refine g_R 53 dX0_isNotKnown_50 rfl rfl rfl fr_0_15 (sh_0_0 hS) ?_
      refine g_R 56 dX0_isNotKnown_53 rfl rfl rfl fr_0_70 (sh_8_6 hS _) ?_
      refine r_iload_n 57 dX0_isNotKnown_56 rfl rfl ?_
      refine a_I 12 58 dX0_isNotKnown_57 rfl rfl rfl rfl o_7 rfl ?_
      refine r_iload_n 59 dX0_isNotKnown_58 rfl rfl ?_
      obtain ⟨r_10, M_8, hc_9, h⟩ := h
      refine n_1 [vI (M.1 36 0 (x1 / 12).toNat), vI (x1 % 12)] [] 62 dX0_isNotKnown_59 rfl rfl mo_X11_hasBit ml_0_66 rfl rfl hc_9 ?_
      have hJ_11 : Ex l G (d + 1) mX0_isNotKnown 70 [some (vR (some (9, 0))), some (vI x1), some (vI (x1 / 12)), some (vI (x1 % 12)), some (vI (if (M.1 4 0 0) ≤ (x1 / 12) then 0 else (if (M.1 4 0 0) ≤ (x1 % 12) then 0 else (if (x1 / 12) = (x1 % 12) then 0 else 1 : Int) : Int) : Int))] [vI (if ¬ r_10 = 0 then 0 else 1 : Int)] M_8 r M' := by
        obtain ⟨o_13, h⟩ := h
        exact r_iret dX0_isNotKnown_70 rfl (.inr ⟨rfl, o_13⟩) h.1 h.2
      refine r_if_ne 65 69 dX0_isNotKnown_62 rfl rfl (fun c => ?_) (fun c => ?_)
      · have c_12 := c
        refine r_iconst 70 dX0_isNotKnown_69 rfl (InR_of rfl) ?_
        exact (Ex.at hJ_11 rfl (show [vI 0] = [vI (if ¬ r_10 = 0 then 0 else 1 : Int)] by simp only [if_pos c_12]) rfl)
      · have c_12 := c
        refine r_iconst 66 dX0_isNotKnown_65 rfl (InR_of rfl) ?_
        refine r_goto 70 dX0_isNotKnown_66 rfl ?_
        exact (Ex.at hJ_11 rfl (show [vI 1] = [vI (if ¬ r_10 = 0 then 0 else 1 : Int)] by simp only [if_neg c_12]) rfl)
  refine r_icmp_ge 21 41 dX0_isNotKnown_18 rfl rfl (fun c => ?_) (fun c => ?_)
  · have c_4 := c
    refine r_iconst 42 dX0_isNotKnown_41 rfl (InR_of rfl) ?_
    exact (Ex.at hJ_3 rfl (show [vI 0] = [vI (if (M.1 4 0 0) ≤ (x1 / 12) then 0 else (if (M.1 4 0 0) ≤ (x1 % 12) then 0 else (if (x1 / 12) = (x1 % 12) then 0 else 1 : Int) : Int) : Int)] by simp only [if_pos c_4]) rfl)
  · have c_4 := c
    refine r_iload_n 22 dX0_isNotKnown_21 rfl rfl ?_
    refine r_aload_n 23 dX0_isNotKnown_22 rfl rfl ?_
    refine g_R 26 dX0_isNotKnown_23 rfl rfl rfl fr_0_15 (sh_0_0 hS) ?_
    refine g_I 29 dX0_isNotKnown_26 rfl rfl rfl fi_0_56 rfl ?_
    refine r_icmp_ge 32 41 dX0_isNotKnown_29 rfl rfl (fun c => ?_) (fun c => ?_)
    · have c_5 := c
      refine r_iconst 42 dX0_isNotKnown_41 rfl (InR_of rfl) ?_
      exact (Ex.at hJ_3 rfl (show [vI 0] = [vI (if (M.1 4 0 0) ≤ (x1 / 12) then 0 else (if (M.1 4 0 0) ≤ (x1 % 12) then 0 else (if (x1 / 12) = (x1 % 12) then 0 else 1 : Int) : Int) : Int)] by simp only [if_neg c_4, if_pos c_5]) rfl)
    · have c_5 := c
      refine r_iload_n 33 dX0_isNotKnown_32 rfl rfl ?_
      refine r_iload_n 34 dX0_isNotKnown_33 rfl rfl ?_
      refine r_icmp_eq 37 41 dX0_isNotKnown_34 rfl rfl (fun c => ?_) (fun c => ?_)
      · have c_6 := c
        refine r_iconst 42 dX0_isNotKnown_41 rfl (InR_of rfl) ?_
        exact (Ex.at hJ_3 rfl (show [vI 0] = [vI (if (M.1 4 0 0) ≤ (x1 / 12) then 0 else (if (M.1 4 0 0) ≤ (x1 % 12) then 0 else (if (x1 / 12) = (x1 % 12) then 0 else 1 : Int) : Int) : Int)] by simp only [if_neg c_4, if_neg c_5, if_pos c_6]) rfl)
      · have c_6 := c
        refine r_iconst 38 dX0_isNotKnown_37 rfl (InR_of rfl) ?_
        refine r_goto 42 dX0_isNotKnown_38 rfl ?_
        exact (Ex.at hJ_3 rfl (show [vI 1] = [vI (if (M.1 4 0 0) ≤ (x1 / 12) then 0 else (if (M.1 4 0 0) ≤ (x1 % 12) then 0 else (if (x1 / 12) = (x1 % 12) then 0 else 1 : Int) : Int) : Int)] by simp only [if_neg c_4, if_neg c_5, if_neg c_6]) rfl)

set_option maxRecDepth 4000 in
theorem xX0_endsRight_0 {l : Launch} {G : Gt} {d : Nat} {M M' : Mem} {r : Option Vl} {k1 : Nat} {x2 : Int} {x3 : Int} (h : 
    ∃ (M_1 : Mem), Cl l G d mX0_turnKnown [vR (some (9, 0)), vI x2] M none M_1 ∧ (∃ (M_3 : Mem), Cl l G d mX0_turnKnown [vR (some (9, 0)), vI x3] M_1 none M_3 ∧ (∃ (M_5 : Mem), Cl l G d mX5_beginAgain [vR (some (5, k1))] M_3 none M_5 ∧ (∃ (M_7 : Mem), Cl l G d mX0_goToEnd [vR (some (9, 0)), vR (some (5, k1))] M_5 none M_7 ∧ (∃ (M_9 : Mem), Cl l G d mX0_turnKnown [vR (some (9, 0)), vI x2] M_7 none M_9 ∧ (∃ (M_11 : Mem), Cl l G d mX0_turnKnown [vR (some (9, 0)), vI x3] M_9 none M_11 ∧ (∃ (r_15 : Int) (M_13 : Mem), Cl l G d mX5_isRight [vR (some (5, k1))] M_11 (some (vI r_15)) M_13 ∧ (((r_15 = 0 ∨ r_15 = 1)) ∧ r = some (vI r_15) ∧ M' = M_13)))))))) : Cl l G (d + 1) mX0_endsRight [vR (some (9, 0)), vR (some (5, k1)), vI x2, vI x3] M r M' := by
  show Ex l G (d + 1) mX0_endsRight 0 [some (vR (some (9, 0))), some (vR (some (5, k1))), some (vI x2), some (vI x3)] [] M r M'
  refine r_aload_n 1 dX0_endsRight_0 rfl rfl ?_
  refine r_iload_n 2 dX0_endsRight_1 rfl rfl ?_
  obtain ⟨M_1, hc_2, h⟩ := h
  refine v_0 (ci := 0) (C := (RX0, TX0, 13)) [vI x2] [] 5 dX0_endsRight_2 rfl rfl rfl rfl rfl mo_X0_turnKnown ml_0_178 rfl rfl hc_2 ?_
  refine r_aload_n 6 dX0_endsRight_5 rfl rfl ?_
  refine r_iload_n 7 dX0_endsRight_6 rfl rfl ?_
  obtain ⟨M_3, hc_4, h⟩ := h
  refine v_0 (ci := 0) (C := (RX0, TX0, 13)) [vI x3] [] 10 dX0_endsRight_7 rfl rfl rfl rfl rfl mo_X0_turnKnown ml_0_178 rfl rfl hc_4 ?_
  refine r_aload_n 11 dX0_endsRight_10 rfl rfl ?_
  obtain ⟨M_5, hc_6, h⟩ := h
  refine v_0 (ci := 5) (C := (RX5, TX5, 12)) [] [] 14 dX0_endsRight_11 rfl rfl rfl rfl rfl mo_X5_beginAgain ml_0_182 rfl rfl hc_6 ?_
  refine r_aload_n 15 dX0_endsRight_14 rfl rfl ?_
  refine r_aload_n 16 dX0_endsRight_15 rfl rfl ?_
  obtain ⟨M_7, hc_8, h⟩ := h
  refine v_0 (ci := 0) (C := (RX0, TX0, 13)) [vR (some (5, k1))] [] 19 dX0_endsRight_16 rfl rfl rfl rfl rfl mo_X0_goToEnd ml_0_185 rfl rfl hc_8 ?_
  refine r_aload_n 20 dX0_endsRight_19 rfl rfl ?_
  refine r_iload_n 21 dX0_endsRight_20 rfl rfl ?_
  obtain ⟨M_9, hc_10, h⟩ := h
  refine v_0 (ci := 0) (C := (RX0, TX0, 13)) [vI x2] [] 24 dX0_endsRight_21 rfl rfl rfl rfl rfl mo_X0_turnKnown ml_0_178 rfl rfl hc_10 ?_
  refine r_aload_n 25 dX0_endsRight_24 rfl rfl ?_
  refine r_iload_n 26 dX0_endsRight_25 rfl rfl ?_
  obtain ⟨M_11, hc_12, h⟩ := h
  refine v_0 (ci := 0) (C := (RX0, TX0, 13)) [vI x3] [] 29 dX0_endsRight_26 rfl rfl rfl rfl rfl mo_X0_turnKnown ml_0_178 rfl rfl hc_12 ?_
  refine r_aload_n 30 dX0_endsRight_29 rfl rfl ?_
  obtain ⟨r_15, M_13, hc_14, h⟩ := h
  refine v_1 (ci := 5) (C := (RX5, TX5, 12)) [] [] 33 dX0_endsRight_30 rfl rfl rfl rfl rfl mo_X5_isRight ml_0_189 rfl rfl hc_14 ?_
  obtain ⟨o_16, h⟩ := h
  exact r_iret dX0_endsRight_33 rfl (.inr ⟨rfl, o_16⟩) h.1 h.2

set_option maxRecDepth 4000 in
theorem xX0_turnKnown_0 {l : Launch} {G : Gt} {d : Nat} {M M' : Mem} {r : Option Vl} {x1 : Int} (hS : Sh M.2.1) (h : 
    (x1 < 0 → r = none ∧ M' = M) ∧ (¬ (x1 < 0) → (144 ≤ x1 → r = none ∧ M' = M) ∧ (¬ (144 ≤ x1) → (0 ≤ x1 ∧ (0 ≤ (x1 / 12) ∧ (x1 / 12) < 12) ∧ 0 ≤ x1 ∧ (0 ≤ (x1 % 12) ∧ (x1 % 12) < 32) ∧ (0 ≤ (x1 / 12) ∧ (x1 / 12) < 12)) ∧ r = none ∧ M' = ((upI M.1 36 0 (x1 / 12).toNat (aXor (M.1 36 0 (x1 / 12).toNat) (aShl 1 (x1 % 12)))), M.2.1, M.2.2)))) : Cl l G d mX0_turnKnown [vR (some (9, 0)), vI x1] M r M' := by
  show Ex l G d mX0_turnKnown 0 [some (vR (some (9, 0))), some (vI x1)] [] M r M'
  refine r_iload_n 1 dX0_turnKnown_0 rfl rfl ?_
  refine r_if_lt 4 32 dX0_turnKnown_1 rfl rfl (fun c => ?_) (fun c => ?_)
  · have h := h.1 (c)
    exact r_vret dX0_turnKnown_32 rfl h.1 h.2
  · have h := h.2 (c)
    refine r_iload_n 5 dX0_turnKnown_4 rfl rfl ?_
    refine r_sipush 8 dX0_turnKnown_5 rfl rfl ?_
    refine r_icmp_ge 11 32 dX0_turnKnown_8 rfl rfl (fun c => ?_) (fun c => ?_)
    · have h := h.1 (c)
      exact r_vret dX0_turnKnown_32 rfl h.1 h.2
    · have h := h.2 (c)
      obtain ⟨⟨o_1, o_2, o_3, o_4, o_5⟩, h⟩ := h
      refine r_aload_n 12 dX0_turnKnown_11 rfl rfl ?_
      refine g_R 15 dX0_turnKnown_12 rfl rfl rfl fr_0_15 (sh_0_0 hS) ?_
      refine g_R 18 dX0_turnKnown_15 rfl rfl rfl fr_0_70 (sh_8_6 hS _) ?_
      refine r_iload_n 19 dX0_turnKnown_18 rfl rfl ?_
      refine r_bipush 21 dX0_turnKnown_19 rfl rfl ?_
      refine r_idiv 22 dX0_turnKnown_21 rfl ⟨o_1, by decide⟩ ?_
      refine r_dup2 23 dX0_turnKnown_22 rfl rfl ?_
      refine a_I 12 24 dX0_turnKnown_23 rfl rfl rfl rfl o_2 rfl ?_
      refine r_iconst 25 dX0_turnKnown_24 rfl (InR_of rfl) ?_
      refine r_iload_n 26 dX0_turnKnown_25 rfl rfl ?_
      refine r_bipush 28 dX0_turnKnown_26 rfl rfl ?_
      refine r_irem 29 dX0_turnKnown_28 rfl ⟨o_3, by decide⟩ ?_
      refine r_ishl 30 dX0_turnKnown_29 rfl o_4 ?_
      refine r_ixor 31 dX0_turnKnown_30 rfl ?_
      refine s_I 12 32 dX0_turnKnown_31 rfl rfl (by decide) rfl rfl o_5 ?_
      exact r_vret dX0_turnKnown_32 rfl h.1 h.2

set_option maxRecDepth 4000 in
theorem xX1_init_0 {l : Launch} {G : Gt} {d : Nat} {M M' : Mem} {r : Option Vl} {k0 : Nat} {x1 : Int} {k2 : Nat} {x3 : Int} {x4 : Int} (h : 
    ((x3 = 0 ∨ x3 = 1) ∧ (x4 = 0 ∨ x4 = 1)) ∧ r = none ∧ M' = ((upI (upI (upI M.1 13 k0 0 x1) 13 k0 2 x3) 13 k0 3 x4), (upR M.2.1 13 k0 1 (some (47, k2))), M.2.2)) : Cl l G (d + 1) mX1_init [vR (some (13, k0)), vI x1, vR (some (47, k2)), vI x3, vI x4] M r M' := by
  show Ex l G (d + 1) mX1_init 0 [some (vR (some (13, k0))), some (vI x1), some (vR (some (47, k2))), some (vI x3), some (vI x4)] [] M r M'
  obtain ⟨⟨o_1, o_2⟩, h⟩ := h
  refine r_aload_n 1 dX1_init_0 rfl rfl ?_
  refine r_objInit 4 dX1_init_1 rfl rfl ⟨(inT3 (List.mem_of_getElem? (i := 169) rfl) rfl), (inT1 (List.mem_of_getElem? (i := 28) rfl) rfl), (inT1 (List.mem_of_getElem? (i := 29) rfl) rfl)⟩ rfl ?_
  refine r_aload_n 5 dX1_init_4 rfl rfl ?_
  refine r_iload_n 6 dX1_init_5 rfl rfl ?_
  refine p_I 9 dX1_init_6 rfl rfl rfl rfl pf_1_7 (.inr rfl) rfl ?_
  refine r_aload_n 10 dX1_init_9 rfl rfl ?_
  refine r_aload_n 11 dX1_init_10 rfl rfl ?_
  refine p_R 14 dX1_init_11 rfl rfl rfl rfl pf_1_13 (.inr rfl) rfl ?_
  refine r_aload_n 15 dX1_init_14 rfl rfl ?_
  refine r_iload_n 16 dX1_init_15 rfl rfl ?_
  refine p_Z 19 dX1_init_16 rfl rfl rfl rfl pf_1_17 (.inr rfl) rfl o_1 ?_
  refine r_aload_n 20 dX1_init_19 rfl rfl ?_
  refine r_iload 22 dX1_init_20 rfl rfl ?_
  refine p_Z 25 dX1_init_22 rfl rfl rfl rfl pf_1_21 (.inr rfl) rfl o_2 ?_
  exact r_vret dX1_init_25 rfl h.1 h.2

set_option maxRecDepth 4000 in
theorem xX2_init_0 {l : Launch} {G : Gt} {d : Nat} {M M' : Mem} {r : Option Vl}  (h : 
    (∀ M_1 : Mem, newM M 21 0 0 = M_1 → (∀ M_2 : Mem, newM (M_1.1, (upR M_1.2.1 12 0 0 (some (21, cCnt M.2.2 21))), M_1.2.2) 22 400 400 = M_2 → r = none ∧ M' = (M_2.1, (upR M_2.2.1 12 0 8 (some (22, cCnt M_1.2.2 22))), M_2.2.2)))) : Cl l G (d + 1) mX2_init [vR (some (12, 0))] M r M' := by
  show Ex l G (d + 1) mX2_init 0 [some (vR (some (12, 0)))] [] M r M'
  refine r_aload_n 1 dX2_init_0 rfl rfl ?_
  refine r_objInit 4 dX2_init_1 rfl rfl ⟨(inT2 (List.mem_of_getElem? (i := 96) rfl) rfl), (inT1 (List.mem_of_getElem? (i := 28) rfl) rfl), (inT1 (List.mem_of_getElem? (i := 29) rfl) rfl)⟩ rfl ?_
  refine r_aload_n 5 dX2_init_4 rfl rfl ?_
  refine r_iconst 6 dX2_init_5 rfl (InR_of rfl) ?_
  refine r_newa (f := 21) (k := 1) (n := 0) 8 dX2_init_6 rfl rfl rfl (by decide) (inT1 (List.mem_of_getElem? (i := 104) rfl) rfl) rfl (by decide) (.inl rfl) ?_
  generalize hM_1 : newM M 21 0 0 = M_1
  have h := h M_1 hM_1
  refine p_R 11 dX2_init_8 rfl rfl rfl rfl pf_2_9 (.inl rfl) rfl ?_
  refine r_aload_n 12 dX2_init_11 rfl rfl ?_
  refine r_sipush 15 dX2_init_12 rfl rfl ?_
  refine r_newa (f := 22) (k := 1) (n := 400) 17 dX2_init_15 rfl rfl rfl (by decide) (inT1 (List.mem_of_getElem? (i := 104) rfl) rfl) rfl (by decide) (.inl rfl) ?_
  generalize hM_2 : newM (M_1.1, (upR M_1.2.1 12 0 0 (some (21, cCnt M.2.2 21))), M_1.2.2) 22 400 400 = M_2
  have h := h M_2 hM_2
  refine p_R 20 dX2_init_17 rfl rfl rfl rfl pf_2_15 (.inr rfl) rfl ?_
  exact r_vret dX2_init_20 rfl h.1 h.2

set_option maxRecDepth 4000 in
theorem xX2_read_0 {l : Launch} {G : Gt} {d : Nat} {M M' : Mem} {r : Option Vl} {x2 : Int} (h : 
    ∃ (M_1 : Mem), Cl l G d mX2_readHead [vR (some (12, 0))] ((upI (upI (upI (upI (upI (upI (upI M.1 12 0 1 (if 400 < x2 then 400 else x2 : Int)) 12 0 3 0) 12 0 4 0) 12 0 5 0) 12 0 9 0) 12 0 6 0) 12 0 7 0), (upR M.2.1 12 0 0 (some (16, 0))), M.2.2) none M_1 ∧ (∃ (M_3 : Mem), Cl l G d mX2_readTest [vR (some (12, 0)), vI 0, vI 0] M_1 none M_3 ∧ ((¬ (M_3.1 12 0 4) = 0 → r = some (vI (M_3.1 12 0 4)) ∧ M' = M_3) ∧ (¬ (¬ (M_3.1 12 0 4) = 0) → ∃ (r_7 : Int) (M_5 : Mem), Cl l G d mX2_look [vR (some (12, 0))] M_3 (some (vI r_7)) M_5 ∧ (((M_5.1 12 0 1) ≤ (M_5.1 12 0 2) → r = some (vI (M_5.1 12 0 4)) ∧ M' = M_5) ∧ (¬ ((M_5.1 12 0 1) ≤ (M_5.1 12 0 2)) → ∃ (M_8 : Mem), Cl l G d mX2_fail [vR (some (12, 0)), vI 0] M_5 none M_8 ∧ r = some (vI (M_8.1 12 0 4)) ∧ M' = M_8)))))) : Cl l G (d + 1) mX2_read [vR (some (12, 0)), vR (some (16, 0)), vI x2] M r M' := by
  show Ex l G (d + 1) mX2_read 0 [some (vR (some (12, 0))), some (vR (some (16, 0))), some (vI x2)] [] M r M'
  refine r_aload_n 1 dX2_read_0 rfl rfl ?_
  refine r_aload_n 2 dX2_read_1 rfl rfl ?_
  refine p_R 5 dX2_read_2 rfl rfl rfl rfl pf_2_9 (.inl rfl) rfl ?_
  refine r_aload_n 6 dX2_read_5 rfl rfl ?_
  refine r_iload_n 7 dX2_read_6 rfl rfl ?_
  refine r_aload_n 8 dX2_read_7 rfl rfl ?_
  refine r_alen (v := 400) 9 dX2_read_8 rfl rfl (.inl rfl) rfl (InR_of rfl) ?_
  refine r_min 12 dX2_read_9 rfl (inT3 (List.mem_of_getElem? (i := 25) rfl) rfl) rfl ?_
  refine p_I 15 dX2_read_12 rfl rfl rfl rfl pf_2_24 (.inl rfl) rfl ?_
  refine r_aload_n 16 dX2_read_15 rfl rfl ?_
  refine r_iconst 17 dX2_read_16 rfl (InR_of rfl) ?_
  refine p_I 20 dX2_read_17 rfl rfl rfl rfl pf_2_28 (.inl rfl) rfl ?_
  refine r_aload_n 21 dX2_read_20 rfl rfl ?_
  refine r_iconst 22 dX2_read_21 rfl (InR_of rfl) ?_
  refine p_I 25 dX2_read_22 rfl rfl rfl rfl pf_2_31 (.inl rfl) rfl ?_
  refine r_aload_n 26 dX2_read_25 rfl rfl ?_
  refine r_iconst 27 dX2_read_26 rfl (InR_of rfl) ?_
  refine p_I 30 dX2_read_27 rfl rfl rfl rfl pf_2_34 (.inl rfl) rfl ?_
  refine r_aload_n 31 dX2_read_30 rfl rfl ?_
  refine r_iconst 32 dX2_read_31 rfl (InR_of rfl) ?_
  refine p_I 35 dX2_read_32 rfl rfl rfl rfl pf_2_37 (.inl rfl) rfl ?_
  refine r_aload_n 36 dX2_read_35 rfl rfl ?_
  refine r_iconst 37 dX2_read_36 rfl (InR_of rfl) ?_
  refine p_Z 40 dX2_read_37 rfl rfl rfl rfl pf_2_40 (.inl rfl) rfl (.inl rfl) ?_
  refine r_aload_n 41 dX2_read_40 rfl rfl ?_
  refine r_iconst 42 dX2_read_41 rfl (InR_of rfl) ?_
  refine p_Z 45 dX2_read_42 rfl rfl rfl rfl pf_2_44 (.inl rfl) rfl (.inl rfl) ?_
  refine r_aload_n 46 dX2_read_45 rfl rfl ?_
  obtain ⟨M_1, hc_2, h⟩ := h
  refine v_0 (ci := 2) (C := (RX2, TX2, 10)) [] [] 49 dX2_read_46 rfl rfl rfl rfl rfl mo_X2_readHead ml_2_47 rfl rfl hc_2 ?_
  refine r_aload_n 50 dX2_read_49 rfl rfl ?_
  refine r_iconst 51 dX2_read_50 rfl (InR_of rfl) ?_
  refine r_iconst 52 dX2_read_51 rfl (InR_of rfl) ?_
  obtain ⟨M_3, hc_4, h⟩ := h
  refine v_0 (ci := 2) (C := (RX2, TX2, 10)) [vI 0, vI 0] [] 55 dX2_read_52 rfl rfl rfl rfl rfl mo_X2_readTest ml_2_50 rfl rfl hc_4 ?_
  refine r_aload_n 56 dX2_read_55 rfl rfl ?_
  refine g_I 59 dX2_read_56 rfl rfl rfl fi_2_31 rfl ?_
  refine r_if_ne 62 83 dX2_read_59 rfl rfl (fun c => ?_) (fun c => ?_)
  · have h := h.1 (c)
    refine r_aload_n 84 dX2_read_83 rfl rfl ?_
    refine g_I 87 dX2_read_84 rfl rfl rfl fi_2_31 rfl ?_
    exact r_iret dX2_read_87 rfl (.inl rfl) h.1 h.2
  · have h := h.2 (c)
    refine r_aload_n 63 dX2_read_62 rfl rfl ?_
    obtain ⟨r_7, M_5, hc_6, h⟩ := h
    refine v_1 (ci := 2) (C := (RX2, TX2, 10)) [] [] 66 dX2_read_63 rfl rfl rfl rfl rfl mo_X2_look ml_2_54 rfl rfl hc_6 ?_
    refine r_pop 67 dX2_read_66 rfl rfl ?_
    refine r_aload_n 68 dX2_read_67 rfl rfl ?_
    refine g_I 71 dX2_read_68 rfl rfl rfl fi_2_58 rfl ?_
    refine r_aload_n 72 dX2_read_71 rfl rfl ?_
    refine g_I 75 dX2_read_72 rfl rfl rfl fi_2_24 rfl ?_
    refine r_icmp_ge 78 83 dX2_read_75 rfl rfl (fun c => ?_) (fun c => ?_)
    · have h := h.1 (c)
      refine r_aload_n 84 dX2_read_83 rfl rfl ?_
      refine g_I 87 dX2_read_84 rfl rfl rfl fi_2_31 rfl ?_
      exact r_iret dX2_read_87 rfl (.inl rfl) h.1 h.2
    · have h := h.2 (c)
      refine r_aload_n 79 dX2_read_78 rfl rfl ?_
      refine r_iconst 80 dX2_read_79 rfl (InR_of rfl) ?_
      obtain ⟨M_8, hc_9, h⟩ := h
      refine v_0 (ci := 2) (C := (RX2, TX2, 10)) [vI 0] [] 83 dX2_read_80 rfl rfl rfl rfl rfl mo_X2_fail ml_2_61 rfl rfl hc_9 ?_
      refine r_aload_n 84 dX2_read_83 rfl rfl ?_
      refine g_I 87 dX2_read_84 rfl rfl rfl fi_2_31 rfl ?_
      exact r_iret dX2_read_87 rfl (.inl rfl) h.1 h.2

set_option maxRecDepth 4000 in
theorem xX2_newCover_0 {l : Launch} {G : Gt} {d : Nat} {M M' : Mem} {r : Option Vl} {x1 : Int} (hS : Sh M.2.1) (h : 
    (∀ M_1 : Mem, newM M 13 0 4 = M_1 → ∃ (k_4 : Nat) (M_2 : Mem), Cl l G d mJ7_copyOf_59c91 [vR (some (22, 0)), vI (M.1 12 0 9)] M_1 (some (vR (some (47, k_4)))) M_2 ∧ (∃ (M_5 : Mem), Cl l G d mX1_init [vR (some (13, cCnt M.2.2 13)), vI x1, vR (some (47, k_4)), vI (M_2.1 12 0 6), vI (M_2.1 12 0 7)] M_2 none M_5 ∧ r = some (vR (some (13, cCnt M.2.2 13))) ∧ M' = M_5))) : Cl l G (d + 1) mX2_newCover [vR (some (12, 0)), vI x1] M r M' := by
  show Ex l G (d + 1) mX2_newCover 0 [some (vR (some (12, 0))), some (vI x1)] [] M r M'
  refine r_new (f := 13) (ci := 1) (C := (RX1, TX1, 4)) 3 dX2_newCover_0 rfl rfl rfl rfl (inT3 (List.mem_of_getElem? (i := 150) rfl) rfl) (inT3 (List.mem_of_getElem? (i := 151) rfl) rfl) wi_1 ?_
  generalize hM_1 : newM M 13 0 4 = M_1
  have h := h M_1 hM_1
  refine r_dup 4 dX2_newCover_3 rfl rfl ?_
  refine r_iload_n 5 dX2_newCover_4 rfl rfl ?_
  refine r_aload_n 6 dX2_newCover_5 rfl rfl ?_
  refine g_R 9 dX2_newCover_6 rfl rfl rfl fr_2_15 ((newM_R hM_1 rfl).trans (sh_2_8 hS)) ?_
  refine r_aload_n 10 dX2_newCover_9 rfl rfl ?_
  refine g_I 13 dX2_newCover_10 rfl rfl rfl fi_2_37 (newM_I hM_1 rfl) ?_
  obtain ⟨k_4, M_2, hc_3, h⟩ := h
  refine c_1 [vR (some (22, 0)), vI (M.1 12 0 9)] [vI x1, vR (some (13, cCnt M.2.2 13)), vR (some (13, cCnt M.2.2 13))] 16 dX2_newCover_13 rfl rfl mo_J7_copyOf_59c91 ml_2_67 rfl rfl hc_3 ?_
  refine r_aload_n 17 dX2_newCover_16 rfl rfl ?_
  refine g_I 20 dX2_newCover_17 rfl rfl rfl fi_2_40 rfl ?_
  refine r_aload_n 21 dX2_newCover_20 rfl rfl ?_
  refine g_I 24 dX2_newCover_21 rfl rfl rfl fi_2_44 rfl ?_
  obtain ⟨M_5, hc_6, h⟩ := h
  refine r_callI [vI x1, vR (some (47, k_4)), vI (M_2.1 12 0 6), vI (M_2.1 12 0 7)] [vR (some (13, cCnt M.2.2 13))] 27 dX2_newCover_24 rfl rfl rfl mo_X1_init ⟨rfl, rfl⟩ ml_2_73 rfl rfl hc_6 ?_
  exact r_aret dX2_newCover_27 rfl rfl h.1 h.2

set_option maxRecDepth 4000 in
theorem xX2_readHead_0 {l : Launch} {G : Gt} {d : Nat} {M M' : Mem} {r : Option Vl}  (h : 
    Ex l G (d + 1) mX2_readHead 2 [some (vR (some (12, 0))), some (vI 0), none] [] M r M') : Cl l G (d + 1) mX2_readHead [vR (some (12, 0))] M r M' := by
  show Ex l G (d + 1) mX2_readHead 0 [some (vR (some (12, 0))), none, none] [] M r M'
  refine r_iconst 1 dX2_readHead_0 rfl (InR_of rfl) ?_
  refine r_istore_n (ls' := [some (vR (some (12, 0))), some (vI 0), none]) 2 dX2_readHead_1 rfl rfl rfl rfl ?_
  exact h
set_option maxRecDepth 4000 in
theorem xX2_readHead_2 {l : Launch} {G : Gt} {d : Nat} {M M' : Mem} {r : Option Vl} {x1 : Int} (h : 
    (2 ≤ x1 → r = none ∧ M' = M) ∧ (¬ (2 ≤ x1) → ∃ (r_3 : Int) (M_1 : Mem), Cl l G d mX2_look [vR (some (12, 0))] M (some (vI r_3)) M_1 ∧ ((¬ r_3 = 30 → (¬ r_3 = 31 → ∃ (M_4 : Mem), Cl l G d mX2_leave [vR (some (12, 0))] M_1 none M_4 ∧ r = none ∧ M' = M_4) ∧ (¬ (¬ r_3 = 31) → (¬ (M_1.1 12 0 7) = 0 → ∃ (M_6 : Mem), Cl l G d mX2_leave [vR (some (12, 0))] M_1 none M_6 ∧ r = none ∧ M' = M_6) ∧ (¬ (¬ (M_1.1 12 0 7) = 0) → (InR (x1 + 1)) ∧ Ex l G (d + 1) mX2_readHead 2 [some (vR (some (12, 0))), some (vI (x1 + 1)), none] [] ((upI M_1.1 12 0 7 1), M_1.2.1, M_1.2.2) r M'))) ∧ (¬ (¬ r_3 = 30) → (¬ (M_1.1 12 0 6) = 0 → (¬ r_3 = 31 → ∃ (M_9 : Mem), Cl l G d mX2_leave [vR (some (12, 0))] M_1 none M_9 ∧ r = none ∧ M' = M_9) ∧ (¬ (¬ r_3 = 31) → (¬ (M_1.1 12 0 7) = 0 → ∃ (M_11 : Mem), Cl l G d mX2_leave [vR (some (12, 0))] M_1 none M_11 ∧ r = none ∧ M' = M_11) ∧ (¬ (¬ (M_1.1 12 0 7) = 0) → (InR (x1 + 1)) ∧ Ex l G (d + 1) mX2_readHead 2 [some (vR (some (12, 0))), some (vI (x1 + 1)), none] [] ((upI M_1.1 12 0 7 1), M_1.2.1, M_1.2.2) r M'))) ∧ (¬ (¬ (M_1.1 12 0 6) = 0) → (InR (x1 + 1)) ∧ Ex l G (d + 1) mX2_readHead 2 [some (vR (some (12, 0))), some (vI (x1 + 1)), none] [] ((upI M_1.1 12 0 6 1), M_1.2.1, M_1.2.2) r M'))))) : Ex l G (d + 1) mX2_readHead 2 [some (vR (some (12, 0))), some (vI x1), none] [] M r M' := by
  refine r_iload_n 3 dX2_readHead_2 rfl rfl ?_
  refine r_iconst 4 dX2_readHead_3 rfl (InR_of rfl) ?_
  refine r_icmp_ge 7 65 dX2_readHead_4 rfl rfl (fun c => ?_) (fun c => ?_)
  · have h := h.1 (c)
    exact r_vret dX2_readHead_65 rfl h.1 h.2
  · have h := h.2 (c)
    refine r_aload_n 8 dX2_readHead_7 rfl rfl ?_
    obtain ⟨r_3, M_1, hc_2, h⟩ := h
    refine v_1 (ci := 2) (C := (RX2, TX2, 10)) [] [] 11 dX2_readHead_8 rfl rfl rfl rfl rfl mo_X2_look ml_2_54 rfl rfl hc_2 ?_
    refine r_istore_n (ls' := [some (vR (some (12, 0))), some (vI x1), some (vI r_3)]) 12 dX2_readHead_11 rfl rfl rfl rfl ?_
    refine r_iload_n 13 dX2_readHead_12 rfl rfl ?_
    refine r_bipush 15 dX2_readHead_13 rfl rfl ?_
    refine r_icmp_ne 18 33 dX2_readHead_15 rfl rfl (fun c => ?_) (fun c => ?_)
    · have h := h.1 (c)
      refine r_iload_n 34 dX2_readHead_33 rfl rfl ?_
      refine r_bipush 36 dX2_readHead_34 rfl rfl ?_
      refine r_icmp_ne 39 54 dX2_readHead_36 rfl rfl (fun c => ?_) (fun c => ?_)
      · have h := h.1 (c)
        refine r_aload_n 55 dX2_readHead_54 rfl rfl ?_
        obtain ⟨M_4, hc_5, h⟩ := h
        refine v_0 (ci := 2) (C := (RX2, TX2, 10)) [] [] 58 dX2_readHead_55 rfl rfl rfl rfl rfl mo_X2_leave ml_2_76 rfl rfl hc_5 ?_
        exact r_vret dX2_readHead_58 rfl h.1 h.2
      · have h := h.2 (c)
        refine r_aload_n 40 dX2_readHead_39 rfl rfl ?_
        refine g_I 43 dX2_readHead_40 rfl rfl rfl fi_2_44 rfl ?_
        refine r_if_ne 46 54 dX2_readHead_43 rfl rfl (fun c => ?_) (fun c => ?_)
        · have h := h.1 (c)
          refine r_aload_n 55 dX2_readHead_54 rfl rfl ?_
          obtain ⟨M_6, hc_7, h⟩ := h
          refine v_0 (ci := 2) (C := (RX2, TX2, 10)) [] [] 58 dX2_readHead_55 rfl rfl rfl rfl rfl mo_X2_leave ml_2_76 rfl rfl hc_7 ?_
          exact r_vret dX2_readHead_58 rfl h.1 h.2
        · have h := h.2 (c)
          obtain ⟨o_8, h⟩ := h
          refine r_aload_n 47 dX2_readHead_46 rfl rfl ?_
          refine r_iconst 48 dX2_readHead_47 rfl (InR_of rfl) ?_
          refine p_Z 51 dX2_readHead_48 rfl rfl rfl rfl pf_2_44 (.inl rfl) rfl (.inr rfl) ?_
          refine r_goto 59 dX2_readHead_51 rfl ?_
          refine r_iinc (ls' := [some (vR (some (12, 0))), some (vI (x1 + 1)), some (vI r_3)]) 62 dX2_readHead_59 rfl rfl rfl rfl o_8 rfl ?_
          refine r_goto 2 dX2_readHead_62 rfl ?_
          exact Ex.weak h ⟨rfl, rfl, trivial⟩
    · have h := h.2 (c)
      refine r_aload_n 19 dX2_readHead_18 rfl rfl ?_
      refine g_I 22 dX2_readHead_19 rfl rfl rfl fi_2_40 rfl ?_
      refine r_if_ne 25 33 dX2_readHead_22 rfl rfl (fun c => ?_) (fun c => ?_)
      · have h := h.1 (c)
        refine r_iload_n 34 dX2_readHead_33 rfl rfl ?_
        refine r_bipush 36 dX2_readHead_34 rfl rfl ?_
        refine r_icmp_ne 39 54 dX2_readHead_36 rfl rfl (fun c => ?_) (fun c => ?_)
        · have h := h.1 (c)
          refine r_aload_n 55 dX2_readHead_54 rfl rfl ?_
          obtain ⟨M_9, hc_10, h⟩ := h
          refine v_0 (ci := 2) (C := (RX2, TX2, 10)) [] [] 58 dX2_readHead_55 rfl rfl rfl rfl rfl mo_X2_leave ml_2_76 rfl rfl hc_10 ?_
          exact r_vret dX2_readHead_58 rfl h.1 h.2
        · have h := h.2 (c)
          refine r_aload_n 40 dX2_readHead_39 rfl rfl ?_
          refine g_I 43 dX2_readHead_40 rfl rfl rfl fi_2_44 rfl ?_
          refine r_if_ne 46 54 dX2_readHead_43 rfl rfl (fun c => ?_) (fun c => ?_)
          · have h := h.1 (c)
            refine r_aload_n 55 dX2_readHead_54 rfl rfl ?_
            obtain ⟨M_11, hc_12, h⟩ := h
            refine v_0 (ci := 2) (C := (RX2, TX2, 10)) [] [] 58 dX2_readHead_55 rfl rfl rfl rfl rfl mo_X2_leave ml_2_76 rfl rfl hc_12 ?_
            exact r_vret dX2_readHead_58 rfl h.1 h.2
          · have h := h.2 (c)
            obtain ⟨o_13, h⟩ := h
            refine r_aload_n 47 dX2_readHead_46 rfl rfl ?_
            refine r_iconst 48 dX2_readHead_47 rfl (InR_of rfl) ?_
            refine p_Z 51 dX2_readHead_48 rfl rfl rfl rfl pf_2_44 (.inl rfl) rfl (.inr rfl) ?_
            refine r_goto 59 dX2_readHead_51 rfl ?_
            refine r_iinc (ls' := [some (vR (some (12, 0))), some (vI (x1 + 1)), some (vI r_3)]) 62 dX2_readHead_59 rfl rfl rfl rfl o_13 rfl ?_
            refine r_goto 2 dX2_readHead_62 rfl ?_
            exact Ex.weak h ⟨rfl, rfl, trivial⟩
      · have h := h.2 (c)
        obtain ⟨o_14, h⟩ := h
        refine r_aload_n 26 dX2_readHead_25 rfl rfl ?_
        refine r_iconst 27 dX2_readHead_26 rfl (InR_of rfl) ?_
        refine p_Z 30 dX2_readHead_27 rfl rfl rfl rfl pf_2_40 (.inl rfl) rfl (.inr rfl) ?_
        refine r_goto 59 dX2_readHead_30 rfl ?_
        refine r_iinc (ls' := [some (vR (some (12, 0))), some (vI (x1 + 1)), some (vI r_3)]) 62 dX2_readHead_59 rfl rfl rfl rfl o_14 rfl ?_
        refine r_goto 2 dX2_readHead_62 rfl ?_
        exact Ex.weak h ⟨rfl, rfl, trivial⟩

set_option maxRecDepth 4000 in
theorem xX2_readTest_0 {l : Launch} {G : Gt} {d : Nat} {M M' : Mem} {r : Option Vl} {x1 : Int} {x2 : Int} (h : 
    ∃ (M_1 : Mem), Cl l G d mX2_readPart [vR (some (12, 0)), vI x1, vI x2] M none M_1 ∧ Ex l G (d + 1) mX2_readTest 8 [some (vR (some (12, 0))), some (vI x1), some (vI x2), some (vI 1)] [] M_1 r M') : Cl l G (d + 1) mX2_readTest [vR (some (12, 0)), vI x1, vI x2] M r M' := by
  show Ex l G (d + 1) mX2_readTest 0 [some (vR (some (12, 0))), some (vI x1), some (vI x2), none] [] M r M'
  refine r_aload_n 1 dX2_readTest_0 rfl rfl ?_
  refine r_iload_n 2 dX2_readTest_1 rfl rfl ?_
  refine r_iload_n 3 dX2_readTest_2 rfl rfl ?_
  obtain ⟨M_1, hc_2, h⟩ := h
  refine v_0 (ci := 2) (C := (RX2, TX2, 10)) [vI x1, vI x2] [] 6 dX2_readTest_3 rfl rfl rfl rfl rfl mo_X2_readPart ml_2_79 rfl rfl hc_2 ?_
  refine r_iconst 7 dX2_readTest_6 rfl (InR_of rfl) ?_
  refine r_istore_n (ls' := [some (vR (some (12, 0))), some (vI x1), some (vI x2), some (vI 1)]) 8 dX2_readTest_7 rfl rfl rfl rfl ?_
  exact h
set_option maxRecDepth 4000 in
theorem xX2_readTest_8 {l : Launch} {G : Gt} {d : Nat} {M M' : Mem} {r : Option Vl} {x1 : Int} {x2 : Int} {x3 : Int} (h : 
    (400 < x3 → r = none ∧ M' = M) ∧ (¬ (400 < x3) → (¬ (M.1 12 0 4) = 0 → r = none ∧ M' = M) ∧ (¬ (¬ (M.1 12 0 4) = 0) → ∃ (r_3 : Int) (M_1 : Mem), Cl l G d mX2_look [vR (some (12, 0))] M (some (vI r_3)) M_1 ∧ ((r_3 = 27 → ∃ (M_4 : Mem), Cl l G d mX2_readPart [vR (some (12, 0)), vI x1, vI x2] M_1 none M_4 ∧ (∃ (M_6 : Mem), Cl l G d mX2_put [vR (some (12, 0)), vI 27] M_4 none M_6 ∧ (InR (x3 + 1)) ∧ Ex l G (d + 1) mX2_readTest 8 [some (vR (some (12, 0))), some (vI x1), some (vI x2), some (vI (x3 + 1))] [] M_6 r M')) ∧ (¬ (r_3 = 27) → ∃ (M_9 : Mem), Cl l G d mX2_leave [vR (some (12, 0))] M_1 none M_9 ∧ r = none ∧ M' = M_9))))) : Ex l G (d + 1) mX2_readTest 8 [some (vR (some (12, 0))), some (vI x1), some (vI x2), some (vI x3)] [] M r M' := by
  refine r_iload_n 9 dX2_readTest_8 rfl rfl ?_
  refine r_sipush 12 dX2_readTest_9 rfl rfl ?_
  refine r_icmp_gt 15 54 dX2_readTest_12 rfl rfl (fun c => ?_) (fun c => ?_)
  · have h := h.1 (c)
    exact r_vret dX2_readTest_54 rfl h.1 h.2
  · have h := h.2 (c)
    refine r_aload_n 16 dX2_readTest_15 rfl rfl ?_
    refine g_I 19 dX2_readTest_16 rfl rfl rfl fi_2_31 rfl ?_
    refine r_if_ne 22 54 dX2_readTest_19 rfl rfl (fun c => ?_) (fun c => ?_)
    · have h := h.1 (c)
      exact r_vret dX2_readTest_54 rfl h.1 h.2
    · have h := h.2 (c)
      refine r_aload_n 23 dX2_readTest_22 rfl rfl ?_
      obtain ⟨r_3, M_1, hc_2, h⟩ := h
      refine v_1 (ci := 2) (C := (RX2, TX2, 10)) [] [] 26 dX2_readTest_23 rfl rfl rfl rfl rfl mo_X2_look ml_2_54 rfl rfl hc_2 ?_
      refine r_bipush 28 dX2_readTest_26 rfl rfl ?_
      refine r_icmp_eq 31 36 dX2_readTest_28 rfl rfl (fun c => ?_) (fun c => ?_)
      · have h := h.1 (c)
        refine r_aload_n 37 dX2_readTest_36 rfl rfl ?_
        refine r_iload_n 38 dX2_readTest_37 rfl rfl ?_
        refine r_iload_n 39 dX2_readTest_38 rfl rfl ?_
        obtain ⟨M_4, hc_5, h⟩ := h
        refine v_0 (ci := 2) (C := (RX2, TX2, 10)) [vI x1, vI x2] [] 42 dX2_readTest_39 rfl rfl rfl rfl rfl mo_X2_readPart ml_2_79 rfl rfl hc_5 ?_
        refine r_aload_n 43 dX2_readTest_42 rfl rfl ?_
        refine r_bipush 45 dX2_readTest_43 rfl rfl ?_
        obtain ⟨M_6, hc_7, h⟩ := h
        refine v_0 (ci := 2) (C := (RX2, TX2, 10)) [vI 27] [] 48 dX2_readTest_45 rfl rfl rfl rfl rfl mo_X2_put ml_2_82 rfl rfl hc_7 ?_
        obtain ⟨o_8, h⟩ := h
        refine r_iinc (ls' := [some (vR (some (12, 0))), some (vI x1), some (vI x2), some (vI (x3 + 1))]) 51 dX2_readTest_48 rfl rfl rfl rfl o_8 rfl ?_
        refine r_goto 8 dX2_readTest_51 rfl ?_
        exact h
      · have h := h.2 (c)
        refine r_aload_n 32 dX2_readTest_31 rfl rfl ?_
        obtain ⟨M_9, hc_10, h⟩ := h
        refine v_0 (ci := 2) (C := (RX2, TX2, 10)) [] [] 35 dX2_readTest_32 rfl rfl rfl rfl rfl mo_X2_leave ml_2_76 rfl rfl hc_10 ?_
        exact r_vret dX2_readTest_35 rfl h.1 h.2

set_option maxRecDepth 4000 in
theorem xX2_readPart_0 {l : Launch} {G : Gt} {d : Nat} {M M' : Mem} {r : Option Vl} {x1 : Int} {x2 : Int} (h : 
    ∃ (M_1 : Mem), Cl l G d mX2_readFact [vR (some (12, 0)), vI x1, vI x2] M none M_1 ∧ Ex l G (d + 1) mX2_readPart 8 [some (vR (some (12, 0))), some (vI x1), some (vI x2), some (vI 1)] [] M_1 r M') : Cl l G (d + 1) mX2_readPart [vR (some (12, 0)), vI x1, vI x2] M r M' := by
  show Ex l G (d + 1) mX2_readPart 0 [some (vR (some (12, 0))), some (vI x1), some (vI x2), none] [] M r M'
  refine r_aload_n 1 dX2_readPart_0 rfl rfl ?_
  refine r_iload_n 2 dX2_readPart_1 rfl rfl ?_
  refine r_iload_n 3 dX2_readPart_2 rfl rfl ?_
  obtain ⟨M_1, hc_2, h⟩ := h
  refine v_0 (ci := 2) (C := (RX2, TX2, 10)) [vI x1, vI x2] [] 6 dX2_readPart_3 rfl rfl rfl rfl rfl mo_X2_readFact ml_2_85 rfl rfl hc_2 ?_
  refine r_iconst 7 dX2_readPart_6 rfl (InR_of rfl) ?_
  refine r_istore_n (ls' := [some (vR (some (12, 0))), some (vI x1), some (vI x2), some (vI 1)]) 8 dX2_readPart_7 rfl rfl rfl rfl ?_
  exact h
set_option maxRecDepth 4000 in
theorem xX2_readPart_8 {l : Launch} {G : Gt} {d : Nat} {M M' : Mem} {r : Option Vl} {x1 : Int} {x2 : Int} {x3 : Int} (h : 
    (400 < x3 → r = none ∧ M' = M) ∧ (¬ (400 < x3) → (¬ (M.1 12 0 4) = 0 → r = none ∧ M' = M) ∧ (¬ (¬ (M.1 12 0 4) = 0) → ∃ (r_3 : Int) (M_1 : Mem), Cl l G d mX2_look [vR (some (12, 0))] M (some (vI r_3)) M_1 ∧ ((r_3 = 26 → ∃ (M_4 : Mem), Cl l G d mX2_readFact [vR (some (12, 0)), vI x1, vI x2] M_1 none M_4 ∧ (∃ (M_6 : Mem), Cl l G d mX2_put [vR (some (12, 0)), vI 26] M_4 none M_6 ∧ (InR (x3 + 1)) ∧ Ex l G (d + 1) mX2_readPart 8 [some (vR (some (12, 0))), some (vI x1), some (vI x2), some (vI (x3 + 1))] [] M_6 r M')) ∧ (¬ (r_3 = 26) → ∃ (M_9 : Mem), Cl l G d mX2_leave [vR (some (12, 0))] M_1 none M_9 ∧ r = none ∧ M' = M_9))))) : Ex l G (d + 1) mX2_readPart 8 [some (vR (some (12, 0))), some (vI x1), some (vI x2), some (vI x3)] [] M r M' := by
  refine r_iload_n 9 dX2_readPart_8 rfl rfl ?_
  refine r_sipush 12 dX2_readPart_9 rfl rfl ?_
  refine r_icmp_gt 15 54 dX2_readPart_12 rfl rfl (fun c => ?_) (fun c => ?_)
  · have h := h.1 (c)
    exact r_vret dX2_readPart_54 rfl h.1 h.2
  · have h := h.2 (c)
    refine r_aload_n 16 dX2_readPart_15 rfl rfl ?_
    refine g_I 19 dX2_readPart_16 rfl rfl rfl fi_2_31 rfl ?_
    refine r_if_ne 22 54 dX2_readPart_19 rfl rfl (fun c => ?_) (fun c => ?_)
    · have h := h.1 (c)
      exact r_vret dX2_readPart_54 rfl h.1 h.2
    · have h := h.2 (c)
      refine r_aload_n 23 dX2_readPart_22 rfl rfl ?_
      obtain ⟨r_3, M_1, hc_2, h⟩ := h
      refine v_1 (ci := 2) (C := (RX2, TX2, 10)) [] [] 26 dX2_readPart_23 rfl rfl rfl rfl rfl mo_X2_look ml_2_54 rfl rfl hc_2 ?_
      refine r_bipush 28 dX2_readPart_26 rfl rfl ?_
      refine r_icmp_eq 31 36 dX2_readPart_28 rfl rfl (fun c => ?_) (fun c => ?_)
      · have h := h.1 (c)
        refine r_aload_n 37 dX2_readPart_36 rfl rfl ?_
        refine r_iload_n 38 dX2_readPart_37 rfl rfl ?_
        refine r_iload_n 39 dX2_readPart_38 rfl rfl ?_
        obtain ⟨M_4, hc_5, h⟩ := h
        refine v_0 (ci := 2) (C := (RX2, TX2, 10)) [vI x1, vI x2] [] 42 dX2_readPart_39 rfl rfl rfl rfl rfl mo_X2_readFact ml_2_85 rfl rfl hc_5 ?_
        refine r_aload_n 43 dX2_readPart_42 rfl rfl ?_
        refine r_bipush 45 dX2_readPart_43 rfl rfl ?_
        obtain ⟨M_6, hc_7, h⟩ := h
        refine v_0 (ci := 2) (C := (RX2, TX2, 10)) [vI 26] [] 48 dX2_readPart_45 rfl rfl rfl rfl rfl mo_X2_put ml_2_82 rfl rfl hc_7 ?_
        obtain ⟨o_8, h⟩ := h
        refine r_iinc (ls' := [some (vR (some (12, 0))), some (vI x1), some (vI x2), some (vI (x3 + 1))]) 51 dX2_readPart_48 rfl rfl rfl rfl o_8 rfl ?_
        refine r_goto 8 dX2_readPart_51 rfl ?_
        exact h
      · have h := h.2 (c)
        refine r_aload_n 32 dX2_readPart_31 rfl rfl ?_
        obtain ⟨M_9, hc_10, h⟩ := h
        refine v_0 (ci := 2) (C := (RX2, TX2, 10)) [] [] 35 dX2_readPart_32 rfl rfl rfl rfl rfl mo_X2_leave ml_2_76 rfl rfl hc_10 ?_
        exact r_vret dX2_readPart_35 rfl h.1 h.2

set_option maxRecDepth 4000 in
theorem xX2_readFact_0 {l : Launch} {G : Gt} {d : Nat} {M M' : Mem} {r : Option Vl} {x1 : Int} {x2 : Int} (h : 
    ((M.1 12 0 4) = 0 → ∃ (r_3 : Int) (M_1 : Mem), Cl l G d mX2_look [vR (some (12, 0))] M (some (vI r_3)) M_1 ∧ ((r_3 < 10 → ∃ (M_4 : Mem), Cl l G d mX2_countFact [vR (some (12, 0))] M_1 none M_4 ∧ (∃ (M_6 : Mem), Cl l G d mX2_put [vR (some (12, 0)), vI r_3] M_4 none M_6 ∧ r = none ∧ M' = M_6)) ∧ (¬ (r_3 < 10) → (¬ r_3 = 24 → (16 ≤ r_3 → (¬ r_3 = 16 → (r_3 = 25 → (x1 < 10 → (InR (x1 + 1)) ∧ (∃ (M_9 : Mem), Cl l G d mX2_readNested [vR (some (12, 0)), vI r_3, vI (x1 + 1), vI x2] M_1 none M_9 ∧ r = none ∧ M' = M_9)) ∧ (¬ (x1 < 10) → ∃ (M_11 : Mem), Cl l G d mX2_fail [vR (some (12, 0)), vI 2] M_1 none M_11 ∧ r = none ∧ M' = M_11)) ∧ (¬ (r_3 = 25) → (¬ r_3 = 28 → ∃ (M_13 : Mem), Cl l G d mX2_fail [vR (some (12, 0)), vI 0] M_1 none M_13 ∧ r = none ∧ M' = M_13) ∧ (¬ (¬ r_3 = 28) → (x1 < 10 → (InR (x1 + 1)) ∧ (∃ (M_16 : Mem), Cl l G d mX2_readNested [vR (some (12, 0)), vI r_3, vI (x1 + 1), vI x2] M_1 none M_16 ∧ r = none ∧ M' = M_16)) ∧ (¬ (x1 < 10) → ∃ (M_18 : Mem), Cl l G d mX2_fail [vR (some (12, 0)), vI 2] M_1 none M_18 ∧ r = none ∧ M' = M_18)))) ∧ (¬ (¬ r_3 = 16) → ∃ (M_20 : Mem), Cl l G d mX2_countFact [vR (some (12, 0))] M_1 none M_20 ∧ (∃ (M_22 : Mem), Cl l G d mX2_readPlace [vR (some (12, 0))] M_20 none M_22 ∧ r = none ∧ M' = M_22))) ∧ (¬ (16 ≤ r_3) → (x2 < 4 → (InR (x2 + 1)) ∧ (∃ (M_25 : Mem), Cl l G d mX2_readFact [vR (some (12, 0)), vI x1, vI (x2 + 1)] M_1 none M_25 ∧ (∃ (M_27 : Mem), Cl l G d mX2_put [vR (some (12, 0)), vI r_3] M_25 none M_27 ∧ r = none ∧ M' = M_27))) ∧ (¬ (x2 < 4) → ∃ (M_29 : Mem), Cl l G d mX2_fail [vR (some (12, 0)), vI 2] M_1 none M_29 ∧ r = none ∧ M' = M_29))) ∧ (¬ (¬ r_3 = 24) → ∃ (M_31 : Mem), Cl l G d mX2_countFact [vR (some (12, 0))] M_1 none M_31 ∧ (∃ (M_33 : Mem), Cl l G d mX2_put [vR (some (12, 0)), vI r_3] M_31 none M_33 ∧ r = none ∧ M' = M_33))))) ∧ (¬ ((M.1 12 0 4) = 0) → r = none ∧ M' = M)) : Cl l G (d + 1) mX2_readFact [vR (some (12, 0)), vI x1, vI x2] M r M' := by
  show Ex l G (d + 1) mX2_readFact 0 [some (vR (some (12, 0))), some (vI x1), some (vI x2), none] [] M r M'
  refine r_aload_n 1 dX2_readFact_0 rfl rfl ?_
  refine g_I 4 dX2_readFact_1 rfl rfl rfl fi_2_31 rfl ?_
  refine r_if_eq 7 8 dX2_readFact_4 rfl rfl (fun c => ?_) (fun c => ?_)
  · have h := h.1 (c)
    refine r_aload_n 9 dX2_readFact_8 rfl rfl ?_
    obtain ⟨r_3, M_1, hc_2, h⟩ := h
    refine v_1 (ci := 2) (C := (RX2, TX2, 10)) [] [] 12 dX2_readFact_9 rfl rfl rfl rfl rfl mo_X2_look ml_2_54 rfl rfl hc_2 ?_
    refine r_istore_n (ls' := [some (vR (some (12, 0))), some (vI x1), some (vI x2), some (vI r_3)]) 13 dX2_readFact_12 rfl rfl rfl rfl ?_
    refine r_iload_n 14 dX2_readFact_13 rfl rfl ?_
    refine r_bipush 16 dX2_readFact_14 rfl rfl ?_
    refine r_icmp_lt 19 25 dX2_readFact_16 rfl rfl (fun c => ?_) (fun c => ?_)
    · have h := h.1 (c)
      refine r_aload_n 26 dX2_readFact_25 rfl rfl ?_
      obtain ⟨M_4, hc_5, h⟩ := h
      refine v_0 (ci := 2) (C := (RX2, TX2, 10)) [] [] 29 dX2_readFact_26 rfl rfl rfl rfl rfl mo_X2_countFact ml_2_88 rfl rfl hc_5 ?_
      refine r_aload_n 30 dX2_readFact_29 rfl rfl ?_
      refine r_iload_n 31 dX2_readFact_30 rfl rfl ?_
      obtain ⟨M_6, hc_7, h⟩ := h
      refine v_0 (ci := 2) (C := (RX2, TX2, 10)) [vI r_3] [] 34 dX2_readFact_31 rfl rfl rfl rfl rfl mo_X2_put ml_2_82 rfl rfl hc_7 ?_
      refine r_goto 128 dX2_readFact_34 rfl ?_
      exact r_vret dX2_readFact_128 rfl h.1 h.2
    · have h := h.2 (c)
      refine r_iload_n 20 dX2_readFact_19 rfl rfl ?_
      refine r_bipush 22 dX2_readFact_20 rfl rfl ?_
      refine r_icmp_ne 25 37 dX2_readFact_22 rfl rfl (fun c => ?_) (fun c => ?_)
      · have h := h.1 (c)
        refine r_iload_n 38 dX2_readFact_37 rfl rfl ?_
        refine r_bipush 40 dX2_readFact_38 rfl rfl ?_
        refine r_icmp_ge 43 70 dX2_readFact_40 rfl rfl (fun c => ?_) (fun c => ?_)
        · have h := h.1 (c)
          refine r_iload_n 71 dX2_readFact_70 rfl rfl ?_
          refine r_bipush 73 dX2_readFact_71 rfl rfl ?_
          refine r_icmp_ne 76 87 dX2_readFact_73 rfl rfl (fun c => ?_) (fun c => ?_)
          · have h := h.1 (c)
            refine r_iload_n 88 dX2_readFact_87 rfl rfl ?_
            refine r_bipush 90 dX2_readFact_88 rfl rfl ?_
            refine r_icmp_eq 93 99 dX2_readFact_90 rfl rfl (fun c => ?_) (fun c => ?_)
            · have h := h.1 (c)
              refine r_iload_n 100 dX2_readFact_99 rfl rfl ?_
              refine r_bipush 102 dX2_readFact_100 rfl rfl ?_
              refine r_icmp_lt 105 111 dX2_readFact_102 rfl rfl (fun c => ?_) (fun c => ?_)
              · have h := h.1 (c)
                obtain ⟨o_8, h⟩ := h
                refine r_aload_n 112 dX2_readFact_111 rfl rfl ?_
                refine r_iload_n 113 dX2_readFact_112 rfl rfl ?_
                refine r_iload_n 114 dX2_readFact_113 rfl rfl ?_
                refine r_iconst 115 dX2_readFact_114 rfl (InR_of rfl) ?_
                refine r_iadd 116 dX2_readFact_115 rfl o_8 ?_
                refine r_iload_n 117 dX2_readFact_116 rfl rfl ?_
                obtain ⟨M_9, hc_10, h⟩ := h
                refine v_0 (ci := 2) (C := (RX2, TX2, 10)) [vI r_3, vI (x1 + 1), vI x2] [] 120 dX2_readFact_117 rfl rfl rfl rfl rfl mo_X2_readNested ml_2_94 rfl rfl hc_10 ?_
                refine r_goto 128 dX2_readFact_120 rfl ?_
                exact r_vret dX2_readFact_128 rfl h.1 h.2
              · have h := h.2 (c)
                refine r_aload_n 106 dX2_readFact_105 rfl rfl ?_
                refine r_iconst 107 dX2_readFact_106 rfl (InR_of rfl) ?_
                obtain ⟨M_11, hc_12, h⟩ := h
                refine v_0 (ci := 2) (C := (RX2, TX2, 10)) [vI 2] [] 110 dX2_readFact_107 rfl rfl rfl rfl rfl mo_X2_fail ml_2_61 rfl rfl hc_12 ?_
                exact r_vret dX2_readFact_110 rfl h.1 h.2
            · have h := h.2 (c)
              refine r_iload_n 94 dX2_readFact_93 rfl rfl ?_
              refine r_bipush 96 dX2_readFact_94 rfl rfl ?_
              refine r_icmp_ne 99 123 dX2_readFact_96 rfl rfl (fun c => ?_) (fun c => ?_)
              · have h := h.1 (c)
                refine r_aload_n 124 dX2_readFact_123 rfl rfl ?_
                refine r_iconst 125 dX2_readFact_124 rfl (InR_of rfl) ?_
                obtain ⟨M_13, hc_14, h⟩ := h
                refine v_0 (ci := 2) (C := (RX2, TX2, 10)) [vI 0] [] 128 dX2_readFact_125 rfl rfl rfl rfl rfl mo_X2_fail ml_2_61 rfl rfl hc_14 ?_
                exact r_vret dX2_readFact_128 rfl h.1 h.2
              · have h := h.2 (c)
                refine r_iload_n 100 dX2_readFact_99 rfl rfl ?_
                refine r_bipush 102 dX2_readFact_100 rfl rfl ?_
                refine r_icmp_lt 105 111 dX2_readFact_102 rfl rfl (fun c => ?_) (fun c => ?_)
                · have h := h.1 (c)
                  obtain ⟨o_15, h⟩ := h
                  refine r_aload_n 112 dX2_readFact_111 rfl rfl ?_
                  refine r_iload_n 113 dX2_readFact_112 rfl rfl ?_
                  refine r_iload_n 114 dX2_readFact_113 rfl rfl ?_
                  refine r_iconst 115 dX2_readFact_114 rfl (InR_of rfl) ?_
                  refine r_iadd 116 dX2_readFact_115 rfl o_15 ?_
                  refine r_iload_n 117 dX2_readFact_116 rfl rfl ?_
                  obtain ⟨M_16, hc_17, h⟩ := h
                  refine v_0 (ci := 2) (C := (RX2, TX2, 10)) [vI r_3, vI (x1 + 1), vI x2] [] 120 dX2_readFact_117 rfl rfl rfl rfl rfl mo_X2_readNested ml_2_94 rfl rfl hc_17 ?_
                  refine r_goto 128 dX2_readFact_120 rfl ?_
                  exact r_vret dX2_readFact_128 rfl h.1 h.2
                · have h := h.2 (c)
                  refine r_aload_n 106 dX2_readFact_105 rfl rfl ?_
                  refine r_iconst 107 dX2_readFact_106 rfl (InR_of rfl) ?_
                  obtain ⟨M_18, hc_19, h⟩ := h
                  refine v_0 (ci := 2) (C := (RX2, TX2, 10)) [vI 2] [] 110 dX2_readFact_107 rfl rfl rfl rfl rfl mo_X2_fail ml_2_61 rfl rfl hc_19 ?_
                  exact r_vret dX2_readFact_110 rfl h.1 h.2
          · have h := h.2 (c)
            refine r_aload_n 77 dX2_readFact_76 rfl rfl ?_
            obtain ⟨M_20, hc_21, h⟩ := h
            refine v_0 (ci := 2) (C := (RX2, TX2, 10)) [] [] 80 dX2_readFact_77 rfl rfl rfl rfl rfl mo_X2_countFact ml_2_88 rfl rfl hc_21 ?_
            refine r_aload_n 81 dX2_readFact_80 rfl rfl ?_
            obtain ⟨M_22, hc_23, h⟩ := h
            refine v_0 (ci := 2) (C := (RX2, TX2, 10)) [] [] 84 dX2_readFact_81 rfl rfl rfl rfl rfl mo_X2_readPlace ml_2_91 rfl rfl hc_23 ?_
            refine r_goto 128 dX2_readFact_84 rfl ?_
            exact r_vret dX2_readFact_128 rfl h.1 h.2
        · have h := h.2 (c)
          refine r_iload_n 44 dX2_readFact_43 rfl rfl ?_
          refine r_iconst 45 dX2_readFact_44 rfl (InR_of rfl) ?_
          refine r_icmp_lt 48 54 dX2_readFact_45 rfl rfl (fun c => ?_) (fun c => ?_)
          · have h := h.1 (c)
            obtain ⟨o_24, h⟩ := h
            refine r_aload_n 55 dX2_readFact_54 rfl rfl ?_
            refine r_iload_n 56 dX2_readFact_55 rfl rfl ?_
            refine r_iload_n 57 dX2_readFact_56 rfl rfl ?_
            refine r_iconst 58 dX2_readFact_57 rfl (InR_of rfl) ?_
            refine r_iadd 59 dX2_readFact_58 rfl o_24 ?_
            obtain ⟨M_25, hc_26, h⟩ := h
            refine v_0 (ci := 2) (C := (RX2, TX2, 10)) [vI x1, vI (x2 + 1)] [] 62 dX2_readFact_59 rfl rfl rfl rfl rfl mo_X2_readFact ml_2_85 rfl rfl hc_26 ?_
            refine r_aload_n 63 dX2_readFact_62 rfl rfl ?_
            refine r_iload_n 64 dX2_readFact_63 rfl rfl ?_
            obtain ⟨M_27, hc_28, h⟩ := h
            refine v_0 (ci := 2) (C := (RX2, TX2, 10)) [vI r_3] [] 67 dX2_readFact_64 rfl rfl rfl rfl rfl mo_X2_put ml_2_82 rfl rfl hc_28 ?_
            refine r_goto 128 dX2_readFact_67 rfl ?_
            exact r_vret dX2_readFact_128 rfl h.1 h.2
          · have h := h.2 (c)
            refine r_aload_n 49 dX2_readFact_48 rfl rfl ?_
            refine r_iconst 50 dX2_readFact_49 rfl (InR_of rfl) ?_
            obtain ⟨M_29, hc_30, h⟩ := h
            refine v_0 (ci := 2) (C := (RX2, TX2, 10)) [vI 2] [] 53 dX2_readFact_50 rfl rfl rfl rfl rfl mo_X2_fail ml_2_61 rfl rfl hc_30 ?_
            exact r_vret dX2_readFact_53 rfl h.1 h.2
      · have h := h.2 (c)
        refine r_aload_n 26 dX2_readFact_25 rfl rfl ?_
        obtain ⟨M_31, hc_32, h⟩ := h
        refine v_0 (ci := 2) (C := (RX2, TX2, 10)) [] [] 29 dX2_readFact_26 rfl rfl rfl rfl rfl mo_X2_countFact ml_2_88 rfl rfl hc_32 ?_
        refine r_aload_n 30 dX2_readFact_29 rfl rfl ?_
        refine r_iload_n 31 dX2_readFact_30 rfl rfl ?_
        obtain ⟨M_33, hc_34, h⟩ := h
        refine v_0 (ci := 2) (C := (RX2, TX2, 10)) [vI r_3] [] 34 dX2_readFact_31 rfl rfl rfl rfl rfl mo_X2_put ml_2_82 rfl rfl hc_34 ?_
        refine r_goto 128 dX2_readFact_34 rfl ?_
        exact r_vret dX2_readFact_128 rfl h.1 h.2
  · have h := h.2 (c)
    exact r_vret dX2_readFact_7 rfl h.1 h.2

set_option maxRecDepth 4000 in
theorem xX2_readNested_0 {l : Launch} {G : Gt} {d : Nat} {M M' : Mem} {r : Option Vl} {x1 : Int} {x2 : Int} {x3 : Int} (h : 
    (¬ x1 = 25 → ∃ (M_1 : Mem), Cl l G d mX2_readTest [vR (some (12, 0)), vI x2, vI x3] M none M_1 ∧ ((¬ (M_1.1 12 0 4) = 0 → r = none ∧ M' = M_1) ∧ (¬ (¬ (M_1.1 12 0 4) = 0) → ∃ (r_5 : Int) (M_3 : Mem), Cl l G d mX2_look [vR (some (12, 0))] M_1 (some (vI r_5)) M_3 ∧ ((r_5 = 29 → r = none ∧ M' = M_3) ∧ (¬ (r_5 = 29) → ∃ (M_6 : Mem), Cl l G d mX2_fail [vR (some (12, 0)), vI 0] M_3 none M_6 ∧ r = none ∧ M' = M_6))))) ∧ (¬ (¬ x1 = 25) → ∃ (M_8 : Mem), Cl l G d mX2_readFact [vR (some (12, 0)), vI x2, vI x3] M none M_8 ∧ (∃ (M_10 : Mem), Cl l G d mX2_put [vR (some (12, 0)), vI 25] M_8 none M_10 ∧ r = none ∧ M' = M_10))) : Cl l G (d + 1) mX2_readNested [vR (some (12, 0)), vI x1, vI x2, vI x3] M r M' := by
  show Ex l G (d + 1) mX2_readNested 0 [some (vR (some (12, 0))), some (vI x1), some (vI x2), some (vI x3)] [] M r M'
  refine r_iload_n 1 dX2_readNested_0 rfl rfl ?_
  refine r_bipush 3 dX2_readNested_1 rfl rfl ?_
  refine r_icmp_ne 6 19 dX2_readNested_3 rfl rfl (fun c => ?_) (fun c => ?_)
  · have h := h.1 (c)
    refine r_aload_n 20 dX2_readNested_19 rfl rfl ?_
    refine r_iload_n 21 dX2_readNested_20 rfl rfl ?_
    refine r_iload_n 22 dX2_readNested_21 rfl rfl ?_
    obtain ⟨M_1, hc_2, h⟩ := h
    refine v_0 (ci := 2) (C := (RX2, TX2, 10)) [vI x2, vI x3] [] 25 dX2_readNested_22 rfl rfl rfl rfl rfl mo_X2_readTest ml_2_50 rfl rfl hc_2 ?_
    refine r_aload_n 26 dX2_readNested_25 rfl rfl ?_
    refine g_I 29 dX2_readNested_26 rfl rfl rfl fi_2_31 rfl ?_
    refine r_if_ne 32 46 dX2_readNested_29 rfl rfl (fun c => ?_) (fun c => ?_)
    · have h := h.1 (c)
      exact r_vret dX2_readNested_46 rfl h.1 h.2
    · have h := h.2 (c)
      refine r_aload_n 33 dX2_readNested_32 rfl rfl ?_
      obtain ⟨r_5, M_3, hc_4, h⟩ := h
      refine v_1 (ci := 2) (C := (RX2, TX2, 10)) [] [] 36 dX2_readNested_33 rfl rfl rfl rfl rfl mo_X2_look ml_2_54 rfl rfl hc_4 ?_
      refine r_bipush 38 dX2_readNested_36 rfl rfl ?_
      refine r_icmp_eq 41 46 dX2_readNested_38 rfl rfl (fun c => ?_) (fun c => ?_)
      · have h := h.1 (c)
        exact r_vret dX2_readNested_46 rfl h.1 h.2
      · have h := h.2 (c)
        refine r_aload_n 42 dX2_readNested_41 rfl rfl ?_
        refine r_iconst 43 dX2_readNested_42 rfl (InR_of rfl) ?_
        obtain ⟨M_6, hc_7, h⟩ := h
        refine v_0 (ci := 2) (C := (RX2, TX2, 10)) [vI 0] [] 46 dX2_readNested_43 rfl rfl rfl rfl rfl mo_X2_fail ml_2_61 rfl rfl hc_7 ?_
        exact r_vret dX2_readNested_46 rfl h.1 h.2
  · have h := h.2 (c)
    refine r_aload_n 7 dX2_readNested_6 rfl rfl ?_
    refine r_iload_n 8 dX2_readNested_7 rfl rfl ?_
    refine r_iload_n 9 dX2_readNested_8 rfl rfl ?_
    obtain ⟨M_8, hc_9, h⟩ := h
    refine v_0 (ci := 2) (C := (RX2, TX2, 10)) [vI x2, vI x3] [] 12 dX2_readNested_9 rfl rfl rfl rfl rfl mo_X2_readFact ml_2_85 rfl rfl hc_9 ?_
    refine r_aload_n 13 dX2_readNested_12 rfl rfl ?_
    refine r_bipush 15 dX2_readNested_13 rfl rfl ?_
    obtain ⟨M_10, hc_11, h⟩ := h
    refine v_0 (ci := 2) (C := (RX2, TX2, 10)) [vI 25] [] 18 dX2_readNested_15 rfl rfl rfl rfl rfl mo_X2_put ml_2_82 rfl rfl hc_11 ?_
    exact r_vret dX2_readNested_18 rfl h.1 h.2

set_option maxRecDepth 4000 in
theorem xX2_readPlace_0 {l : Launch} {G : Gt} {d : Nat} {M M' : Mem} {r : Option Vl}  (h : 
    ((M.1 12 0 4) = 0 → ∃ (M_1 : Mem), Cl l G d mX2_skipBlanks [vR (some (12, 0))] M none M_1 ∧ Ex l G (d + 1) mX2_readPlace 12 [some (vR (some (12, 0)))] [] M_1 r M') ∧ (¬ ((M.1 12 0 4) = 0) → r = none ∧ M' = M)) : Cl l G (d + 1) mX2_readPlace [vR (some (12, 0))] M r M' := by
  show Ex l G (d + 1) mX2_readPlace 0 [some (vR (some (12, 0)))] [] M r M'
  refine r_aload_n 1 dX2_readPlace_0 rfl rfl ?_
  refine g_I 4 dX2_readPlace_1 rfl rfl rfl fi_2_31 rfl ?_
  refine r_if_eq 7 8 dX2_readPlace_4 rfl rfl (fun c => ?_) (fun c => ?_)
  · have h := h.1 (c)
    refine r_aload_n 9 dX2_readPlace_8 rfl rfl ?_
    obtain ⟨M_1, hc_2, h⟩ := h
    refine v_0 (ci := 2) (C := (RX2, TX2, 10)) [] [] 12 dX2_readPlace_9 rfl rfl rfl rfl rfl mo_X2_skipBlanks ml_2_98 rfl rfl hc_2 ?_
    exact h
  · have h := h.2 (c)
    exact r_vret dX2_readPlace_7 rfl h.1 h.2
set_option maxRecDepth 4000 in
theorem xX2_readPlace_12 {l : Launch} {G : Gt} {d : Nat} {M M' : Mem} {r : Option Vl}  (hT : M.2.1 12 0 0 = some (16, 0)) (h : 
    ((M.1 12 0 1) ≤ (M.1 12 0 3) → (¬ (M.1 12 0 2) = (M.1 12 0 3) → (InR ((M.1 12 0 3) - (M.1 12 0 2))) ∧ ((1 < ((M.1 12 0 3) - (M.1 12 0 2)) → ∃ (M_2 : Mem), Cl l G d mX2_fail [vR (some (12, 0)), vI 1] M none M_2 ∧ r = none ∧ M' = M_2) ∧ (¬ (1 < ((M.1 12 0 3) - (M.1 12 0 2))) → ((0 ≤ (M.1 12 0 2) ∧ (M.1 12 0 2) < 400) ∧ InR ((M.1 16 0 (M.1 12 0 2).toNat) - 48)) ∧ ((((M.1 16 0 (M.1 12 0 2).toNat) - 48) < 8 → ((0 ≤ (M.1 12 0 2) ∧ (M.1 12 0 2) < 400) ∧ InR (16 + (M.1 16 0 (M.1 12 0 2).toNat)) ∧ InR ((16 + (M.1 16 0 (M.1 12 0 2).toNat)) - 48)) ∧ (∃ (M_9 : Mem), Cl l G d mX2_put [vR (some (12, 0)), vI ((16 + (M.1 16 0 (M.1 12 0 2).toNat)) - 48)] M none M_9 ∧ r = none ∧ M' = M_9)) ∧ (¬ (((M.1 16 0 (M.1 12 0 2).toNat) - 48) < 8) → ∃ (M_11 : Mem), Cl l G d mX2_fail [vR (some (12, 0)), vI 1] M none M_11 ∧ r = none ∧ M' = M_11))))) ∧ (¬ (¬ (M.1 12 0 2) = (M.1 12 0 3)) → ∃ (M_13 : Mem), Cl l G d mX2_fail [vR (some (12, 0)), vI 0] M none M_13 ∧ r = none ∧ M' = M_13)) ∧ (¬ ((M.1 12 0 1) ≤ (M.1 12 0 3)) → ((0 ≤ (M.1 12 0 3) ∧ (M.1 12 0 3) < 400)) ∧ (∃ (r_18 : Int) (M_16 : Mem), Cl l G d mX2_isDigit [vI (M.1 16 0 (M.1 12 0 3).toNat)] M (some (vI r_18)) M_16 ∧ M_16.2.1 12 0 0 = some (16, 0) ∧ ((r_18 = 0 → (¬ (M_16.1 12 0 2) = (M_16.1 12 0 3) → (InR ((M_16.1 12 0 3) - (M_16.1 12 0 2))) ∧ ((1 < ((M_16.1 12 0 3) - (M_16.1 12 0 2)) → ∃ (M_20 : Mem), Cl l G d mX2_fail [vR (some (12, 0)), vI 1] M_16 none M_20 ∧ r = none ∧ M' = M_20) ∧ (¬ (1 < ((M_16.1 12 0 3) - (M_16.1 12 0 2))) → ((0 ≤ (M_16.1 12 0 2) ∧ (M_16.1 12 0 2) < 400) ∧ InR ((M_16.1 16 0 (M_16.1 12 0 2).toNat) - 48)) ∧ ((((M_16.1 16 0 (M_16.1 12 0 2).toNat) - 48) < 8 → ((0 ≤ (M_16.1 12 0 2) ∧ (M_16.1 12 0 2) < 400) ∧ InR (16 + (M_16.1 16 0 (M_16.1 12 0 2).toNat)) ∧ InR ((16 + (M_16.1 16 0 (M_16.1 12 0 2).toNat)) - 48)) ∧ (∃ (M_27 : Mem), Cl l G d mX2_put [vR (some (12, 0)), vI ((16 + (M_16.1 16 0 (M_16.1 12 0 2).toNat)) - 48)] M_16 none M_27 ∧ r = none ∧ M' = M_27)) ∧ (¬ (((M_16.1 16 0 (M_16.1 12 0 2).toNat) - 48) < 8) → ∃ (M_29 : Mem), Cl l G d mX2_fail [vR (some (12, 0)), vI 1] M_16 none M_29 ∧ r = none ∧ M' = M_29))))) ∧ (¬ (¬ (M_16.1 12 0 2) = (M_16.1 12 0 3)) → ∃ (M_31 : Mem), Cl l G d mX2_fail [vR (some (12, 0)), vI 0] M_16 none M_31 ∧ r = none ∧ M' = M_31)) ∧ (¬ (r_18 = 0) → (InR ((M_16.1 12 0 3) + 1)) ∧ Ex l G (d + 1) mX2_readPlace 12 [some (vR (some (12, 0)))] [] ((upI M_16.1 12 0 3 ((M_16.1 12 0 3) + 1)), M_16.2.1, M_16.2.2) r M'))))) : Ex l G (d + 1) mX2_readPlace 12 [some (vR (some (12, 0)))] [] M r M' := by
  refine r_aload_n 13 dX2_readPlace_12 rfl rfl ?_
  refine g_I 16 dX2_readPlace_13 rfl rfl rfl fi_2_28 rfl ?_
  refine r_aload_n 17 dX2_readPlace_16 rfl rfl ?_
  refine g_I 20 dX2_readPlace_17 rfl rfl rfl fi_2_24 rfl ?_
  refine r_icmp_ge 23 51 dX2_readPlace_20 rfl rfl (fun c => ?_) (fun c => ?_)
  · have h := h.1 (c)
    refine r_aload_n 52 dX2_readPlace_51 rfl rfl ?_
    refine g_I 55 dX2_readPlace_52 rfl rfl rfl fi_2_58 rfl ?_
    refine r_aload_n 56 dX2_readPlace_55 rfl rfl ?_
    refine g_I 59 dX2_readPlace_56 rfl rfl rfl fi_2_28 rfl ?_
    refine r_icmp_ne 62 70 dX2_readPlace_59 rfl rfl (fun c => ?_) (fun c => ?_)
    · have h := h.1 (c)
      obtain ⟨o_1, h⟩ := h
      refine r_aload_n 71 dX2_readPlace_70 rfl rfl ?_
      refine g_I 74 dX2_readPlace_71 rfl rfl rfl fi_2_28 rfl ?_
      refine r_aload_n 75 dX2_readPlace_74 rfl rfl ?_
      refine g_I 78 dX2_readPlace_75 rfl rfl rfl fi_2_58 rfl ?_
      refine r_isub 79 dX2_readPlace_78 rfl o_1 ?_
      refine r_iconst 80 dX2_readPlace_79 rfl (InR_of rfl) ?_
      refine r_icmp_gt 83 100 dX2_readPlace_80 rfl rfl (fun c => ?_) (fun c => ?_)
      · have h := h.1 (c)
        refine r_aload_n 101 dX2_readPlace_100 rfl rfl ?_
        refine r_iconst 102 dX2_readPlace_101 rfl (InR_of rfl) ?_
        obtain ⟨M_2, hc_3, h⟩ := h
        refine v_0 (ci := 2) (C := (RX2, TX2, 10)) [vI 1] [] 105 dX2_readPlace_102 rfl rfl rfl rfl rfl mo_X2_fail ml_2_61 rfl rfl hc_3 ?_
        refine r_goto 127 dX2_readPlace_105 rfl ?_
        exact r_vret dX2_readPlace_127 rfl h.1 h.2
      · have h := h.2 (c)
        obtain ⟨⟨o_4, o_5⟩, h⟩ := h
        refine r_aload_n 84 dX2_readPlace_83 rfl rfl ?_
        refine g_R 87 dX2_readPlace_84 rfl rfl rfl fr_2_9 hT ?_
        refine r_aload_n 88 dX2_readPlace_87 rfl rfl ?_
        refine g_I 91 dX2_readPlace_88 rfl rfl rfl fi_2_58 rfl ?_
        refine a_I 400 92 dX2_readPlace_91 rfl rfl rfl rfl o_4 rfl ?_
        refine r_bipush 94 dX2_readPlace_92 rfl rfl ?_
        refine r_isub 95 dX2_readPlace_94 rfl o_5 ?_
        refine r_bipush 97 dX2_readPlace_95 rfl rfl ?_
        refine r_icmp_lt 100 108 dX2_readPlace_97 rfl rfl (fun c => ?_) (fun c => ?_)
        · have h := h.1 (c)
          obtain ⟨⟨o_6, o_7, o_8⟩, h⟩ := h
          refine r_aload_n 109 dX2_readPlace_108 rfl rfl ?_
          refine r_bipush 111 dX2_readPlace_109 rfl rfl ?_
          refine r_aload_n 112 dX2_readPlace_111 rfl rfl ?_
          refine g_R 115 dX2_readPlace_112 rfl rfl rfl fr_2_9 hT ?_
          refine r_aload_n 116 dX2_readPlace_115 rfl rfl ?_
          refine g_I 119 dX2_readPlace_116 rfl rfl rfl fi_2_58 rfl ?_
          refine a_I 400 120 dX2_readPlace_119 rfl rfl rfl rfl o_6 rfl ?_
          refine r_iadd 121 dX2_readPlace_120 rfl o_7 ?_
          refine r_bipush 123 dX2_readPlace_121 rfl rfl ?_
          refine r_isub 124 dX2_readPlace_123 rfl o_8 ?_
          obtain ⟨M_9, hc_10, h⟩ := h
          refine v_0 (ci := 2) (C := (RX2, TX2, 10)) [vI ((16 + (M.1 16 0 (M.1 12 0 2).toNat)) - 48)] [] 127 dX2_readPlace_124 rfl rfl rfl rfl rfl mo_X2_put ml_2_82 rfl rfl hc_10 ?_
          exact r_vret dX2_readPlace_127 rfl h.1 h.2
        · have h := h.2 (c)
          refine r_aload_n 101 dX2_readPlace_100 rfl rfl ?_
          refine r_iconst 102 dX2_readPlace_101 rfl (InR_of rfl) ?_
          obtain ⟨M_11, hc_12, h⟩ := h
          refine v_0 (ci := 2) (C := (RX2, TX2, 10)) [vI 1] [] 105 dX2_readPlace_102 rfl rfl rfl rfl rfl mo_X2_fail ml_2_61 rfl rfl hc_12 ?_
          refine r_goto 127 dX2_readPlace_105 rfl ?_
          exact r_vret dX2_readPlace_127 rfl h.1 h.2
    · have h := h.2 (c)
      refine r_aload_n 63 dX2_readPlace_62 rfl rfl ?_
      refine r_iconst 64 dX2_readPlace_63 rfl (InR_of rfl) ?_
      obtain ⟨M_13, hc_14, h⟩ := h
      refine v_0 (ci := 2) (C := (RX2, TX2, 10)) [vI 0] [] 67 dX2_readPlace_64 rfl rfl rfl rfl rfl mo_X2_fail ml_2_61 rfl rfl hc_14 ?_
      refine r_goto 127 dX2_readPlace_67 rfl ?_
      exact r_vret dX2_readPlace_127 rfl h.1 h.2
  · have h := h.2 (c)
    obtain ⟨o_15, h⟩ := h
    refine r_aload_n 24 dX2_readPlace_23 rfl rfl ?_
    refine g_R 27 dX2_readPlace_24 rfl rfl rfl fr_2_9 hT ?_
    refine r_aload_n 28 dX2_readPlace_27 rfl rfl ?_
    refine g_I 31 dX2_readPlace_28 rfl rfl rfl fi_2_28 rfl ?_
    refine a_I 400 32 dX2_readPlace_31 rfl rfl rfl rfl o_15 rfl ?_
    obtain ⟨r_18, M_16, hc_17, hT, h⟩ := h
    refine c_1 [vI (M.1 16 0 (M.1 12 0 3).toNat)] [] 35 dX2_readPlace_32 rfl rfl mo_X2_isDigit ml_2_101 rfl rfl hc_17 ?_
    refine r_if_eq 38 51 dX2_readPlace_35 rfl rfl (fun c => ?_) (fun c => ?_)
    · have h := h.1 (c)
      refine r_aload_n 52 dX2_readPlace_51 rfl rfl ?_
      refine g_I 55 dX2_readPlace_52 rfl rfl rfl fi_2_58 rfl ?_
      refine r_aload_n 56 dX2_readPlace_55 rfl rfl ?_
      refine g_I 59 dX2_readPlace_56 rfl rfl rfl fi_2_28 rfl ?_
      refine r_icmp_ne 62 70 dX2_readPlace_59 rfl rfl (fun c => ?_) (fun c => ?_)
      · have h := h.1 (c)
        obtain ⟨o_19, h⟩ := h
        refine r_aload_n 71 dX2_readPlace_70 rfl rfl ?_
        refine g_I 74 dX2_readPlace_71 rfl rfl rfl fi_2_28 rfl ?_
        refine r_aload_n 75 dX2_readPlace_74 rfl rfl ?_
        refine g_I 78 dX2_readPlace_75 rfl rfl rfl fi_2_58 rfl ?_
        refine r_isub 79 dX2_readPlace_78 rfl o_19 ?_
        refine r_iconst 80 dX2_readPlace_79 rfl (InR_of rfl) ?_
        refine r_icmp_gt 83 100 dX2_readPlace_80 rfl rfl (fun c => ?_) (fun c => ?_)
        · have h := h.1 (c)
          refine r_aload_n 101 dX2_readPlace_100 rfl rfl ?_
          refine r_iconst 102 dX2_readPlace_101 rfl (InR_of rfl) ?_
          obtain ⟨M_20, hc_21, h⟩ := h
          refine v_0 (ci := 2) (C := (RX2, TX2, 10)) [vI 1] [] 105 dX2_readPlace_102 rfl rfl rfl rfl rfl mo_X2_fail ml_2_61 rfl rfl hc_21 ?_
          refine r_goto 127 dX2_readPlace_105 rfl ?_
          exact r_vret dX2_readPlace_127 rfl h.1 h.2
        · have h := h.2 (c)
          obtain ⟨⟨o_22, o_23⟩, h⟩ := h
          refine r_aload_n 84 dX2_readPlace_83 rfl rfl ?_
          refine g_R 87 dX2_readPlace_84 rfl rfl rfl fr_2_9 hT ?_
          refine r_aload_n 88 dX2_readPlace_87 rfl rfl ?_
          refine g_I 91 dX2_readPlace_88 rfl rfl rfl fi_2_58 rfl ?_
          refine a_I 400 92 dX2_readPlace_91 rfl rfl rfl rfl o_22 rfl ?_
          refine r_bipush 94 dX2_readPlace_92 rfl rfl ?_
          refine r_isub 95 dX2_readPlace_94 rfl o_23 ?_
          refine r_bipush 97 dX2_readPlace_95 rfl rfl ?_
          refine r_icmp_lt 100 108 dX2_readPlace_97 rfl rfl (fun c => ?_) (fun c => ?_)
          · have h := h.1 (c)
            obtain ⟨⟨o_24, o_25, o_26⟩, h⟩ := h
            refine r_aload_n 109 dX2_readPlace_108 rfl rfl ?_
            refine r_bipush 111 dX2_readPlace_109 rfl rfl ?_
            refine r_aload_n 112 dX2_readPlace_111 rfl rfl ?_
            refine g_R 115 dX2_readPlace_112 rfl rfl rfl fr_2_9 hT ?_
            refine r_aload_n 116 dX2_readPlace_115 rfl rfl ?_
            refine g_I 119 dX2_readPlace_116 rfl rfl rfl fi_2_58 rfl ?_
            refine a_I 400 120 dX2_readPlace_119 rfl rfl rfl rfl o_24 rfl ?_
            refine r_iadd 121 dX2_readPlace_120 rfl o_25 ?_
            refine r_bipush 123 dX2_readPlace_121 rfl rfl ?_
            refine r_isub 124 dX2_readPlace_123 rfl o_26 ?_
            obtain ⟨M_27, hc_28, h⟩ := h
            refine v_0 (ci := 2) (C := (RX2, TX2, 10)) [vI ((16 + (M_16.1 16 0 (M_16.1 12 0 2).toNat)) - 48)] [] 127 dX2_readPlace_124 rfl rfl rfl rfl rfl mo_X2_put ml_2_82 rfl rfl hc_28 ?_
            exact r_vret dX2_readPlace_127 rfl h.1 h.2
          · have h := h.2 (c)
            refine r_aload_n 101 dX2_readPlace_100 rfl rfl ?_
            refine r_iconst 102 dX2_readPlace_101 rfl (InR_of rfl) ?_
            obtain ⟨M_29, hc_30, h⟩ := h
            refine v_0 (ci := 2) (C := (RX2, TX2, 10)) [vI 1] [] 105 dX2_readPlace_102 rfl rfl rfl rfl rfl mo_X2_fail ml_2_61 rfl rfl hc_30 ?_
            refine r_goto 127 dX2_readPlace_105 rfl ?_
            exact r_vret dX2_readPlace_127 rfl h.1 h.2
      · have h := h.2 (c)
        refine r_aload_n 63 dX2_readPlace_62 rfl rfl ?_
        refine r_iconst 64 dX2_readPlace_63 rfl (InR_of rfl) ?_
        obtain ⟨M_31, hc_32, h⟩ := h
        refine v_0 (ci := 2) (C := (RX2, TX2, 10)) [vI 0] [] 67 dX2_readPlace_64 rfl rfl rfl rfl rfl mo_X2_fail ml_2_61 rfl rfl hc_32 ?_
        refine r_goto 127 dX2_readPlace_67 rfl ?_
        exact r_vret dX2_readPlace_127 rfl h.1 h.2
    · have h := h.2 (c)
      obtain ⟨o_33, h⟩ := h
      refine r_aload_n 39 dX2_readPlace_38 rfl rfl ?_
      refine r_dup 40 dX2_readPlace_39 rfl rfl ?_
      refine g_I 43 dX2_readPlace_40 rfl rfl rfl fi_2_28 rfl ?_
      refine r_iconst 44 dX2_readPlace_43 rfl (InR_of rfl) ?_
      refine r_iadd 45 dX2_readPlace_44 rfl o_33 ?_
      refine p_I 48 dX2_readPlace_45 rfl rfl rfl rfl pf_2_28 (.inl rfl) rfl ?_
      refine r_goto 12 dX2_readPlace_48 rfl ?_
      exact h

set_option maxRecDepth 4000 in
theorem xX2_countFact_0 {l : Launch} {G : Gt} {d : Nat} {M M' : Mem} {r : Option Vl}  (h : 
    (InR ((M.1 12 0 5) + 1)) ∧ ((((M.1 12 0 5) + 1) ≤ 30 → r = none ∧ M' = ((upI M.1 12 0 5 ((M.1 12 0 5) + 1)), M.2.1, M.2.2)) ∧ (¬ (((M.1 12 0 5) + 1) ≤ 30) → ∃ (M_2 : Mem), Cl l G d mX2_fail [vR (some (12, 0)), vI 3] ((upI M.1 12 0 5 ((M.1 12 0 5) + 1)), M.2.1, M.2.2) none M_2 ∧ r = none ∧ M' = M_2))) : Cl l G (d + 1) mX2_countFact [vR (some (12, 0))] M r M' := by
  show Ex l G (d + 1) mX2_countFact 0 [some (vR (some (12, 0)))] [] M r M'
  obtain ⟨o_1, h⟩ := h
  refine r_aload_n 1 dX2_countFact_0 rfl rfl ?_
  refine r_dup 2 dX2_countFact_1 rfl rfl ?_
  refine g_I 5 dX2_countFact_2 rfl rfl rfl fi_2_34 rfl ?_
  refine r_iconst 6 dX2_countFact_5 rfl (InR_of rfl) ?_
  refine r_iadd 7 dX2_countFact_6 rfl o_1 ?_
  refine p_I 10 dX2_countFact_7 rfl rfl rfl rfl pf_2_34 (.inl rfl) rfl ?_
  refine r_aload_n 11 dX2_countFact_10 rfl rfl ?_
  refine g_I 14 dX2_countFact_11 rfl rfl rfl fi_2_34 (mI_0 (upI_s)) ?_
  refine r_bipush 16 dX2_countFact_14 rfl rfl ?_
  refine r_icmp_le 19 24 dX2_countFact_16 rfl rfl (fun c => ?_) (fun c => ?_)
  · have h := h.1 (c)
    exact r_vret dX2_countFact_24 rfl h.1 h.2
  · have h := h.2 (c)
    refine r_aload_n 20 dX2_countFact_19 rfl rfl ?_
    refine r_iconst 21 dX2_countFact_20 rfl (InR_of rfl) ?_
    obtain ⟨M_2, hc_3, h⟩ := h
    refine v_0 (ci := 2) (C := (RX2, TX2, 10)) [vI 3] [] 24 dX2_countFact_21 rfl rfl rfl rfl rfl mo_X2_fail ml_2_61 rfl rfl hc_3 ?_
    exact r_vret dX2_countFact_24 rfl h.1 h.2

set_option maxRecDepth 4000 in
theorem xX2_put_0 {l : Launch} {G : Gt} {d : Nat} {M M' : Mem} {r : Option Vl} {x1 : Int} (hS : Sh M.2.1) (h : 
    (¬ (M.1 12 0 4) = 0 → r = none ∧ M' = M) ∧ (¬ (¬ (M.1 12 0 4) = 0) → (400 ≤ (M.1 12 0 9) → r = none ∧ M' = M) ∧ (¬ (400 ≤ (M.1 12 0 9)) → ((0 ≤ (M.1 12 0 9) ∧ (M.1 12 0 9) < 400) ∧ InR ((M.1 12 0 9) + 1)) ∧ r = none ∧ M' = ((upI (upI M.1 22 0 (M.1 12 0 9).toNat x1) 12 0 9 ((M.1 12 0 9) + 1)), M.2.1, M.2.2)))) : Cl l G d mX2_put [vR (some (12, 0)), vI x1] M r M' := by
  show Ex l G d mX2_put 0 [some (vR (some (12, 0))), some (vI x1)] [] M r M'
  refine r_aload_n 1 dX2_put_0 rfl rfl ?_
  refine g_I 4 dX2_put_1 rfl rfl rfl fi_2_31 rfl ?_
  refine r_if_ne 7 37 dX2_put_4 rfl rfl (fun c => ?_) (fun c => ?_)
  · have h := h.1 (c)
    exact r_vret dX2_put_37 rfl h.1 h.2
  · have h := h.2 (c)
    refine r_aload_n 8 dX2_put_7 rfl rfl ?_
    refine g_I 11 dX2_put_8 rfl rfl rfl fi_2_37 rfl ?_
    refine r_sipush 14 dX2_put_11 rfl rfl ?_
    refine r_icmp_ge 17 37 dX2_put_14 rfl rfl (fun c => ?_) (fun c => ?_)
    · have h := h.1 (c)
      exact r_vret dX2_put_37 rfl h.1 h.2
    · have h := h.2 (c)
      obtain ⟨⟨o_1, o_2⟩, h⟩ := h
      refine r_aload_n 18 dX2_put_17 rfl rfl ?_
      refine g_R 21 dX2_put_18 rfl rfl rfl fr_2_15 (sh_2_8 hS) ?_
      refine r_aload_n 22 dX2_put_21 rfl rfl ?_
      refine g_I 25 dX2_put_22 rfl rfl rfl fi_2_37 rfl ?_
      refine r_iload_n 26 dX2_put_25 rfl rfl ?_
      refine s_I 400 27 dX2_put_26 rfl rfl (by decide) rfl rfl o_1 ?_
      refine r_aload_n 28 dX2_put_27 rfl rfl ?_
      refine r_dup 29 dX2_put_28 rfl rfl ?_
      refine g_I 32 dX2_put_29 rfl rfl rfl fi_2_37 (mI_0 (upI_f rfl)) ?_
      refine r_iconst 33 dX2_put_32 rfl (InR_of rfl) ?_
      refine r_iadd 34 dX2_put_33 rfl o_2 ?_
      refine p_I 37 dX2_put_34 rfl rfl rfl rfl pf_2_37 (.inl rfl) rfl ?_
      exact r_vret dX2_put_37 rfl h.1 h.2

set_option maxRecDepth 4000 in
theorem xX2_fail_0 {l : Launch} {G : Gt} {d : Nat} {M M' : Mem} {r : Option Vl} {x1 : Int} (h : 
    (¬ (M.1 12 0 4) = 0 → r = none ∧ M' = M) ∧ (¬ (¬ (M.1 12 0 4) = 0) → (InR (8 * (M.1 12 0 2)) ∧ InR (1 + (8 * (M.1 12 0 2))) ∧ InR ((1 + (8 * (M.1 12 0 2))) + x1)) ∧ r = none ∧ M' = ((upI M.1 12 0 4 ((1 + (8 * (M.1 12 0 2))) + x1)), M.2.1, M.2.2))) : Cl l G d mX2_fail [vR (some (12, 0)), vI x1] M r M' := by
  show Ex l G d mX2_fail 0 [some (vR (some (12, 0))), some (vI x1)] [] M r M'
  refine r_aload_n 1 dX2_fail_0 rfl rfl ?_
  refine g_I 4 dX2_fail_1 rfl rfl rfl fi_2_31 rfl ?_
  refine r_if_ne 7 22 dX2_fail_4 rfl rfl (fun c => ?_) (fun c => ?_)
  · have h := h.1 (c)
    exact r_vret dX2_fail_22 rfl h.1 h.2
  · have h := h.2 (c)
    obtain ⟨⟨o_1, o_2, o_3⟩, h⟩ := h
    refine r_aload_n 8 dX2_fail_7 rfl rfl ?_
    refine r_iconst 9 dX2_fail_8 rfl (InR_of rfl) ?_
    refine r_bipush 11 dX2_fail_9 rfl rfl ?_
    refine r_aload_n 12 dX2_fail_11 rfl rfl ?_
    refine g_I 15 dX2_fail_12 rfl rfl rfl fi_2_58 rfl ?_
    refine r_imul 16 dX2_fail_15 rfl o_1 ?_
    refine r_iadd 17 dX2_fail_16 rfl o_2 ?_
    refine r_iload_n 18 dX2_fail_17 rfl rfl ?_
    refine r_iadd 19 dX2_fail_18 rfl o_3 ?_
    refine p_I 22 dX2_fail_19 rfl rfl rfl rfl pf_2_31 (.inl rfl) rfl ?_
    exact r_vret dX2_fail_22 rfl h.1 h.2

set_option maxRecDepth 4000 in
theorem xX2_look_0 {l : Launch} {G : Gt} {d : Nat} {M M' : Mem} {r : Option Vl}  (h : 
    ∃ (M_1 : Mem), Cl l G d mX2_skipBlanks [vR (some (12, 0))] M none M_1 ∧ M_1.2.1 12 0 0 = some (16, 0) ∧ (((M_1.1 12 0 3) < (M_1.1 12 0 1) → ((0 ≤ (M_1.1 12 0 3) ∧ (M_1.1 12 0 3) < 400)) ∧ (∃ (r_6 : Int) (M_4 : Mem), Cl l G d mX2_isSmall [vI (M_1.1 16 0 (M_1.1 12 0 3).toNat)] M_1 (some (vI r_6)) M_4 ∧ ((¬ r_6 = 0 → Ex l G (d + 1) mX2_look 70 [some (vR (some (12, 0))), some (vI (M_1.1 16 0 (M_1.1 12 0 3).toNat))] [] M_4 r M') ∧ (¬ (¬ r_6 = 0) → (InR ((M_4.1 12 0 3) + 1)) ∧ r = some (vI (if ¬ (M_1.1 16 0 (M_1.1 12 0 3).toNat) = 91 then (if ¬ (M_1.1 16 0 (M_1.1 12 0 3).toNat) = 93 then 32 else 29 : Int) else 28 : Int)) ∧ M' = ((upI M_4.1 12 0 3 ((M_4.1 12 0 3) + 1)), M_4.2.1, M_4.2.2))))) ∧ (¬ ((M_1.1 12 0 3) < (M_1.1 12 0 1)) → r = some (vI 32) ∧ M' = M_1))) : Cl l G (d + 1) mX2_look [vR (some (12, 0))] M r M' := by
  show Ex l G (d + 1) mX2_look 0 [some (vR (some (12, 0))), none] [] M r M'
  refine r_aload_n 1 dX2_look_0 rfl rfl ?_
  obtain ⟨M_1, hc_2, hT, h⟩ := h
  refine v_0 (ci := 2) (C := (RX2, TX2, 10)) [] [] 4 dX2_look_1 rfl rfl rfl rfl rfl mo_X2_skipBlanks ml_2_98 rfl rfl hc_2 ?_
  refine r_aload_n 5 dX2_look_4 rfl rfl ?_
  refine g_I 8 dX2_look_5 rfl rfl rfl fi_2_28 rfl ?_
  refine r_aload_n 9 dX2_look_8 rfl rfl ?_
  refine g_I 12 dX2_look_9 rfl rfl rfl fi_2_24 rfl ?_
  refine r_icmp_lt 15 18 dX2_look_12 rfl rfl (fun c => ?_) (fun c => ?_)
  · have h := h.1 (c)
    obtain ⟨o_3, h⟩ := h
    refine r_aload_n 19 dX2_look_18 rfl rfl ?_
    refine g_R 22 dX2_look_19 rfl rfl rfl fr_2_9 hT ?_
    refine r_aload_n 23 dX2_look_22 rfl rfl ?_
    refine g_I 26 dX2_look_23 rfl rfl rfl fi_2_28 rfl ?_
    refine a_I 400 27 dX2_look_26 rfl rfl rfl rfl o_3 rfl ?_
    refine r_istore_n (ls' := [some (vR (some (12, 0))), some (vI (M_1.1 16 0 (M_1.1 12 0 3).toNat))]) 28 dX2_look_27 rfl rfl rfl rfl ?_
    refine r_iload_n 29 dX2_look_28 rfl rfl ?_
    obtain ⟨r_6, M_4, hc_5, h⟩ := h
    refine c_1 [vI (M_1.1 16 0 (M_1.1 12 0 3).toNat)] [] 32 dX2_look_29 rfl rfl mo_X2_isSmall ml_2_105 rfl rfl hc_5 ?_
    refine r_if_ne 35 70 dX2_look_32 rfl rfl (fun c => ?_) (fun c => ?_)
    · have h := h.1 (c)
      exact h
    · have h := h.2 (c)
      obtain ⟨o_7, h⟩ := h
      refine r_aload_n 36 dX2_look_35 rfl rfl ?_
      refine r_dup 37 dX2_look_36 rfl rfl ?_
      refine g_I 40 dX2_look_37 rfl rfl rfl fi_2_28 rfl ?_
      refine r_iconst 41 dX2_look_40 rfl (InR_of rfl) ?_
      refine r_iadd 42 dX2_look_41 rfl o_7 ?_
      refine p_I 45 dX2_look_42 rfl rfl rfl rfl pf_2_28 (.inl rfl) rfl ?_
      refine r_iload_n 46 dX2_look_45 rfl rfl ?_
      refine r_bipush 48 dX2_look_46 rfl rfl ?_
      have hJ_8 : Ex l G (d + 1) mX2_look 69 [some (vR (some (12, 0))), some (vI (M_1.1 16 0 (M_1.1 12 0 3).toNat))] [vI (if ¬ (M_1.1 16 0 (M_1.1 12 0 3).toNat) = 91 then (if ¬ (M_1.1 16 0 (M_1.1 12 0 3).toNat) = 93 then 32 else 29 : Int) else 28 : Int)] ((upI M_4.1 12 0 3 ((M_4.1 12 0 3) + 1)), M_4.2.1, M_4.2.2) r M' := by
        exact r_iret dX2_look_69 rfl (.inl rfl) h.1 h.2
      refine r_icmp_ne 51 56 dX2_look_48 rfl rfl (fun c => ?_) (fun c => ?_)
      · have c_9 := c
        refine r_iload_n 57 dX2_look_56 rfl rfl ?_
        refine r_bipush 59 dX2_look_57 rfl rfl ?_
        refine r_icmp_ne 62 67 dX2_look_59 rfl rfl (fun c => ?_) (fun c => ?_)
        · have c_10 := c
          refine r_bipush 69 dX2_look_67 rfl rfl ?_
          exact (Ex.at hJ_8 rfl (show [vI 32] = [vI (if ¬ (M_1.1 16 0 (M_1.1 12 0 3).toNat) = 91 then (if ¬ (M_1.1 16 0 (M_1.1 12 0 3).toNat) = 93 then 32 else 29 : Int) else 28 : Int)] by simp only [if_pos c_9, if_pos c_10]) rfl)
        · have c_10 := c
          refine r_bipush 64 dX2_look_62 rfl rfl ?_
          refine r_goto 69 dX2_look_64 rfl ?_
          exact (Ex.at hJ_8 rfl (show [vI 29] = [vI (if ¬ (M_1.1 16 0 (M_1.1 12 0 3).toNat) = 91 then (if ¬ (M_1.1 16 0 (M_1.1 12 0 3).toNat) = 93 then 32 else 29 : Int) else 28 : Int)] by simp only [if_pos c_9, if_neg c_10]) rfl)
      · have c_9 := c
        refine r_bipush 53 dX2_look_51 rfl rfl ?_
        refine r_goto 69 dX2_look_53 rfl ?_
        exact (Ex.at hJ_8 rfl (show [vI 28] = [vI (if ¬ (M_1.1 16 0 (M_1.1 12 0 3).toNat) = 91 then (if ¬ (M_1.1 16 0 (M_1.1 12 0 3).toNat) = 93 then 32 else 29 : Int) else 28 : Int)] by simp only [if_neg c_9]) rfl)
  · have h := h.2 (c)
    refine r_bipush 17 dX2_look_15 rfl rfl ?_
    exact r_iret dX2_look_17 rfl (.inl rfl) h.1 h.2
set_option maxRecDepth 4000 in
theorem xX2_look_70 {l : Launch} {G : Gt} {d : Nat} {M M' : Mem} {r : Option Vl} {x1 : Int} (hT : M.2.1 12 0 0 = some (16, 0)) (h : 
    ((M.1 12 0 1) ≤ (M.1 12 0 3) → (InR ((M.1 12 0 3) - (M.1 12 0 2))) ∧ ((¬ ((M.1 12 0 3) - (M.1 12 0 2)) = 1 → ∃ (r_4 : Int) (M_2 : Mem), Cl l G d mX2_wordSign [vR (some (12, 0))] M (some (vI r_4)) M_2 ∧ r = some (vI r_4) ∧ M' = M_2) ∧ (¬ (¬ ((M.1 12 0 3) - (M.1 12 0 2)) = 1) → ∃ (r_7 : Int) (M_5 : Mem), Cl l G d mX2_letterSign [vI x1] M (some (vI r_7)) M_5 ∧ r = some (vI r_7) ∧ M' = M_5))) ∧ (¬ ((M.1 12 0 1) ≤ (M.1 12 0 3)) → ((0 ≤ (M.1 12 0 3) ∧ (M.1 12 0 3) < 400)) ∧ (∃ (r_11 : Int) (M_9 : Mem), Cl l G d mX2_isSmall [vI (M.1 16 0 (M.1 12 0 3).toNat)] M (some (vI r_11)) M_9 ∧ ((r_11 = 0 → (InR ((M_9.1 12 0 3) - (M_9.1 12 0 2))) ∧ ((¬ ((M_9.1 12 0 3) - (M_9.1 12 0 2)) = 1 → ∃ (r_15 : Int) (M_13 : Mem), Cl l G d mX2_wordSign [vR (some (12, 0))] M_9 (some (vI r_15)) M_13 ∧ r = some (vI r_15) ∧ M' = M_13) ∧ (¬ (¬ ((M_9.1 12 0 3) - (M_9.1 12 0 2)) = 1) → ∃ (r_18 : Int) (M_16 : Mem), Cl l G d mX2_letterSign [vI x1] M_9 (some (vI r_18)) M_16 ∧ r = some (vI r_18) ∧ M' = M_16))) ∧ (¬ (r_11 = 0) → (InR ((M_9.1 12 0 3) + 1)) ∧ Ex l G (d + 1) mX2_look 70 [some (vR (some (12, 0))), some (vI x1)] [] ((upI M_9.1 12 0 3 ((M_9.1 12 0 3) + 1)), M_9.2.1, M_9.2.2) r M'))))) : Ex l G (d + 1) mX2_look 70 [some (vR (some (12, 0))), some (vI x1)] [] M r M' := by
  refine r_aload_n 71 dX2_look_70 rfl rfl ?_
  refine g_I 74 dX2_look_71 rfl rfl rfl fi_2_28 rfl ?_
  refine r_aload_n 75 dX2_look_74 rfl rfl ?_
  refine g_I 78 dX2_look_75 rfl rfl rfl fi_2_24 rfl ?_
  refine r_icmp_ge 81 109 dX2_look_78 rfl rfl (fun c => ?_) (fun c => ?_)
  · have h := h.1 (c)
    obtain ⟨o_1, h⟩ := h
    refine r_aload_n 110 dX2_look_109 rfl rfl ?_
    refine g_I 113 dX2_look_110 rfl rfl rfl fi_2_28 rfl ?_
    refine r_aload_n 114 dX2_look_113 rfl rfl ?_
    refine g_I 117 dX2_look_114 rfl rfl rfl fi_2_58 rfl ?_
    refine r_isub 118 dX2_look_117 rfl o_1 ?_
    refine r_iconst 119 dX2_look_118 rfl (InR_of rfl) ?_
    refine r_icmp_ne 122 129 dX2_look_119 rfl rfl (fun c => ?_) (fun c => ?_)
    · have h := h.1 (c)
      refine r_aload_n 130 dX2_look_129 rfl rfl ?_
      obtain ⟨r_4, M_2, hc_3, h⟩ := h
      refine v_1 (ci := 2) (C := (RX2, TX2, 10)) [] [] 133 dX2_look_130 rfl rfl rfl rfl rfl mo_X2_wordSign ml_2_112 rfl rfl hc_3 ?_
      exact r_iret dX2_look_133 rfl (.inl rfl) h.1 h.2
    · have h := h.2 (c)
      refine r_iload_n 123 dX2_look_122 rfl rfl ?_
      obtain ⟨r_7, M_5, hc_6, h⟩ := h
      refine c_1 [vI x1] [] 126 dX2_look_123 rfl rfl mo_X2_letterSign ml_2_108 rfl rfl hc_6 ?_
      refine r_goto 133 dX2_look_126 rfl ?_
      exact r_iret dX2_look_133 rfl (.inl rfl) h.1 h.2
  · have h := h.2 (c)
    obtain ⟨o_8, h⟩ := h
    refine r_aload_n 82 dX2_look_81 rfl rfl ?_
    refine g_R 85 dX2_look_82 rfl rfl rfl fr_2_9 hT ?_
    refine r_aload_n 86 dX2_look_85 rfl rfl ?_
    refine g_I 89 dX2_look_86 rfl rfl rfl fi_2_28 rfl ?_
    refine a_I 400 90 dX2_look_89 rfl rfl rfl rfl o_8 rfl ?_
    obtain ⟨r_11, M_9, hc_10, h⟩ := h
    refine c_1 [vI (M.1 16 0 (M.1 12 0 3).toNat)] [] 93 dX2_look_90 rfl rfl mo_X2_isSmall ml_2_105 rfl rfl hc_10 ?_
    refine r_if_eq 96 109 dX2_look_93 rfl rfl (fun c => ?_) (fun c => ?_)
    · have h := h.1 (c)
      obtain ⟨o_12, h⟩ := h
      refine r_aload_n 110 dX2_look_109 rfl rfl ?_
      refine g_I 113 dX2_look_110 rfl rfl rfl fi_2_28 rfl ?_
      refine r_aload_n 114 dX2_look_113 rfl rfl ?_
      refine g_I 117 dX2_look_114 rfl rfl rfl fi_2_58 rfl ?_
      refine r_isub 118 dX2_look_117 rfl o_12 ?_
      refine r_iconst 119 dX2_look_118 rfl (InR_of rfl) ?_
      refine r_icmp_ne 122 129 dX2_look_119 rfl rfl (fun c => ?_) (fun c => ?_)
      · have h := h.1 (c)
        refine r_aload_n 130 dX2_look_129 rfl rfl ?_
        obtain ⟨r_15, M_13, hc_14, h⟩ := h
        refine v_1 (ci := 2) (C := (RX2, TX2, 10)) [] [] 133 dX2_look_130 rfl rfl rfl rfl rfl mo_X2_wordSign ml_2_112 rfl rfl hc_14 ?_
        exact r_iret dX2_look_133 rfl (.inl rfl) h.1 h.2
      · have h := h.2 (c)
        refine r_iload_n 123 dX2_look_122 rfl rfl ?_
        obtain ⟨r_18, M_16, hc_17, h⟩ := h
        refine c_1 [vI x1] [] 126 dX2_look_123 rfl rfl mo_X2_letterSign ml_2_108 rfl rfl hc_17 ?_
        refine r_goto 133 dX2_look_126 rfl ?_
        exact r_iret dX2_look_133 rfl (.inl rfl) h.1 h.2
    · have h := h.2 (c)
      obtain ⟨o_19, h⟩ := h
      refine r_aload_n 97 dX2_look_96 rfl rfl ?_
      refine r_dup 98 dX2_look_97 rfl rfl ?_
      refine g_I 101 dX2_look_98 rfl rfl rfl fi_2_28 rfl ?_
      refine r_iconst 102 dX2_look_101 rfl (InR_of rfl) ?_
      refine r_iadd 103 dX2_look_102 rfl o_19 ?_
      refine p_I 106 dX2_look_103 rfl rfl rfl rfl pf_2_28 (.inl rfl) rfl ?_
      refine r_goto 70 dX2_look_106 rfl ?_
      exact h

set_option maxRecDepth 4000 in
theorem xX2_leave_0 {l : Launch} {G : Gt} {d : Nat} {M M' : Mem} {r : Option Vl}  (h : 
    r = none ∧ M' = ((upI M.1 12 0 3 (M.1 12 0 2)), M.2.1, M.2.2)) : Cl l G d mX2_leave [vR (some (12, 0))] M r M' := by
  show Ex l G d mX2_leave 0 [some (vR (some (12, 0)))] [] M r M'
  refine r_aload_n 1 dX2_leave_0 rfl rfl ?_
  refine r_aload_n 2 dX2_leave_1 rfl rfl ?_
  refine g_I 5 dX2_leave_2 rfl rfl rfl fi_2_58 rfl ?_
  refine p_I 8 dX2_leave_5 rfl rfl rfl rfl pf_2_28 (.inl rfl) rfl ?_
  exact r_vret dX2_leave_8 rfl h.1 h.2

set_option maxRecDepth 4000 in
theorem xX2_skipBlanks_0 {l : Launch} {G : Gt} {d : Nat} {M M' : Mem} {r : Option Vl}  (hT : M.2.1 12 0 0 = some (16, 0)) (h : 
    ((M.1 12 0 1) ≤ (M.1 12 0 3) → r = none ∧ M' = ((upI M.1 12 0 2 (M.1 12 0 3)), M.2.1, M.2.2)) ∧ (¬ ((M.1 12 0 1) ≤ (M.1 12 0 3)) → ((0 ≤ (M.1 12 0 3) ∧ (M.1 12 0 3) < 400)) ∧ ((¬ (M.1 16 0 (M.1 12 0 3).toNat) = 32 → r = none ∧ M' = ((upI M.1 12 0 2 (M.1 12 0 3)), M.2.1, M.2.2)) ∧ (¬ (¬ (M.1 16 0 (M.1 12 0 3).toNat) = 32) → (InR ((M.1 12 0 3) + 1)) ∧ Ex l G d mX2_skipBlanks 0 [some (vR (some (12, 0)))] [] ((upI M.1 12 0 3 ((M.1 12 0 3) + 1)), M.2.1, M.2.2) r M')))) : Ex l G d mX2_skipBlanks 0 [some (vR (some (12, 0)))] [] M r M' := by
  refine r_aload_n 1 dX2_skipBlanks_0 rfl rfl ?_
  refine g_I 4 dX2_skipBlanks_1 rfl rfl rfl fi_2_28 rfl ?_
  refine r_aload_n 5 dX2_skipBlanks_4 rfl rfl ?_
  refine g_I 8 dX2_skipBlanks_5 rfl rfl rfl fi_2_24 rfl ?_
  refine r_icmp_ge 11 38 dX2_skipBlanks_8 rfl rfl (fun c => ?_) (fun c => ?_)
  · have h := h.1 (c)
    refine r_aload_n 39 dX2_skipBlanks_38 rfl rfl ?_
    refine r_aload_n 40 dX2_skipBlanks_39 rfl rfl ?_
    refine g_I 43 dX2_skipBlanks_40 rfl rfl rfl fi_2_28 rfl ?_
    refine p_I 46 dX2_skipBlanks_43 rfl rfl rfl rfl pf_2_58 (.inl rfl) rfl ?_
    exact r_vret dX2_skipBlanks_46 rfl h.1 h.2
  · have h := h.2 (c)
    obtain ⟨o_1, h⟩ := h
    refine r_aload_n 12 dX2_skipBlanks_11 rfl rfl ?_
    refine g_R 15 dX2_skipBlanks_12 rfl rfl rfl fr_2_9 hT ?_
    refine r_aload_n 16 dX2_skipBlanks_15 rfl rfl ?_
    refine g_I 19 dX2_skipBlanks_16 rfl rfl rfl fi_2_28 rfl ?_
    refine a_I 400 20 dX2_skipBlanks_19 rfl rfl rfl rfl o_1 rfl ?_
    refine r_bipush 22 dX2_skipBlanks_20 rfl rfl ?_
    refine r_icmp_ne 25 38 dX2_skipBlanks_22 rfl rfl (fun c => ?_) (fun c => ?_)
    · have h := h.1 (c)
      refine r_aload_n 39 dX2_skipBlanks_38 rfl rfl ?_
      refine r_aload_n 40 dX2_skipBlanks_39 rfl rfl ?_
      refine g_I 43 dX2_skipBlanks_40 rfl rfl rfl fi_2_28 rfl ?_
      refine p_I 46 dX2_skipBlanks_43 rfl rfl rfl rfl pf_2_58 (.inl rfl) rfl ?_
      exact r_vret dX2_skipBlanks_46 rfl h.1 h.2
    · have h := h.2 (c)
      obtain ⟨o_2, h⟩ := h
      refine r_aload_n 26 dX2_skipBlanks_25 rfl rfl ?_
      refine r_dup 27 dX2_skipBlanks_26 rfl rfl ?_
      refine g_I 30 dX2_skipBlanks_27 rfl rfl rfl fi_2_28 rfl ?_
      refine r_iconst 31 dX2_skipBlanks_30 rfl (InR_of rfl) ?_
      refine r_iadd 32 dX2_skipBlanks_31 rfl o_2 ?_
      refine p_I 35 dX2_skipBlanks_32 rfl rfl rfl rfl pf_2_28 (.inl rfl) rfl ?_
      refine r_goto 0 dX2_skipBlanks_35 rfl ?_
      exact h

set_option maxRecDepth 4000 in
theorem xX2_letterSign_0 {l : Launch} {G : Gt} {d : Nat} {M M' : Mem} {r : Option Vl} {x0 : Int} (h : 
    (106 < x0 → ((¬ (x0 < 117) → (InR (10 + x0) ∧ InR ((10 + x0) - 117)))) ∧ r = some (vI (if x0 < 117 then 32 else ((10 + x0) - 117) : Int)) ∧ M' = M) ∧ (¬ (106 < x0) → (InR (x0 - 97)) ∧ r = some (vI (x0 - 97)) ∧ M' = M)) : Cl l G d mX2_letterSign [vI x0] M r M' := by
  show Ex l G d mX2_letterSign 0 [some (vI x0)] [] M r M'
  refine r_iload_n 1 dX2_letterSign_0 rfl rfl ?_
  refine r_bipush 3 dX2_letterSign_1 rfl rfl ?_
  refine r_icmp_gt 6 11 dX2_letterSign_3 rfl rfl (fun c => ?_) (fun c => ?_)
  · have h := h.1 (c)
    refine r_iload_n 12 dX2_letterSign_11 rfl rfl ?_
    refine r_bipush 14 dX2_letterSign_12 rfl rfl ?_
    obtain ⟨h0, h⟩ := h
    have hJ_1 : Ex l G d mX2_letterSign 29 [some (vI x0)] [vI (if x0 < 117 then 32 else ((10 + x0) - 117) : Int)] M r M' := by
      exact r_iret dX2_letterSign_29 rfl (.inl rfl) h.1 h.2
    have h := h0
    refine r_icmp_lt 17 27 dX2_letterSign_14 rfl rfl (fun c => ?_) (fun c => ?_)
    · have c_2 := c
      refine r_bipush 29 dX2_letterSign_27 rfl rfl ?_
      exact (Ex.at hJ_1 rfl (show [vI 32] = [vI (if x0 < 117 then 32 else ((10 + x0) - 117) : Int)] by simp only [if_pos c_2]) rfl)
    · have c_2 := c
      have h := h c_2
      obtain ⟨o_3, o_4⟩ := h
      refine r_bipush 19 dX2_letterSign_17 rfl rfl ?_
      refine r_iload_n 20 dX2_letterSign_19 rfl rfl ?_
      refine r_iadd 21 dX2_letterSign_20 rfl o_3 ?_
      refine r_bipush 23 dX2_letterSign_21 rfl rfl ?_
      refine r_isub 24 dX2_letterSign_23 rfl o_4 ?_
      refine r_goto 29 dX2_letterSign_24 rfl ?_
      exact (Ex.at hJ_1 rfl (show [vI ((10 + x0) - 117)] = [vI (if x0 < 117 then 32 else ((10 + x0) - 117) : Int)] by simp only [if_neg c_2]) rfl)
  · have h := h.2 (c)
    obtain ⟨o_5, h⟩ := h
    refine r_iload_n 7 dX2_letterSign_6 rfl rfl ?_
    refine r_bipush 9 dX2_letterSign_7 rfl rfl ?_
    refine r_isub 10 dX2_letterSign_9 rfl o_5 ?_
    exact r_iret dX2_letterSign_10 rfl (.inl rfl) h.1 h.2

set_option maxRecDepth 4000 in
theorem xX2_wordSign_0 {l : Launch} {G : Gt} {d : Nat} {M M' : Mem} {r : Option Vl}  (hStr : cCnt M.2.2 1 = 14) (h : 
    ∃ (r_3 : Int) (M_1 : Mem), Cl l G d mX2_spells [vR (some (12, 0)), vR (some (1, 0))] M (some (vI r_3)) M_1 ∧ cCnt M_1.2.2 1 = 14 ∧ ((r_3 = 0 → ∃ (r_6 : Int) (M_4 : Mem), Cl l G d mX2_spells [vR (some (12, 0)), vR (some (1, 1))] M_1 (some (vI r_6)) M_4 ∧ cCnt M_4.2.2 1 = 14 ∧ ((r_6 = 0 → ∃ (r_9 : Int) (M_7 : Mem), Cl l G d mX2_spells [vR (some (12, 0)), vR (some (1, 2))] M_4 (some (vI r_9)) M_7 ∧ cCnt M_7.2.2 1 = 14 ∧ ((r_9 = 0 → ∃ (r_12 : Int) (M_10 : Mem), Cl l G d mX2_spells [vR (some (12, 0)), vR (some (1, 3))] M_7 (some (vI r_12)) M_10 ∧ cCnt M_10.2.2 1 = 14 ∧ ((r_12 = 0 → ∃ (r_15 : Int) (M_13 : Mem), Cl l G d mX2_spells [vR (some (12, 0)), vR (some (1, 4))] M_10 (some (vI r_15)) M_13 ∧ cCnt M_13.2.2 1 = 14 ∧ ((r_15 = 0 → ∃ (r_18 : Int) (M_16 : Mem), Cl l G d mX2_spells [vR (some (12, 0)), vR (some (1, 5))] M_13 (some (vI r_18)) M_16 ∧ cCnt M_16.2.2 1 = 14 ∧ ((r_18 = 0 → ∃ (r_21 : Int) (M_19 : Mem), Cl l G d mX2_spells [vR (some (12, 0)), vR (some (1, 6))] M_16 (some (vI r_21)) M_19 ∧ r = some (vI (if r_21 = 0 then 32 else 31 : Int)) ∧ M' = M_19) ∧ (¬ (r_18 = 0) → r = some (vI 30) ∧ M' = M_16))) ∧ (¬ (r_15 = 0) → r = some (vI 27) ∧ M' = M_13))) ∧ (¬ (r_12 = 0) → r = some (vI 26) ∧ M' = M_10))) ∧ (¬ (r_9 = 0) → r = some (vI 25) ∧ M' = M_7))) ∧ (¬ (r_6 = 0) → r = some (vI 24) ∧ M' = M_4))) ∧ (¬ (r_3 = 0) → r = some (vI 16) ∧ M' = M_1))) : Cl l G (d + 1) mX2_wordSign [vR (some (12, 0))] M r M' := by
  show Ex l G (d + 1) mX2_wordSign 0 [some (vR (some (12, 0)))] [] M r M'
  refine r_aload_n 1 dX2_wordSign_0 rfl rfl ?_
  refine r_ldcS (j := 0) 3 dX2_wordSign_1 rfl rfl hStr ?_
  obtain ⟨r_3, M_1, hc_2, hStr, h⟩ := h
  refine v_1 (ci := 2) (C := (RX2, TX2, 10)) [vR (some (1, 0))] [] 6 dX2_wordSign_3 rfl rfl rfl rfl rfl mo_X2_spells ml_2_117 rfl rfl hc_2 ?_
  refine r_if_eq 9 12 dX2_wordSign_6 rfl rfl (fun c => ?_) (fun c => ?_)
  · have h := h.1 (c)
    refine r_aload_n 13 dX2_wordSign_12 rfl rfl ?_
    refine r_ldcS (j := 1) 15 dX2_wordSign_13 rfl rfl hStr ?_
    obtain ⟨r_6, M_4, hc_5, hStr, h⟩ := h
    refine v_1 (ci := 2) (C := (RX2, TX2, 10)) [vR (some (1, 1))] [] 18 dX2_wordSign_15 rfl rfl rfl rfl rfl mo_X2_spells ml_2_117 rfl rfl hc_5 ?_
    refine r_if_eq 21 24 dX2_wordSign_18 rfl rfl (fun c => ?_) (fun c => ?_)
    · have h := h.1 (c)
      refine r_aload_n 25 dX2_wordSign_24 rfl rfl ?_
      refine r_ldcS (j := 2) 27 dX2_wordSign_25 rfl rfl hStr ?_
      obtain ⟨r_9, M_7, hc_8, hStr, h⟩ := h
      refine v_1 (ci := 2) (C := (RX2, TX2, 10)) [vR (some (1, 2))] [] 30 dX2_wordSign_27 rfl rfl rfl rfl rfl mo_X2_spells ml_2_117 rfl rfl hc_8 ?_
      refine r_if_eq 33 36 dX2_wordSign_30 rfl rfl (fun c => ?_) (fun c => ?_)
      · have h := h.1 (c)
        refine r_aload_n 37 dX2_wordSign_36 rfl rfl ?_
        refine r_ldcS (j := 3) 39 dX2_wordSign_37 rfl rfl hStr ?_
        obtain ⟨r_12, M_10, hc_11, hStr, h⟩ := h
        refine v_1 (ci := 2) (C := (RX2, TX2, 10)) [vR (some (1, 3))] [] 42 dX2_wordSign_39 rfl rfl rfl rfl rfl mo_X2_spells ml_2_117 rfl rfl hc_11 ?_
        refine r_if_eq 45 48 dX2_wordSign_42 rfl rfl (fun c => ?_) (fun c => ?_)
        · have h := h.1 (c)
          refine r_aload_n 49 dX2_wordSign_48 rfl rfl ?_
          refine r_ldcS (j := 4) 51 dX2_wordSign_49 rfl rfl hStr ?_
          obtain ⟨r_15, M_13, hc_14, hStr, h⟩ := h
          refine v_1 (ci := 2) (C := (RX2, TX2, 10)) [vR (some (1, 4))] [] 54 dX2_wordSign_51 rfl rfl rfl rfl rfl mo_X2_spells ml_2_117 rfl rfl hc_14 ?_
          refine r_if_eq 57 60 dX2_wordSign_54 rfl rfl (fun c => ?_) (fun c => ?_)
          · have h := h.1 (c)
            refine r_aload_n 61 dX2_wordSign_60 rfl rfl ?_
            refine r_ldcS (j := 5) 63 dX2_wordSign_61 rfl rfl hStr ?_
            obtain ⟨r_18, M_16, hc_17, hStr, h⟩ := h
            refine v_1 (ci := 2) (C := (RX2, TX2, 10)) [vR (some (1, 5))] [] 66 dX2_wordSign_63 rfl rfl rfl rfl rfl mo_X2_spells ml_2_117 rfl rfl hc_17 ?_
            refine r_if_eq 69 72 dX2_wordSign_66 rfl rfl (fun c => ?_) (fun c => ?_)
            · have h := h.1 (c)
              refine r_aload_n 73 dX2_wordSign_72 rfl rfl ?_
              refine r_ldcS (j := 6) 75 dX2_wordSign_73 rfl rfl hStr ?_
              obtain ⟨r_21, M_19, hc_20, h⟩ := h
              refine v_1 (ci := 2) (C := (RX2, TX2, 10)) [vR (some (1, 6))] [] 78 dX2_wordSign_75 rfl rfl rfl rfl rfl mo_X2_spells ml_2_117 rfl rfl hc_20 ?_
              have hJ_22 : Ex l G (d + 1) mX2_wordSign 88 [some (vR (some (12, 0)))] [vI (if r_21 = 0 then 32 else 31 : Int)] M_19 r M' := by
                exact r_iret dX2_wordSign_88 rfl (.inl rfl) h.1 h.2
              refine r_if_eq 81 86 dX2_wordSign_78 rfl rfl (fun c => ?_) (fun c => ?_)
              · have c_23 := c
                refine r_bipush 88 dX2_wordSign_86 rfl rfl ?_
                exact (Ex.at hJ_22 rfl (show [vI 32] = [vI (if r_21 = 0 then 32 else 31 : Int)] by simp only [if_pos c_23]) rfl)
              · have c_23 := c
                refine r_bipush 83 dX2_wordSign_81 rfl rfl ?_
                refine r_goto 88 dX2_wordSign_83 rfl ?_
                exact (Ex.at hJ_22 rfl (show [vI 31] = [vI (if r_21 = 0 then 32 else 31 : Int)] by simp only [if_neg c_23]) rfl)
            · have h := h.2 (c)
              refine r_bipush 71 dX2_wordSign_69 rfl rfl ?_
              exact r_iret dX2_wordSign_71 rfl (.inl rfl) h.1 h.2
          · have h := h.2 (c)
            refine r_bipush 59 dX2_wordSign_57 rfl rfl ?_
            exact r_iret dX2_wordSign_59 rfl (.inl rfl) h.1 h.2
        · have h := h.2 (c)
          refine r_bipush 47 dX2_wordSign_45 rfl rfl ?_
          exact r_iret dX2_wordSign_47 rfl (.inl rfl) h.1 h.2
      · have h := h.2 (c)
        refine r_bipush 35 dX2_wordSign_33 rfl rfl ?_
        exact r_iret dX2_wordSign_35 rfl (.inl rfl) h.1 h.2
    · have h := h.2 (c)
      refine r_bipush 23 dX2_wordSign_21 rfl rfl ?_
      exact r_iret dX2_wordSign_23 rfl (.inl rfl) h.1 h.2
  · have h := h.2 (c)
    refine r_bipush 11 dX2_wordSign_9 rfl rfl ?_
    exact r_iret dX2_wordSign_11 rfl (.inl rfl) h.1 h.2

set_option maxRecDepth 4000 in
theorem xX2_isSmall_0 {l : Launch} {G : Gt} {d : Nat} {M M' : Mem} {r : Option Vl} {x0 : Int} (h : 
    (((if x0 < 97 then 0 else (if 122 < x0 then 0 else 1 : Int) : Int) = 0 ∨ (if x0 < 97 then 0 else (if 122 < x0 then 0 else 1 : Int) : Int) = 1)) ∧ r = some (vI (if x0 < 97 then 0 else (if 122 < x0 then 0 else 1 : Int) : Int)) ∧ M' = M) : Cl l G d mX2_isSmall [vI x0] M r M' := by
  show Ex l G d mX2_isSmall 0 [some (vI x0)] [] M r M'
  refine r_iload_n 1 dX2_isSmall_0 rfl rfl ?_
  refine r_bipush 3 dX2_isSmall_1 rfl rfl ?_
  have hJ_1 : Ex l G d mX2_isSmall 17 [some (vI x0)] [vI (if x0 < 97 then 0 else (if 122 < x0 then 0 else 1 : Int) : Int)] M r M' := by
    obtain ⟨o_4, h⟩ := h
    exact r_iret dX2_isSmall_17 rfl (.inr ⟨rfl, o_4⟩) h.1 h.2
  refine r_icmp_lt 6 16 dX2_isSmall_3 rfl rfl (fun c => ?_) (fun c => ?_)
  · have c_2 := c
    refine r_iconst 17 dX2_isSmall_16 rfl (InR_of rfl) ?_
    exact (Ex.at hJ_1 rfl (show [vI 0] = [vI (if x0 < 97 then 0 else (if 122 < x0 then 0 else 1 : Int) : Int)] by simp only [if_pos c_2]) rfl)
  · have c_2 := c
    refine r_iload_n 7 dX2_isSmall_6 rfl rfl ?_
    refine r_bipush 9 dX2_isSmall_7 rfl rfl ?_
    refine r_icmp_gt 12 16 dX2_isSmall_9 rfl rfl (fun c => ?_) (fun c => ?_)
    · have c_3 := c
      refine r_iconst 17 dX2_isSmall_16 rfl (InR_of rfl) ?_
      exact (Ex.at hJ_1 rfl (show [vI 0] = [vI (if x0 < 97 then 0 else (if 122 < x0 then 0 else 1 : Int) : Int)] by simp only [if_neg c_2, if_pos c_3]) rfl)
    · have c_3 := c
      refine r_iconst 13 dX2_isSmall_12 rfl (InR_of rfl) ?_
      refine r_goto 17 dX2_isSmall_13 rfl ?_
      exact (Ex.at hJ_1 rfl (show [vI 1] = [vI (if x0 < 97 then 0 else (if 122 < x0 then 0 else 1 : Int) : Int)] by simp only [if_neg c_2, if_neg c_3]) rfl)

set_option maxRecDepth 4000 in
theorem xX2_isDigit_0 {l : Launch} {G : Gt} {d : Nat} {M M' : Mem} {r : Option Vl} {x0 : Int} (h : 
    (((if x0 < 48 then 0 else (if 57 < x0 then 0 else 1 : Int) : Int) = 0 ∨ (if x0 < 48 then 0 else (if 57 < x0 then 0 else 1 : Int) : Int) = 1)) ∧ r = some (vI (if x0 < 48 then 0 else (if 57 < x0 then 0 else 1 : Int) : Int)) ∧ M' = M) : Cl l G d mX2_isDigit [vI x0] M r M' := by
  show Ex l G d mX2_isDigit 0 [some (vI x0)] [] M r M'
  refine r_iload_n 1 dX2_isDigit_0 rfl rfl ?_
  refine r_bipush 3 dX2_isDigit_1 rfl rfl ?_
  have hJ_1 : Ex l G d mX2_isDigit 17 [some (vI x0)] [vI (if x0 < 48 then 0 else (if 57 < x0 then 0 else 1 : Int) : Int)] M r M' := by
    obtain ⟨o_4, h⟩ := h
    exact r_iret dX2_isDigit_17 rfl (.inr ⟨rfl, o_4⟩) h.1 h.2
  refine r_icmp_lt 6 16 dX2_isDigit_3 rfl rfl (fun c => ?_) (fun c => ?_)
  · have c_2 := c
    refine r_iconst 17 dX2_isDigit_16 rfl (InR_of rfl) ?_
    exact (Ex.at hJ_1 rfl (show [vI 0] = [vI (if x0 < 48 then 0 else (if 57 < x0 then 0 else 1 : Int) : Int)] by simp only [if_pos c_2]) rfl)
  · have c_2 := c
    refine r_iload_n 7 dX2_isDigit_6 rfl rfl ?_
    refine r_bipush 9 dX2_isDigit_7 rfl rfl ?_
    refine r_icmp_gt 12 16 dX2_isDigit_9 rfl rfl (fun c => ?_) (fun c => ?_)
    · have c_3 := c
      refine r_iconst 17 dX2_isDigit_16 rfl (InR_of rfl) ?_
      exact (Ex.at hJ_1 rfl (show [vI 0] = [vI (if x0 < 48 then 0 else (if 57 < x0 then 0 else 1 : Int) : Int)] by simp only [if_neg c_2, if_pos c_3]) rfl)
    · have c_3 := c
      refine r_iconst 13 dX2_isDigit_12 rfl (InR_of rfl) ?_
      refine r_goto 17 dX2_isDigit_13 rfl ?_
      exact (Ex.at hJ_1 rfl (show [vI 1] = [vI (if x0 < 48 then 0 else (if 57 < x0 then 0 else 1 : Int) : Int)] by simp only [if_neg c_2, if_neg c_3]) rfl)

set_option maxRecDepth 4000 in
theorem xX3_init_0 {l : Launch} {G : Gt} {d : Nat} {M M' : Mem} {r : Option Vl}  (h : 
    (∀ M_1 : Mem, newM M 23 401 401 = M_1 → (∀ M_2 : Mem, newM (M_1.1, (upR M_1.2.1 8 0 0 (some (23, cCnt M.2.2 23))), M_1.2.2) 24 1024 1024 = M_2 → (∀ M_3 : Mem, newM (M_2.1, (upR M_2.2.1 8 0 1 (some (24, cCnt M_1.2.2 24))), M_2.2.2) 25 1024 1024 = M_3 → r = none ∧ M' = (M_3.1, (upR M_3.2.1 8 0 2 (some (25, cCnt M_2.2.2 25))), M_3.2.2))))) : Cl l G (d + 1) mX3_init [vR (some (8, 0))] M r M' := by
  show Ex l G (d + 1) mX3_init 0 [some (vR (some (8, 0)))] [] M r M'
  refine r_aload_n 1 dX3_init_0 rfl rfl ?_
  refine r_objInit 4 dX3_init_1 rfl rfl ⟨(inT1 (List.mem_of_getElem? (i := 206) rfl) rfl), (inT1 (List.mem_of_getElem? (i := 28) rfl) rfl), (inT1 (List.mem_of_getElem? (i := 29) rfl) rfl)⟩ rfl ?_
  refine r_aload_n 5 dX3_init_4 rfl rfl ?_
  refine r_sipush 8 dX3_init_5 rfl rfl ?_
  refine r_newa (f := 23) (k := 1) (n := 401) 10 dX3_init_8 rfl rfl rfl (by decide) (inT1 (List.mem_of_getElem? (i := 104) rfl) rfl) rfl (by decide) (.inl rfl) ?_
  generalize hM_1 : newM M 23 401 401 = M_1
  have h := h M_1 hM_1
  refine p_R 13 dX3_init_10 rfl rfl rfl rfl pf_3_9 (.inr rfl) rfl ?_
  refine r_aload_n 14 dX3_init_13 rfl rfl ?_
  refine r_sipush 17 dX3_init_14 rfl rfl ?_
  refine r_newa (f := 24) (k := 1) (n := 1024) 19 dX3_init_17 rfl rfl rfl (by decide) (inT1 (List.mem_of_getElem? (i := 104) rfl) rfl) rfl (by decide) (.inl rfl) ?_
  generalize hM_2 : newM (M_1.1, (upR M_1.2.1 8 0 0 (some (23, cCnt M.2.2 23))), M_1.2.2) 24 1024 1024 = M_2
  have h := h M_2 hM_2
  refine p_R 22 dX3_init_19 rfl rfl rfl rfl pf_3_15 (.inr rfl) rfl ?_
  refine r_aload_n 23 dX3_init_22 rfl rfl ?_
  refine r_sipush 26 dX3_init_23 rfl rfl ?_
  refine r_newa (f := 25) (k := 1) (n := 1024) 28 dX3_init_26 rfl rfl rfl (by decide) (inT1 (List.mem_of_getElem? (i := 104) rfl) rfl) rfl (by decide) (.inl rfl) ?_
  generalize hM_3 : newM (M_2.1, (upR M_2.2.1 8 0 1 (some (24, cCnt M_1.2.2 24))), M_2.2.2) 25 1024 1024 = M_3
  have h := h M_3 hM_3
  refine p_R 31 dX3_init_28 rfl rfl rfl rfl pf_3_18 (.inr rfl) rfl ?_
  exact r_vret dX3_init_31 rfl h.1 h.2

set_option maxRecDepth 4000 in
theorem xX3_forget_0 {l : Launch} {G : Gt} {d : Nat} {M M' : Mem} {r : Option Vl}  (hS : Sh M.2.1) (h : 
    ((M.1 8 0 3) = 0 → r = none ∧ M' = M) ∧ (¬ ((M.1 8 0 3) = 0) → ∃ (M_1 : Mem), Cl l G d mJ7_fill_53178 [vR (some (24, 0)), vI 0] M none M_1 ∧ r = none ∧ M' = ((upI M_1.1 8 0 3 0), M_1.2.1, M_1.2.2))) : Cl l G (d + 1) mX3_forget [vR (some (8, 0))] M r M' := by
  show Ex l G (d + 1) mX3_forget 0 [some (vR (some (8, 0)))] [] M r M'
  refine r_aload_n 1 dX3_forget_0 rfl rfl ?_
  refine g_I 4 dX3_forget_1 rfl rfl rfl fi_3_21 rfl ?_
  refine r_if_eq 7 20 dX3_forget_4 rfl rfl (fun c => ?_) (fun c => ?_)
  · have h := h.1 (c)
    exact r_vret dX3_forget_20 rfl h.1 h.2
  · have h := h.2 (c)
    refine r_aload_n 8 dX3_forget_7 rfl rfl ?_
    refine g_R 11 dX3_forget_8 rfl rfl rfl fr_3_15 (sh_3_1 hS) ?_
    refine r_iconst 12 dX3_forget_11 rfl (InR_of rfl) ?_
    obtain ⟨M_1, hc_2, h⟩ := h
    refine c_0 [vR (some (24, 0)), vI 0] [] 15 dX3_forget_12 rfl rfl mo_J7_fill_53178 ml_3_25 rfl rfl hc_2 ?_
    refine r_aload_n 16 dX3_forget_15 rfl rfl ?_
    refine r_iconst 17 dX3_forget_16 rfl (InR_of rfl) ?_
    refine p_Z 20 dX3_forget_17 rfl rfl rfl rfl pf_3_21 (.inl rfl) rfl (.inl rfl) ?_
    exact r_vret dX3_forget_20 rfl h.1 h.2

set_option maxRecDepth 4000 in
theorem xX3_fit_0 {l : Launch} {G : Gt} {d : Nat} {M M' : Mem} {r : Option Vl} {k1 : Nat} {x2 : Int} {k3 : Nat} {x4 : Int} (hS : Sh M.2.1) (h : 
    (InR ((aOr (aShl (aOr (aShl (aOr (aShl (M.1 13 k1 0) 4) x2) 6) (M.1 14 k3 0)) 12) x4) + 1) ∧ (0 ≤ (aUshr (aMul ((aOr (aShl (aOr (aShl (aOr (aShl (M.1 13 k1 0) 4) x2) 6) (M.1 14 k3 0)) 12) x4) + 1) (-1640531535)) 22) ∧ (aUshr (aMul ((aOr (aShl (aOr (aShl (aOr (aShl (M.1 13 k1 0) 4) x2) 6) (M.1 14 k3 0)) 12) x4) + 1) (-1640531535)) 22) < 1024)) ∧ (((M.1 24 0 (aUshr (aMul ((aOr (aShl (aOr (aShl (aOr (aShl (M.1 13 k1 0) 4) x2) 6) (M.1 14 k3 0)) 12) x4) + 1) (-1640531535)) 22).toNat) = ((aOr (aShl (aOr (aShl (aOr (aShl (M.1 13 k1 0) 4) x2) 6) (M.1 14 k3 0)) 12) x4) + 1) → ((0 ≤ (aUshr (aMul ((aOr (aShl (aOr (aShl (aOr (aShl (M.1 13 k1 0) 4) x2) 6) (M.1 14 k3 0)) 12) x4) + 1) (-1640531535)) 22) ∧ (aUshr (aMul ((aOr (aShl (aOr (aShl (aOr (aShl (M.1 13 k1 0) 4) x2) 6) (M.1 14 k3 0)) 12) x4) + 1) (-1640531535)) 22) < 1024)) ∧ (((M.1 13 k1 2) = 0 → r = some (vI (M.1 25 0 (aUshr (aMul ((aOr (aShl (aOr (aShl (aOr (aShl (M.1 13 k1 0) 4) x2) 6) (M.1 14 k3 0)) 12) x4) + 1) (-1640531535)) 22).toNat)) ∧ M' = M) ∧ (¬ ((M.1 13 k1 2) = 0) → ∃ (r_6 : Int) (M_4 : Mem), Cl l G d mJ6_bitCount_0f7a4 [vI (M.1 25 0 (aUshr (aMul ((aOr (aShl (aOr (aShl (aOr (aShl (M.1 13 k1 0) 4) x2) 6) (M.1 14 k3 0)) 12) x4) + 1) (-1640531535)) 22).toNat)] M (some (vI r_6)) M_4 ∧ r = some (vI (if r_6 ≤ 1 then (M.1 25 0 (aUshr (aMul ((aOr (aShl (aOr (aShl (aOr (aShl (M.1 13 k1 0) 4) x2) 6) (M.1 14 k3 0)) 12) x4) + 1) (-1640531535)) 22).toNat) else 0 : Int)) ∧ M' = M_4))) ∧ (¬ ((M.1 24 0 (aUshr (aMul ((aOr (aShl (aOr (aShl (aOr (aShl (M.1 13 k1 0) 4) x2) 6) (M.1 14 k3 0)) 12) x4) + 1) (-1640531535)) 22).toNat) = ((aOr (aShl (aOr (aShl (aOr (aShl (M.1 13 k1 0) 4) x2) 6) (M.1 14 k3 0)) 12) x4) + 1)) → ∃ (r_11 : Int) (M_9 : Mem), Cl l G d mX3_evaluate [vR (some (8, 0)), vR (some (13, k1)), vI x2, vR (some (14, k3)), vI x4] M (some (vI r_11)) M_9 ∧ Sh M_9.2.1 ∧ (((0 ≤ (aUshr (aMul ((aOr (aShl (aOr (aShl (aOr (aShl (M.1 13 k1 0) 4) x2) 6) (M.1 14 k3 0)) 12) x4) + 1) (-1640531535)) 22) ∧ (aUshr (aMul ((aOr (aShl (aOr (aShl (aOr (aShl (M.1 13 k1 0) 4) x2) 6) (M.1 14 k3 0)) 12) x4) + 1) (-1640531535)) 22) < 1024) ∧ (0 ≤ (aUshr (aMul ((aOr (aShl (aOr (aShl (aOr (aShl (M.1 13 k1 0) 4) x2) 6) (M.1 14 k3 0)) 12) x4) + 1) (-1640531535)) 22) ∧ (aUshr (aMul ((aOr (aShl (aOr (aShl (aOr (aShl (M.1 13 k1 0) 4) x2) 6) (M.1 14 k3 0)) 12) x4) + 1) (-1640531535)) 22) < 1024) ∧ (0 ≤ (aUshr (aMul ((aOr (aShl (aOr (aShl (aOr (aShl (M.1 13 k1 0) 4) x2) 6) (M.1 14 k3 0)) 12) x4) + 1) (-1640531535)) 22) ∧ (aUshr (aMul ((aOr (aShl (aOr (aShl (aOr (aShl (M.1 13 k1 0) 4) x2) 6) (M.1 14 k3 0)) 12) x4) + 1) (-1640531535)) 22) < 1024)) ∧ (((M_9.1 13 k1 2) = 0 → r = some (vI r_11) ∧ M' = ((upI (upI (upI M_9.1 25 0 (aUshr (aMul ((aOr (aShl (aOr (aShl (aOr (aShl (M.1 13 k1 0) 4) x2) 6) (M.1 14 k3 0)) 12) x4) + 1) (-1640531535)) 22).toNat r_11) 24 0 (aUshr (aMul ((aOr (aShl (aOr (aShl (aOr (aShl (M.1 13 k1 0) 4) x2) 6) (M.1 14 k3 0)) 12) x4) + 1) (-1640531535)) 22).toNat ((aOr (aShl (aOr (aShl (aOr (aShl (M.1 13 k1 0) 4) x2) 6) (M.1 14 k3 0)) 12) x4) + 1)) 8 0 3 1), M_9.2.1, M_9.2.2)) ∧ (¬ ((M_9.1 13 k1 2) = 0) → ∃ (r_17 : Int) (M_15 : Mem), Cl l G d mJ6_bitCount_0f7a4 [vI r_11] ((upI (upI (upI M_9.1 25 0 (aUshr (aMul ((aOr (aShl (aOr (aShl (aOr (aShl (M.1 13 k1 0) 4) x2) 6) (M.1 14 k3 0)) 12) x4) + 1) (-1640531535)) 22).toNat r_11) 24 0 (aUshr (aMul ((aOr (aShl (aOr (aShl (aOr (aShl (M.1 13 k1 0) 4) x2) 6) (M.1 14 k3 0)) 12) x4) + 1) (-1640531535)) 22).toNat ((aOr (aShl (aOr (aShl (aOr (aShl (M.1 13 k1 0) 4) x2) 6) (M.1 14 k3 0)) 12) x4) + 1)) 8 0 3 1), M_9.2.1, M_9.2.2) (some (vI r_17)) M_15 ∧ r = some (vI (if r_17 ≤ 1 then r_11 else 0 : Int)) ∧ M' = M_15)))))) : Cl l G (d + 1) mX3_fit [vR (some (8, 0)), vR (some (13, k1)), vI x2, vR (some (14, k3)), vI x4] M r M' := by
  show Ex l G (d + 1) mX3_fit 0 [some (vR (some (8, 0))), some (vR (some (13, k1))), some (vI x2), some (vR (some (14, k3))), some (vI x4), none, none, none, none] [] M r M'
  obtain ⟨⟨o_1, o_2⟩, h⟩ := h
  refine r_aload_n 1 dX3_fit_0 rfl rfl ?_
  refine g_I 4 dX3_fit_1 rfl rfl rfl fi_3_31 rfl ?_
  refine r_iconst 5 dX3_fit_4 rfl (InR_of rfl) ?_
  refine r_ishl 6 dX3_fit_5 rfl ⟨by decide, by decide⟩ ?_
  refine r_iload_n 7 dX3_fit_6 rfl rfl ?_
  refine r_ior 8 dX3_fit_7 rfl ?_
  refine r_bipush 10 dX3_fit_8 rfl rfl ?_
  refine r_ishl 11 dX3_fit_10 rfl ⟨by decide, by decide⟩ ?_
  refine r_aload_n 12 dX3_fit_11 rfl rfl ?_
  refine g_I 15 dX3_fit_12 rfl rfl rfl fi_3_37 rfl ?_
  refine r_ior 16 dX3_fit_15 rfl ?_
  refine r_istore (ls' := [some (vR (some (8, 0))), some (vR (some (13, k1))), some (vI x2), some (vR (some (14, k3))), some (vI x4), some (vI (aOr (aShl (aOr (aShl (M.1 13 k1 0) 4) x2) 6) (M.1 14 k3 0))), none, none, none]) 18 dX3_fit_16 rfl rfl rfl rfl ?_
  refine r_iload 20 dX3_fit_18 rfl rfl ?_
  refine r_bipush 22 dX3_fit_20 rfl rfl ?_
  refine r_ishl 23 dX3_fit_22 rfl ⟨by decide, by decide⟩ ?_
  refine r_iload 25 dX3_fit_23 rfl rfl ?_
  refine r_ior 26 dX3_fit_25 rfl ?_
  refine r_iconst 27 dX3_fit_26 rfl (InR_of rfl) ?_
  refine r_iadd 28 dX3_fit_27 rfl o_1 ?_
  refine r_istore (ls' := [some (vR (some (8, 0))), some (vR (some (13, k1))), some (vI x2), some (vR (some (14, k3))), some (vI x4), some (vI (aOr (aShl (aOr (aShl (M.1 13 k1 0) 4) x2) 6) (M.1 14 k3 0))), some (vI ((aOr (aShl (aOr (aShl (aOr (aShl (M.1 13 k1 0) 4) x2) 6) (M.1 14 k3 0)) 12) x4) + 1)), none, none]) 30 dX3_fit_28 rfl rfl rfl rfl ?_
  refine r_iload 32 dX3_fit_30 rfl rfl ?_
  refine r_ldc (n := (-1640531535)) 34 dX3_fit_32 rfl (inT4 (List.mem_of_getElem? (i := 45) rfl) rfl) (by decide +kernel) (InR_of rfl) ?_
  refine r_imulw 35 dX3_fit_34 rfl ?_
  refine r_bipush 37 dX3_fit_35 rfl rfl ?_
  refine r_iushr 38 dX3_fit_37 rfl ⟨by decide, by decide⟩ ?_
  refine r_istore (ls' := [some (vR (some (8, 0))), some (vR (some (13, k1))), some (vI x2), some (vR (some (14, k3))), some (vI x4), some (vI (aOr (aShl (aOr (aShl (M.1 13 k1 0) 4) x2) 6) (M.1 14 k3 0))), some (vI ((aOr (aShl (aOr (aShl (aOr (aShl (M.1 13 k1 0) 4) x2) 6) (M.1 14 k3 0)) 12) x4) + 1)), some (vI (aUshr (aMul ((aOr (aShl (aOr (aShl (aOr (aShl (M.1 13 k1 0) 4) x2) 6) (M.1 14 k3 0)) 12) x4) + 1) (-1640531535)) 22)), none]) 40 dX3_fit_38 rfl rfl rfl rfl ?_
  refine r_aload_n 41 dX3_fit_40 rfl rfl ?_
  refine g_R 44 dX3_fit_41 rfl rfl rfl fr_3_15 (sh_3_1 hS) ?_
  refine r_iload 46 dX3_fit_44 rfl rfl ?_
  refine a_I 1024 47 dX3_fit_46 rfl rfl rfl rfl o_2 rfl ?_
  refine r_iload 49 dX3_fit_47 rfl rfl ?_
  refine r_icmp_eq 52 82 dX3_fit_49 rfl rfl (fun c => ?_) (fun c => ?_)
  · have h := h.1 (c)
    obtain ⟨o_3, h⟩ := h
    refine r_aload_n 83 dX3_fit_82 rfl rfl ?_
    refine g_R 86 dX3_fit_83 rfl rfl rfl fr_3_18 (sh_3_2 hS) ?_
    refine r_iload 88 dX3_fit_86 rfl rfl ?_
    refine a_I 1024 89 dX3_fit_88 rfl rfl rfl rfl o_3 rfl ?_
    refine r_istore (ls' := [some (vR (some (8, 0))), some (vR (some (13, k1))), some (vI x2), some (vR (some (14, k3))), some (vI x4), some (vI (aOr (aShl (aOr (aShl (M.1 13 k1 0) 4) x2) 6) (M.1 14 k3 0))), some (vI ((aOr (aShl (aOr (aShl (aOr (aShl (M.1 13 k1 0) 4) x2) 6) (M.1 14 k3 0)) 12) x4) + 1)), some (vI (aUshr (aMul ((aOr (aShl (aOr (aShl (aOr (aShl (M.1 13 k1 0) 4) x2) 6) (M.1 14 k3 0)) 12) x4) + 1) (-1640531535)) 22)), some (vI (M.1 25 0 (aUshr (aMul ((aOr (aShl (aOr (aShl (aOr (aShl (M.1 13 k1 0) 4) x2) 6) (M.1 14 k3 0)) 12) x4) + 1) (-1640531535)) 22).toNat))]) 91 dX3_fit_89 rfl rfl rfl rfl ?_
    refine r_aload_n 92 dX3_fit_91 rfl rfl ?_
    refine g_I 95 dX3_fit_92 rfl rfl rfl fi_3_47 rfl ?_
    refine r_if_eq 98 111 dX3_fit_95 rfl rfl (fun c => ?_) (fun c => ?_)
    · have h := h.1 (c)
      refine r_iload 113 dX3_fit_111 rfl rfl ?_
      exact r_iret dX3_fit_113 rfl (.inl rfl) h.1 h.2
    · have h := h.2 (c)
      refine r_iload 100 dX3_fit_98 rfl rfl ?_
      obtain ⟨r_6, M_4, hc_5, h⟩ := h
      refine c_1 [vI (M.1 25 0 (aUshr (aMul ((aOr (aShl (aOr (aShl (aOr (aShl (M.1 13 k1 0) 4) x2) 6) (M.1 14 k3 0)) 12) x4) + 1) (-1640531535)) 22).toNat)] [] 103 dX3_fit_100 rfl rfl mo_J6_bitCount_0f7a4 ml_3_50 rfl rfl hc_5 ?_
      refine r_iconst 104 dX3_fit_103 rfl (InR_of rfl) ?_
      have hJ_7 : Ex l G (d + 1) mX3_fit 113 [some (vR (some (8, 0))), some (vR (some (13, k1))), some (vI x2), some (vR (some (14, k3))), some (vI x4), some (vI (aOr (aShl (aOr (aShl (M.1 13 k1 0) 4) x2) 6) (M.1 14 k3 0))), some (vI ((aOr (aShl (aOr (aShl (aOr (aShl (M.1 13 k1 0) 4) x2) 6) (M.1 14 k3 0)) 12) x4) + 1)), some (vI (aUshr (aMul ((aOr (aShl (aOr (aShl (aOr (aShl (M.1 13 k1 0) 4) x2) 6) (M.1 14 k3 0)) 12) x4) + 1) (-1640531535)) 22)), some (vI (M.1 25 0 (aUshr (aMul ((aOr (aShl (aOr (aShl (aOr (aShl (M.1 13 k1 0) 4) x2) 6) (M.1 14 k3 0)) 12) x4) + 1) (-1640531535)) 22).toNat))] [vI (if r_6 ≤ 1 then (M.1 25 0 (aUshr (aMul ((aOr (aShl (aOr (aShl (aOr (aShl (M.1 13 k1 0) 4) x2) 6) (M.1 14 k3 0)) 12) x4) + 1) (-1640531535)) 22).toNat) else 0 : Int)] M_4 r M' := by
        exact r_iret dX3_fit_113 rfl (.inl rfl) h.1 h.2
      refine r_icmp_le 107 111 dX3_fit_104 rfl rfl (fun c => ?_) (fun c => ?_)
      · have c_8 := c
        refine r_iload 113 dX3_fit_111 rfl rfl ?_
        exact (Ex.at hJ_7 rfl (show [vI (M.1 25 0 (aUshr (aMul ((aOr (aShl (aOr (aShl (aOr (aShl (M.1 13 k1 0) 4) x2) 6) (M.1 14 k3 0)) 12) x4) + 1) (-1640531535)) 22).toNat)] = [vI (if r_6 ≤ 1 then (M.1 25 0 (aUshr (aMul ((aOr (aShl (aOr (aShl (aOr (aShl (M.1 13 k1 0) 4) x2) 6) (M.1 14 k3 0)) 12) x4) + 1) (-1640531535)) 22).toNat) else 0 : Int)] by simp only [if_pos c_8]) rfl)
      · have c_8 := c
        refine r_iconst 108 dX3_fit_107 rfl (InR_of rfl) ?_
        refine r_goto 113 dX3_fit_108 rfl ?_
        exact (Ex.at hJ_7 rfl (show [vI 0] = [vI (if r_6 ≤ 1 then (M.1 25 0 (aUshr (aMul ((aOr (aShl (aOr (aShl (aOr (aShl (M.1 13 k1 0) 4) x2) 6) (M.1 14 k3 0)) 12) x4) + 1) (-1640531535)) 22).toNat) else 0 : Int)] by simp only [if_neg c_8]) rfl)
  · have h := h.2 (c)
    refine r_aload_n 53 dX3_fit_52 rfl rfl ?_
    refine g_R 56 dX3_fit_53 rfl rfl rfl fr_3_18 (sh_3_2 hS) ?_
    refine r_iload 58 dX3_fit_56 rfl rfl ?_
    refine r_aload_n 59 dX3_fit_58 rfl rfl ?_
    refine r_aload_n 60 dX3_fit_59 rfl rfl ?_
    refine r_iload_n 61 dX3_fit_60 rfl rfl ?_
    refine r_aload_n 62 dX3_fit_61 rfl rfl ?_
    refine r_iload 64 dX3_fit_62 rfl rfl ?_
    obtain ⟨r_11, M_9, hc_10, hS, h⟩ := h
    refine v_1 (ci := 3) (C := (RX3, TX3, 4)) [vR (some (13, k1)), vI x2, vR (some (14, k3)), vI x4] [vI (aUshr (aMul ((aOr (aShl (aOr (aShl (aOr (aShl (M.1 13 k1 0) 4) x2) 6) (M.1 14 k3 0)) 12) x4) + 1) (-1640531535)) 22), vR (some (25, 0))] 67 dX3_fit_64 rfl rfl rfl rfl rfl mo_X3_evaluate ml_3_43 rfl rfl hc_10 ?_
    obtain ⟨⟨o_12, o_13, o_14⟩, h⟩ := h
    refine s_I 1024 68 dX3_fit_67 rfl rfl (by decide) rfl rfl o_12 ?_
    refine r_aload_n 69 dX3_fit_68 rfl rfl ?_
    refine g_R 72 dX3_fit_69 rfl rfl rfl fr_3_15 (mR_0 (sh_3_1 hS)) ?_
    refine r_iload 74 dX3_fit_72 rfl rfl ?_
    refine r_iload 76 dX3_fit_74 rfl rfl ?_
    refine s_I 1024 77 dX3_fit_76 rfl rfl (by decide) rfl rfl o_13 ?_
    refine r_aload_n 78 dX3_fit_77 rfl rfl ?_
    refine r_iconst 79 dX3_fit_78 rfl (InR_of rfl) ?_
    refine p_Z 82 dX3_fit_79 rfl rfl rfl rfl pf_3_21 (.inl rfl) rfl (.inr rfl) ?_
    refine r_aload_n 83 dX3_fit_82 rfl rfl ?_
    refine g_R 86 dX3_fit_83 rfl rfl rfl fr_3_18 (mR_0 (sh_3_2 hS)) ?_
    refine r_iload 88 dX3_fit_86 rfl rfl ?_
    refine a_I 1024 89 dX3_fit_88 rfl rfl rfl rfl o_14 (mI_0 ((upI_f rfl).trans ((upI_f rfl).trans (upI_s)))) ?_
    refine r_istore (ls' := [some (vR (some (8, 0))), some (vR (some (13, k1))), some (vI x2), some (vR (some (14, k3))), some (vI x4), some (vI (aOr (aShl (aOr (aShl (M.1 13 k1 0) 4) x2) 6) (M.1 14 k3 0))), some (vI ((aOr (aShl (aOr (aShl (aOr (aShl (M.1 13 k1 0) 4) x2) 6) (M.1 14 k3 0)) 12) x4) + 1)), some (vI (aUshr (aMul ((aOr (aShl (aOr (aShl (aOr (aShl (M.1 13 k1 0) 4) x2) 6) (M.1 14 k3 0)) 12) x4) + 1) (-1640531535)) 22)), some (vI r_11)]) 91 dX3_fit_89 rfl rfl rfl rfl ?_
    refine r_aload_n 92 dX3_fit_91 rfl rfl ?_
    refine g_I 95 dX3_fit_92 rfl rfl rfl fi_3_47 (mI_0 ((upI_f rfl).trans ((upI_f rfl).trans (upI_f rfl)))) ?_
    refine r_if_eq 98 111 dX3_fit_95 rfl rfl (fun c => ?_) (fun c => ?_)
    · have h := h.1 (c)
      refine r_iload 113 dX3_fit_111 rfl rfl ?_
      exact r_iret dX3_fit_113 rfl (.inl rfl) h.1 h.2
    · have h := h.2 (c)
      refine r_iload 100 dX3_fit_98 rfl rfl ?_
      obtain ⟨r_17, M_15, hc_16, h⟩ := h
      refine c_1 [vI r_11] [] 103 dX3_fit_100 rfl rfl mo_J6_bitCount_0f7a4 ml_3_50 rfl rfl hc_16 ?_
      refine r_iconst 104 dX3_fit_103 rfl (InR_of rfl) ?_
      have hJ_18 : Ex l G (d + 1) mX3_fit 113 [some (vR (some (8, 0))), some (vR (some (13, k1))), some (vI x2), some (vR (some (14, k3))), some (vI x4), some (vI (aOr (aShl (aOr (aShl (M.1 13 k1 0) 4) x2) 6) (M.1 14 k3 0))), some (vI ((aOr (aShl (aOr (aShl (aOr (aShl (M.1 13 k1 0) 4) x2) 6) (M.1 14 k3 0)) 12) x4) + 1)), some (vI (aUshr (aMul ((aOr (aShl (aOr (aShl (aOr (aShl (M.1 13 k1 0) 4) x2) 6) (M.1 14 k3 0)) 12) x4) + 1) (-1640531535)) 22)), some (vI r_11)] [vI (if r_17 ≤ 1 then r_11 else 0 : Int)] M_15 r M' := by
        exact r_iret dX3_fit_113 rfl (.inl rfl) h.1 h.2
      refine r_icmp_le 107 111 dX3_fit_104 rfl rfl (fun c => ?_) (fun c => ?_)
      · have c_19 := c
        refine r_iload 113 dX3_fit_111 rfl rfl ?_
        exact (Ex.at hJ_18 rfl (show [vI r_11] = [vI (if r_17 ≤ 1 then r_11 else 0 : Int)] by simp only [if_pos c_19]) rfl)
      · have c_19 := c
        refine r_iconst 108 dX3_fit_107 rfl (InR_of rfl) ?_
        refine r_goto 113 dX3_fit_108 rfl ?_
        exact (Ex.at hJ_18 rfl (show [vI 0] = [vI (if r_17 ≤ 1 then r_11 else 0 : Int)] by simp only [if_neg c_19]) rfl)

set_option maxRecDepth 4000 in
theorem xX3_evaluate_0 {l : Launch} {G : Gt} {d : Nat} {M M' : Mem} {r : Option Vl} {k1 : Nat} {x2 : Int} {k3 : Nat} {x4 : Int} (h : 
    Ex l G d mX3_evaluate 6 [some (vR (some (8, 0))), some (vR (some (13, k1))), some (vI x2), some (vR (some (14, k3))), some (vI x4), some (vI 0), some (vI 0), none, none, none, none] [] M r M') : Cl l G d mX3_evaluate [vR (some (8, 0)), vR (some (13, k1)), vI x2, vR (some (14, k3)), vI x4] M r M' := by
  show Ex l G d mX3_evaluate 0 [some (vR (some (8, 0))), some (vR (some (13, k1))), some (vI x2), some (vR (some (14, k3))), some (vI x4), none, none, none, none, none, none] [] M r M'
  refine r_iconst 1 dX3_evaluate_0 rfl (InR_of rfl) ?_
  refine r_istore (ls' := [some (vR (some (8, 0))), some (vR (some (13, k1))), some (vI x2), some (vR (some (14, k3))), some (vI x4), some (vI 0), none, none, none, none, none]) 3 dX3_evaluate_1 rfl rfl rfl rfl ?_
  refine r_iconst 4 dX3_evaluate_3 rfl (InR_of rfl) ?_
  refine r_istore (ls' := [some (vR (some (8, 0))), some (vR (some (13, k1))), some (vI x2), some (vR (some (14, k3))), some (vI x4), some (vI 0), some (vI 0), none, none, none, none]) 6 dX3_evaluate_4 rfl rfl rfl rfl ?_
  exact h
set_option maxRecDepth 4000 in
theorem xX3_evaluate_6 {l : Launch} {G : Gt} {d : Nat} {M M' : Mem} {r : Option Vl} {k1 : Nat} {x2 : Int} {k3 : Nat} {x4 : Int} {x5 : Int} {x6 : Int} (hS : Sh M.2.1) (h : 
    (InR (aLen M.2.2 47 k1 : Int)) ∧ (((aLen M.2.2 47 k1 : Int) ≤ x6 → ((0 ≤ x5 ∧ x5 < 401)) ∧ r = some (vI (M.1 23 0 x5.toNat)) ∧ M' = M) ∧ (¬ ((aLen M.2.2 47 k1 : Int) ≤ x6) → (400 ≤ x5 → ((0 ≤ x5 ∧ x5 < 401)) ∧ r = some (vI (M.1 23 0 x5.toNat)) ∧ M' = M) ∧ (¬ (400 ≤ x5) → ((0 ≤ x6 ∧ x6 < (aLen M.2.2 47 k1 : Int))) ∧ ((10 ≤ (M.1 47 k1 x6.toNat) → (16 ≤ (M.1 47 k1 x6.toNat) → (24 ≤ (M.1 47 k1 x6.toNat) → (¬ (M.1 47 k1 x6.toNat) = 24 → (¬ (M.1 47 k1 x6.toNat) = 25 → (x5 ≤ 1 → (InR (x6 + 1)) ∧ Ex l G d mX3_evaluate 6 [some (vR (some (8, 0))), some (vR (some (13, k1))), some (vI x2), some (vR (some (14, k3))), some (vI x4), some (vI x5), some (vI (x6 + 1)), none, none, none, none] [] M r M') ∧ (¬ (x5 ≤ 1) → (InR (x5 + (-1)) ∧ InR ((x5 + (-1)) + 1) ∧ (0 ≤ ((x5 + (-1)) + 1) ∧ ((x5 + (-1)) + 1) < 401)) ∧ (((¬ (M.1 47 k1 x6.toNat) = 26 → ((0 ≤ (x5 + (-1)) ∧ (x5 + (-1)) < 401))) ∧ (¬ (¬ (M.1 47 k1 x6.toNat) = 26) → ((0 ≤ (x5 + (-1)) ∧ (x5 + (-1)) < 401)))) ∧ ((0 ≤ (x5 + (-1)) ∧ (x5 + (-1)) < 401) ∧ InR (x6 + 1)) ∧ Ex l G d mX3_evaluate 6 [some (vR (some (8, 0))), some (vR (some (13, k1))), some (vI x2), some (vR (some (14, k3))), some (vI x4), some (vI (x5 + (-1))), some (vI (x6 + 1)), none, none, none, none] [] ((upI M.1 23 0 (x5 + (-1)).toNat (if ¬ (M.1 47 k1 x6.toNat) = 26 then (aOr (M.1 23 0 (x5 + (-1)).toNat) (M.1 23 0 ((x5 + (-1)) + 1).toNat)) else (aAnd (M.1 23 0 (x5 + (-1)).toNat) (M.1 23 0 ((x5 + (-1)) + 1).toNat)) : Int)), M.2.1, M.2.2) r M'))) ∧ (¬ (¬ (M.1 47 k1 x6.toNat) = 25) → ((0 ≤ x5 ∧ x5 < 401) ∧ (0 ≤ x5 ∧ x5 < 401) ∧ InR (x6 + 1)) ∧ Ex l G d mX3_evaluate 6 [some (vR (some (8, 0))), some (vR (some (13, k1))), some (vI x2), some (vR (some (14, k3))), some (vI x4), some (vI x5), some (vI (x6 + 1)), none, none, none, none] [] ((upI M.1 23 0 x5.toNat (aAnd x4 (aXor (M.1 23 0 x5.toNat) (-1)))), M.2.1, M.2.2) r M')) ∧ (¬ (¬ (M.1 47 k1 x6.toNat) = 24) → (InR (x5 + 1) ∧ (0 ≤ x2 ∧ x2 < 32) ∧ (0 ≤ (x5 + 1) ∧ (x5 + 1) < 401) ∧ InR (x6 + 1)) ∧ Ex l G d mX3_evaluate 6 [some (vR (some (8, 0))), some (vR (some (13, k1))), some (vI x2), some (vR (some (14, k3))), some (vI x4), some (vI (x5 + 1)), some (vI (x6 + 1)), none, none, none, none] [] ((upI M.1 23 0 (x5 + 1).toNat (aAnd (aShl 1 x2) x4)), M.2.1, M.2.2) r M')) ∧ (¬ (24 ≤ (M.1 47 k1 x6.toNat)) → (InR (x5 + 1) ∧ InR ((M.1 47 k1 x6.toNat) - 16) ∧ (0 ≤ ((M.1 47 k1 x6.toNat) - 16) ∧ ((M.1 47 k1 x6.toNat) - 16) < 8) ∧ (0 ≤ (x5 + 1) ∧ (x5 + 1) < 401) ∧ InR (x6 + 1)) ∧ Ex l G d mX3_evaluate 6 [some (vR (some (8, 0))), some (vR (some (13, k1))), some (vI x2), some (vR (some (14, k3))), some (vI x4), some (vI (x5 + 1)), some (vI (x6 + 1)), none, none, none, none] [] ((upI M.1 23 0 (x5 + 1).toNat (aAnd (M.1 32 k3 ((M.1 47 k1 x6.toNat) - 16).toNat) x4)), M.2.1, M.2.2) r M')) ∧ (¬ (16 ≤ (M.1 47 k1 x6.toNat)) → ((0 ≤ x5 ∧ x5 < 401) ∧ InR ((M.1 47 k1 x6.toNat) - 10) ∧ InR (((M.1 47 k1 x6.toNat) - 10) * 12) ∧ (0 ≤ x5 ∧ x5 < 401)) ∧ Ex l G d mX3_evaluate 100 [some (vR (some (8, 0))), some (vR (some (13, k1))), some (vI x2), some (vR (some (14, k3))), some (vI x4), some (vI x5), some (vI x6), some (vI (M.1 47 k1 x6.toNat)), some (vI (M.1 23 0 x5.toNat)), some (vI (((M.1 47 k1 x6.toNat) - 10) * 12)), some (vI 0)] [] ((upI M.1 23 0 x5.toNat 0), M.2.1, M.2.2) r M')) ∧ (¬ (10 ≤ (M.1 47 k1 x6.toNat)) → (InR (x5 + 1) ∧ (0 ≤ (M.1 47 k1 x6.toNat) ∧ (M.1 47 k1 x6.toNat) < 10) ∧ (0 ≤ (x5 + 1) ∧ (x5 + 1) < 401) ∧ InR (x6 + 1)) ∧ Ex l G d mX3_evaluate 6 [some (vR (some (8, 0))), some (vR (some (13, k1))), some (vI x2), some (vR (some (14, k3))), some (vI x4), some (vI (x5 + 1)), some (vI (x6 + 1)), none, none, none, none] [] ((upI M.1 23 0 (x5 + 1).toNat (aAnd (M.1 29 k3 (M.1 47 k1 x6.toNat).toNat) x4)), M.2.1, M.2.2) r M')))))) : Ex l G d mX3_evaluate 6 [some (vR (some (8, 0))), some (vR (some (13, k1))), some (vI x2), some (vR (some (14, k3))), some (vI x4), some (vI x5), some (vI x6), none, none, none, none] [] M r M' := by
  obtain ⟨o_1, h⟩ := h
  refine r_iload 8 dX3_evaluate_6 rfl rfl ?_
  refine r_aload_n 9 dX3_evaluate_8 rfl rfl ?_
  refine g_R 12 dX3_evaluate_9 rfl rfl rfl fr_3_56 (sh_1_1 hS _) ?_
  refine r_alen (v := (aLen M.2.2 47 k1 : Int)) 13 dX3_evaluate_12 rfl rfl (.inl rfl) rfl o_1 ?_
  refine r_icmp_ge 16 300 dX3_evaluate_13 rfl rfl (fun c => ?_) (fun c => ?_)
  · have h := h.1 (c)
    obtain ⟨o_2, h⟩ := h
    refine r_aload_n 301 dX3_evaluate_300 rfl rfl ?_
    refine g_R 304 dX3_evaluate_301 rfl rfl rfl fr_3_9 (sh_3_0 hS) ?_
    refine r_iload 306 dX3_evaluate_304 rfl rfl ?_
    refine a_I 401 307 dX3_evaluate_306 rfl rfl rfl rfl o_2 rfl ?_
    exact r_iret dX3_evaluate_307 rfl (.inl rfl) h.1 h.2
  · have h := h.2 (c)
    refine r_iload 18 dX3_evaluate_16 rfl rfl ?_
    refine r_sipush 21 dX3_evaluate_18 rfl rfl ?_
    refine r_icmp_ge 24 300 dX3_evaluate_21 rfl rfl (fun c => ?_) (fun c => ?_)
    · have h := h.1 (c)
      obtain ⟨o_3, h⟩ := h
      refine r_aload_n 301 dX3_evaluate_300 rfl rfl ?_
      refine g_R 304 dX3_evaluate_301 rfl rfl rfl fr_3_9 (sh_3_0 hS) ?_
      refine r_iload 306 dX3_evaluate_304 rfl rfl ?_
      refine a_I 401 307 dX3_evaluate_306 rfl rfl rfl rfl o_3 rfl ?_
      exact r_iret dX3_evaluate_307 rfl (.inl rfl) h.1 h.2
    · have h := h.2 (c)
      obtain ⟨o_4, h⟩ := h
      refine r_aload_n 25 dX3_evaluate_24 rfl rfl ?_
      refine g_R 28 dX3_evaluate_25 rfl rfl rfl fr_3_56 (sh_1_1 hS _) ?_
      refine r_iload 30 dX3_evaluate_28 rfl rfl ?_
      refine a_I (aLen M.2.2 47 k1 : Int) 31 dX3_evaluate_30 rfl rfl rfl rfl o_4 rfl ?_
      refine r_istore (ls' := [some (vR (some (8, 0))), some (vR (some (13, k1))), some (vI x2), some (vR (some (14, k3))), some (vI x4), some (vI x5), some (vI x6), some (vI (M.1 47 k1 x6.toNat)), none, none, none]) 33 dX3_evaluate_31 rfl rfl rfl rfl ?_
      refine r_iload 35 dX3_evaluate_33 rfl rfl ?_
      refine r_bipush 37 dX3_evaluate_35 rfl rfl ?_
      refine r_icmp_ge 40 63 dX3_evaluate_37 rfl rfl (fun c => ?_) (fun c => ?_)
      · have h := h.1 (c)
        refine r_iload 65 dX3_evaluate_63 rfl rfl ?_
        refine r_bipush 67 dX3_evaluate_65 rfl rfl ?_
        refine r_icmp_ge 70 149 dX3_evaluate_67 rfl rfl (fun c => ?_) (fun c => ?_)
        · have h := h.1 (c)
          refine r_iload 151 dX3_evaluate_149 rfl rfl ?_
          refine r_bipush 153 dX3_evaluate_151 rfl rfl ?_
          refine r_icmp_ge 156 182 dX3_evaluate_153 rfl rfl (fun c => ?_) (fun c => ?_)
          · have h := h.1 (c)
            refine r_iload 184 dX3_evaluate_182 rfl rfl ?_
            refine r_bipush 186 dX3_evaluate_184 rfl rfl ?_
            refine r_icmp_ne 189 208 dX3_evaluate_186 rfl rfl (fun c => ?_) (fun c => ?_)
            · have h := h.1 (c)
              refine r_iload 210 dX3_evaluate_208 rfl rfl ?_
              refine r_bipush 212 dX3_evaluate_210 rfl rfl ?_
              refine r_icmp_ne 215 237 dX3_evaluate_212 rfl rfl (fun c => ?_) (fun c => ?_)
              · have h := h.1 (c)
                refine r_iload 239 dX3_evaluate_237 rfl rfl ?_
                refine r_iconst 240 dX3_evaluate_239 rfl (InR_of rfl) ?_
                refine r_icmp_le 243 294 dX3_evaluate_240 rfl rfl (fun c => ?_) (fun c => ?_)
                · have h := h.1 (c)
                  obtain ⟨o_5, h⟩ := h
                  refine r_iinc (ls' := [some (vR (some (8, 0))), some (vR (some (13, k1))), some (vI x2), some (vR (some (14, k3))), some (vI x4), some (vI x5), some (vI (x6 + 1)), some (vI (M.1 47 k1 x6.toNat)), none, none, none]) 297 dX3_evaluate_294 rfl rfl rfl rfl o_5 rfl ?_
                  refine r_goto 6 dX3_evaluate_297 rfl ?_
                  exact Ex.weak h ⟨rfl, rfl, rfl, rfl, rfl, rfl, rfl, trivial⟩
                · have h := h.2 (c)
                  obtain ⟨⟨o_6, o_7, o_8⟩, h⟩ := h
                  refine r_iinc (ls' := [some (vR (some (8, 0))), some (vR (some (13, k1))), some (vI x2), some (vR (some (14, k3))), some (vI x4), some (vI (x5 + (-1))), some (vI x6), some (vI (M.1 47 k1 x6.toNat)), none, none, none]) 246 dX3_evaluate_243 rfl rfl rfl rfl o_6 rfl ?_
                  refine r_aload_n 247 dX3_evaluate_246 rfl rfl ?_
                  refine g_R 250 dX3_evaluate_247 rfl rfl rfl fr_3_9 (sh_3_0 hS) ?_
                  refine r_iload 252 dX3_evaluate_250 rfl rfl ?_
                  refine r_iconst 253 dX3_evaluate_252 rfl (InR_of rfl) ?_
                  refine r_iadd 254 dX3_evaluate_253 rfl o_7 ?_
                  refine a_I 401 255 dX3_evaluate_254 rfl rfl rfl rfl o_8 rfl ?_
                  refine r_istore (ls' := [some (vR (some (8, 0))), some (vR (some (13, k1))), some (vI x2), some (vR (some (14, k3))), some (vI x4), some (vI (x5 + (-1))), some (vI x6), some (vI (M.1 47 k1 x6.toNat)), some (vI (M.1 23 0 ((x5 + (-1)) + 1).toNat)), none, none]) 257 dX3_evaluate_255 rfl rfl rfl rfl ?_
                  refine r_aload_n 258 dX3_evaluate_257 rfl rfl ?_
                  refine g_R 261 dX3_evaluate_258 rfl rfl rfl fr_3_9 (sh_3_0 hS) ?_
                  refine r_iload 263 dX3_evaluate_261 rfl rfl ?_
                  refine r_iload 265 dX3_evaluate_263 rfl rfl ?_
                  refine r_bipush 267 dX3_evaluate_265 rfl rfl ?_
                  obtain ⟨h0, h⟩ := h
                  have hJ_9 : Ex l G d mX3_evaluate 293 [some (vR (some (8, 0))), some (vR (some (13, k1))), some (vI x2), some (vR (some (14, k3))), some (vI x4), some (vI (x5 + (-1))), some (vI x6), some (vI (M.1 47 k1 x6.toNat)), some (vI (M.1 23 0 ((x5 + (-1)) + 1).toNat)), none, none] [vI (if ¬ (M.1 47 k1 x6.toNat) = 26 then (aOr (M.1 23 0 (x5 + (-1)).toNat) (M.1 23 0 ((x5 + (-1)) + 1).toNat)) else (aAnd (M.1 23 0 (x5 + (-1)).toNat) (M.1 23 0 ((x5 + (-1)) + 1).toNat)) : Int), vI (x5 + (-1)), vR (some (23, 0))] M r M' := by
                    obtain ⟨⟨o_13, o_14⟩, h⟩ := h
                    refine s_I 401 294 dX3_evaluate_293 rfl rfl (by decide) rfl rfl o_13 ?_
                    refine r_iinc (ls' := [some (vR (some (8, 0))), some (vR (some (13, k1))), some (vI x2), some (vR (some (14, k3))), some (vI x4), some (vI (x5 + (-1))), some (vI (x6 + 1)), some (vI (M.1 47 k1 x6.toNat)), some (vI (M.1 23 0 ((x5 + (-1)) + 1).toNat)), none, none]) 297 dX3_evaluate_294 rfl rfl rfl rfl o_14 rfl ?_
                    refine r_goto 6 dX3_evaluate_297 rfl ?_
                    exact Ex.weak h ⟨rfl, rfl, rfl, rfl, rfl, rfl, rfl, trivial⟩
                  have h := h0
                  refine r_icmp_ne 270 283 dX3_evaluate_267 rfl rfl (fun c => ?_) (fun c => ?_)
                  · have c_10 := c
                    have h := h.1 c_10
                    have o_11 := h
                    refine r_aload_n 284 dX3_evaluate_283 rfl rfl ?_
                    refine g_R 287 dX3_evaluate_284 rfl rfl rfl fr_3_9 (sh_3_0 hS) ?_
                    refine r_iload 289 dX3_evaluate_287 rfl rfl ?_
                    refine a_I 401 290 dX3_evaluate_289 rfl rfl rfl rfl o_11 rfl ?_
                    refine r_iload 292 dX3_evaluate_290 rfl rfl ?_
                    refine r_ior 293 dX3_evaluate_292 rfl ?_
                    exact (Ex.at hJ_9 rfl (show [vI (aOr (M.1 23 0 (x5 + (-1)).toNat) (M.1 23 0 ((x5 + (-1)) + 1).toNat)), vI (x5 + (-1)), vR (some (23, 0))] = [vI (if ¬ (M.1 47 k1 x6.toNat) = 26 then (aOr (M.1 23 0 (x5 + (-1)).toNat) (M.1 23 0 ((x5 + (-1)) + 1).toNat)) else (aAnd (M.1 23 0 (x5 + (-1)).toNat) (M.1 23 0 ((x5 + (-1)) + 1).toNat)) : Int), vI (x5 + (-1)), vR (some (23, 0))] by simp only [if_pos c_10]) rfl)
                  · have c_10 := c
                    have h := h.2 c_10
                    have o_12 := h
                    refine r_aload_n 271 dX3_evaluate_270 rfl rfl ?_
                    refine g_R 274 dX3_evaluate_271 rfl rfl rfl fr_3_9 (sh_3_0 hS) ?_
                    refine r_iload 276 dX3_evaluate_274 rfl rfl ?_
                    refine a_I 401 277 dX3_evaluate_276 rfl rfl rfl rfl o_12 rfl ?_
                    refine r_iload 279 dX3_evaluate_277 rfl rfl ?_
                    refine r_iand 280 dX3_evaluate_279 rfl ?_
                    refine r_goto 293 dX3_evaluate_280 rfl ?_
                    exact (Ex.at hJ_9 rfl (show [vI (aAnd (M.1 23 0 (x5 + (-1)).toNat) (M.1 23 0 ((x5 + (-1)) + 1).toNat)), vI (x5 + (-1)), vR (some (23, 0))] = [vI (if ¬ (M.1 47 k1 x6.toNat) = 26 then (aOr (M.1 23 0 (x5 + (-1)).toNat) (M.1 23 0 ((x5 + (-1)) + 1).toNat)) else (aAnd (M.1 23 0 (x5 + (-1)).toNat) (M.1 23 0 ((x5 + (-1)) + 1).toNat)) : Int), vI (x5 + (-1)), vR (some (23, 0))] by simp only [if_neg c_10]) rfl)
              · have h := h.2 (c)
                obtain ⟨⟨o_15, o_16, o_17⟩, h⟩ := h
                refine r_aload_n 216 dX3_evaluate_215 rfl rfl ?_
                refine g_R 219 dX3_evaluate_216 rfl rfl rfl fr_3_9 (sh_3_0 hS) ?_
                refine r_iload 221 dX3_evaluate_219 rfl rfl ?_
                refine r_iload 223 dX3_evaluate_221 rfl rfl ?_
                refine r_aload_n 224 dX3_evaluate_223 rfl rfl ?_
                refine g_R 227 dX3_evaluate_224 rfl rfl rfl fr_3_9 (sh_3_0 hS) ?_
                refine r_iload 229 dX3_evaluate_227 rfl rfl ?_
                refine a_I 401 230 dX3_evaluate_229 rfl rfl rfl rfl o_15 rfl ?_
                refine r_iconst 231 dX3_evaluate_230 rfl (InR_of rfl) ?_
                refine r_ixor 232 dX3_evaluate_231 rfl ?_
                refine r_iand 233 dX3_evaluate_232 rfl ?_
                refine s_I 401 234 dX3_evaluate_233 rfl rfl (by decide) rfl rfl o_16 ?_
                refine r_goto 294 dX3_evaluate_234 rfl ?_
                refine r_iinc (ls' := [some (vR (some (8, 0))), some (vR (some (13, k1))), some (vI x2), some (vR (some (14, k3))), some (vI x4), some (vI x5), some (vI (x6 + 1)), some (vI (M.1 47 k1 x6.toNat)), none, none, none]) 297 dX3_evaluate_294 rfl rfl rfl rfl o_17 rfl ?_
                refine r_goto 6 dX3_evaluate_297 rfl ?_
                exact Ex.weak h ⟨rfl, rfl, rfl, rfl, rfl, rfl, rfl, trivial⟩
            · have h := h.2 (c)
              obtain ⟨⟨o_18, o_19, o_20, o_21⟩, h⟩ := h
              refine r_iinc (ls' := [some (vR (some (8, 0))), some (vR (some (13, k1))), some (vI x2), some (vR (some (14, k3))), some (vI x4), some (vI (x5 + 1)), some (vI x6), some (vI (M.1 47 k1 x6.toNat)), none, none, none]) 192 dX3_evaluate_189 rfl rfl rfl rfl o_18 rfl ?_
              refine r_aload_n 193 dX3_evaluate_192 rfl rfl ?_
              refine g_R 196 dX3_evaluate_193 rfl rfl rfl fr_3_9 (sh_3_0 hS) ?_
              refine r_iload 198 dX3_evaluate_196 rfl rfl ?_
              refine r_iconst 199 dX3_evaluate_198 rfl (InR_of rfl) ?_
              refine r_iload_n 200 dX3_evaluate_199 rfl rfl ?_
              refine r_ishl 201 dX3_evaluate_200 rfl o_19 ?_
              refine r_iload 203 dX3_evaluate_201 rfl rfl ?_
              refine r_iand 204 dX3_evaluate_203 rfl ?_
              refine s_I 401 205 dX3_evaluate_204 rfl rfl (by decide) rfl rfl o_20 ?_
              refine r_goto 294 dX3_evaluate_205 rfl ?_
              refine r_iinc (ls' := [some (vR (some (8, 0))), some (vR (some (13, k1))), some (vI x2), some (vR (some (14, k3))), some (vI x4), some (vI (x5 + 1)), some (vI (x6 + 1)), some (vI (M.1 47 k1 x6.toNat)), none, none, none]) 297 dX3_evaluate_294 rfl rfl rfl rfl o_21 rfl ?_
              refine r_goto 6 dX3_evaluate_297 rfl ?_
              exact Ex.weak h ⟨rfl, rfl, rfl, rfl, rfl, rfl, rfl, trivial⟩
          · have h := h.2 (c)
            obtain ⟨⟨o_22, o_23, o_24, o_25, o_26⟩, h⟩ := h
            refine r_iinc (ls' := [some (vR (some (8, 0))), some (vR (some (13, k1))), some (vI x2), some (vR (some (14, k3))), some (vI x4), some (vI (x5 + 1)), some (vI x6), some (vI (M.1 47 k1 x6.toNat)), none, none, none]) 159 dX3_evaluate_156 rfl rfl rfl rfl o_22 rfl ?_
            refine r_aload_n 160 dX3_evaluate_159 rfl rfl ?_
            refine g_R 163 dX3_evaluate_160 rfl rfl rfl fr_3_9 (sh_3_0 hS) ?_
            refine r_iload 165 dX3_evaluate_163 rfl rfl ?_
            refine r_aload_n 166 dX3_evaluate_165 rfl rfl ?_
            refine g_R 169 dX3_evaluate_166 rfl rfl rfl fr_3_65 (sh_7_4 hS _) ?_
            refine r_iload 171 dX3_evaluate_169 rfl rfl ?_
            refine r_bipush 173 dX3_evaluate_171 rfl rfl ?_
            refine r_isub 174 dX3_evaluate_173 rfl o_23 ?_
            refine a_I 8 175 dX3_evaluate_174 rfl rfl rfl rfl o_24 rfl ?_
            refine r_iload 177 dX3_evaluate_175 rfl rfl ?_
            refine r_iand 178 dX3_evaluate_177 rfl ?_
            refine s_I 401 179 dX3_evaluate_178 rfl rfl (by decide) rfl rfl o_25 ?_
            refine r_goto 294 dX3_evaluate_179 rfl ?_
            refine r_iinc (ls' := [some (vR (some (8, 0))), some (vR (some (13, k1))), some (vI x2), some (vR (some (14, k3))), some (vI x4), some (vI (x5 + 1)), some (vI (x6 + 1)), some (vI (M.1 47 k1 x6.toNat)), none, none, none]) 297 dX3_evaluate_294 rfl rfl rfl rfl o_26 rfl ?_
            refine r_goto 6 dX3_evaluate_297 rfl ?_
            exact Ex.weak h ⟨rfl, rfl, rfl, rfl, rfl, rfl, rfl, trivial⟩
        · have h := h.2 (c)
          obtain ⟨⟨o_27, o_28, o_29, o_30⟩, h⟩ := h
          refine r_aload_n 71 dX3_evaluate_70 rfl rfl ?_
          refine g_R 74 dX3_evaluate_71 rfl rfl rfl fr_3_9 (sh_3_0 hS) ?_
          refine r_iload 76 dX3_evaluate_74 rfl rfl ?_
          refine a_I 401 77 dX3_evaluate_76 rfl rfl rfl rfl o_27 rfl ?_
          refine r_istore (ls' := [some (vR (some (8, 0))), some (vR (some (13, k1))), some (vI x2), some (vR (some (14, k3))), some (vI x4), some (vI x5), some (vI x6), some (vI (M.1 47 k1 x6.toNat)), some (vI (M.1 23 0 x5.toNat)), none, none]) 79 dX3_evaluate_77 rfl rfl rfl rfl ?_
          refine r_iload 81 dX3_evaluate_79 rfl rfl ?_
          refine r_bipush 83 dX3_evaluate_81 rfl rfl ?_
          refine r_isub 84 dX3_evaluate_83 rfl o_28 ?_
          refine r_bipush 86 dX3_evaluate_84 rfl rfl ?_
          refine r_imul 87 dX3_evaluate_86 rfl o_29 ?_
          refine r_istore (ls' := [some (vR (some (8, 0))), some (vR (some (13, k1))), some (vI x2), some (vR (some (14, k3))), some (vI x4), some (vI x5), some (vI x6), some (vI (M.1 47 k1 x6.toNat)), some (vI (M.1 23 0 x5.toNat)), some (vI (((M.1 47 k1 x6.toNat) - 10) * 12)), none]) 89 dX3_evaluate_87 rfl rfl rfl rfl ?_
          refine r_aload_n 90 dX3_evaluate_89 rfl rfl ?_
          refine g_R 93 dX3_evaluate_90 rfl rfl rfl fr_3_9 (sh_3_0 hS) ?_
          refine r_iload 95 dX3_evaluate_93 rfl rfl ?_
          refine r_iconst 96 dX3_evaluate_95 rfl (InR_of rfl) ?_
          refine s_I 401 97 dX3_evaluate_96 rfl rfl (by decide) rfl rfl o_30 ?_
          refine r_iconst 98 dX3_evaluate_97 rfl (InR_of rfl) ?_
          refine r_istore (ls' := [some (vR (some (8, 0))), some (vR (some (13, k1))), some (vI x2), some (vR (some (14, k3))), some (vI x4), some (vI x5), some (vI x6), some (vI (M.1 47 k1 x6.toNat)), some (vI (M.1 23 0 x5.toNat)), some (vI (((M.1 47 k1 x6.toNat) - 10) * 12)), some (vI 0)]) 100 dX3_evaluate_98 rfl rfl rfl rfl ?_
          exact h
      · have h := h.2 (c)
        obtain ⟨⟨o_31, o_32, o_33, o_34⟩, h⟩ := h
        refine r_iinc (ls' := [some (vR (some (8, 0))), some (vR (some (13, k1))), some (vI x2), some (vR (some (14, k3))), some (vI x4), some (vI (x5 + 1)), some (vI x6), some (vI (M.1 47 k1 x6.toNat)), none, none, none]) 43 dX3_evaluate_40 rfl rfl rfl rfl o_31 rfl ?_
        refine r_aload_n 44 dX3_evaluate_43 rfl rfl ?_
        refine g_R 47 dX3_evaluate_44 rfl rfl rfl fr_3_9 (sh_3_0 hS) ?_
        refine r_iload 49 dX3_evaluate_47 rfl rfl ?_
        refine r_aload_n 50 dX3_evaluate_49 rfl rfl ?_
        refine g_R 53 dX3_evaluate_50 rfl rfl rfl fr_3_59 (sh_7_1 hS _) ?_
        refine r_iload 55 dX3_evaluate_53 rfl rfl ?_
        refine a_I 10 56 dX3_evaluate_55 rfl rfl rfl rfl o_32 rfl ?_
        refine r_iload 58 dX3_evaluate_56 rfl rfl ?_
        refine r_iand 59 dX3_evaluate_58 rfl ?_
        refine s_I 401 60 dX3_evaluate_59 rfl rfl (by decide) rfl rfl o_33 ?_
        refine r_goto 294 dX3_evaluate_60 rfl ?_
        refine r_iinc (ls' := [some (vR (some (8, 0))), some (vR (some (13, k1))), some (vI x2), some (vR (some (14, k3))), some (vI x4), some (vI (x5 + 1)), some (vI (x6 + 1)), some (vI (M.1 47 k1 x6.toNat)), none, none, none]) 297 dX3_evaluate_294 rfl rfl rfl rfl o_34 rfl ?_
        refine r_goto 6 dX3_evaluate_297 rfl ?_
        exact Ex.weak h ⟨rfl, rfl, rfl, rfl, rfl, rfl, rfl, trivial⟩
set_option maxRecDepth 4000 in
theorem xX3_evaluate_100 {l : Launch} {G : Gt} {d : Nat} {M M' : Mem} {r : Option Vl} {k1 : Nat} {x2 : Int} {k3 : Nat} {x4 : Int} {x5 : Int} {x6 : Int} {x7 : Int} {x8 : Int} {x9 : Int} {x10 : Int} (hS : Sh M.2.1) (h : 
    (12 ≤ x10 → (InR (x6 + 1)) ∧ Ex l G d mX3_evaluate 6 [some (vR (some (8, 0))), some (vR (some (13, k1))), some (vI x2), some (vR (some (14, k3))), some (vI x4), some (vI x5), some (vI (x6 + 1)), none, none, none, none] [] M r M') ∧ (¬ (12 ≤ x10) → (InR (x9 + x10) ∧ (0 ≤ (x9 + x10) ∧ (x9 + x10) < 72)) ∧ (((aAnd (M.1 30 k3 (x9 + x10).toNat) x8) = 0 → (InR (x10 + 1)) ∧ Ex l G d mX3_evaluate 100 [some (vR (some (8, 0))), some (vR (some (13, k1))), some (vI x2), some (vR (some (14, k3))), some (vI x4), some (vI x5), some (vI x6), some (vI x7), some (vI x8), some (vI x9), some (vI (x10 + 1))] [] M r M') ∧ (¬ ((aAnd (M.1 30 k3 (x9 + x10).toNat) x8) = 0) → ((0 ≤ x5 ∧ x5 < 401) ∧ (0 ≤ x10 ∧ x10 < 32) ∧ (0 ≤ x5 ∧ x5 < 401) ∧ InR (x10 + 1)) ∧ Ex l G d mX3_evaluate 100 [some (vR (some (8, 0))), some (vR (some (13, k1))), some (vI x2), some (vR (some (14, k3))), some (vI x4), some (vI x5), some (vI x6), some (vI x7), some (vI x8), some (vI x9), some (vI (x10 + 1))] [] ((upI M.1 23 0 x5.toNat (aOr (M.1 23 0 x5.toNat) (aAnd (aShl 1 x10) x4))), M.2.1, M.2.2) r M')))) : Ex l G d mX3_evaluate 100 [some (vR (some (8, 0))), some (vR (some (13, k1))), some (vI x2), some (vR (some (14, k3))), some (vI x4), some (vI x5), some (vI x6), some (vI x7), some (vI x8), some (vI x9), some (vI x10)] [] M r M' := by
  refine r_iload 102 dX3_evaluate_100 rfl rfl ?_
  refine r_bipush 104 dX3_evaluate_102 rfl rfl ?_
  refine r_icmp_ge 107 146 dX3_evaluate_104 rfl rfl (fun c => ?_) (fun c => ?_)
  · have h := h.1 (c)
    obtain ⟨o_1, h⟩ := h
    refine r_goto 294 dX3_evaluate_146 rfl ?_
    refine r_iinc (ls' := [some (vR (some (8, 0))), some (vR (some (13, k1))), some (vI x2), some (vR (some (14, k3))), some (vI x4), some (vI x5), some (vI (x6 + 1)), some (vI x7), some (vI x8), some (vI x9), some (vI x10)]) 297 dX3_evaluate_294 rfl rfl rfl rfl o_1 rfl ?_
    refine r_goto 6 dX3_evaluate_297 rfl ?_
    exact Ex.weak h ⟨rfl, rfl, rfl, rfl, rfl, rfl, rfl, trivial⟩
  · have h := h.2 (c)
    obtain ⟨⟨o_2, o_3⟩, h⟩ := h
    refine r_aload_n 108 dX3_evaluate_107 rfl rfl ?_
    refine g_R 111 dX3_evaluate_108 rfl rfl rfl fr_3_62 (sh_7_2 hS _) ?_
    refine r_iload 113 dX3_evaluate_111 rfl rfl ?_
    refine r_iload 115 dX3_evaluate_113 rfl rfl ?_
    refine r_iadd 116 dX3_evaluate_115 rfl o_2 ?_
    refine a_I 72 117 dX3_evaluate_116 rfl rfl rfl rfl o_3 rfl ?_
    refine r_iload 119 dX3_evaluate_117 rfl rfl ?_
    refine r_iand 120 dX3_evaluate_119 rfl ?_
    refine r_if_eq 123 140 dX3_evaluate_120 rfl rfl (fun c => ?_) (fun c => ?_)
    · have h := h.1 (c)
      obtain ⟨o_4, h⟩ := h
      refine r_iinc (ls' := [some (vR (some (8, 0))), some (vR (some (13, k1))), some (vI x2), some (vR (some (14, k3))), some (vI x4), some (vI x5), some (vI x6), some (vI x7), some (vI x8), some (vI x9), some (vI (x10 + 1))]) 143 dX3_evaluate_140 rfl rfl rfl rfl o_4 rfl ?_
      refine r_goto 100 dX3_evaluate_143 rfl ?_
      exact h
    · have h := h.2 (c)
      obtain ⟨⟨o_5, o_6, o_7, o_8⟩, h⟩ := h
      refine r_aload_n 124 dX3_evaluate_123 rfl rfl ?_
      refine g_R 127 dX3_evaluate_124 rfl rfl rfl fr_3_9 (sh_3_0 hS) ?_
      refine r_iload 129 dX3_evaluate_127 rfl rfl ?_
      refine r_dup2 130 dX3_evaluate_129 rfl rfl ?_
      refine a_I 401 131 dX3_evaluate_130 rfl rfl rfl rfl o_5 rfl ?_
      refine r_iconst 132 dX3_evaluate_131 rfl (InR_of rfl) ?_
      refine r_iload 134 dX3_evaluate_132 rfl rfl ?_
      refine r_ishl 135 dX3_evaluate_134 rfl o_6 ?_
      refine r_iload 137 dX3_evaluate_135 rfl rfl ?_
      refine r_iand 138 dX3_evaluate_137 rfl ?_
      refine r_ior 139 dX3_evaluate_138 rfl ?_
      refine s_I 401 140 dX3_evaluate_139 rfl rfl (by decide) rfl rfl o_7 ?_
      refine r_iinc (ls' := [some (vR (some (8, 0))), some (vR (some (13, k1))), some (vI x2), some (vR (some (14, k3))), some (vI x4), some (vI x5), some (vI x6), some (vI x7), some (vI x8), some (vI x9), some (vI (x10 + 1))]) 143 dX3_evaluate_140 rfl rfl rfl rfl o_8 rfl ?_
      refine r_goto 100 dX3_evaluate_143 rfl ?_
      exact h

set_option maxRecDepth 4000 in
theorem xX4_init_0 {l : Launch} {G : Gt} {d : Nat} {M M' : Mem} {r : Option Vl}  (h : 
    (∀ M_1 : Mem, newM M 26 512 512 = M_1 → (∀ M_2 : Mem, newM (M_1.1, (upR M_1.2.1 11 0 0 (some (26, cCnt M.2.2 26))), M_1.2.2) 27 16 16 = M_2 → r = none ∧ M' = (M_2.1, (upR M_2.2.1 11 0 2 (some (27, cCnt M_1.2.2 27))), M_2.2.2)))) : Cl l G (d + 1) mX4_init [vR (some (11, 0))] M r M' := by
  show Ex l G (d + 1) mX4_init 0 [some (vR (some (11, 0)))] [] M r M'
  refine r_aload_n 1 dX4_init_0 rfl rfl ?_
  refine r_objInit 4 dX4_init_1 rfl rfl ⟨(inT2 (List.mem_of_getElem? (i := 60) rfl) rfl), (inT1 (List.mem_of_getElem? (i := 28) rfl) rfl), (inT1 (List.mem_of_getElem? (i := 29) rfl) rfl)⟩ rfl ?_
  refine r_aload_n 5 dX4_init_4 rfl rfl ?_
  refine r_sipush 8 dX4_init_5 rfl rfl ?_
  refine r_newa (f := 26) (k := 1) (n := 512) 10 dX4_init_8 rfl rfl rfl (by decide) (inT1 (List.mem_of_getElem? (i := 104) rfl) rfl) rfl (by decide) (.inl rfl) ?_
  generalize hM_1 : newM M 26 512 512 = M_1
  have h := h M_1 hM_1
  refine p_R 13 dX4_init_10 rfl rfl rfl rfl pf_4_11 (.inr rfl) rfl ?_
  refine r_aload_n 14 dX4_init_13 rfl rfl ?_
  refine r_bipush 16 dX4_init_14 rfl rfl ?_
  refine r_newa (f := 27) (k := 1) (n := 16) 18 dX4_init_16 rfl rfl rfl (by decide) (inT1 (List.mem_of_getElem? (i := 104) rfl) rfl) rfl (by decide) (.inl rfl) ?_
  generalize hM_2 : newM (M_1.1, (upR M_1.2.1 11 0 0 (some (26, cCnt M.2.2 26))), M_1.2.2) 27 16 16 = M_2
  have h := h M_2 hM_2
  refine p_R 21 dX4_init_18 rfl rfl rfl rfl pf_4_15 (.inr rfl) rfl ?_
  exact r_vret dX4_init_21 rfl h.1 h.2

set_option maxRecDepth 4000 in
theorem xX4_clear_0 {l : Launch} {G : Gt} {d : Nat} {M M' : Mem} {r : Option Vl}  (h : 
    r = none ∧ M' = ((upI (upI (upI (upI (upI (upI M.1 11 0 1 0) 11 0 3 0) 11 0 4 0) 11 0 5 0) 11 0 6 10000) 11 0 7 17), M.2.1, M.2.2)) : Cl l G d mX4_clear [vR (some (11, 0))] M r M' := by
  show Ex l G d mX4_clear 0 [some (vR (some (11, 0)))] [] M r M'
  refine r_aload_n 1 dX4_clear_0 rfl rfl ?_
  refine r_iconst 2 dX4_clear_1 rfl (InR_of rfl) ?_
  refine p_I 5 dX4_clear_2 rfl rfl rfl rfl pf_4_18 (.inl rfl) rfl ?_
  refine r_aload_n 6 dX4_clear_5 rfl rfl ?_
  refine r_iconst 7 dX4_clear_6 rfl (InR_of rfl) ?_
  refine p_I 10 dX4_clear_7 rfl rfl rfl rfl pf_4_22 (.inl rfl) rfl ?_
  refine r_aload_n 11 dX4_clear_10 rfl rfl ?_
  refine r_iconst 12 dX4_clear_11 rfl (InR_of rfl) ?_
  refine p_Z 15 dX4_clear_12 rfl rfl rfl rfl pf_4_25 (.inl rfl) rfl (.inl rfl) ?_
  refine r_aload_n 16 dX4_clear_15 rfl rfl ?_
  refine r_iconst 17 dX4_clear_16 rfl (InR_of rfl) ?_
  refine p_I 20 dX4_clear_17 rfl rfl rfl rfl pf_4_29 (.inl rfl) rfl ?_
  refine r_aload_n 21 dX4_clear_20 rfl rfl ?_
  refine r_sipush 24 dX4_clear_21 rfl rfl ?_
  refine p_I 27 dX4_clear_24 rfl rfl rfl rfl pf_4_32 (.inl rfl) rfl ?_
  refine r_aload_n 28 dX4_clear_27 rfl rfl ?_
  refine r_bipush 30 dX4_clear_28 rfl rfl ?_
  refine p_I 33 dX4_clear_30 rfl rfl rfl rfl pf_4_35 (.inl rfl) rfl ?_
  exact r_vret dX4_clear_33 rfl h.1 h.2

set_option maxRecDepth 4000 in
theorem xX4_add_0 {l : Launch} {G : Gt} {d : Nat} {M M' : Mem} {r : Option Vl} {x1 : Int} (h : 
    ∃ (r_3 : Int) (M_1 : Mem), Cl l G d mJ6_bitCount_0f7a4 [vI x1] M (some (vI r_3)) M_1 ∧ ((¬ r_3 = 1 → (((if ¬ (M_1.1 11 0 4) = 0 then 1 else (if ¬ x1 = 0 then 0 else 1 : Int) : Int) = 0 ∨ (if ¬ (M_1.1 11 0 4) = 0 then 1 else (if ¬ x1 = 0 then 0 else 1 : Int) : Int) = 1)) ∧ Ex l G (d + 1) mX4_add 42 [some (vR (some (11, 0))), some (vI x1), some (vI 0), some (vI 0)] [] ((upI M_1.1 11 0 4 (if ¬ (M_1.1 11 0 4) = 0 then 1 else (if ¬ x1 = 0 then 0 else 1 : Int) : Int)), M_1.2.1, M_1.2.2) r M') ∧ (¬ (¬ r_3 = 1) → (((if ¬ (M_1.1 11 0 4) = 0 then 1 else (if ¬ x1 = 0 then 0 else 1 : Int) : Int) = 0 ∨ (if ¬ (M_1.1 11 0 4) = 0 then 1 else (if ¬ x1 = 0 then 0 else 1 : Int) : Int) = 1)) ∧ Ex l G (d + 1) mX4_add 42 [some (vR (some (11, 0))), some (vI x1), some (vI 0), some (vI 0)] [] ((upI (upI M_1.1 11 0 3 (aOr (M_1.1 11 0 3) x1)) 11 0 4 (if ¬ (M_1.1 11 0 4) = 0 then 1 else (if ¬ x1 = 0 then 0 else 1 : Int) : Int)), M_1.2.1, M_1.2.2) r M'))) : Cl l G (d + 1) mX4_add [vR (some (11, 0)), vI x1] M r M' := by
  show Ex l G (d + 1) mX4_add 0 [some (vR (some (11, 0))), some (vI x1), none, none] [] M r M'
  refine r_iload_n 1 dX4_add_0 rfl rfl ?_
  obtain ⟨r_3, M_1, hc_2, h⟩ := h
  refine c_1 [vI x1] [] 4 dX4_add_1 rfl rfl mo_J6_bitCount_0f7a4 ml_4_38 rfl rfl hc_2 ?_
  refine r_iconst 5 dX4_add_4 rfl (InR_of rfl) ?_
  refine r_icmp_ne 8 18 dX4_add_5 rfl rfl (fun c => ?_) (fun c => ?_)
  · have h := h.1 (c)
    refine r_aload_n 19 dX4_add_18 rfl rfl ?_
    refine r_aload_n 20 dX4_add_19 rfl rfl ?_
    refine g_I 23 dX4_add_20 rfl rfl rfl fi_4_25 rfl ?_
    have hJ_4 : Ex l G (d + 1) mX4_add 35 [some (vR (some (11, 0))), some (vI x1), none, none] [vI (if ¬ (M_1.1 11 0 4) = 0 then 1 else (if ¬ x1 = 0 then 0 else 1 : Int) : Int), vR (some (11, 0))] M_1 r M' := by
      obtain ⟨o_7, h⟩ := h
      refine p_Z 38 dX4_add_35 rfl rfl rfl rfl pf_4_25 (.inl rfl) rfl o_7 ?_
      refine r_iconst 39 dX4_add_38 rfl (InR_of rfl) ?_
      refine r_istore_n (ls' := [some (vR (some (11, 0))), some (vI x1), some (vI 0), none]) 40 dX4_add_39 rfl rfl rfl rfl ?_
      refine r_iconst 41 dX4_add_40 rfl (InR_of rfl) ?_
      refine r_istore_n (ls' := [some (vR (some (11, 0))), some (vI x1), some (vI 0), some (vI 0)]) 42 dX4_add_41 rfl rfl rfl rfl ?_
      exact h
    refine r_if_ne 26 30 dX4_add_23 rfl rfl (fun c => ?_) (fun c => ?_)
    · have c_5 := c
      refine r_iconst 31 dX4_add_30 rfl (InR_of rfl) ?_
      refine r_goto 35 dX4_add_31 rfl ?_
      exact (Ex.at hJ_4 rfl (show [vI 1, vR (some (11, 0))] = [vI (if ¬ (M_1.1 11 0 4) = 0 then 1 else (if ¬ x1 = 0 then 0 else 1 : Int) : Int), vR (some (11, 0))] by simp only [if_pos c_5]) rfl)
    · have c_5 := c
      refine r_iload_n 27 dX4_add_26 rfl rfl ?_
      refine r_if_ne 30 34 dX4_add_27 rfl rfl (fun c => ?_) (fun c => ?_)
      · have c_6 := c
        refine r_iconst 35 dX4_add_34 rfl (InR_of rfl) ?_
        exact (Ex.at hJ_4 rfl (show [vI 0, vR (some (11, 0))] = [vI (if ¬ (M_1.1 11 0 4) = 0 then 1 else (if ¬ x1 = 0 then 0 else 1 : Int) : Int), vR (some (11, 0))] by simp only [if_neg c_5, if_pos c_6]) rfl)
      · have c_6 := c
        refine r_iconst 31 dX4_add_30 rfl (InR_of rfl) ?_
        refine r_goto 35 dX4_add_31 rfl ?_
        exact (Ex.at hJ_4 rfl (show [vI 1, vR (some (11, 0))] = [vI (if ¬ (M_1.1 11 0 4) = 0 then 1 else (if ¬ x1 = 0 then 0 else 1 : Int) : Int), vR (some (11, 0))] by simp only [if_neg c_5, if_neg c_6]) rfl)
  · have h := h.2 (c)
    refine r_aload_n 9 dX4_add_8 rfl rfl ?_
    refine r_dup 10 dX4_add_9 rfl rfl ?_
    refine g_I 13 dX4_add_10 rfl rfl rfl fi_4_22 rfl ?_
    refine r_iload_n 14 dX4_add_13 rfl rfl ?_
    refine r_ior 15 dX4_add_14 rfl ?_
    refine p_I 18 dX4_add_15 rfl rfl rfl rfl pf_4_22 (.inl rfl) rfl ?_
    refine r_aload_n 19 dX4_add_18 rfl rfl ?_
    refine r_aload_n 20 dX4_add_19 rfl rfl ?_
    refine g_I 23 dX4_add_20 rfl rfl rfl fi_4_25 (mI_0 (upI_i (by decide))) ?_
    have hJ_8 : Ex l G (d + 1) mX4_add 35 [some (vR (some (11, 0))), some (vI x1), none, none] [vI (if ¬ (M_1.1 11 0 4) = 0 then 1 else (if ¬ x1 = 0 then 0 else 1 : Int) : Int), vR (some (11, 0))] ((upI M_1.1 11 0 3 (aOr (M_1.1 11 0 3) x1)), M_1.2.1, M_1.2.2) r M' := by
      obtain ⟨o_11, h⟩ := h
      refine p_Z 38 dX4_add_35 rfl rfl rfl rfl pf_4_25 (.inl rfl) rfl o_11 ?_
      refine r_iconst 39 dX4_add_38 rfl (InR_of rfl) ?_
      refine r_istore_n (ls' := [some (vR (some (11, 0))), some (vI x1), some (vI 0), none]) 40 dX4_add_39 rfl rfl rfl rfl ?_
      refine r_iconst 41 dX4_add_40 rfl (InR_of rfl) ?_
      refine r_istore_n (ls' := [some (vR (some (11, 0))), some (vI x1), some (vI 0), some (vI 0)]) 42 dX4_add_41 rfl rfl rfl rfl ?_
      exact h
    refine r_if_ne 26 30 dX4_add_23 rfl rfl (fun c => ?_) (fun c => ?_)
    · have c_9 := c
      refine r_iconst 31 dX4_add_30 rfl (InR_of rfl) ?_
      refine r_goto 35 dX4_add_31 rfl ?_
      exact (Ex.at hJ_8 rfl (show [vI 1, vR (some (11, 0))] = [vI (if ¬ (M_1.1 11 0 4) = 0 then 1 else (if ¬ x1 = 0 then 0 else 1 : Int) : Int), vR (some (11, 0))] by simp only [if_pos c_9]) rfl)
    · have c_9 := c
      refine r_iload_n 27 dX4_add_26 rfl rfl ?_
      refine r_if_ne 30 34 dX4_add_27 rfl rfl (fun c => ?_) (fun c => ?_)
      · have c_10 := c
        refine r_iconst 35 dX4_add_34 rfl (InR_of rfl) ?_
        exact (Ex.at hJ_8 rfl (show [vI 0, vR (some (11, 0))] = [vI (if ¬ (M_1.1 11 0 4) = 0 then 1 else (if ¬ x1 = 0 then 0 else 1 : Int) : Int), vR (some (11, 0))] by simp only [if_neg c_9, if_pos c_10]) rfl)
      · have c_10 := c
        refine r_iconst 31 dX4_add_30 rfl (InR_of rfl) ?_
        refine r_goto 35 dX4_add_31 rfl ?_
        exact (Ex.at hJ_8 rfl (show [vI 1, vR (some (11, 0))] = [vI (if ¬ (M_1.1 11 0 4) = 0 then 1 else (if ¬ x1 = 0 then 0 else 1 : Int) : Int), vR (some (11, 0))] by simp only [if_neg c_9, if_neg c_10]) rfl)
set_option maxRecDepth 4000 in
theorem xX4_add_42 {l : Launch} {G : Gt} {d : Nat} {M M' : Mem} {r : Option Vl} {x1 : Int} {x2 : Int} {x3 : Int} (hS : Sh M.2.1) (h : 
    ((M.1 11 0 1) ≤ x3 → Ex l G (d + 1) mX4_add 72 [some (vR (some (11, 0))), some (vI x1), some (vI x2), some (vI 0)] [] M r M') ∧ (¬ ((M.1 11 0 1) ≤ x3) → ((0 ≤ x3 ∧ x3 < 512)) ∧ ((¬ (aAnd (M.1 26 0 x3.toNat) (aXor x1 (-1))) = 0 → (InR (x3 + 1)) ∧ Ex l G (d + 1) mX4_add 42 [some (vR (some (11, 0))), some (vI x1), some (vI x2), some (vI (x3 + 1))] [] M r M') ∧ (¬ (¬ (aAnd (M.1 26 0 x3.toNat) (aXor x1 (-1))) = 0) → r = none ∧ M' = M)))) : Ex l G (d + 1) mX4_add 42 [some (vR (some (11, 0))), some (vI x1), some (vI x2), some (vI x3)] [] M r M' := by
  refine r_iload_n 43 dX4_add_42 rfl rfl ?_
  refine r_aload_n 44 dX4_add_43 rfl rfl ?_
  refine g_I 47 dX4_add_44 rfl rfl rfl fi_4_18 rfl ?_
  refine r_icmp_ge 50 70 dX4_add_47 rfl rfl (fun c => ?_) (fun c => ?_)
  · have h := h.1 (c)
    refine r_iconst 71 dX4_add_70 rfl (InR_of rfl) ?_
    refine r_istore_n (ls' := [some (vR (some (11, 0))), some (vI x1), some (vI x2), some (vI 0)]) 72 dX4_add_71 rfl rfl rfl rfl ?_
    exact h
  · have h := h.2 (c)
    obtain ⟨o_1, h⟩ := h
    refine r_aload_n 51 dX4_add_50 rfl rfl ?_
    refine g_R 54 dX4_add_51 rfl rfl rfl fr_4_11 (sh_4_0 hS) ?_
    refine r_iload_n 55 dX4_add_54 rfl rfl ?_
    refine a_I 512 56 dX4_add_55 rfl rfl rfl rfl o_1 rfl ?_
    refine r_iload_n 57 dX4_add_56 rfl rfl ?_
    refine r_iconst 58 dX4_add_57 rfl (InR_of rfl) ?_
    refine r_ixor 59 dX4_add_58 rfl ?_
    refine r_iand 60 dX4_add_59 rfl ?_
    refine r_if_ne 63 64 dX4_add_60 rfl rfl (fun c => ?_) (fun c => ?_)
    · have h := h.1 (c)
      obtain ⟨o_2, h⟩ := h
      refine r_iinc (ls' := [some (vR (some (11, 0))), some (vI x1), some (vI x2), some (vI (x3 + 1))]) 67 dX4_add_64 rfl rfl rfl rfl o_2 rfl ?_
      refine r_goto 42 dX4_add_67 rfl ?_
      exact h
    · have h := h.2 (c)
      exact r_vret dX4_add_63 rfl h.1 h.2
set_option maxRecDepth 4000 in
theorem xX4_add_72 {l : Launch} {G : Gt} {d : Nat} {M M' : Mem} {r : Option Vl} {x1 : Int} {x2 : Int} {x3 : Int} (hS : Sh M.2.1) (h : 
    ((M.1 11 0 1) ≤ x3 → (512 ≤ x2 → r = none ∧ M' = ((upI M.1 11 0 1 x2), M.2.1, M.2.2)) ∧ (¬ (512 ≤ x2) → ((0 ≤ x2 ∧ x2 < 512) ∧ InR (x2 + 1)) ∧ r = none ∧ M' = ((upI (upI (upI M.1 11 0 1 x2) 26 0 x2.toNat x1) 11 0 1 (x2 + 1)), M.2.1, M.2.2))) ∧ (¬ ((M.1 11 0 1) ≤ x3) → ((0 ≤ x3 ∧ x3 < 512)) ∧ (((aAnd x1 (aXor (M.1 26 0 x3.toNat) (-1))) = 0 → (InR (x3 + 1)) ∧ Ex l G (d + 1) mX4_add 72 [some (vR (some (11, 0))), some (vI x1), some (vI x2), some (vI (x3 + 1))] [] M r M') ∧ (¬ ((aAnd x1 (aXor (M.1 26 0 x3.toNat) (-1))) = 0) → ((0 ≤ x3 ∧ x3 < 512) ∧ (0 ≤ x2 ∧ x2 < 512) ∧ InR (x2 + 1) ∧ InR (x3 + 1)) ∧ Ex l G (d + 1) mX4_add 72 [some (vR (some (11, 0))), some (vI x1), some (vI (x2 + 1)), some (vI (x3 + 1))] [] ((upI M.1 26 0 x2.toNat (M.1 26 0 x3.toNat)), M.2.1, M.2.2) r M')))) : Ex l G (d + 1) mX4_add 72 [some (vR (some (11, 0))), some (vI x1), some (vI x2), some (vI x3)] [] M r M' := by
  refine r_iload_n 73 dX4_add_72 rfl rfl ?_
  refine r_aload_n 74 dX4_add_73 rfl rfl ?_
  refine g_I 77 dX4_add_74 rfl rfl rfl fi_4_18 rfl ?_
  refine r_icmp_ge 80 114 dX4_add_77 rfl rfl (fun c => ?_) (fun c => ?_)
  · have h := h.1 (c)
    refine r_aload_n 115 dX4_add_114 rfl rfl ?_
    refine r_iload_n 116 dX4_add_115 rfl rfl ?_
    refine p_I 119 dX4_add_116 rfl rfl rfl rfl pf_4_18 (.inl rfl) rfl ?_
    refine r_aload_n 120 dX4_add_119 rfl rfl ?_
    refine g_I 123 dX4_add_120 rfl rfl rfl fi_4_18 (mI_0 (upI_s)) ?_
    refine r_sipush 126 dX4_add_123 rfl rfl ?_
    refine r_icmp_ge 129 149 dX4_add_126 rfl rfl (fun c => ?_) (fun c => ?_)
    · have h := h.1 (c)
      exact r_vret dX4_add_149 rfl h.1 h.2
    · have h := h.2 (c)
      obtain ⟨⟨o_1, o_2⟩, h⟩ := h
      refine r_aload_n 130 dX4_add_129 rfl rfl ?_
      refine g_R 133 dX4_add_130 rfl rfl rfl fr_4_11 (mR_0 (sh_4_0 hS)) ?_
      refine r_aload_n 134 dX4_add_133 rfl rfl ?_
      refine g_I 137 dX4_add_134 rfl rfl rfl fi_4_18 (mI_0 (upI_s)) ?_
      refine r_iload_n 138 dX4_add_137 rfl rfl ?_
      refine s_I 512 139 dX4_add_138 rfl rfl (by decide) rfl rfl o_1 ?_
      refine r_aload_n 140 dX4_add_139 rfl rfl ?_
      refine r_dup 141 dX4_add_140 rfl rfl ?_
      refine g_I 144 dX4_add_141 rfl rfl rfl fi_4_18 (mI_0 ((upI_f rfl).trans (upI_s))) ?_
      refine r_iconst 145 dX4_add_144 rfl (InR_of rfl) ?_
      refine r_iadd 146 dX4_add_145 rfl o_2 ?_
      refine p_I 149 dX4_add_146 rfl rfl rfl rfl pf_4_18 (.inl rfl) rfl ?_
      exact r_vret dX4_add_149 rfl h.1 h.2
  · have h := h.2 (c)
    obtain ⟨o_3, h⟩ := h
    refine r_iload_n 81 dX4_add_80 rfl rfl ?_
    refine r_aload_n 82 dX4_add_81 rfl rfl ?_
    refine g_R 85 dX4_add_82 rfl rfl rfl fr_4_11 (sh_4_0 hS) ?_
    refine r_iload_n 86 dX4_add_85 rfl rfl ?_
    refine a_I 512 87 dX4_add_86 rfl rfl rfl rfl o_3 rfl ?_
    refine r_iconst 88 dX4_add_87 rfl (InR_of rfl) ?_
    refine r_ixor 89 dX4_add_88 rfl ?_
    refine r_iand 90 dX4_add_89 rfl ?_
    refine r_if_eq 93 108 dX4_add_90 rfl rfl (fun c => ?_) (fun c => ?_)
    · have h := h.1 (c)
      obtain ⟨o_4, h⟩ := h
      refine r_iinc (ls' := [some (vR (some (11, 0))), some (vI x1), some (vI x2), some (vI (x3 + 1))]) 111 dX4_add_108 rfl rfl rfl rfl o_4 rfl ?_
      refine r_goto 72 dX4_add_111 rfl ?_
      exact h
    · have h := h.2 (c)
      obtain ⟨⟨o_5, o_6, o_7, o_8⟩, h⟩ := h
      refine r_aload_n 94 dX4_add_93 rfl rfl ?_
      refine g_R 97 dX4_add_94 rfl rfl rfl fr_4_11 (sh_4_0 hS) ?_
      refine r_iload_n 98 dX4_add_97 rfl rfl ?_
      refine r_aload_n 99 dX4_add_98 rfl rfl ?_
      refine g_R 102 dX4_add_99 rfl rfl rfl fr_4_11 (sh_4_0 hS) ?_
      refine r_iload_n 103 dX4_add_102 rfl rfl ?_
      refine a_I 512 104 dX4_add_103 rfl rfl rfl rfl o_5 rfl ?_
      refine s_I 512 105 dX4_add_104 rfl rfl (by decide) rfl rfl o_6 ?_
      refine r_iinc (ls' := [some (vR (some (11, 0))), some (vI x1), some (vI (x2 + 1)), some (vI x3)]) 108 dX4_add_105 rfl rfl rfl rfl o_7 rfl ?_
      refine r_iinc (ls' := [some (vR (some (11, 0))), some (vI x1), some (vI (x2 + 1)), some (vI (x3 + 1))]) 111 dX4_add_108 rfl rfl rfl rfl o_8 rfl ?_
      refine r_goto 72 dX4_add_111 rfl ?_
      exact h

set_option maxRecDepth 4000 in
theorem xX4_solve_0 {l : Launch} {G : Gt} {d : Nat} {M M' : Mem} {r : Option Vl}  (h : 
    ∃ (M_1 : Mem), Cl l G d mX4_search [vR (some (11, 0)), vI 0, vI 0, vI 0, vI 0] M none M_1 ∧ r = none ∧ M' = M_1) : Cl l G (d + 1) mX4_solve [vR (some (11, 0))] M r M' := by
  show Ex l G (d + 1) mX4_solve 0 [some (vR (some (11, 0)))] [] M r M'
  refine r_aload_n 1 dX4_solve_0 rfl rfl ?_
  refine r_iconst 2 dX4_solve_1 rfl (InR_of rfl) ?_
  refine r_iconst 3 dX4_solve_2 rfl (InR_of rfl) ?_
  refine r_iconst 4 dX4_solve_3 rfl (InR_of rfl) ?_
  refine r_iconst 5 dX4_solve_4 rfl (InR_of rfl) ?_
  obtain ⟨M_1, hc_2, h⟩ := h
  refine v_0 (ci := 4) (C := (RX4, TX4, 8)) [vI 0, vI 0, vI 0, vI 0] [] 8 dX4_solve_5 rfl rfl rfl rfl rfl mo_X4_search ml_4_44 rfl rfl hc_2 ?_
  exact r_vret dX4_solve_8 rfl h.1 h.2

set_option maxRecDepth 4000 in
theorem xX4_search_0 {l : Launch} {G : Gt} {d : Nat} {M M' : Mem} {r : Option Vl} {x1 : Int} {x2 : Int} {x3 : Int} {x4 : Int} (h : 
    ∃ (r_3 : Int) (M_1 : Mem), Cl l G d mX4_hardest [vR (some (11, 0)), vI x1, vI x2] M (some (vI r_3)) M_1 ∧ Sh M_1.2.1 ∧ ((¬ r_3 = (-1) → (16 ≤ x4 → r = none ∧ M' = M_1) ∧ (¬ (16 ≤ x4) → ((M_1.1 11 0 6) < x3 → r = none ∧ M' = M_1) ∧ (¬ ((M_1.1 11 0 6) < x3) → (¬ x3 = (M_1.1 11 0 6) → ((0 ≤ r_3 ∧ r_3 < 512)) ∧ Ex l G (d + 1) mX4_search 75 [some (vR (some (11, 0))), some (vI x1), some (vI x2), some (vI x3), some (vI x4), some (vI r_3), some (vI (aAnd (M_1.1 26 0 r_3.toNat) (aXor x2 (-1)))), some (vI x2), some (vI 0)] [] M_1 r M') ∧ (¬ (¬ x3 = (M_1.1 11 0 6)) → (x4 < (M_1.1 11 0 7) → ((0 ≤ r_3 ∧ r_3 < 512)) ∧ Ex l G (d + 1) mX4_search 75 [some (vR (some (11, 0))), some (vI x1), some (vI x2), some (vI x3), some (vI x4), some (vI r_3), some (vI (aAnd (M_1.1 26 0 r_3.toNat) (aXor x2 (-1)))), some (vI x2), some (vI 0)] [] M_1 r M') ∧ (¬ (x4 < (M_1.1 11 0 7)) → r = none ∧ M' = M_1))))) ∧ (¬ (¬ r_3 = (-1)) → ∃ (M_6 : Mem), Cl l G d mX4_keepIfBetter [vR (some (11, 0)), vI x1, vI x3, vI x4] M_1 none M_6 ∧ r = none ∧ M' = M_6))) : Cl l G (d + 1) mX4_search [vR (some (11, 0)), vI x1, vI x2, vI x3, vI x4] M r M' := by
  show Ex l G (d + 1) mX4_search 0 [some (vR (some (11, 0))), some (vI x1), some (vI x2), some (vI x3), some (vI x4), none, none, none, none] [] M r M'
  refine r_aload_n 1 dX4_search_0 rfl rfl ?_
  refine r_iload_n 2 dX4_search_1 rfl rfl ?_
  refine r_iload_n 3 dX4_search_2 rfl rfl ?_
  obtain ⟨r_3, M_1, hc_2, hS, h⟩ := h
  refine v_1 (ci := 4) (C := (RX4, TX4, 8)) [vI x1, vI x2] [] 6 dX4_search_3 rfl rfl rfl rfl rfl mo_X4_hardest ml_4_48 rfl rfl hc_2 ?_
  refine r_istore (ls' := [some (vR (some (11, 0))), some (vI x1), some (vI x2), some (vI x3), some (vI x4), some (vI r_3), none, none, none]) 8 dX4_search_6 rfl rfl rfl rfl ?_
  refine r_iload 10 dX4_search_8 rfl rfl ?_
  refine r_iconst 11 dX4_search_10 rfl (InR_of rfl) ?_
  refine r_icmp_ne 14 23 dX4_search_11 rfl rfl (fun c => ?_) (fun c => ?_)
  · have h := h.1 (c)
    refine r_iload 25 dX4_search_23 rfl rfl ?_
    refine r_bipush 27 dX4_search_25 rfl rfl ?_
    refine r_icmp_ge 30 55 dX4_search_27 rfl rfl (fun c => ?_) (fun c => ?_)
    · have h := h.1 (c)
      exact r_vret dX4_search_55 rfl h.1 h.2
    · have h := h.2 (c)
      refine r_iload_n 31 dX4_search_30 rfl rfl ?_
      refine r_aload_n 32 dX4_search_31 rfl rfl ?_
      refine g_I 35 dX4_search_32 rfl rfl rfl fi_4_32 rfl ?_
      refine r_icmp_gt 38 55 dX4_search_35 rfl rfl (fun c => ?_) (fun c => ?_)
      · have h := h.1 (c)
        exact r_vret dX4_search_55 rfl h.1 h.2
      · have h := h.2 (c)
        refine r_iload_n 39 dX4_search_38 rfl rfl ?_
        refine r_aload_n 40 dX4_search_39 rfl rfl ?_
        refine g_I 43 dX4_search_40 rfl rfl rfl fi_4_32 rfl ?_
        refine r_icmp_ne 46 56 dX4_search_43 rfl rfl (fun c => ?_) (fun c => ?_)
        · have h := h.1 (c)
          obtain ⟨o_4, h⟩ := h
          refine r_aload_n 57 dX4_search_56 rfl rfl ?_
          refine g_R 60 dX4_search_57 rfl rfl rfl fr_4_11 (sh_4_0 hS) ?_
          refine r_iload 62 dX4_search_60 rfl rfl ?_
          refine a_I 512 63 dX4_search_62 rfl rfl rfl rfl o_4 rfl ?_
          refine r_iload_n 64 dX4_search_63 rfl rfl ?_
          refine r_iconst 65 dX4_search_64 rfl (InR_of rfl) ?_
          refine r_ixor 66 dX4_search_65 rfl ?_
          refine r_iand 67 dX4_search_66 rfl ?_
          refine r_istore (ls' := [some (vR (some (11, 0))), some (vI x1), some (vI x2), some (vI x3), some (vI x4), some (vI r_3), some (vI (aAnd (M_1.1 26 0 r_3.toNat) (aXor x2 (-1)))), none, none]) 69 dX4_search_67 rfl rfl rfl rfl ?_
          refine r_iload_n 70 dX4_search_69 rfl rfl ?_
          refine r_istore (ls' := [some (vR (some (11, 0))), some (vI x1), some (vI x2), some (vI x3), some (vI x4), some (vI r_3), some (vI (aAnd (M_1.1 26 0 r_3.toNat) (aXor x2 (-1)))), some (vI x2), none]) 72 dX4_search_70 rfl rfl rfl rfl ?_
          refine r_iconst 73 dX4_search_72 rfl (InR_of rfl) ?_
          refine r_istore (ls' := [some (vR (some (11, 0))), some (vI x1), some (vI x2), some (vI x3), some (vI x4), some (vI r_3), some (vI (aAnd (M_1.1 26 0 r_3.toNat) (aXor x2 (-1)))), some (vI x2), some (vI 0)]) 75 dX4_search_73 rfl rfl rfl rfl ?_
          exact h
        · have h := h.2 (c)
          refine r_iload 48 dX4_search_46 rfl rfl ?_
          refine r_aload_n 49 dX4_search_48 rfl rfl ?_
          refine g_I 52 dX4_search_49 rfl rfl rfl fi_4_35 rfl ?_
          refine r_icmp_lt 55 56 dX4_search_52 rfl rfl (fun c => ?_) (fun c => ?_)
          · have h := h.1 (c)
            obtain ⟨o_5, h⟩ := h
            refine r_aload_n 57 dX4_search_56 rfl rfl ?_
            refine g_R 60 dX4_search_57 rfl rfl rfl fr_4_11 (sh_4_0 hS) ?_
            refine r_iload 62 dX4_search_60 rfl rfl ?_
            refine a_I 512 63 dX4_search_62 rfl rfl rfl rfl o_5 rfl ?_
            refine r_iload_n 64 dX4_search_63 rfl rfl ?_
            refine r_iconst 65 dX4_search_64 rfl (InR_of rfl) ?_
            refine r_ixor 66 dX4_search_65 rfl ?_
            refine r_iand 67 dX4_search_66 rfl ?_
            refine r_istore (ls' := [some (vR (some (11, 0))), some (vI x1), some (vI x2), some (vI x3), some (vI x4), some (vI r_3), some (vI (aAnd (M_1.1 26 0 r_3.toNat) (aXor x2 (-1)))), none, none]) 69 dX4_search_67 rfl rfl rfl rfl ?_
            refine r_iload_n 70 dX4_search_69 rfl rfl ?_
            refine r_istore (ls' := [some (vR (some (11, 0))), some (vI x1), some (vI x2), some (vI x3), some (vI x4), some (vI r_3), some (vI (aAnd (M_1.1 26 0 r_3.toNat) (aXor x2 (-1)))), some (vI x2), none]) 72 dX4_search_70 rfl rfl rfl rfl ?_
            refine r_iconst 73 dX4_search_72 rfl (InR_of rfl) ?_
            refine r_istore (ls' := [some (vR (some (11, 0))), some (vI x1), some (vI x2), some (vI x3), some (vI x4), some (vI r_3), some (vI (aAnd (M_1.1 26 0 r_3.toNat) (aXor x2 (-1)))), some (vI x2), some (vI 0)]) 75 dX4_search_73 rfl rfl rfl rfl ?_
            exact h
          · have h := h.2 (c)
            exact r_vret dX4_search_55 rfl h.1 h.2
  · have h := h.2 (c)
    refine r_aload_n 15 dX4_search_14 rfl rfl ?_
    refine r_iload_n 16 dX4_search_15 rfl rfl ?_
    refine r_iload_n 17 dX4_search_16 rfl rfl ?_
    refine r_iload 19 dX4_search_17 rfl rfl ?_
    obtain ⟨M_6, hc_7, h⟩ := h
    refine v_0 (ci := 4) (C := (RX4, TX4, 8)) [vI x1, vI x3, vI x4] [] 22 dX4_search_19 rfl rfl rfl rfl rfl mo_X4_keepIfBetter ml_4_52 rfl rfl hc_7 ?_
    exact r_vret dX4_search_22 rfl h.1 h.2
set_option maxRecDepth 4000 in
theorem xX4_search_75 {l : Launch} {G : Gt} {d : Nat} {M M' : Mem} {r : Option Vl} {x1 : Int} {x2 : Int} {x3 : Int} {x4 : Int} {x5 : Int} {x6 : Int} {x7 : Int} {x8 : Int} (h : 
    (16 ≤ x8 → r = none ∧ M' = M) ∧ (¬ (16 ≤ x8) → ∃ (r_3 : Int) (M_1 : Mem), Cl l G d mX11_hasBit [vI x6, vI x8] M (some (vI r_3)) M_1 ∧ Sh M_1.2.1 ∧ ((r_3 = 0 → (InR (x8 + 1)) ∧ Ex l G (d + 1) mX4_search 75 [some (vR (some (11, 0))), some (vI x1), some (vI x2), some (vI x3), some (vI x4), some (vI x5), some (vI x6), some (vI x7), some (vI (x8 + 1))] [] M_1 r M') ∧ (¬ (r_3 = 0) → ((0 ≤ x8 ∧ x8 < 32) ∧ (0 ≤ x8 ∧ x8 < 16) ∧ InR (x3 + (M_1.1 27 0 x8.toNat)) ∧ InR (x4 + 1)) ∧ (∃ (M_9 : Mem), Cl l G d mX4_search [vR (some (11, 0)), vI (aOr x1 (aShl 1 x8)), vI x7, vI (x3 + (M_1.1 27 0 x8.toNat)), vI (x4 + 1)] M_1 none M_9 ∧ ((0 ≤ x8 ∧ x8 < 32) ∧ InR (x8 + 1)) ∧ Ex l G (d + 1) mX4_search 75 [some (vR (some (11, 0))), some (vI x1), some (vI x2), some (vI x3), some (vI x4), some (vI x5), some (vI x6), some (vI (aOr x7 (aShl 1 x8))), some (vI (x8 + 1))] [] M_9 r M'))))) : Ex l G (d + 1) mX4_search 75 [some (vR (some (11, 0))), some (vI x1), some (vI x2), some (vI x3), some (vI x4), some (vI x5), some (vI x6), some (vI x7), some (vI x8)] [] M r M' := by
  refine r_iload 77 dX4_search_75 rfl rfl ?_
  refine r_bipush 79 dX4_search_77 rfl rfl ?_
  refine r_icmp_ge 82 132 dX4_search_79 rfl rfl (fun c => ?_) (fun c => ?_)
  · have h := h.1 (c)
    exact r_vret dX4_search_132 rfl h.1 h.2
  · have h := h.2 (c)
    refine r_iload 84 dX4_search_82 rfl rfl ?_
    refine r_iload 86 dX4_search_84 rfl rfl ?_
    obtain ⟨r_3, M_1, hc_2, hS, h⟩ := h
    refine n_1 [vI x6, vI x8] [] 89 dX4_search_86 rfl rfl mo_X11_hasBit ml_4_56 rfl rfl hc_2 ?_
    refine r_if_eq 92 126 dX4_search_89 rfl rfl (fun c => ?_) (fun c => ?_)
    · have h := h.1 (c)
      obtain ⟨o_4, h⟩ := h
      refine r_iinc (ls' := [some (vR (some (11, 0))), some (vI x1), some (vI x2), some (vI x3), some (vI x4), some (vI x5), some (vI x6), some (vI x7), some (vI (x8 + 1))]) 129 dX4_search_126 rfl rfl rfl rfl o_4 rfl ?_
      refine r_goto 75 dX4_search_129 rfl ?_
      exact h
    · have h := h.2 (c)
      obtain ⟨⟨o_5, o_6, o_7, o_8⟩, h⟩ := h
      refine r_aload_n 93 dX4_search_92 rfl rfl ?_
      refine r_iload_n 94 dX4_search_93 rfl rfl ?_
      refine r_iconst 95 dX4_search_94 rfl (InR_of rfl) ?_
      refine r_iload 97 dX4_search_95 rfl rfl ?_
      refine r_ishl 98 dX4_search_97 rfl o_5 ?_
      refine r_ior 99 dX4_search_98 rfl ?_
      refine r_iload 101 dX4_search_99 rfl rfl ?_
      refine r_iload_n 102 dX4_search_101 rfl rfl ?_
      refine r_aload_n 103 dX4_search_102 rfl rfl ?_
      refine g_R 106 dX4_search_103 rfl rfl rfl fr_4_15 (sh_4_2 hS) ?_
      refine r_iload 108 dX4_search_106 rfl rfl ?_
      refine a_I 16 109 dX4_search_108 rfl rfl rfl rfl o_6 rfl ?_
      refine r_iadd 110 dX4_search_109 rfl o_7 ?_
      refine r_iload 112 dX4_search_110 rfl rfl ?_
      refine r_iconst 113 dX4_search_112 rfl (InR_of rfl) ?_
      refine r_iadd 114 dX4_search_113 rfl o_8 ?_
      obtain ⟨M_9, hc_10, h⟩ := h
      refine v_0 (ci := 4) (C := (RX4, TX4, 8)) [vI (aOr x1 (aShl 1 x8)), vI x7, vI (x3 + (M_1.1 27 0 x8.toNat)), vI (x4 + 1)] [] 117 dX4_search_114 rfl rfl rfl rfl rfl mo_X4_search ml_4_44 rfl rfl hc_10 ?_
      obtain ⟨⟨o_11, o_12⟩, h⟩ := h
      refine r_iload 119 dX4_search_117 rfl rfl ?_
      refine r_iconst 120 dX4_search_119 rfl (InR_of rfl) ?_
      refine r_iload 122 dX4_search_120 rfl rfl ?_
      refine r_ishl 123 dX4_search_122 rfl o_11 ?_
      refine r_ior 124 dX4_search_123 rfl ?_
      refine r_istore (ls' := [some (vR (some (11, 0))), some (vI x1), some (vI x2), some (vI x3), some (vI x4), some (vI x5), some (vI x6), some (vI (aOr x7 (aShl 1 x8))), some (vI x8)]) 126 dX4_search_124 rfl rfl rfl rfl ?_
      refine r_iinc (ls' := [some (vR (some (11, 0))), some (vI x1), some (vI x2), some (vI x3), some (vI x4), some (vI x5), some (vI x6), some (vI (aOr x7 (aShl 1 x8))), some (vI (x8 + 1))]) 129 dX4_search_126 rfl rfl rfl rfl o_12 rfl ?_
      refine r_goto 75 dX4_search_129 rfl ?_
      exact h

set_option maxRecDepth 4000 in
theorem xX4_hardest_0 {l : Launch} {G : Gt} {d : Nat} {M M' : Mem} {r : Option Vl} {x1 : Int} {x2 : Int} (h : 
    Ex l G (d + 1) mX4_hardest 9 [some (vR (some (11, 0))), some (vI x1), some (vI x2), some (vI (-1)), some (vI 17), some (vI 0), none] [] M r M') : Cl l G (d + 1) mX4_hardest [vR (some (11, 0)), vI x1, vI x2] M r M' := by
  show Ex l G (d + 1) mX4_hardest 0 [some (vR (some (11, 0))), some (vI x1), some (vI x2), none, none, none, none] [] M r M'
  refine r_iconst 1 dX4_hardest_0 rfl (InR_of rfl) ?_
  refine r_istore_n (ls' := [some (vR (some (11, 0))), some (vI x1), some (vI x2), some (vI (-1)), none, none, none]) 2 dX4_hardest_1 rfl rfl rfl rfl ?_
  refine r_bipush 4 dX4_hardest_2 rfl rfl ?_
  refine r_istore (ls' := [some (vR (some (11, 0))), some (vI x1), some (vI x2), some (vI (-1)), some (vI 17), none, none]) 6 dX4_hardest_4 rfl rfl rfl rfl ?_
  refine r_iconst 7 dX4_hardest_6 rfl (InR_of rfl) ?_
  refine r_istore (ls' := [some (vR (some (11, 0))), some (vI x1), some (vI x2), some (vI (-1)), some (vI 17), some (vI 0), none]) 9 dX4_hardest_7 rfl rfl rfl rfl ?_
  exact h
set_option maxRecDepth 4000 in
theorem xX4_hardest_9 {l : Launch} {G : Gt} {d : Nat} {M M' : Mem} {r : Option Vl} {x1 : Int} {x2 : Int} {x3 : Int} {x4 : Int} {x5 : Int} (hS : Sh M.2.1) (h : 
    ((M.1 11 0 1) ≤ x5 → r = some (vI x3) ∧ M' = M) ∧ (¬ ((M.1 11 0 1) ≤ x5) → ((0 ≤ x5 ∧ x5 < 512)) ∧ (∃ (r_4 : Int) (M_2 : Mem), Cl l G d mJ6_bitCount_0f7a4 [vI (aAnd (M.1 26 0 x5.toNat) (aXor x2 (-1)))] M (some (vI r_4)) M_2 ∧ Sh M_2.2.1 ∧ ((0 ≤ x5 ∧ x5 < 512)) ∧ (InR (x5 + 1)) ∧ Ex l G (d + 1) mX4_hardest 9 [some (vR (some (11, 0))), some (vI x1), some (vI x2), some (vI (if ¬ (aAnd (M_2.1 26 0 x5.toNat) x1) = 0 then x3 else (if x4 ≤ r_4 then x3 else x5 : Int) : Int)), some (vI (if ¬ (aAnd (M_2.1 26 0 x5.toNat) x1) = 0 then x4 else (if x4 ≤ r_4 then x4 else r_4 : Int) : Int)), some (vI (x5 + 1)), none] [] M_2 r M'))) : Ex l G (d + 1) mX4_hardest 9 [some (vR (some (11, 0))), some (vI x1), some (vI x2), some (vI x3), some (vI x4), some (vI x5), none] [] M r M' := by
  refine r_iload 11 dX4_hardest_9 rfl rfl ?_
  refine r_aload_n 12 dX4_hardest_11 rfl rfl ?_
  refine g_I 15 dX4_hardest_12 rfl rfl rfl fi_4_18 rfl ?_
  refine r_icmp_ge 18 66 dX4_hardest_15 rfl rfl (fun c => ?_) (fun c => ?_)
  · have h := h.1 (c)
    refine r_iload_n 67 dX4_hardest_66 rfl rfl ?_
    exact r_iret dX4_hardest_67 rfl (.inl rfl) h.1 h.2
  · have h := h.2 (c)
    obtain ⟨o_1, h⟩ := h
    refine r_aload_n 19 dX4_hardest_18 rfl rfl ?_
    refine g_R 22 dX4_hardest_19 rfl rfl rfl fr_4_11 (sh_4_0 hS) ?_
    refine r_iload 24 dX4_hardest_22 rfl rfl ?_
    refine a_I 512 25 dX4_hardest_24 rfl rfl rfl rfl o_1 rfl ?_
    refine r_iload_n 26 dX4_hardest_25 rfl rfl ?_
    refine r_iconst 27 dX4_hardest_26 rfl (InR_of rfl) ?_
    refine r_ixor 28 dX4_hardest_27 rfl ?_
    refine r_iand 29 dX4_hardest_28 rfl ?_
    obtain ⟨r_4, M_2, hc_3, hS, h⟩ := h
    refine c_1 [vI (aAnd (M.1 26 0 x5.toNat) (aXor x2 (-1)))] [] 32 dX4_hardest_29 rfl rfl mo_J6_bitCount_0f7a4 ml_4_38 rfl rfl hc_3 ?_
    obtain ⟨o_5, h⟩ := h
    refine r_istore (ls' := [some (vR (some (11, 0))), some (vI x1), some (vI x2), some (vI x3), some (vI x4), some (vI x5), some (vI r_4)]) 34 dX4_hardest_32 rfl rfl rfl rfl ?_
    refine r_aload_n 35 dX4_hardest_34 rfl rfl ?_
    refine g_R 38 dX4_hardest_35 rfl rfl rfl fr_4_11 (sh_4_0 hS) ?_
    refine r_iload 40 dX4_hardest_38 rfl rfl ?_
    refine a_I 512 41 dX4_hardest_40 rfl rfl rfl rfl o_5 rfl ?_
    refine r_iload_n 42 dX4_hardest_41 rfl rfl ?_
    refine r_iand 43 dX4_hardest_42 rfl ?_
    have hJ_6 : Ex l G (d + 1) mX4_hardest 60 [some (vR (some (11, 0))), some (vI x1), some (vI x2), some (vI (if ¬ (aAnd (M_2.1 26 0 x5.toNat) x1) = 0 then x3 else (if x4 ≤ r_4 then x3 else x5 : Int) : Int)), some (vI (if ¬ (aAnd (M_2.1 26 0 x5.toNat) x1) = 0 then x4 else (if x4 ≤ r_4 then x4 else r_4 : Int) : Int)), some (vI x5), some (vI r_4)] [] M_2 r M' := by
      obtain ⟨o_9, h⟩ := h
      refine r_iinc (ls' := [some (vR (some (11, 0))), some (vI x1), some (vI x2), some (vI (if ¬ (aAnd (M_2.1 26 0 x5.toNat) x1) = 0 then x3 else (if x4 ≤ r_4 then x3 else x5 : Int) : Int)), some (vI (if ¬ (aAnd (M_2.1 26 0 x5.toNat) x1) = 0 then x4 else (if x4 ≤ r_4 then x4 else r_4 : Int) : Int)), some (vI (x5 + 1)), some (vI r_4)]) 63 dX4_hardest_60 rfl rfl rfl rfl o_9 rfl ?_
      refine r_goto 9 dX4_hardest_63 rfl ?_
      exact Ex.weak h ⟨rfl, rfl, rfl, rfl, rfl, rfl, trivial⟩
    refine r_if_ne 46 60 dX4_hardest_43 rfl rfl (fun c => ?_) (fun c => ?_)
    · have c_7 := c
      exact (Ex.at hJ_6 (show [some (vR (some (11, 0))), some (vI x1), some (vI x2), some (vI x3), some (vI x4), some (vI x5), some (vI r_4)] = [some (vR (some (11, 0))), some (vI x1), some (vI x2), some (vI (if ¬ (aAnd (M_2.1 26 0 x5.toNat) x1) = 0 then x3 else (if x4 ≤ r_4 then x3 else x5 : Int) : Int)), some (vI (if ¬ (aAnd (M_2.1 26 0 x5.toNat) x1) = 0 then x4 else (if x4 ≤ r_4 then x4 else r_4 : Int) : Int)), some (vI x5), some (vI r_4)] by simp only [if_pos c_7]) rfl rfl)
    · have c_7 := c
      refine r_iload 48 dX4_hardest_46 rfl rfl ?_
      refine r_iload 50 dX4_hardest_48 rfl rfl ?_
      refine r_icmp_ge 53 60 dX4_hardest_50 rfl rfl (fun c => ?_) (fun c => ?_)
      · have c_8 := c
        exact (Ex.at hJ_6 (show [some (vR (some (11, 0))), some (vI x1), some (vI x2), some (vI x3), some (vI x4), some (vI x5), some (vI r_4)] = [some (vR (some (11, 0))), some (vI x1), some (vI x2), some (vI (if ¬ (aAnd (M_2.1 26 0 x5.toNat) x1) = 0 then x3 else (if x4 ≤ r_4 then x3 else x5 : Int) : Int)), some (vI (if ¬ (aAnd (M_2.1 26 0 x5.toNat) x1) = 0 then x4 else (if x4 ≤ r_4 then x4 else r_4 : Int) : Int)), some (vI x5), some (vI r_4)] by simp only [if_neg c_7, if_pos c_8]) rfl rfl)
      · have c_8 := c
        refine r_iload 55 dX4_hardest_53 rfl rfl ?_
        refine r_istore_n (ls' := [some (vR (some (11, 0))), some (vI x1), some (vI x2), some (vI x5), some (vI x4), some (vI x5), some (vI r_4)]) 56 dX4_hardest_55 rfl rfl rfl rfl ?_
        refine r_iload 58 dX4_hardest_56 rfl rfl ?_
        refine r_istore (ls' := [some (vR (some (11, 0))), some (vI x1), some (vI x2), some (vI x5), some (vI r_4), some (vI x5), some (vI r_4)]) 60 dX4_hardest_58 rfl rfl rfl rfl ?_
        exact (Ex.at hJ_6 (show [some (vR (some (11, 0))), some (vI x1), some (vI x2), some (vI x5), some (vI r_4), some (vI x5), some (vI r_4)] = [some (vR (some (11, 0))), some (vI x1), some (vI x2), some (vI (if ¬ (aAnd (M_2.1 26 0 x5.toNat) x1) = 0 then x3 else (if x4 ≤ r_4 then x3 else x5 : Int) : Int)), some (vI (if ¬ (aAnd (M_2.1 26 0 x5.toNat) x1) = 0 then x4 else (if x4 ≤ r_4 then x4 else r_4 : Int) : Int)), some (vI x5), some (vI r_4)] by simp only [if_neg c_7, if_neg c_8]) rfl rfl)

set_option maxRecDepth 4000 in
theorem xX4_keepIfBetter_0 {l : Launch} {G : Gt} {d : Nat} {M M' : Mem} {r : Option Vl} {x1 : Int} {x2 : Int} {x3 : Int} (h : 
    ((if ¬ x2 = (M.1 11 0 6) then (if (M.1 11 0 6) ≤ x2 then 0 else 1 : Int) else (if x3 < (M.1 11 0 7) then 1 else (if ¬ x3 = (M.1 11 0 7) then 0 else (if (M.1 11 0 5) ≤ x1 then 0 else 1 : Int) : Int) : Int) : Int) = 0 → r = none ∧ M' = M) ∧ (¬ ((if ¬ x2 = (M.1 11 0 6) then (if (M.1 11 0 6) ≤ x2 then 0 else 1 : Int) else (if x3 < (M.1 11 0 7) then 1 else (if ¬ x3 = (M.1 11 0 7) then 0 else (if (M.1 11 0 5) ≤ x1 then 0 else 1 : Int) : Int) : Int) : Int) = 0) → r = none ∧ M' = ((upI (upI (upI M.1 11 0 5 x1) 11 0 6 x2) 11 0 7 x3), M.2.1, M.2.2))) : Cl l G d mX4_keepIfBetter [vR (some (11, 0)), vI x1, vI x2, vI x3] M r M' := by
  show Ex l G d mX4_keepIfBetter 0 [some (vR (some (11, 0))), some (vI x1), some (vI x2), some (vI x3), none] [] M r M'
  refine r_iload_n 1 dX4_keepIfBetter_0 rfl rfl ?_
  refine r_aload_n 2 dX4_keepIfBetter_1 rfl rfl ?_
  refine g_I 5 dX4_keepIfBetter_2 rfl rfl rfl fi_4_32 rfl ?_
  have hJ_1 : Ex l G d mX4_keepIfBetter 13 [some (vR (some (11, 0))), some (vI x1), some (vI x2), some (vI x3), none] [vI (if (M.1 11 0 6) ≤ x2 then 0 else 1 : Int)] M r M' := by
    refine r_istore (ls' := [some (vR (some (11, 0))), some (vI x1), some (vI x2), some (vI x3), some (vI (if (M.1 11 0 6) ≤ x2 then 0 else 1 : Int))]) 15 dX4_keepIfBetter_13 rfl rfl rfl rfl ?_
    refine r_iload_n 16 dX4_keepIfBetter_15 rfl rfl ?_
    refine r_aload_n 17 dX4_keepIfBetter_16 rfl rfl ?_
    refine g_I 20 dX4_keepIfBetter_17 rfl rfl rfl fi_4_32 rfl ?_
    have hJ_3 : Ex l G d mX4_keepIfBetter 54 [some (vR (some (11, 0))), some (vI x1), some (vI x2), some (vI x3), some (vI (if ¬ x2 = (M.1 11 0 6) then (if (M.1 11 0 6) ≤ x2 then 0 else 1 : Int) else (if x3 < (M.1 11 0 7) then 1 else (if ¬ x3 = (M.1 11 0 7) then 0 else (if (M.1 11 0 5) ≤ x1 then 0 else 1 : Int) : Int) : Int) : Int))] [] M r M' := by
      refine r_iload 56 dX4_keepIfBetter_54 rfl rfl ?_
      refine r_if_eq 59 74 dX4_keepIfBetter_56 rfl rfl (fun c => ?_) (fun c => ?_)
      · have h := h.1 (c)
        exact r_vret dX4_keepIfBetter_74 rfl h.1 h.2
      · have h := h.2 (c)
        refine r_aload_n 60 dX4_keepIfBetter_59 rfl rfl ?_
        refine r_iload_n 61 dX4_keepIfBetter_60 rfl rfl ?_
        refine p_I 64 dX4_keepIfBetter_61 rfl rfl rfl rfl pf_4_29 (.inl rfl) rfl ?_
        refine r_aload_n 65 dX4_keepIfBetter_64 rfl rfl ?_
        refine r_iload_n 66 dX4_keepIfBetter_65 rfl rfl ?_
        refine p_I 69 dX4_keepIfBetter_66 rfl rfl rfl rfl pf_4_32 (.inl rfl) rfl ?_
        refine r_aload_n 70 dX4_keepIfBetter_69 rfl rfl ?_
        refine r_iload_n 71 dX4_keepIfBetter_70 rfl rfl ?_
        refine p_I 74 dX4_keepIfBetter_71 rfl rfl rfl rfl pf_4_35 (.inl rfl) rfl ?_
        exact r_vret dX4_keepIfBetter_74 rfl h.1 h.2
    refine r_icmp_ne 23 54 dX4_keepIfBetter_20 rfl rfl (fun c => ?_) (fun c => ?_)
    · have c_4 := c
      exact (Ex.at hJ_3 (show [some (vR (some (11, 0))), some (vI x1), some (vI x2), some (vI x3), some (vI (if (M.1 11 0 6) ≤ x2 then 0 else 1 : Int))] = [some (vR (some (11, 0))), some (vI x1), some (vI x2), some (vI x3), some (vI (if ¬ x2 = (M.1 11 0 6) then (if (M.1 11 0 6) ≤ x2 then 0 else 1 : Int) else (if x3 < (M.1 11 0 7) then 1 else (if ¬ x3 = (M.1 11 0 7) then 0 else (if (M.1 11 0 5) ≤ x1 then 0 else 1 : Int) : Int) : Int) : Int))] by simp only [if_pos c_4]) rfl rfl)
    · have c_4 := c
      refine r_iload_n 24 dX4_keepIfBetter_23 rfl rfl ?_
      refine r_aload_n 25 dX4_keepIfBetter_24 rfl rfl ?_
      refine g_I 28 dX4_keepIfBetter_25 rfl rfl rfl fi_4_35 rfl ?_
      refine r_icmp_lt 31 47 dX4_keepIfBetter_28 rfl rfl (fun c => ?_) (fun c => ?_)
      · have c_5 := c
        refine r_iconst 48 dX4_keepIfBetter_47 rfl (InR_of rfl) ?_
        refine r_goto 52 dX4_keepIfBetter_48 rfl ?_
        refine r_istore (ls' := [some (vR (some (11, 0))), some (vI x1), some (vI x2), some (vI x3), some (vI 1)]) 54 dX4_keepIfBetter_52 rfl rfl rfl rfl ?_
        exact (Ex.at hJ_3 (show [some (vR (some (11, 0))), some (vI x1), some (vI x2), some (vI x3), some (vI 1)] = [some (vR (some (11, 0))), some (vI x1), some (vI x2), some (vI x3), some (vI (if ¬ x2 = (M.1 11 0 6) then (if (M.1 11 0 6) ≤ x2 then 0 else 1 : Int) else (if x3 < (M.1 11 0 7) then 1 else (if ¬ x3 = (M.1 11 0 7) then 0 else (if (M.1 11 0 5) ≤ x1 then 0 else 1 : Int) : Int) : Int) : Int))] by simp only [if_neg c_4, if_pos c_5]) rfl rfl)
      · have c_5 := c
        refine r_iload_n 32 dX4_keepIfBetter_31 rfl rfl ?_
        refine r_aload_n 33 dX4_keepIfBetter_32 rfl rfl ?_
        refine g_I 36 dX4_keepIfBetter_33 rfl rfl rfl fi_4_35 rfl ?_
        refine r_icmp_ne 39 51 dX4_keepIfBetter_36 rfl rfl (fun c => ?_) (fun c => ?_)
        · have c_6 := c
          refine r_iconst 52 dX4_keepIfBetter_51 rfl (InR_of rfl) ?_
          refine r_istore (ls' := [some (vR (some (11, 0))), some (vI x1), some (vI x2), some (vI x3), some (vI 0)]) 54 dX4_keepIfBetter_52 rfl rfl rfl rfl ?_
          exact (Ex.at hJ_3 (show [some (vR (some (11, 0))), some (vI x1), some (vI x2), some (vI x3), some (vI 0)] = [some (vR (some (11, 0))), some (vI x1), some (vI x2), some (vI x3), some (vI (if ¬ x2 = (M.1 11 0 6) then (if (M.1 11 0 6) ≤ x2 then 0 else 1 : Int) else (if x3 < (M.1 11 0 7) then 1 else (if ¬ x3 = (M.1 11 0 7) then 0 else (if (M.1 11 0 5) ≤ x1 then 0 else 1 : Int) : Int) : Int) : Int))] by simp only [if_neg c_4, if_neg c_5, if_pos c_6]) rfl rfl)
        · have c_6 := c
          refine r_iload_n 40 dX4_keepIfBetter_39 rfl rfl ?_
          refine r_aload_n 41 dX4_keepIfBetter_40 rfl rfl ?_
          refine g_I 44 dX4_keepIfBetter_41 rfl rfl rfl fi_4_29 rfl ?_
          refine r_icmp_ge 47 51 dX4_keepIfBetter_44 rfl rfl (fun c => ?_) (fun c => ?_)
          · have c_7 := c
            refine r_iconst 52 dX4_keepIfBetter_51 rfl (InR_of rfl) ?_
            refine r_istore (ls' := [some (vR (some (11, 0))), some (vI x1), some (vI x2), some (vI x3), some (vI 0)]) 54 dX4_keepIfBetter_52 rfl rfl rfl rfl ?_
            exact (Ex.at hJ_3 (show [some (vR (some (11, 0))), some (vI x1), some (vI x2), some (vI x3), some (vI 0)] = [some (vR (some (11, 0))), some (vI x1), some (vI x2), some (vI x3), some (vI (if ¬ x2 = (M.1 11 0 6) then (if (M.1 11 0 6) ≤ x2 then 0 else 1 : Int) else (if x3 < (M.1 11 0 7) then 1 else (if ¬ x3 = (M.1 11 0 7) then 0 else (if (M.1 11 0 5) ≤ x1 then 0 else 1 : Int) : Int) : Int) : Int))] by simp only [if_neg c_4, if_neg c_5, if_neg c_6, if_pos c_7]) rfl rfl)
          · have c_7 := c
            refine r_iconst 48 dX4_keepIfBetter_47 rfl (InR_of rfl) ?_
            refine r_goto 52 dX4_keepIfBetter_48 rfl ?_
            refine r_istore (ls' := [some (vR (some (11, 0))), some (vI x1), some (vI x2), some (vI x3), some (vI 1)]) 54 dX4_keepIfBetter_52 rfl rfl rfl rfl ?_
            exact (Ex.at hJ_3 (show [some (vR (some (11, 0))), some (vI x1), some (vI x2), some (vI x3), some (vI 1)] = [some (vR (some (11, 0))), some (vI x1), some (vI x2), some (vI x3), some (vI (if ¬ x2 = (M.1 11 0 6) then (if (M.1 11 0 6) ≤ x2 then 0 else 1 : Int) else (if x3 < (M.1 11 0 7) then 1 else (if ¬ x3 = (M.1 11 0 7) then 0 else (if (M.1 11 0 5) ≤ x1 then 0 else 1 : Int) : Int) : Int) : Int))] by simp only [if_neg c_4, if_neg c_5, if_neg c_6, if_neg c_7]) rfl rfl)
  refine r_icmp_ge 8 12 dX4_keepIfBetter_5 rfl rfl (fun c => ?_) (fun c => ?_)
  · have c_2 := c
    refine r_iconst 13 dX4_keepIfBetter_12 rfl (InR_of rfl) ?_
    exact (Ex.at hJ_1 rfl (show [vI 0] = [vI (if (M.1 11 0 6) ≤ x2 then 0 else 1 : Int)] by simp only [if_pos c_2]) rfl)
  · have c_2 := c
    refine r_iconst 9 dX4_keepIfBetter_8 rfl (InR_of rfl) ?_
    refine r_goto 13 dX4_keepIfBetter_9 rfl ?_
    exact (Ex.at hJ_1 rfl (show [vI 1] = [vI (if (M.1 11 0 6) ≤ x2 then 0 else 1 : Int)] by simp only [if_neg c_2]) rfl)

set_option maxRecDepth 4000 in
theorem xX5_init_0 {l : Launch} {G : Gt} {d : Nat} {M M' : Mem} {r : Option Vl} {k0 : Nat} (h : 
    r = none ∧ M' = ((upI M.1 5 k0 8 (-1)), M.2.1, M.2.2)) : Cl l G (d + 1) mX5_init [vR (some (5, k0))] M r M' := by
  show Ex l G (d + 1) mX5_init 0 [some (vR (some (5, k0)))] [] M r M'
  refine r_aload_n 1 dX5_init_0 rfl rfl ?_
  refine r_objInit 4 dX5_init_1 rfl rfl ⟨(inT1 (List.mem_of_getElem? (i := 45) rfl) rfl), (inT1 (List.mem_of_getElem? (i := 28) rfl) rfl), (inT1 (List.mem_of_getElem? (i := 29) rfl) rfl)⟩ rfl ?_
  refine r_aload_n 5 dX5_init_4 rfl rfl ?_
  refine r_iconst 6 dX5_init_5 rfl (InR_of rfl) ?_
  refine p_I 9 dX5_init_6 rfl rfl rfl rfl pf_5_9 (.inl rfl) rfl ?_
  exact r_vret dX5_init_9 rfl h.1 h.2

set_option maxRecDepth 4000 in
theorem xX5_begin_0 {l : Launch} {G : Gt} {d : Nat} {M M' : Mem} {r : Option Vl} {k0 : Nat} {k1 : Nat} {x2 : Int} {x3 : Int} {x4 : Int} {x5 : Int} (h : 
    ∃ (M_1 : Mem), Cl l G d mX5_beginAgain [vR (some (5, k0))] ((upI (upI (upI (upI M.1 5 k0 1 x2) 5 k0 2 x3) 5 k0 3 x4) 5 k0 4 x5), (upR M.2.1 5 k0 0 (some (13, k1))), M.2.2) none M_1 ∧ r = none ∧ M' = M_1) : Cl l G (d + 1) mX5_begin [vR (some (5, k0)), vR (some (13, k1)), vI x2, vI x3, vI x4, vI x5] M r M' := by
  show Ex l G (d + 1) mX5_begin 0 [some (vR (some (5, k0))), some (vR (some (13, k1))), some (vI x2), some (vI x3), some (vI x4), some (vI x5)] [] M r M'
  refine r_aload_n 1 dX5_begin_0 rfl rfl ?_
  refine r_aload_n 2 dX5_begin_1 rfl rfl ?_
  refine p_R 5 dX5_begin_2 rfl rfl rfl rfl pf_5_15 (.inl rfl) rfl ?_
  refine r_aload_n 6 dX5_begin_5 rfl rfl ?_
  refine r_iload_n 7 dX5_begin_6 rfl rfl ?_
  refine p_I 10 dX5_begin_7 rfl rfl rfl rfl pf_5_19 (.inl rfl) rfl ?_
  refine r_aload_n 11 dX5_begin_10 rfl rfl ?_
  refine r_iload_n 12 dX5_begin_11 rfl rfl ?_
  refine p_I 15 dX5_begin_12 rfl rfl rfl rfl pf_5_22 (.inl rfl) rfl ?_
  refine r_aload_n 16 dX5_begin_15 rfl rfl ?_
  refine r_iload 18 dX5_begin_16 rfl rfl ?_
  refine p_I 21 dX5_begin_18 rfl rfl rfl rfl pf_5_25 (.inl rfl) rfl ?_
  refine r_aload_n 22 dX5_begin_21 rfl rfl ?_
  refine r_iload 24 dX5_begin_22 rfl rfl ?_
  refine p_I 27 dX5_begin_24 rfl rfl rfl rfl pf_5_28 (.inl rfl) rfl ?_
  refine r_aload_n 28 dX5_begin_27 rfl rfl ?_
  obtain ⟨M_1, hc_2, h⟩ := h
  refine v_0 (ci := 5) (C := (RX5, TX5, 12)) [] [] 31 dX5_begin_28 rfl rfl rfl rfl rfl mo_X5_beginAgain ml_5_31 rfl rfl hc_2 ?_
  exact r_vret dX5_begin_31 rfl h.1 h.2

set_option maxRecDepth 4000 in
theorem xX5_beginAgain_0 {l : Launch} {G : Gt} {d : Nat} {M M' : Mem} {r : Option Vl} {k0 : Nat} (h : 
    ((0 ≤ (M.1 5 k0 3) ∧ (M.1 5 k0 3) < 32)) ∧ r = none ∧ M' = ((upI (upI (upI (upI (upI (upI (upI M.1 5 k0 5 0) 5 k0 6 (M.1 5 k0 3)) 5 k0 7 (M.1 5 k0 4)) 5 k0 8 (-1)) 5 k0 9 (aShl 1 (M.1 5 k0 3))) 5 k0 10 0) 5 k0 11 0), M.2.1, M.2.2)) : Cl l G d mX5_beginAgain [vR (some (5, k0))] M r M' := by
  show Ex l G d mX5_beginAgain 0 [some (vR (some (5, k0)))] [] M r M'
  obtain ⟨o_1, h⟩ := h
  refine r_aload_n 1 dX5_beginAgain_0 rfl rfl ?_
  refine r_iconst 2 dX5_beginAgain_1 rfl (InR_of rfl) ?_
  refine p_I 5 dX5_beginAgain_2 rfl rfl rfl rfl pf_5_34 (.inl rfl) rfl ?_
  refine r_aload_n 6 dX5_beginAgain_5 rfl rfl ?_
  refine r_aload_n 7 dX5_beginAgain_6 rfl rfl ?_
  refine g_I 10 dX5_beginAgain_7 rfl rfl rfl fi_5_25 (mI_0 (upI_i (by decide))) ?_
  refine p_I 13 dX5_beginAgain_10 rfl rfl rfl rfl pf_5_37 (.inl rfl) rfl ?_
  refine r_aload_n 14 dX5_beginAgain_13 rfl rfl ?_
  refine r_aload_n 15 dX5_beginAgain_14 rfl rfl ?_
  refine g_I 18 dX5_beginAgain_15 rfl rfl rfl fi_5_28 (mI_0 ((upI_i (by decide)).trans (upI_i (by decide)))) ?_
  refine p_I 21 dX5_beginAgain_18 rfl rfl rfl rfl pf_5_40 (.inl rfl) rfl ?_
  refine r_aload_n 22 dX5_beginAgain_21 rfl rfl ?_
  refine r_iconst 23 dX5_beginAgain_22 rfl (InR_of rfl) ?_
  refine p_I 26 dX5_beginAgain_23 rfl rfl rfl rfl pf_5_9 (.inl rfl) rfl ?_
  refine r_aload_n 27 dX5_beginAgain_26 rfl rfl ?_
  refine r_iconst 28 dX5_beginAgain_27 rfl (InR_of rfl) ?_
  refine r_aload_n 29 dX5_beginAgain_28 rfl rfl ?_
  refine g_I 32 dX5_beginAgain_29 rfl rfl rfl fi_5_25 (mI_0 ((upI_i (by decide)).trans ((upI_i (by decide)).trans ((upI_i (by decide)).trans (upI_i (by decide)))))) ?_
  refine r_ishl 33 dX5_beginAgain_32 rfl o_1 ?_
  refine p_I 36 dX5_beginAgain_33 rfl rfl rfl rfl pf_5_43 (.inl rfl) rfl ?_
  refine r_aload_n 37 dX5_beginAgain_36 rfl rfl ?_
  refine r_iconst 38 dX5_beginAgain_37 rfl (InR_of rfl) ?_
  refine p_I 41 dX5_beginAgain_38 rfl rfl rfl rfl pf_5_46 (.inl rfl) rfl ?_
  refine r_aload_n 42 dX5_beginAgain_41 rfl rfl ?_
  refine r_iconst 43 dX5_beginAgain_42 rfl (InR_of rfl) ?_
  refine p_I 46 dX5_beginAgain_43 rfl rfl rfl rfl pf_5_49 (.inl rfl) rfl ?_
  exact r_vret dX5_beginAgain_46 rfl h.1 h.2

set_option maxRecDepth 4000 in
theorem xX5_isRight_0 {l : Launch} {G : Gt} {d : Nat} {M M' : Mem} {r : Option Vl} {k0 : Nat} (h : 
    (((if ¬ (M.1 5 k0 5) = 1 then 0 else (if ¬ (M.1 5 k0 8) = (M.1 5 k0 2) then 0 else 1 : Int) : Int) = 0 ∨ (if ¬ (M.1 5 k0 5) = 1 then 0 else (if ¬ (M.1 5 k0 8) = (M.1 5 k0 2) then 0 else 1 : Int) : Int) = 1)) ∧ r = some (vI (if ¬ (M.1 5 k0 5) = 1 then 0 else (if ¬ (M.1 5 k0 8) = (M.1 5 k0 2) then 0 else 1 : Int) : Int)) ∧ M' = M) : Cl l G d mX5_isRight [vR (some (5, k0))] M r M' := by
  show Ex l G d mX5_isRight 0 [some (vR (some (5, k0)))] [] M r M'
  refine r_aload_n 1 dX5_isRight_0 rfl rfl ?_
  refine g_I 4 dX5_isRight_1 rfl rfl rfl fi_5_34 rfl ?_
  refine r_iconst 5 dX5_isRight_4 rfl (InR_of rfl) ?_
  have hJ_1 : Ex l G d mX5_isRight 24 [some (vR (some (5, k0)))] [vI (if ¬ (M.1 5 k0 5) = 1 then 0 else (if ¬ (M.1 5 k0 8) = (M.1 5 k0 2) then 0 else 1 : Int) : Int)] M r M' := by
    obtain ⟨o_4, h⟩ := h
    exact r_iret dX5_isRight_24 rfl (.inr ⟨rfl, o_4⟩) h.1 h.2
  refine r_icmp_ne 8 23 dX5_isRight_5 rfl rfl (fun c => ?_) (fun c => ?_)
  · have c_2 := c
    refine r_iconst 24 dX5_isRight_23 rfl (InR_of rfl) ?_
    exact (Ex.at hJ_1 rfl (show [vI 0] = [vI (if ¬ (M.1 5 k0 5) = 1 then 0 else (if ¬ (M.1 5 k0 8) = (M.1 5 k0 2) then 0 else 1 : Int) : Int)] by simp only [if_pos c_2]) rfl)
  · have c_2 := c
    refine r_aload_n 9 dX5_isRight_8 rfl rfl ?_
    refine g_I 12 dX5_isRight_9 rfl rfl rfl fi_5_9 rfl ?_
    refine r_aload_n 13 dX5_isRight_12 rfl rfl ?_
    refine g_I 16 dX5_isRight_13 rfl rfl rfl fi_5_22 rfl ?_
    refine r_icmp_ne 19 23 dX5_isRight_16 rfl rfl (fun c => ?_) (fun c => ?_)
    · have c_3 := c
      refine r_iconst 24 dX5_isRight_23 rfl (InR_of rfl) ?_
      exact (Ex.at hJ_1 rfl (show [vI 0] = [vI (if ¬ (M.1 5 k0 5) = 1 then 0 else (if ¬ (M.1 5 k0 8) = (M.1 5 k0 2) then 0 else 1 : Int) : Int)] by simp only [if_neg c_2, if_pos c_3]) rfl)
    · have c_3 := c
      refine r_iconst 20 dX5_isRight_19 rfl (InR_of rfl) ?_
      refine r_goto 24 dX5_isRight_20 rfl ?_
      exact (Ex.at hJ_1 rfl (show [vI 1] = [vI (if ¬ (M.1 5 k0 5) = 1 then 0 else (if ¬ (M.1 5 k0 8) = (M.1 5 k0 2) then 0 else 1 : Int) : Int)] by simp only [if_neg c_2, if_neg c_3]) rfl)

set_option maxRecDepth 4000 in
theorem xX5_copyFrom_0 {l : Launch} {G : Gt} {d : Nat} {M M' : Mem} {r : Option Vl} {k0 : Nat} {k1 : Nat} (hne : k1 ≠ k0) (h : 
    r = none ∧ M' = ((upI (upI (upI (upI (upI (upI (upI (upI (upI (upI (upI M.1 5 k0 1 (M.1 5 k1 1)) 5 k0 2 (M.1 5 k1 2)) 5 k0 3 (M.1 5 k1 3)) 5 k0 4 (M.1 5 k1 4)) 5 k0 5 (M.1 5 k1 5)) 5 k0 6 (M.1 5 k1 6)) 5 k0 7 (M.1 5 k1 7)) 5 k0 8 (M.1 5 k1 8)) 5 k0 9 (M.1 5 k1 9)) 5 k0 10 (M.1 5 k1 10)) 5 k0 11 (M.1 5 k1 11)), (upR M.2.1 5 k0 0 (M.2.1 5 k1 0)), M.2.2)) : Cl l G d mX5_copyFrom [vR (some (5, k0)), vR (some (5, k1))] M r M' := by
  show Ex l G d mX5_copyFrom 0 [some (vR (some (5, k0))), some (vR (some (5, k1)))] [] M r M'
  refine r_aload_n 1 dX5_copyFrom_0 rfl rfl ?_
  refine r_aload_n 2 dX5_copyFrom_1 rfl rfl ?_
  refine g_R 5 dX5_copyFrom_2 rfl rfl rfl fr_5_15 rfl ?_
  refine p_R 8 dX5_copyFrom_5 rfl rfl rfl rfl pf_5_15 (.inl rfl) rfl ?_
  refine r_aload_n 9 dX5_copyFrom_8 rfl rfl ?_
  refine r_aload_n 10 dX5_copyFrom_9 rfl rfl ?_
  refine g_I 13 dX5_copyFrom_10 rfl rfl rfl fi_5_19 (mI_0 rfl) ?_
  refine p_I 16 dX5_copyFrom_13 rfl rfl rfl rfl pf_5_19 (.inl rfl) rfl ?_
  refine r_aload_n 17 dX5_copyFrom_16 rfl rfl ?_
  refine r_aload_n 18 dX5_copyFrom_17 rfl rfl ?_
  refine g_I 21 dX5_copyFrom_18 rfl rfl rfl fi_5_22 (mI_0 (upI_k hne)) ?_
  refine p_I 24 dX5_copyFrom_21 rfl rfl rfl rfl pf_5_22 (.inl rfl) rfl ?_
  refine r_aload_n 25 dX5_copyFrom_24 rfl rfl ?_
  refine r_aload_n 26 dX5_copyFrom_25 rfl rfl ?_
  refine g_I 29 dX5_copyFrom_26 rfl rfl rfl fi_5_25 (mI_0 ((upI_k hne).trans (upI_k hne))) ?_
  refine p_I 32 dX5_copyFrom_29 rfl rfl rfl rfl pf_5_25 (.inl rfl) rfl ?_
  refine r_aload_n 33 dX5_copyFrom_32 rfl rfl ?_
  refine r_aload_n 34 dX5_copyFrom_33 rfl rfl ?_
  refine g_I 37 dX5_copyFrom_34 rfl rfl rfl fi_5_28 (mI_0 ((upI_k hne).trans ((upI_k hne).trans (upI_k hne)))) ?_
  refine p_I 40 dX5_copyFrom_37 rfl rfl rfl rfl pf_5_28 (.inl rfl) rfl ?_
  refine r_aload_n 41 dX5_copyFrom_40 rfl rfl ?_
  refine r_aload_n 42 dX5_copyFrom_41 rfl rfl ?_
  refine g_I 45 dX5_copyFrom_42 rfl rfl rfl fi_5_34 (mI_0 ((upI_k hne).trans ((upI_k hne).trans ((upI_k hne).trans (upI_k hne))))) ?_
  refine p_I 48 dX5_copyFrom_45 rfl rfl rfl rfl pf_5_34 (.inl rfl) rfl ?_
  refine r_aload_n 49 dX5_copyFrom_48 rfl rfl ?_
  refine r_aload_n 50 dX5_copyFrom_49 rfl rfl ?_
  refine g_I 53 dX5_copyFrom_50 rfl rfl rfl fi_5_37 (mI_0 ((upI_k hne).trans ((upI_k hne).trans ((upI_k hne).trans ((upI_k hne).trans (upI_k hne)))))) ?_
  refine p_I 56 dX5_copyFrom_53 rfl rfl rfl rfl pf_5_37 (.inl rfl) rfl ?_
  refine r_aload_n 57 dX5_copyFrom_56 rfl rfl ?_
  refine r_aload_n 58 dX5_copyFrom_57 rfl rfl ?_
  refine g_I 61 dX5_copyFrom_58 rfl rfl rfl fi_5_40 (mI_0 ((upI_k hne).trans ((upI_k hne).trans ((upI_k hne).trans ((upI_k hne).trans ((upI_k hne).trans (upI_k hne))))))) ?_
  refine p_I 64 dX5_copyFrom_61 rfl rfl rfl rfl pf_5_40 (.inl rfl) rfl ?_
  refine r_aload_n 65 dX5_copyFrom_64 rfl rfl ?_
  refine r_aload_n 66 dX5_copyFrom_65 rfl rfl ?_
  refine g_I 69 dX5_copyFrom_66 rfl rfl rfl fi_5_9 (mI_0 ((upI_k hne).trans ((upI_k hne).trans ((upI_k hne).trans ((upI_k hne).trans ((upI_k hne).trans ((upI_k hne).trans (upI_k hne)))))))) ?_
  refine p_I 72 dX5_copyFrom_69 rfl rfl rfl rfl pf_5_9 (.inl rfl) rfl ?_
  refine r_aload_n 73 dX5_copyFrom_72 rfl rfl ?_
  refine r_aload_n 74 dX5_copyFrom_73 rfl rfl ?_
  refine g_I 77 dX5_copyFrom_74 rfl rfl rfl fi_5_43 (mI_0 ((upI_k hne).trans ((upI_k hne).trans ((upI_k hne).trans ((upI_k hne).trans ((upI_k hne).trans ((upI_k hne).trans ((upI_k hne).trans (upI_k hne))))))))) ?_
  refine p_I 80 dX5_copyFrom_77 rfl rfl rfl rfl pf_5_43 (.inl rfl) rfl ?_
  refine r_aload_n 81 dX5_copyFrom_80 rfl rfl ?_
  refine r_aload_n 82 dX5_copyFrom_81 rfl rfl ?_
  refine g_I 85 dX5_copyFrom_82 rfl rfl rfl fi_5_46 (mI_0 ((upI_k hne).trans ((upI_k hne).trans ((upI_k hne).trans ((upI_k hne).trans ((upI_k hne).trans ((upI_k hne).trans ((upI_k hne).trans ((upI_k hne).trans (upI_k hne)))))))))) ?_
  refine p_I 88 dX5_copyFrom_85 rfl rfl rfl rfl pf_5_46 (.inl rfl) rfl ?_
  refine r_aload_n 89 dX5_copyFrom_88 rfl rfl ?_
  refine r_aload_n 90 dX5_copyFrom_89 rfl rfl ?_
  refine g_I 93 dX5_copyFrom_90 rfl rfl rfl fi_5_49 (mI_0 ((upI_k hne).trans ((upI_k hne).trans ((upI_k hne).trans ((upI_k hne).trans ((upI_k hne).trans ((upI_k hne).trans ((upI_k hne).trans ((upI_k hne).trans ((upI_k hne).trans (upI_k hne))))))))))) ?_
  refine p_I 96 dX5_copyFrom_93 rfl rfl rfl rfl pf_5_49 (.inl rfl) rfl ?_
  exact r_vret dX5_copyFrom_96 rfl h.1 h.2

set_option maxRecDepth 4000 in
theorem xX6_init_0 {l : Launch} {G : Gt} {d : Nat} {M M' : Mem} {r : Option Vl} {k1 : Nat} (h : 
    (∀ M_1 : Mem, newM M 28 61 61 = M_1 → r = none ∧ M' = ((upI M_1.1 6 0 2 (-1)), (upR (upR M_1.2.1 6 0 1 (some (28, cCnt M.2.2 28))) 6 0 0 (some (4, k1))), M_1.2.2))) : Cl l G (d + 1) mX6_init [vR (some (6, 0)), vR (some (4, k1))] M r M' := by
  show Ex l G (d + 1) mX6_init 0 [some (vR (some (6, 0))), some (vR (some (4, k1)))] [] M r M'
  refine r_aload_n 1 dX6_init_0 rfl rfl ?_
  refine r_objInit 4 dX6_init_1 rfl rfl ⟨(inT1 (List.mem_of_getElem? (i := 172) rfl) rfl), (inT1 (List.mem_of_getElem? (i := 28) rfl) rfl), (inT1 (List.mem_of_getElem? (i := 29) rfl) rfl)⟩ rfl ?_
  refine r_aload_n 5 dX6_init_4 rfl rfl ?_
  refine r_bipush 7 dX6_init_5 rfl rfl ?_
  refine r_anewa (f := 28) (ci := 7) (C := (RX7, TX7, 5)) (n := 61) 10 dX6_init_7 rfl rfl rfl (by decide) rfl (inT1 (List.mem_of_getElem? (i := 173) rfl) rfl) (inT1 (List.mem_of_getElem? (i := 174) rfl) rfl) rfl (by decide) (.inl rfl) ?_
  generalize hM_1 : newM M 28 61 61 = M_1
  have h := h M_1 hM_1
  refine p_R 13 dX6_init_10 rfl rfl rfl rfl pf_6_11 (.inr rfl) rfl ?_
  refine r_aload_n 14 dX6_init_13 rfl rfl ?_
  refine r_iconst 15 dX6_init_14 rfl (InR_of rfl) ?_
  refine p_I 18 dX6_init_15 rfl rfl rfl rfl pf_6_17 (.inl rfl) rfl ?_
  refine r_aload_n 19 dX6_init_18 rfl rfl ?_
  refine r_aload_n 20 dX6_init_19 rfl rfl ?_
  refine p_R 23 dX6_init_20 rfl rfl rfl rfl pf_6_21 (.inr rfl) rfl ?_
  exact r_vret dX6_init_23 rfl h.1 h.2

set_option maxRecDepth 4000 in
theorem xX6_keepUpTo_0 {l : Launch} {G : Gt} {d : Nat} {M M' : Mem} {r : Option Vl} {x1 : Int} (h : 
    r = none ∧ M' = ((upI M.1 6 0 2 (if x1 < (M.1 6 0 2) then x1 else (M.1 6 0 2) : Int)), M.2.1, M.2.2)) : Cl l G (d + 1) mX6_keepUpTo [vR (some (6, 0)), vI x1] M r M' := by
  show Ex l G (d + 1) mX6_keepUpTo 0 [some (vR (some (6, 0))), some (vI x1)] [] M r M'
  refine r_aload_n 1 dX6_keepUpTo_0 rfl rfl ?_
  refine r_aload_n 2 dX6_keepUpTo_1 rfl rfl ?_
  refine g_I 5 dX6_keepUpTo_2 rfl rfl rfl fi_6_17 rfl ?_
  refine r_iload_n 6 dX6_keepUpTo_5 rfl rfl ?_
  refine r_min 9 dX6_keepUpTo_6 rfl (inT2 (List.mem_of_getElem? (i := 206) rfl) rfl) rfl ?_
  refine p_I 12 dX6_keepUpTo_9 rfl rfl rfl rfl pf_6_17 (.inl rfl) rfl ?_
  exact r_vret dX6_keepUpTo_12 rfl h.1 h.2

set_option maxRecDepth 4000 in
theorem xX6_on_0 {l : Launch} {G : Gt} {d : Nat} {M M' : Mem} {r : Option Vl} {x1 : Int} (h : 
    Ex l G (d + 1) mX6_on 5 [some (vR (some (6, 0))), some (vI x1), some (vI 0), some (vI 32), none] [] M r M') : Cl l G (d + 1) mX6_on [vR (some (6, 0)), vI x1] M r M' := by
  show Ex l G (d + 1) mX6_on 0 [some (vR (some (6, 0))), some (vI x1), none, none, none] [] M r M'
  refine r_iconst 1 dX6_on_0 rfl (InR_of rfl) ?_
  refine r_istore_n (ls' := [some (vR (some (6, 0))), some (vI x1), some (vI 0), none, none]) 2 dX6_on_1 rfl rfl rfl rfl ?_
  refine r_bipush 4 dX6_on_2 rfl rfl ?_
  refine r_istore_n (ls' := [some (vR (some (6, 0))), some (vI x1), some (vI 0), some (vI 32), none]) 5 dX6_on_4 rfl rfl rfl rfl ?_
  exact h
set_option maxRecDepth 4000 in
theorem xX6_on_5 {l : Launch} {G : Gt} {d : Nat} {M M' : Mem} {r : Option Vl} {x1 : Int} {x2 : Int} {x3 : Int} (hS : Sh M.2.1) (h : 
    (x3 ≤ 0 → (InR ((M.1 6 0 2) + 1)) ∧ Ex l G (d + 1) mX6_on 62 [some (vR (some (6, 0))), some (vI x1), some (vI x2), some (vI ((M.1 6 0 2) + 1)), none] [] M r M') ∧ (¬ (x3 ≤ 0) → (InR (x2 + x3)) ∧ (((M.1 4 0 4) < (x2 + x3) → (0 ≤ x3) ∧ Ex l G (d + 1) mX6_on 5 [some (vR (some (6, 0))), some (vI x1), some (vI x2), some (vI (x3 / 2)), none] [] M r M') ∧ (¬ ((M.1 4 0 4) < (x2 + x3)) → (InR ((x2 + x3) - 1) ∧ (0 ≤ ((x2 + x3) - 1) ∧ ((x2 + x3) - 1) < 60)) ∧ (∃ (r_8 : Int) (M_6 : Mem), Cl l G d mX8_dayOfChange [vI (M.1 35 0 ((x2 + x3) - 1).toNat)] M (some (vI r_8)) M_6 ∧ (0 ≤ x3) ∧ Ex l G (d + 1) mX6_on 5 [some (vR (some (6, 0))), some (vI x1), some (vI (if x1 < r_8 then x2 else (x2 + x3) : Int)), some (vI (x3 / 2)), none] [] M_6 r M'))))) : Ex l G (d + 1) mX6_on 5 [some (vR (some (6, 0))), some (vI x1), some (vI x2), some (vI x3), none] [] M r M' := by
  refine r_iload_n 6 dX6_on_5 rfl rfl ?_
  refine r_if_le 9 55 dX6_on_6 rfl rfl (fun c => ?_) (fun c => ?_)
  · have h := h.1 (c)
    obtain ⟨o_1, h⟩ := h
    refine r_aload_n 56 dX6_on_55 rfl rfl ?_
    refine g_I 59 dX6_on_56 rfl rfl rfl fi_6_17 rfl ?_
    refine r_iconst 60 dX6_on_59 rfl (InR_of rfl) ?_
    refine r_iadd 61 dX6_on_60 rfl o_1 ?_
    refine r_istore_n (ls' := [some (vR (some (6, 0))), some (vI x1), some (vI x2), some (vI ((M.1 6 0 2) + 1)), none]) 62 dX6_on_61 rfl rfl rfl rfl ?_
    exact h
  · have h := h.2 (c)
    obtain ⟨o_2, h⟩ := h
    refine r_iload_n 10 dX6_on_9 rfl rfl ?_
    refine r_iload_n 11 dX6_on_10 rfl rfl ?_
    refine r_iadd 12 dX6_on_11 rfl o_2 ?_
    refine r_istore (ls' := [some (vR (some (6, 0))), some (vI x1), some (vI x2), some (vI x3), some (vI (x2 + x3))]) 14 dX6_on_12 rfl rfl rfl rfl ?_
    refine r_iload 16 dX6_on_14 rfl rfl ?_
    refine r_aload_n 17 dX6_on_16 rfl rfl ?_
    refine g_R 20 dX6_on_17 rfl rfl rfl fr_6_21 (sh_6_0 hS) ?_
    refine g_I 23 dX6_on_20 rfl rfl rfl fi_6_31 rfl ?_
    refine r_icmp_gt 26 48 dX6_on_23 rfl rfl (fun c => ?_) (fun c => ?_)
    · have h := h.1 (c)
      obtain ⟨o_3, h⟩ := h
      refine r_iload_n 49 dX6_on_48 rfl rfl ?_
      refine r_iconst 50 dX6_on_49 rfl (InR_of rfl) ?_
      refine r_idiv 51 dX6_on_50 rfl ⟨o_3, by decide⟩ ?_
      refine r_istore_n (ls' := [some (vR (some (6, 0))), some (vI x1), some (vI x2), some (vI (x3 / 2)), some (vI (x2 + x3))]) 52 dX6_on_51 rfl rfl rfl rfl ?_
      refine r_goto 5 dX6_on_52 rfl ?_
      exact Ex.weak h ⟨rfl, rfl, rfl, rfl, trivial⟩
    · have h := h.2 (c)
      obtain ⟨⟨o_4, o_5⟩, h⟩ := h
      refine r_aload_n 27 dX6_on_26 rfl rfl ?_
      refine g_R 30 dX6_on_27 rfl rfl rfl fr_6_21 (sh_6_0 hS) ?_
      refine g_R 33 dX6_on_30 rfl rfl rfl fr_6_36 (sh_8_5 hS _) ?_
      refine r_iload 35 dX6_on_33 rfl rfl ?_
      refine r_iconst 36 dX6_on_35 rfl (InR_of rfl) ?_
      refine r_isub 37 dX6_on_36 rfl o_4 ?_
      refine a_I 60 38 dX6_on_37 rfl rfl rfl rfl o_5 rfl ?_
      obtain ⟨r_8, M_6, hc_7, h⟩ := h
      refine c_1 [vI (M.1 35 0 ((x2 + x3) - 1).toNat)] [] 41 dX6_on_38 rfl rfl mo_X8_dayOfChange ml_6_40 rfl rfl hc_7 ?_
      refine r_iload_n 42 dX6_on_41 rfl rfl ?_
      have hJ_9 : Ex l G (d + 1) mX6_on 48 [some (vR (some (6, 0))), some (vI x1), some (vI (if x1 < r_8 then x2 else (x2 + x3) : Int)), some (vI x3), some (vI (x2 + x3))] [] M_6 r M' := by
        obtain ⟨o_11, h⟩ := h
        refine r_iload_n 49 dX6_on_48 rfl rfl ?_
        refine r_iconst 50 dX6_on_49 rfl (InR_of rfl) ?_
        refine r_idiv 51 dX6_on_50 rfl ⟨o_11, by decide⟩ ?_
        refine r_istore_n (ls' := [some (vR (some (6, 0))), some (vI x1), some (vI (if x1 < r_8 then x2 else (x2 + x3) : Int)), some (vI (x3 / 2)), some (vI (x2 + x3))]) 52 dX6_on_51 rfl rfl rfl rfl ?_
        refine r_goto 5 dX6_on_52 rfl ?_
        exact Ex.weak h ⟨rfl, rfl, rfl, rfl, trivial⟩
      refine r_icmp_gt 45 48 dX6_on_42 rfl rfl (fun c => ?_) (fun c => ?_)
      · have c_10 := c
        exact (Ex.at hJ_9 (show [some (vR (some (6, 0))), some (vI x1), some (vI x2), some (vI x3), some (vI (x2 + x3))] = [some (vR (some (6, 0))), some (vI x1), some (vI (if x1 < r_8 then x2 else (x2 + x3) : Int)), some (vI x3), some (vI (x2 + x3))] by simp only [if_pos c_10]) rfl rfl)
      · have c_10 := c
        refine r_iload 47 dX6_on_45 rfl rfl ?_
        refine r_istore_n (ls' := [some (vR (some (6, 0))), some (vI x1), some (vI (x2 + x3)), some (vI x3), some (vI (x2 + x3))]) 48 dX6_on_47 rfl rfl rfl rfl ?_
        exact (Ex.at hJ_9 (show [some (vR (some (6, 0))), some (vI x1), some (vI (x2 + x3)), some (vI x3), some (vI (x2 + x3))] = [some (vR (some (6, 0))), some (vI x1), some (vI (if x1 < r_8 then x2 else (x2 + x3) : Int)), some (vI x3), some (vI (x2 + x3))] by simp only [if_neg c_10]) rfl rfl)
set_option maxRecDepth 4000 in
theorem xX6_on_62 {l : Launch} {G : Gt} {d : Nat} {M M' : Mem} {r : Option Vl} {x1 : Int} {x2 : Int} {x3 : Int} (hS : Sh M.2.1) (h : 
    (x2 < x3 → ((0 ≤ x2 ∧ x2 < 61)) ∧ r = some (vR (M.2.1 28 0 x2.toNat)) ∧ M' = M) ∧ (¬ (x2 < x3) → ((0 ≤ x3 ∧ x3 < 61)) ∧ ((¬ ((M.2.1 28 0 x3.toNat) = none) → (¬ x3 = 0 → ((0 ≤ x3 ∧ x3 < 61) ∧ InR (x3 - 1) ∧ (0 ≤ (x3 - 1) ∧ (x3 - 1) < 61) ∧ InR (x3 - 1) ∧ (0 ≤ (x3 - 1) ∧ (x3 - 1) < 60)) ∧ (∃ k_8 : Nat, (M.2.1 28 0 x3.toNat) = some (14, k_8) ∧ (∃ (M_10 : Mem), Cl l G d mX7_follow [vR (some (14, k_8)), vR (M.2.1 28 0 (x3 - 1).toNat), vI (M.1 35 0 (x3 - 1).toNat)] M none M_10 ∧ (InR (x3 + 1)) ∧ Ex l G (d + 1) mX6_on 62 [some (vR (some (6, 0))), some (vI x1), some (vI x2), some (vI (x3 + 1)), none] [] ((upI M_10.1 6 0 2 x3), M_10.2.1, M_10.2.2) r M'))) ∧ (¬ (¬ x3 = 0) → ∃ k_13 : Nat, (M.2.1 28 0 0) = some (14, k_13) ∧ (∃ (M_15 : Mem), Cl l G d mX7_beginWith [vR (some (14, k_13)), vR (some (4, 0))] M none M_15 ∧ (InR (x3 + 1)) ∧ Ex l G (d + 1) mX6_on 62 [some (vR (some (6, 0))), some (vI x1), some (vI x2), some (vI (x3 + 1)), none] [] ((upI M_15.1 6 0 2 x3), M_15.2.1, M_15.2.2) r M'))) ∧ ((M.2.1 28 0 x3.toNat) = none → (∀ M_18 : Mem, newM M 14 0 5 = M_18 → ∃ (M_19 : Mem), Cl l G d mX7_init [vR (some (14, cCnt M.2.2 14)), vI x3] M_18 none M_19 ∧ Sh M_19.2.1 ∧ (((0 ≤ x3 ∧ x3 < 61)) ∧ ((¬ x3 = 0 → ((0 ≤ x3 ∧ x3 < 61) ∧ InR (x3 - 1) ∧ (0 ≤ (x3 - 1) ∧ (x3 - 1) < 61) ∧ InR (x3 - 1) ∧ (0 ≤ (x3 - 1) ∧ (x3 - 1) < 60)) ∧ (∃ (M_27 : Mem), Cl l G d mX7_follow [vR (some (14, cCnt M.2.2 14)), vR ((upR M_19.2.1 28 0 x3.toNat (some (14, cCnt M.2.2 14))) 28 0 (x3 - 1).toNat), vI (M_19.1 35 0 (x3 - 1).toNat)] (M_19.1, (upR M_19.2.1 28 0 x3.toNat (some (14, cCnt M.2.2 14))), M_19.2.2) none M_27 ∧ (InR (x3 + 1)) ∧ Ex l G (d + 1) mX6_on 62 [some (vR (some (6, 0))), some (vI x1), some (vI x2), some (vI (x3 + 1)), none] [] ((upI M_27.1 6 0 2 x3), M_27.2.1, M_27.2.2) r M')) ∧ (¬ (¬ x3 = 0) → ∃ k_30 : Nat, ((upR M_19.2.1 28 0 x3.toNat (some (14, cCnt M.2.2 14))) 28 0 0) = some (14, k_30) ∧ (∃ (M_32 : Mem), Cl l G d mX7_beginWith [vR (some (14, k_30)), vR (some (4, 0))] (M_19.1, (upR M_19.2.1 28 0 x3.toNat (some (14, cCnt M.2.2 14))), M_19.2.2) none M_32 ∧ (InR (x3 + 1)) ∧ Ex l G (d + 1) mX6_on 62 [some (vR (some (6, 0))), some (vI x1), some (vI x2), some (vI (x3 + 1)), none] [] ((upI M_32.1 6 0 2 x3), M_32.2.1, M_32.2.2) r M'))))))))) : Ex l G (d + 1) mX6_on 62 [some (vR (some (6, 0))), some (vI x1), some (vI x2), some (vI x3), none] [] M r M' := by
  refine r_iload_n 63 dX6_on_62 rfl rfl ?_
  refine r_iload_n 64 dX6_on_63 rfl rfl ?_
  refine r_icmp_gt 67 149 dX6_on_64 rfl rfl (fun c => ?_) (fun c => ?_)
  · have h := h.1 (c)
    obtain ⟨o_1, h⟩ := h
    refine r_aload_n 150 dX6_on_149 rfl rfl ?_
    refine g_R 153 dX6_on_150 rfl rfl rfl fr_6_11 (sh_6_1 hS) ?_
    refine r_iload_n 154 dX6_on_153 rfl rfl ?_
    refine a_R (ci := 7) 61 155 dX6_on_154 rfl rfl rfl rfl rfl o_1 rfl ?_
    exact r_aret dX6_on_155 rfl rfl h.1 h.2
  · have h := h.2 (c)
    obtain ⟨o_2, h⟩ := h
    refine r_aload_n 68 dX6_on_67 rfl rfl ?_
    refine g_R 71 dX6_on_68 rfl rfl rfl fr_6_11 (sh_6_1 hS) ?_
    refine r_iload_n 72 dX6_on_71 rfl rfl ?_
    refine a_R (ci := 7) 61 73 dX6_on_72 rfl rfl rfl rfl rfl o_2 rfl ?_
    refine r_ifnonnull 76 90 dX6_on_73 rfl rfl (fun c => ?_) (fun c => ?_)
    · have h := h.1 (c)
      refine r_iload_n 91 dX6_on_90 rfl rfl ?_
      refine r_if_ne 94 110 dX6_on_91 rfl rfl (fun c => ?_) (fun c => ?_)
      · have h := h.1 (c)
        obtain ⟨⟨o_3, o_4, o_5, o_6, o_7⟩, h⟩ := h
        refine r_aload_n 111 dX6_on_110 rfl rfl ?_
        refine g_R 114 dX6_on_111 rfl rfl rfl fr_6_11 (sh_6_1 hS) ?_
        refine r_iload_n 115 dX6_on_114 rfl rfl ?_
        refine a_R (ci := 7) 61 116 dX6_on_115 rfl rfl rfl rfl rfl o_3 rfl ?_
        refine r_aload_n 117 dX6_on_116 rfl rfl ?_
        refine g_R 120 dX6_on_117 rfl rfl rfl fr_6_11 (sh_6_1 hS) ?_
        refine r_iload_n 121 dX6_on_120 rfl rfl ?_
        refine r_iconst 122 dX6_on_121 rfl (InR_of rfl) ?_
        refine r_isub 123 dX6_on_122 rfl o_4 ?_
        refine a_R (ci := 7) 61 124 dX6_on_123 rfl rfl rfl rfl rfl o_5 rfl ?_
        refine r_aload_n 125 dX6_on_124 rfl rfl ?_
        refine g_R 128 dX6_on_125 rfl rfl rfl fr_6_21 (sh_6_0 hS) ?_
        refine g_R 131 dX6_on_128 rfl rfl rfl fr_6_36 (sh_8_5 hS _) ?_
        refine r_iload_n 132 dX6_on_131 rfl rfl ?_
        refine r_iconst 133 dX6_on_132 rfl (InR_of rfl) ?_
        refine r_isub 134 dX6_on_133 rfl o_6 ?_
        refine a_I 60 135 dX6_on_134 rfl rfl rfl rfl o_7 rfl ?_
        obtain ⟨k_8, e_9, h⟩ := h
        refine Ex.at (st2 := [vI (M.1 35 0 (x3 - 1).toNat), vR (M.2.1 28 0 (x3 - 1).toNat), vR (some (14, k_8))]) ?_ rfl (show [vI (M.1 35 0 (x3 - 1).toNat), vR (M.2.1 28 0 (x3 - 1).toNat), vR (M.2.1 28 0 x3.toNat)] = [vI (M.1 35 0 (x3 - 1).toNat), vR (M.2.1 28 0 (x3 - 1).toNat), vR (some (14, k_8))] by rw [e_9]) rfl
        obtain ⟨M_10, hc_11, h⟩ := h
        refine v_0 (ci := 7) (C := (RX7, TX7, 5)) [vR (M.2.1 28 0 (x3 - 1).toNat), vI (M.1 35 0 (x3 - 1).toNat)] [] 138 dX6_on_135 rfl rfl rfl rfl rfl mo_X7_follow ml_6_51 rfl rfl hc_11 ?_
        obtain ⟨o_12, h⟩ := h
        refine r_aload_n 139 dX6_on_138 rfl rfl ?_
        refine r_iload_n 140 dX6_on_139 rfl rfl ?_
        refine p_I 143 dX6_on_140 rfl rfl rfl rfl pf_6_17 (.inl rfl) rfl ?_
        refine r_iinc (ls' := [some (vR (some (6, 0))), some (vI x1), some (vI x2), some (vI (x3 + 1)), none]) 146 dX6_on_143 rfl rfl rfl rfl o_12 rfl ?_
        refine r_goto 62 dX6_on_146 rfl ?_
        exact h
      · have h := h.2 (c)
        refine r_aload_n 95 dX6_on_94 rfl rfl ?_
        refine g_R 98 dX6_on_95 rfl rfl rfl fr_6_11 (sh_6_1 hS) ?_
        refine r_iconst 99 dX6_on_98 rfl (InR_of rfl) ?_
        refine a_R (ci := 7) 61 100 dX6_on_99 rfl rfl rfl rfl rfl ⟨by decide, by decide⟩ rfl ?_
        refine r_aload_n 101 dX6_on_100 rfl rfl ?_
        refine g_R 104 dX6_on_101 rfl rfl rfl fr_6_21 (sh_6_0 hS) ?_
        obtain ⟨k_13, e_14, h⟩ := h
        refine Ex.at (st2 := [vR (some (4, 0)), vR (some (14, k_13))]) ?_ rfl (show [vR (some (4, 0)), vR (M.2.1 28 0 0)] = [vR (some (4, 0)), vR (some (14, k_13))] by rw [e_14]) rfl
        obtain ⟨M_15, hc_16, h⟩ := h
        refine v_0 (ci := 7) (C := (RX7, TX7, 5)) [vR (some (4, 0))] [] 107 dX6_on_104 rfl rfl rfl rfl rfl mo_X7_beginWith ml_6_47 rfl rfl hc_16 ?_
        obtain ⟨o_17, h⟩ := h
        refine r_goto 138 dX6_on_107 rfl ?_
        refine r_aload_n 139 dX6_on_138 rfl rfl ?_
        refine r_iload_n 140 dX6_on_139 rfl rfl ?_
        refine p_I 143 dX6_on_140 rfl rfl rfl rfl pf_6_17 (.inl rfl) rfl ?_
        refine r_iinc (ls' := [some (vR (some (6, 0))), some (vI x1), some (vI x2), some (vI (x3 + 1)), none]) 146 dX6_on_143 rfl rfl rfl rfl o_17 rfl ?_
        refine r_goto 62 dX6_on_146 rfl ?_
        exact h
    · have h := h.2 (c)
      refine r_aload_n 77 dX6_on_76 rfl rfl ?_
      refine g_R 80 dX6_on_77 rfl rfl rfl fr_6_11 (sh_6_1 hS) ?_
      refine r_iload_n 81 dX6_on_80 rfl rfl ?_
      refine r_new (f := 14) (ci := 7) (C := (RX7, TX7, 5)) 84 dX6_on_81 rfl rfl rfl rfl (inT1 (List.mem_of_getElem? (i := 173) rfl) rfl) (inT3 (List.mem_of_getElem? (i := 198) rfl) rfl) wi_7 ?_
      generalize hM_18 : newM M 14 0 5 = M_18
      have h := h M_18 hM_18
      refine r_dup 85 dX6_on_84 rfl rfl ?_
      refine r_iload_n 86 dX6_on_85 rfl rfl ?_
      obtain ⟨M_19, hc_20, hS, h⟩ := h
      refine r_callI [vI x3] [vR (some (14, cCnt M.2.2 14)), vI x3, vR (some (28, 0))] 89 dX6_on_86 rfl rfl rfl mo_X7_init ⟨rfl, rfl⟩ ml_6_44 rfl rfl hc_20 ?_
      obtain ⟨o_21, h⟩ := h
      refine s_R (ci := 7) 61 90 dX6_on_89 rfl rfl rfl rfl rfl rfl rfl rfl o_21 ?_
      refine r_iload_n 91 dX6_on_90 rfl rfl ?_
      refine r_if_ne 94 110 dX6_on_91 rfl rfl (fun c => ?_) (fun c => ?_)
      · have h := h.1 (c)
        obtain ⟨⟨o_22, o_23, o_24, o_25, o_26⟩, h⟩ := h
        refine r_aload_n 111 dX6_on_110 rfl rfl ?_
        refine g_R 114 dX6_on_111 rfl rfl rfl fr_6_11 (mR_0 ((upR_f rfl).trans (sh_6_1 hS))) ?_
        refine r_iload_n 115 dX6_on_114 rfl rfl ?_
        refine a_R (ci := 7) 61 116 dX6_on_115 rfl rfl rfl rfl rfl o_22 (mR_0 (upR_s)) ?_
        refine r_aload_n 117 dX6_on_116 rfl rfl ?_
        refine g_R 120 dX6_on_117 rfl rfl rfl fr_6_11 (mR_0 ((upR_f rfl).trans (sh_6_1 hS))) ?_
        refine r_iload_n 121 dX6_on_120 rfl rfl ?_
        refine r_iconst 122 dX6_on_121 rfl (InR_of rfl) ?_
        refine r_isub 123 dX6_on_122 rfl o_23 ?_
        refine a_R (ci := 7) 61 124 dX6_on_123 rfl rfl rfl rfl rfl o_24 (mR_0 rfl) ?_
        refine r_aload_n 125 dX6_on_124 rfl rfl ?_
        refine g_R 128 dX6_on_125 rfl rfl rfl fr_6_21 (mR_0 ((upR_f rfl).trans (sh_6_0 hS))) ?_
        refine g_R 131 dX6_on_128 rfl rfl rfl fr_6_36 (mR_0 ((upR_f rfl).trans (sh_8_5 hS _))) ?_
        refine r_iload_n 132 dX6_on_131 rfl rfl ?_
        refine r_iconst 133 dX6_on_132 rfl (InR_of rfl) ?_
        refine r_isub 134 dX6_on_133 rfl o_25 ?_
        refine a_I 60 135 dX6_on_134 rfl rfl rfl rfl o_26 (mI_0 rfl) ?_
        obtain ⟨M_27, hc_28, h⟩ := h
        refine v_0 (ci := 7) (C := (RX7, TX7, 5)) [vR ((upR M_19.2.1 28 0 x3.toNat (some (14, cCnt M.2.2 14))) 28 0 (x3 - 1).toNat), vI (M_19.1 35 0 (x3 - 1).toNat)] [] 138 dX6_on_135 rfl rfl rfl rfl rfl mo_X7_follow ml_6_51 rfl rfl hc_28 ?_
        obtain ⟨o_29, h⟩ := h
        refine r_aload_n 139 dX6_on_138 rfl rfl ?_
        refine r_iload_n 140 dX6_on_139 rfl rfl ?_
        refine p_I 143 dX6_on_140 rfl rfl rfl rfl pf_6_17 (.inl rfl) rfl ?_
        refine r_iinc (ls' := [some (vR (some (6, 0))), some (vI x1), some (vI x2), some (vI (x3 + 1)), none]) 146 dX6_on_143 rfl rfl rfl rfl o_29 rfl ?_
        refine r_goto 62 dX6_on_146 rfl ?_
        exact h
      · have h := h.2 (c)
        refine r_aload_n 95 dX6_on_94 rfl rfl ?_
        refine g_R 98 dX6_on_95 rfl rfl rfl fr_6_11 (mR_0 ((upR_f rfl).trans (sh_6_1 hS))) ?_
        refine r_iconst 99 dX6_on_98 rfl (InR_of rfl) ?_
        refine a_R (ci := 7) 61 100 dX6_on_99 rfl rfl rfl rfl rfl ⟨by decide, by decide⟩ (mR_0 rfl) ?_
        refine r_aload_n 101 dX6_on_100 rfl rfl ?_
        refine g_R 104 dX6_on_101 rfl rfl rfl fr_6_21 (mR_0 ((upR_f rfl).trans (sh_6_0 hS))) ?_
        obtain ⟨k_30, e_31, h⟩ := h
        refine Ex.at (st2 := [vR (some (4, 0)), vR (some (14, k_30))]) ?_ rfl (show [vR (some (4, 0)), vR ((upR M_19.2.1 28 0 x3.toNat (some (14, cCnt M.2.2 14))) 28 0 0)] = [vR (some (4, 0)), vR (some (14, k_30))] by rw [e_31]) rfl
        obtain ⟨M_32, hc_33, h⟩ := h
        refine v_0 (ci := 7) (C := (RX7, TX7, 5)) [vR (some (4, 0))] [] 107 dX6_on_104 rfl rfl rfl rfl rfl mo_X7_beginWith ml_6_47 rfl rfl hc_33 ?_
        obtain ⟨o_34, h⟩ := h
        refine r_goto 138 dX6_on_107 rfl ?_
        refine r_aload_n 139 dX6_on_138 rfl rfl ?_
        refine r_iload_n 140 dX6_on_139 rfl rfl ?_
        refine p_I 143 dX6_on_140 rfl rfl rfl rfl pf_6_17 (.inl rfl) rfl ?_
        refine r_iinc (ls' := [some (vR (some (6, 0))), some (vI x1), some (vI x2), some (vI (x3 + 1)), none]) 146 dX6_on_143 rfl rfl rfl rfl o_34 rfl ?_
        refine r_goto 62 dX6_on_146 rfl ?_
        exact h

set_option maxRecDepth 4000 in
theorem xX7_init_0 {l : Launch} {G : Gt} {d : Nat} {M M' : Mem} {r : Option Vl} {k0 : Nat} {x1 : Int} (h : 
    (∀ M_1 : Mem, newM M 29 10 10 = M_1 → (∀ M_2 : Mem, newM (M_1.1, (upR M_1.2.1 14 k0 1 (some (29, cCnt M.2.2 29))), M_1.2.2) 30 72 72 = M_2 → (∀ M_3 : Mem, newM (M_2.1, (upR M_2.2.1 14 k0 2 (some (30, cCnt M_1.2.2 30))), M_2.2.2) 31 12 12 = M_3 → (∀ M_4 : Mem, newM (M_3.1, (upR M_3.2.1 14 k0 3 (some (31, cCnt M_2.2.2 31))), M_3.2.2) 32 8 8 = M_4 → r = none ∧ M' = ((upI M_4.1 14 k0 0 x1), (upR M_4.2.1 14 k0 4 (some (32, cCnt M_3.2.2 32))), M_4.2.2)))))) : Cl l G (d + 1) mX7_init [vR (some (14, k0)), vI x1] M r M' := by
  show Ex l G (d + 1) mX7_init 0 [some (vR (some (14, k0))), some (vI x1)] [] M r M'
  refine r_aload_n 1 dX7_init_0 rfl rfl ?_
  refine r_objInit 4 dX7_init_1 rfl rfl ⟨(inT3 (List.mem_of_getElem? (i := 202) rfl) rfl), (inT1 (List.mem_of_getElem? (i := 28) rfl) rfl), (inT1 (List.mem_of_getElem? (i := 29) rfl) rfl)⟩ rfl ?_
  refine r_aload_n 5 dX7_init_4 rfl rfl ?_
  refine r_bipush 7 dX7_init_5 rfl rfl ?_
  refine r_newa (f := 29) (k := 1) (n := 10) 9 dX7_init_7 rfl rfl rfl (by decide) (inT1 (List.mem_of_getElem? (i := 104) rfl) rfl) rfl (by decide) (.inl rfl) ?_
  generalize hM_1 : newM M 29 10 10 = M_1
  have h := h M_1 hM_1
  refine p_R 12 dX7_init_9 rfl rfl rfl rfl pf_7_9 (.inr rfl) rfl ?_
  refine r_aload_n 13 dX7_init_12 rfl rfl ?_
  refine r_bipush 15 dX7_init_13 rfl rfl ?_
  refine r_newa (f := 30) (k := 1) (n := 72) 17 dX7_init_15 rfl rfl rfl (by decide) (inT1 (List.mem_of_getElem? (i := 104) rfl) rfl) rfl (by decide) (.inl rfl) ?_
  generalize hM_2 : newM (M_1.1, (upR M_1.2.1 14 k0 1 (some (29, cCnt M.2.2 29))), M_1.2.2) 30 72 72 = M_2
  have h := h M_2 hM_2
  refine p_R 20 dX7_init_17 rfl rfl rfl rfl pf_7_15 (.inr rfl) rfl ?_
  refine r_aload_n 21 dX7_init_20 rfl rfl ?_
  refine r_bipush 23 dX7_init_21 rfl rfl ?_
  refine r_newa (f := 31) (k := 1) (n := 12) 25 dX7_init_23 rfl rfl rfl (by decide) (inT1 (List.mem_of_getElem? (i := 104) rfl) rfl) rfl (by decide) (.inl rfl) ?_
  generalize hM_3 : newM (M_2.1, (upR M_2.2.1 14 k0 2 (some (30, cCnt M_1.2.2 30))), M_2.2.2) 31 12 12 = M_3
  have h := h M_3 hM_3
  refine p_R 28 dX7_init_25 rfl rfl rfl rfl pf_7_18 (.inr rfl) rfl ?_
  refine r_aload_n 29 dX7_init_28 rfl rfl ?_
  refine r_bipush 31 dX7_init_29 rfl rfl ?_
  refine r_newa (f := 32) (k := 1) (n := 8) 33 dX7_init_31 rfl rfl rfl (by decide) (inT1 (List.mem_of_getElem? (i := 104) rfl) rfl) rfl (by decide) (.inl rfl) ?_
  generalize hM_4 : newM (M_3.1, (upR M_3.2.1 14 k0 3 (some (31, cCnt M_2.2.2 31))), M_3.2.2) 32 8 8 = M_4
  have h := h M_4 hM_4
  refine p_R 36 dX7_init_33 rfl rfl rfl rfl pf_7_21 (.inr rfl) rfl ?_
  refine r_aload_n 37 dX7_init_36 rfl rfl ?_
  refine r_iload_n 38 dX7_init_37 rfl rfl ?_
  refine p_I 41 dX7_init_38 rfl rfl rfl rfl pf_7_24 (.inr rfl) rfl ?_
  exact r_vret dX7_init_41 rfl h.1 h.2

set_option maxRecDepth 4000 in
theorem xX7_beginWith_0 {l : Launch} {G : Gt} {d : Nat} {M M' : Mem} {r : Option Vl} {k0 : Nat} {k1 : Nat} (hS : Sh M.2.1) (h : 
    ∃ (M_1 : Mem), Cl l G d mJ7_fill_53178 [vR (some (29, k0)), vI 0] M none M_1 ∧ Sh M_1.2.1 ∧ (∃ (M_3 : Mem), Cl l G d mJ7_fill_53178 [vR (some (30, k0)), vI 0] M_1 none M_3 ∧ Sh M_3.2.1 ∧ (∃ (M_5 : Mem), Cl l G d mJ7_fill_53178 [vR (some (32, k0)), vI 0] M_3 none M_5 ∧ Ex l G (d + 1) mX7_beginWith 26 [some (vR (some (14, k0))), some (vR (some (4, k1))), some (vI 0)] [] M_5 r M'))) : Cl l G (d + 1) mX7_beginWith [vR (some (14, k0)), vR (some (4, k1))] M r M' := by
  show Ex l G (d + 1) mX7_beginWith 0 [some (vR (some (14, k0))), some (vR (some (4, k1))), none] [] M r M'
  refine r_aload_n 1 dX7_beginWith_0 rfl rfl ?_
  refine g_R 4 dX7_beginWith_1 rfl rfl rfl fr_7_9 (sh_7_1 hS _) ?_
  refine r_iconst 5 dX7_beginWith_4 rfl (InR_of rfl) ?_
  obtain ⟨M_1, hc_2, hS, h⟩ := h
  refine c_0 [vR (some (29, k0)), vI 0] [] 8 dX7_beginWith_5 rfl rfl mo_J7_fill_53178 ml_7_28 rfl rfl hc_2 ?_
  refine r_aload_n 9 dX7_beginWith_8 rfl rfl ?_
  refine g_R 12 dX7_beginWith_9 rfl rfl rfl fr_7_15 (sh_7_2 hS _) ?_
  refine r_iconst 13 dX7_beginWith_12 rfl (InR_of rfl) ?_
  obtain ⟨M_3, hc_4, hS, h⟩ := h
  refine c_0 [vR (some (30, k0)), vI 0] [] 16 dX7_beginWith_13 rfl rfl mo_J7_fill_53178 ml_7_28 rfl rfl hc_4 ?_
  refine r_aload_n 17 dX7_beginWith_16 rfl rfl ?_
  refine g_R 20 dX7_beginWith_17 rfl rfl rfl fr_7_21 (sh_7_4 hS _) ?_
  refine r_iconst 21 dX7_beginWith_20 rfl (InR_of rfl) ?_
  obtain ⟨M_5, hc_6, h⟩ := h
  refine c_0 [vR (some (32, k0)), vI 0] [] 24 dX7_beginWith_21 rfl rfl mo_J7_fill_53178 ml_7_28 rfl rfl hc_6 ?_
  refine r_iconst 25 dX7_beginWith_24 rfl (InR_of rfl) ?_
  refine r_istore_n (ls' := [some (vR (some (14, k0))), some (vR (some (4, k1))), some (vI 0)]) 26 dX7_beginWith_25 rfl rfl rfl rfl ?_
  exact h
set_option maxRecDepth 4000 in
theorem xX7_beginWith_26 {l : Launch} {G : Gt} {d : Nat} {M M' : Mem} {r : Option Vl} {k0 : Nat} {k1 : Nat} {x2 : Int} (hS : Sh M.2.1) (h : 
    ((M.1 4 k1 0) ≤ x2 → r = none ∧ M' = M) ∧ (¬ ((M.1 4 k1 0) ≤ x2) → ((0 ≤ x2 ∧ x2 < 12) ∧ (0 ≤ x2 ∧ x2 < 12) ∧ (0 ≤ x2 ∧ x2 < 12) ∧ (0 ≤ (M.1 33 k1 x2.toNat) ∧ (M.1 33 k1 x2.toNat) < 8) ∧ (0 ≤ x2 ∧ x2 < 32) ∧ (0 ≤ (M.1 33 k1 x2.toNat) ∧ (M.1 33 k1 x2.toNat) < 8) ∧ InR (x2 + 1)) ∧ Ex l G (d + 1) mX7_beginWith 26 [some (vR (some (14, k0))), some (vR (some (4, k1))), some (vI (x2 + 1))] [] ((upI (upI M.1 31 k0 x2.toNat (M.1 33 k1 x2.toNat)) 32 k0 (M.1 33 k1 x2.toNat).toNat (aOr (M.1 32 k0 (M.1 33 k1 x2.toNat).toNat) (aShl 1 x2))), M.2.1, M.2.2) r M')) : Ex l G (d + 1) mX7_beginWith 26 [some (vR (some (14, k0))), some (vR (some (4, k1))), some (vI x2)] [] M r M' := by
  refine r_iload_n 27 dX7_beginWith_26 rfl rfl ?_
  refine r_aload_n 28 dX7_beginWith_27 rfl rfl ?_
  refine g_I 31 dX7_beginWith_28 rfl rfl rfl fi_7_34 rfl ?_
  refine r_icmp_ge 34 69 dX7_beginWith_31 rfl rfl (fun c => ?_) (fun c => ?_)
  · have h := h.1 (c)
    exact r_vret dX7_beginWith_69 rfl h.1 h.2
  · have h := h.2 (c)
    obtain ⟨⟨o_1, o_2, o_3, o_4, o_5, o_6, o_7⟩, h⟩ := h
    refine r_aload_n 35 dX7_beginWith_34 rfl rfl ?_
    refine g_R 38 dX7_beginWith_35 rfl rfl rfl fr_7_18 (sh_7_3 hS _) ?_
    refine r_iload_n 39 dX7_beginWith_38 rfl rfl ?_
    refine r_aload_n 40 dX7_beginWith_39 rfl rfl ?_
    refine g_R 43 dX7_beginWith_40 rfl rfl rfl fr_7_39 (sh_8_1 hS _) ?_
    refine r_iload_n 44 dX7_beginWith_43 rfl rfl ?_
    refine a_I 12 45 dX7_beginWith_44 rfl rfl rfl rfl o_1 rfl ?_
    refine s_I 12 46 dX7_beginWith_45 rfl rfl (by decide) rfl rfl o_2 ?_
    refine r_aload_n 47 dX7_beginWith_46 rfl rfl ?_
    refine g_R 50 dX7_beginWith_47 rfl rfl rfl fr_7_21 (mR_0 (sh_7_4 hS _)) ?_
    refine r_aload_n 51 dX7_beginWith_50 rfl rfl ?_
    refine g_R 54 dX7_beginWith_51 rfl rfl rfl fr_7_18 (mR_0 (sh_7_3 hS _)) ?_
    refine r_iload_n 55 dX7_beginWith_54 rfl rfl ?_
    refine a_I 12 56 dX7_beginWith_55 rfl rfl rfl rfl o_3 (mI_0 (upI_s)) ?_
    refine r_dup2 57 dX7_beginWith_56 rfl rfl ?_
    refine a_I 8 58 dX7_beginWith_57 rfl rfl rfl rfl o_4 (mI_0 (upI_f rfl)) ?_
    refine r_iconst 59 dX7_beginWith_58 rfl (InR_of rfl) ?_
    refine r_iload_n 60 dX7_beginWith_59 rfl rfl ?_
    refine r_ishl 61 dX7_beginWith_60 rfl o_5 ?_
    refine r_ior 62 dX7_beginWith_61 rfl ?_
    refine s_I 8 63 dX7_beginWith_62 rfl rfl (by decide) rfl rfl o_6 ?_
    refine r_iinc (ls' := [some (vR (some (14, k0))), some (vR (some (4, k1))), some (vI (x2 + 1))]) 66 dX7_beginWith_63 rfl rfl rfl rfl o_7 rfl ?_
    refine r_goto 26 dX7_beginWith_66 rfl ?_
    exact h

set_option maxRecDepth 4000 in
theorem xX7_follow_0 {l : Launch} {G : Gt} {d : Nat} {M M' : Mem} {r : Option Vl} {k0 : Nat} {k1 : Nat} {x2 : Int} (hne : k1 ≠ k0) (hS : Sh M.2.1) (h : 
    (¬ (aAnd (aShr x2 13) 3) = 0 → (¬ (aAnd (aShr x2 13) 3) = 1 → ((0 ≤ (aAnd (aShr x2 9) 15) ∧ (aAnd (aShr x2 9) 15) < 12) ∧ (0 ≤ ((cpI (cpI (cpI M.1 29 k1 29 k0 0 0 10) 30 k1 30 k0 0 0 72) 31 k1 31 k0 0 0 12) 31 k0 (aAnd (aShr x2 9) 15).toNat) ∧ ((cpI (cpI (cpI M.1 29 k1 29 k0 0 0 10) 30 k1 30 k0 0 0 72) 31 k1 31 k0 0 0 12) 31 k0 (aAnd (aShr x2 9) 15).toNat) < 8) ∧ (0 ≤ (aAnd (aShr x2 9) 15) ∧ (aAnd (aShr x2 9) 15) < 32) ∧ (0 ≤ ((cpI (cpI (cpI M.1 29 k1 29 k0 0 0 10) 30 k1 30 k0 0 0 72) 31 k1 31 k0 0 0 12) 31 k0 (aAnd (aShr x2 9) 15).toNat) ∧ ((cpI (cpI (cpI M.1 29 k1 29 k0 0 0 10) 30 k1 30 k0 0 0 72) 31 k1 31 k0 0 0 12) 31 k0 (aAnd (aShr x2 9) 15).toNat) < 8) ∧ (0 ≤ (aAnd (aShr x2 9) 15) ∧ (aAnd (aShr x2 9) 15) < 12) ∧ (0 ≤ (aAnd (aShr x2 5) 15) ∧ (aAnd (aShr x2 5) 15) < 8) ∧ (0 ≤ (aAnd (aShr x2 9) 15) ∧ (aAnd (aShr x2 9) 15) < 32) ∧ (0 ≤ (aAnd (aShr x2 5) 15) ∧ (aAnd (aShr x2 5) 15) < 8)) ∧ r = none ∧ M' = ((upI (upI (upI (cpI (cpI (cpI (cpI M.1 29 k1 29 k0 0 0 10) 30 k1 30 k0 0 0 72) 31 k1 31 k0 0 0 12) 32 k1 32 k0 0 0 8) 32 k0 ((cpI (cpI (cpI M.1 29 k1 29 k0 0 0 10) 30 k1 30 k0 0 0 72) 31 k1 31 k0 0 0 12) 31 k0 (aAnd (aShr x2 9) 15).toNat).toNat (aAnd ((cpI (cpI (cpI (cpI M.1 29 k1 29 k0 0 0 10) 30 k1 30 k0 0 0 72) 31 k1 31 k0 0 0 12) 32 k1 32 k0 0 0 8) 32 k0 ((cpI (cpI (cpI M.1 29 k1 29 k0 0 0 10) 30 k1 30 k0 0 0 72) 31 k1 31 k0 0 0 12) 31 k0 (aAnd (aShr x2 9) 15).toNat).toNat) (aXor (aShl 1 (aAnd (aShr x2 9) 15)) (-1)))) 31 k0 (aAnd (aShr x2 9) 15).toNat (aAnd (aShr x2 5) 15)) 32 k0 (aAnd (aShr x2 5) 15).toNat (aOr ((upI (cpI (cpI (cpI (cpI M.1 29 k1 29 k0 0 0 10) 30 k1 30 k0 0 0 72) 31 k1 31 k0 0 0 12) 32 k1 32 k0 0 0 8) 32 k0 ((cpI (cpI (cpI M.1 29 k1 29 k0 0 0 10) 30 k1 30 k0 0 0 72) 31 k1 31 k0 0 0 12) 31 k0 (aAnd (aShr x2 9) 15).toNat).toNat (aAnd ((cpI (cpI (cpI (cpI M.1 29 k1 29 k0 0 0 10) 30 k1 30 k0 0 0 72) 31 k1 31 k0 0 0 12) 32 k1 32 k0 0 0 8) 32 k0 ((cpI (cpI (cpI M.1 29 k1 29 k0 0 0 10) 30 k1 30 k0 0 0 72) 31 k1 31 k0 0 0 12) 31 k0 (aAnd (aShr x2 9) 15).toNat).toNat) (aXor (aShl 1 (aAnd (aShr x2 9) 15)) (-1)))) 32 k0 (aAnd (aShr x2 5) 15).toNat) (aShl 1 (aAnd (aShr x2 9) 15)))), M.2.1, M.2.2)) ∧ (¬ (¬ (aAnd (aShr x2 13) 3) = 1) → (InR ((aAnd (aShr x2 5) 15) * 12) ∧ InR (((aAnd (aShr x2 5) 15) * 12) + (aAnd (aShr x2 9) 15))) ∧ ((((if ¬ (aAnd x2 1) = 1 then 0 else 1 : Int) = 0 → ((0 ≤ (((aAnd (aShr x2 5) 15) * 12) + (aAnd (aShr x2 9) 15)) ∧ (((aAnd (aShr x2 5) 15) * 12) + (aAnd (aShr x2 9) 15)) < 72) ∧ (0 ≤ (aAnd (aShr x2 1) 15) ∧ (aAnd (aShr x2 1) 15) < 32))) ∧ (¬ ((if ¬ (aAnd x2 1) = 1 then 0 else 1 : Int) = 0) → ((0 ≤ (((aAnd (aShr x2 5) 15) * 12) + (aAnd (aShr x2 9) 15)) ∧ (((aAnd (aShr x2 5) 15) * 12) + (aAnd (aShr x2 9) 15)) < 72) ∧ (0 ≤ (aAnd (aShr x2 1) 15) ∧ (aAnd (aShr x2 1) 15) < 32)))) ∧ ((0 ≤ (((aAnd (aShr x2 5) 15) * 12) + (aAnd (aShr x2 9) 15)) ∧ (((aAnd (aShr x2 5) 15) * 12) + (aAnd (aShr x2 9) 15)) < 72)) ∧ r = none ∧ M' = ((upI (cpI (cpI (cpI (cpI M.1 29 k1 29 k0 0 0 10) 30 k1 30 k0 0 0 72) 31 k1 31 k0 0 0 12) 32 k1 32 k0 0 0 8) 30 k0 (((aAnd (aShr x2 5) 15) * 12) + (aAnd (aShr x2 9) 15)).toNat (if (if ¬ (aAnd x2 1) = 1 then 0 else 1 : Int) = 0 then (aAnd ((cpI (cpI M.1 29 k1 29 k0 0 0 10) 30 k1 30 k0 0 0 72) 30 k0 (((aAnd (aShr x2 5) 15) * 12) + (aAnd (aShr x2 9) 15)).toNat) (aXor (aShl 1 (aAnd (aShr x2 1) 15)) (-1))) else (aOr ((cpI (cpI M.1 29 k1 29 k0 0 0 10) 30 k1 30 k0 0 0 72) 30 k0 (((aAnd (aShr x2 5) 15) * 12) + (aAnd (aShr x2 9) 15)).toNat) (aShl 1 (aAnd (aShr x2 1) 15))) : Int)), M.2.1, M.2.2)))) ∧ (¬ (¬ (aAnd (aShr x2 13) 3) = 0) → (((if ¬ (aAnd x2 1) = 1 then 0 else 1 : Int) = 0 → ((0 ≤ (aAnd (aShr x2 5) 15) ∧ (aAnd (aShr x2 5) 15) < 10) ∧ (0 ≤ (aAnd (aShr x2 9) 15) ∧ (aAnd (aShr x2 9) 15) < 32))) ∧ (¬ ((if ¬ (aAnd x2 1) = 1 then 0 else 1 : Int) = 0) → ((0 ≤ (aAnd (aShr x2 5) 15) ∧ (aAnd (aShr x2 5) 15) < 10) ∧ (0 ≤ (aAnd (aShr x2 9) 15) ∧ (aAnd (aShr x2 9) 15) < 32)))) ∧ ((0 ≤ (aAnd (aShr x2 5) 15) ∧ (aAnd (aShr x2 5) 15) < 10)) ∧ r = none ∧ M' = ((upI (cpI (cpI (cpI (cpI M.1 29 k1 29 k0 0 0 10) 30 k1 30 k0 0 0 72) 31 k1 31 k0 0 0 12) 32 k1 32 k0 0 0 8) 29 k0 (aAnd (aShr x2 5) 15).toNat (if (if ¬ (aAnd x2 1) = 1 then 0 else 1 : Int) = 0 then (aAnd ((cpI M.1 29 k1 29 k0 0 0 10) 29 k0 (aAnd (aShr x2 5) 15).toNat) (aXor (aShl 1 (aAnd (aShr x2 9) 15)) (-1))) else (aOr ((cpI M.1 29 k1 29 k0 0 0 10) 29 k0 (aAnd (aShr x2 5) 15).toNat) (aShl 1 (aAnd (aShr x2 9) 15))) : Int)), M.2.1, M.2.2))) : Cl l G (d + 1) mX7_follow [vR (some (14, k0)), vR (some (14, k1)), vI x2] M r M' := by
  show Ex l G (d + 1) mX7_follow 0 [some (vR (some (14, k0))), some (vR (some (14, k1))), some (vI x2), none, none, none, none, none, none] [] M r M'
  refine r_aload_n 1 dX7_follow_0 rfl rfl ?_
  refine g_R 4 dX7_follow_1 rfl rfl rfl fr_7_9 (sh_7_1 hS _) ?_
  refine r_iconst 5 dX7_follow_4 rfl (InR_of rfl) ?_
  refine r_aload_n 6 dX7_follow_5 rfl rfl ?_
  refine g_R 9 dX7_follow_6 rfl rfl rfl fr_7_9 (sh_7_1 hS _) ?_
  refine r_iconst 10 dX7_follow_9 rfl (InR_of rfl) ?_
  refine r_bipush 12 dX7_follow_10 rfl rfl ?_
  refine cp_y 10 10 15 dX7_follow_12 rfl rfl rfl ⟨(inT3 (List.mem_of_getElem? (i := 236) rfl) rfl), (inT3 (List.mem_of_getElem? (i := 165) rfl) rfl), (inT3 (List.mem_of_getElem? (i := 164) rfl) rfl), (inT1 (List.mem_of_getElem? (i := 19) rfl) rfl)⟩ rfl rfl rfl rfl rfl ⟨by decide, by decide, by decide, by decide, by decide⟩ rfl ?_
  refine r_aload_n 16 dX7_follow_15 rfl rfl ?_
  refine g_R 19 dX7_follow_16 rfl rfl rfl fr_7_15 (mR_0 (sh_7_2 hS _)) ?_
  refine r_iconst 20 dX7_follow_19 rfl (InR_of rfl) ?_
  refine r_aload_n 21 dX7_follow_20 rfl rfl ?_
  refine g_R 24 dX7_follow_21 rfl rfl rfl fr_7_15 (mR_0 (sh_7_2 hS _)) ?_
  refine r_iconst 25 dX7_follow_24 rfl (InR_of rfl) ?_
  refine r_bipush 27 dX7_follow_25 rfl rfl ?_
  refine cp_y 72 72 30 dX7_follow_27 rfl rfl rfl ⟨(inT3 (List.mem_of_getElem? (i := 236) rfl) rfl), (inT3 (List.mem_of_getElem? (i := 165) rfl) rfl), (inT3 (List.mem_of_getElem? (i := 164) rfl) rfl), (inT1 (List.mem_of_getElem? (i := 19) rfl) rfl)⟩ rfl rfl rfl rfl rfl ⟨by decide, by decide, by decide, by decide, by decide⟩ rfl ?_
  refine r_aload_n 31 dX7_follow_30 rfl rfl ?_
  refine g_R 34 dX7_follow_31 rfl rfl rfl fr_7_18 (mR_0 (sh_7_3 hS _)) ?_
  refine r_iconst 35 dX7_follow_34 rfl (InR_of rfl) ?_
  refine r_aload_n 36 dX7_follow_35 rfl rfl ?_
  refine g_R 39 dX7_follow_36 rfl rfl rfl fr_7_18 (mR_0 (sh_7_3 hS _)) ?_
  refine r_iconst 40 dX7_follow_39 rfl (InR_of rfl) ?_
  refine r_bipush 42 dX7_follow_40 rfl rfl ?_
  refine cp_y 12 12 45 dX7_follow_42 rfl rfl rfl ⟨(inT3 (List.mem_of_getElem? (i := 236) rfl) rfl), (inT3 (List.mem_of_getElem? (i := 165) rfl) rfl), (inT3 (List.mem_of_getElem? (i := 164) rfl) rfl), (inT1 (List.mem_of_getElem? (i := 19) rfl) rfl)⟩ rfl rfl rfl rfl rfl ⟨by decide, by decide, by decide, by decide, by decide⟩ rfl ?_
  refine r_aload_n 46 dX7_follow_45 rfl rfl ?_
  refine g_R 49 dX7_follow_46 rfl rfl rfl fr_7_21 (mR_0 (sh_7_4 hS _)) ?_
  refine r_iconst 50 dX7_follow_49 rfl (InR_of rfl) ?_
  refine r_aload_n 51 dX7_follow_50 rfl rfl ?_
  refine g_R 54 dX7_follow_51 rfl rfl rfl fr_7_21 (mR_0 (sh_7_4 hS _)) ?_
  refine r_iconst 55 dX7_follow_54 rfl (InR_of rfl) ?_
  refine r_bipush 57 dX7_follow_55 rfl rfl ?_
  refine cp_y 8 8 60 dX7_follow_57 rfl rfl rfl ⟨(inT3 (List.mem_of_getElem? (i := 236) rfl) rfl), (inT3 (List.mem_of_getElem? (i := 165) rfl) rfl), (inT3 (List.mem_of_getElem? (i := 164) rfl) rfl), (inT1 (List.mem_of_getElem? (i := 19) rfl) rfl)⟩ rfl rfl rfl rfl rfl ⟨by decide, by decide, by decide, by decide, by decide⟩ rfl ?_
  refine r_iload_n 61 dX7_follow_60 rfl rfl ?_
  refine r_bipush 63 dX7_follow_61 rfl rfl ?_
  refine r_ishr 64 dX7_follow_63 rfl ⟨by decide, by decide⟩ ?_
  refine r_iconst 65 dX7_follow_64 rfl (InR_of rfl) ?_
  refine r_iand 66 dX7_follow_65 rfl ?_
  refine r_istore_n (ls' := [some (vR (some (14, k0))), some (vR (some (14, k1))), some (vI x2), some (vI (aAnd (aShr x2 13) 3)), none, none, none, none, none]) 67 dX7_follow_66 rfl rfl rfl rfl ?_
  refine r_iload_n 68 dX7_follow_67 rfl rfl ?_
  refine r_bipush 70 dX7_follow_68 rfl rfl ?_
  refine r_ishr 71 dX7_follow_70 rfl ⟨by decide, by decide⟩ ?_
  refine r_bipush 73 dX7_follow_71 rfl rfl ?_
  refine r_iand 74 dX7_follow_73 rfl ?_
  refine r_istore (ls' := [some (vR (some (14, k0))), some (vR (some (14, k1))), some (vI x2), some (vI (aAnd (aShr x2 13) 3)), some (vI (aAnd (aShr x2 9) 15)), none, none, none, none]) 76 dX7_follow_74 rfl rfl rfl rfl ?_
  refine r_iload_n 77 dX7_follow_76 rfl rfl ?_
  refine r_iconst 78 dX7_follow_77 rfl (InR_of rfl) ?_
  refine r_ishr 79 dX7_follow_78 rfl ⟨by decide, by decide⟩ ?_
  refine r_bipush 81 dX7_follow_79 rfl rfl ?_
  refine r_iand 82 dX7_follow_81 rfl ?_
  refine r_istore (ls' := [some (vR (some (14, k0))), some (vR (some (14, k1))), some (vI x2), some (vI (aAnd (aShr x2 13) 3)), some (vI (aAnd (aShr x2 9) 15)), some (vI (aAnd (aShr x2 5) 15)), none, none, none]) 84 dX7_follow_82 rfl rfl rfl rfl ?_
  refine r_iload_n 85 dX7_follow_84 rfl rfl ?_
  refine r_iconst 86 dX7_follow_85 rfl (InR_of rfl) ?_
  refine r_ishr 87 dX7_follow_86 rfl ⟨by decide, by decide⟩ ?_
  refine r_bipush 89 dX7_follow_87 rfl rfl ?_
  refine r_iand 90 dX7_follow_89 rfl ?_
  refine r_istore (ls' := [some (vR (some (14, k0))), some (vR (some (14, k1))), some (vI x2), some (vI (aAnd (aShr x2 13) 3)), some (vI (aAnd (aShr x2 9) 15)), some (vI (aAnd (aShr x2 5) 15)), some (vI (aAnd (aShr x2 1) 15)), none, none]) 92 dX7_follow_90 rfl rfl rfl rfl ?_
  refine r_iload_n 93 dX7_follow_92 rfl rfl ?_
  refine r_iconst 94 dX7_follow_93 rfl (InR_of rfl) ?_
  refine r_iand 95 dX7_follow_94 rfl ?_
  refine r_iconst 96 dX7_follow_95 rfl (InR_of rfl) ?_
  have hJ_1 : Ex l G (d + 1) mX7_follow 104 [some (vR (some (14, k0))), some (vR (some (14, k1))), some (vI x2), some (vI (aAnd (aShr x2 13) 3)), some (vI (aAnd (aShr x2 9) 15)), some (vI (aAnd (aShr x2 5) 15)), some (vI (aAnd (aShr x2 1) 15)), none, none] [vI (if ¬ (aAnd x2 1) = 1 then 0 else 1 : Int)] ((cpI (cpI (cpI (cpI M.1 29 k1 29 k0 0 0 10) 30 k1 30 k0 0 0 72) 31 k1 31 k0 0 0 12) 32 k1 32 k0 0 0 8), M.2.1, M.2.2) r M' := by
    refine r_istore (ls' := [some (vR (some (14, k0))), some (vR (some (14, k1))), some (vI x2), some (vI (aAnd (aShr x2 13) 3)), some (vI (aAnd (aShr x2 9) 15)), some (vI (aAnd (aShr x2 5) 15)), some (vI (aAnd (aShr x2 1) 15)), some (vI (if ¬ (aAnd x2 1) = 1 then 0 else 1 : Int)), none]) 106 dX7_follow_104 rfl rfl rfl rfl ?_
    refine r_iload_n 107 dX7_follow_106 rfl rfl ?_
    refine r_if_ne 110 154 dX7_follow_107 rfl rfl (fun c => ?_) (fun c => ?_)
    · have h := h.1 (c)
      refine r_iload_n 155 dX7_follow_154 rfl rfl ?_
      refine r_iconst 156 dX7_follow_155 rfl (InR_of rfl) ?_
      refine r_icmp_ne 159 213 dX7_follow_156 rfl rfl (fun c => ?_) (fun c => ?_)
      · have h := h.1 (c)
        obtain ⟨⟨o_3, o_4, o_5, o_6, o_7, o_8, o_9, o_10⟩, h⟩ := h
        refine r_aload_n 214 dX7_follow_213 rfl rfl ?_
        refine g_R 217 dX7_follow_214 rfl rfl rfl fr_7_21 (mR_0 (sh_7_4 hS _)) ?_
        refine r_aload_n 218 dX7_follow_217 rfl rfl ?_
        refine g_R 221 dX7_follow_218 rfl rfl rfl fr_7_18 (mR_0 (sh_7_3 hS _)) ?_
        refine r_iload 223 dX7_follow_221 rfl rfl ?_
        refine a_I 12 224 dX7_follow_223 rfl rfl rfl rfl o_3 (mI_0 (cpI_f rfl)) ?_
        refine r_dup2 225 dX7_follow_224 rfl rfl ?_
        refine a_I 8 226 dX7_follow_225 rfl rfl rfl rfl o_4 (mI_0 rfl) ?_
        refine r_iconst 227 dX7_follow_226 rfl (InR_of rfl) ?_
        refine r_iload 229 dX7_follow_227 rfl rfl ?_
        refine r_ishl 230 dX7_follow_229 rfl o_5 ?_
        refine r_iconst 231 dX7_follow_230 rfl (InR_of rfl) ?_
        refine r_ixor 232 dX7_follow_231 rfl ?_
        refine r_iand 233 dX7_follow_232 rfl ?_
        refine s_I 8 234 dX7_follow_233 rfl rfl (by decide) rfl rfl o_6 ?_
        refine r_aload_n 235 dX7_follow_234 rfl rfl ?_
        refine g_R 238 dX7_follow_235 rfl rfl rfl fr_7_18 (mR_0 (sh_7_3 hS _)) ?_
        refine r_iload 240 dX7_follow_238 rfl rfl ?_
        refine r_iload 242 dX7_follow_240 rfl rfl ?_
        refine s_I 12 243 dX7_follow_242 rfl rfl (by decide) rfl rfl o_7 ?_
        refine r_aload_n 244 dX7_follow_243 rfl rfl ?_
        refine g_R 247 dX7_follow_244 rfl rfl rfl fr_7_21 (mR_0 (sh_7_4 hS _)) ?_
        refine r_iload 249 dX7_follow_247 rfl rfl ?_
        refine r_dup2 250 dX7_follow_249 rfl rfl ?_
        refine a_I 8 251 dX7_follow_250 rfl rfl rfl rfl o_8 (mI_0 (upI_f rfl)) ?_
        refine r_iconst 252 dX7_follow_251 rfl (InR_of rfl) ?_
        refine r_iload 254 dX7_follow_252 rfl rfl ?_
        refine r_ishl 255 dX7_follow_254 rfl o_9 ?_
        refine r_ior 256 dX7_follow_255 rfl ?_
        refine s_I 8 257 dX7_follow_256 rfl rfl (by decide) rfl rfl o_10 ?_
        exact r_vret dX7_follow_257 rfl h.1 h.2
      · have h := h.2 (c)
        obtain ⟨⟨o_11, o_12⟩, h⟩ := h
        refine r_iload 161 dX7_follow_159 rfl rfl ?_
        refine r_bipush 163 dX7_follow_161 rfl rfl ?_
        refine r_imul 164 dX7_follow_163 rfl o_11 ?_
        refine r_iload 166 dX7_follow_164 rfl rfl ?_
        refine r_iadd 167 dX7_follow_166 rfl o_12 ?_
        refine r_istore (ls' := [some (vR (some (14, k0))), some (vR (some (14, k1))), some (vI x2), some (vI (aAnd (aShr x2 13) 3)), some (vI (aAnd (aShr x2 9) 15)), some (vI (aAnd (aShr x2 5) 15)), some (vI (aAnd (aShr x2 1) 15)), some (vI (if ¬ (aAnd x2 1) = 1 then 0 else 1 : Int)), some (vI (((aAnd (aShr x2 5) 15) * 12) + (aAnd (aShr x2 9) 15)))]) 169 dX7_follow_167 rfl rfl rfl rfl ?_
        refine r_aload_n 170 dX7_follow_169 rfl rfl ?_
        refine g_R 173 dX7_follow_170 rfl rfl rfl fr_7_15 (mR_0 (sh_7_2 hS _)) ?_
        refine r_iload 175 dX7_follow_173 rfl rfl ?_
        refine r_iload 177 dX7_follow_175 rfl rfl ?_
        obtain ⟨h0, h⟩ := h
        have hJ_13 : Ex l G (d + 1) mX7_follow 209 [some (vR (some (14, k0))), some (vR (some (14, k1))), some (vI x2), some (vI (aAnd (aShr x2 13) 3)), some (vI (aAnd (aShr x2 9) 15)), some (vI (aAnd (aShr x2 5) 15)), some (vI (aAnd (aShr x2 1) 15)), some (vI (if ¬ (aAnd x2 1) = 1 then 0 else 1 : Int)), some (vI (((aAnd (aShr x2 5) 15) * 12) + (aAnd (aShr x2 9) 15)))] [vI (if (if ¬ (aAnd x2 1) = 1 then 0 else 1 : Int) = 0 then (aAnd ((cpI (cpI M.1 29 k1 29 k0 0 0 10) 30 k1 30 k0 0 0 72) 30 k0 (((aAnd (aShr x2 5) 15) * 12) + (aAnd (aShr x2 9) 15)).toNat) (aXor (aShl 1 (aAnd (aShr x2 1) 15)) (-1))) else (aOr ((cpI (cpI M.1 29 k1 29 k0 0 0 10) 30 k1 30 k0 0 0 72) 30 k0 (((aAnd (aShr x2 5) 15) * 12) + (aAnd (aShr x2 9) 15)).toNat) (aShl 1 (aAnd (aShr x2 1) 15))) : Int), vI (((aAnd (aShr x2 5) 15) * 12) + (aAnd (aShr x2 9) 15)), vR (some (30, k0))] ((cpI (cpI (cpI (cpI M.1 29 k1 29 k0 0 0 10) 30 k1 30 k0 0 0 72) 31 k1 31 k0 0 0 12) 32 k1 32 k0 0 0 8), M.2.1, M.2.2) r M' := by
          obtain ⟨o_19, h⟩ := h
          refine s_I 72 210 dX7_follow_209 rfl rfl (by decide) rfl rfl o_19 ?_
          refine r_goto 257 dX7_follow_210 rfl ?_
          exact r_vret dX7_follow_257 rfl h.1 h.2
        have h := h0
        refine r_if_eq 180 195 dX7_follow_177 rfl rfl (fun c => ?_) (fun c => ?_)
        · have c_14 := c
          have h := h.1 c_14
          obtain ⟨o_15, o_16⟩ := h
          refine r_aload_n 196 dX7_follow_195 rfl rfl ?_
          refine g_R 199 dX7_follow_196 rfl rfl rfl fr_7_15 (mR_0 (sh_7_2 hS _)) ?_
          refine r_iload 201 dX7_follow_199 rfl rfl ?_
          refine a_I 72 202 dX7_follow_201 rfl rfl rfl rfl o_15 (mI_0 ((cpI_f rfl).trans (cpI_f rfl))) ?_
          refine r_iconst 203 dX7_follow_202 rfl (InR_of rfl) ?_
          refine r_iload 205 dX7_follow_203 rfl rfl ?_
          refine r_ishl 206 dX7_follow_205 rfl o_16 ?_
          refine r_iconst 207 dX7_follow_206 rfl (InR_of rfl) ?_
          refine r_ixor 208 dX7_follow_207 rfl ?_
          refine r_iand 209 dX7_follow_208 rfl ?_
          exact (Ex.at hJ_13 rfl (show [vI (aAnd ((cpI (cpI M.1 29 k1 29 k0 0 0 10) 30 k1 30 k0 0 0 72) 30 k0 (((aAnd (aShr x2 5) 15) * 12) + (aAnd (aShr x2 9) 15)).toNat) (aXor (aShl 1 (aAnd (aShr x2 1) 15)) (-1))), vI (((aAnd (aShr x2 5) 15) * 12) + (aAnd (aShr x2 9) 15)), vR (some (30, k0))] = [vI (if (if ¬ (aAnd x2 1) = 1 then 0 else 1 : Int) = 0 then (aAnd ((cpI (cpI M.1 29 k1 29 k0 0 0 10) 30 k1 30 k0 0 0 72) 30 k0 (((aAnd (aShr x2 5) 15) * 12) + (aAnd (aShr x2 9) 15)).toNat) (aXor (aShl 1 (aAnd (aShr x2 1) 15)) (-1))) else (aOr ((cpI (cpI M.1 29 k1 29 k0 0 0 10) 30 k1 30 k0 0 0 72) 30 k0 (((aAnd (aShr x2 5) 15) * 12) + (aAnd (aShr x2 9) 15)).toNat) (aShl 1 (aAnd (aShr x2 1) 15))) : Int), vI (((aAnd (aShr x2 5) 15) * 12) + (aAnd (aShr x2 9) 15)), vR (some (30, k0))] by simp only [if_pos c_14]) rfl)
        · have c_14 := c
          have h := h.2 c_14
          obtain ⟨o_17, o_18⟩ := h
          refine r_aload_n 181 dX7_follow_180 rfl rfl ?_
          refine g_R 184 dX7_follow_181 rfl rfl rfl fr_7_15 (mR_0 (sh_7_2 hS _)) ?_
          refine r_iload 186 dX7_follow_184 rfl rfl ?_
          refine a_I 72 187 dX7_follow_186 rfl rfl rfl rfl o_17 (mI_0 ((cpI_f rfl).trans (cpI_f rfl))) ?_
          refine r_iconst 188 dX7_follow_187 rfl (InR_of rfl) ?_
          refine r_iload 190 dX7_follow_188 rfl rfl ?_
          refine r_ishl 191 dX7_follow_190 rfl o_18 ?_
          refine r_ior 192 dX7_follow_191 rfl ?_
          refine r_goto 209 dX7_follow_192 rfl ?_
          exact (Ex.at hJ_13 rfl (show [vI (aOr ((cpI (cpI M.1 29 k1 29 k0 0 0 10) 30 k1 30 k0 0 0 72) 30 k0 (((aAnd (aShr x2 5) 15) * 12) + (aAnd (aShr x2 9) 15)).toNat) (aShl 1 (aAnd (aShr x2 1) 15))), vI (((aAnd (aShr x2 5) 15) * 12) + (aAnd (aShr x2 9) 15)), vR (some (30, k0))] = [vI (if (if ¬ (aAnd x2 1) = 1 then 0 else 1 : Int) = 0 then (aAnd ((cpI (cpI M.1 29 k1 29 k0 0 0 10) 30 k1 30 k0 0 0 72) 30 k0 (((aAnd (aShr x2 5) 15) * 12) + (aAnd (aShr x2 9) 15)).toNat) (aXor (aShl 1 (aAnd (aShr x2 1) 15)) (-1))) else (aOr ((cpI (cpI M.1 29 k1 29 k0 0 0 10) 30 k1 30 k0 0 0 72) 30 k0 (((aAnd (aShr x2 5) 15) * 12) + (aAnd (aShr x2 9) 15)).toNat) (aShl 1 (aAnd (aShr x2 1) 15))) : Int), vI (((aAnd (aShr x2 5) 15) * 12) + (aAnd (aShr x2 9) 15)), vR (some (30, k0))] by simp only [if_neg c_14]) rfl)
    · have h := h.2 (c)
      refine r_aload_n 111 dX7_follow_110 rfl rfl ?_
      refine g_R 114 dX7_follow_111 rfl rfl rfl fr_7_9 (mR_0 (sh_7_1 hS _)) ?_
      refine r_iload 116 dX7_follow_114 rfl rfl ?_
      refine r_iload 118 dX7_follow_116 rfl rfl ?_
      obtain ⟨h0, h⟩ := h
      have hJ_20 : Ex l G (d + 1) mX7_follow 150 [some (vR (some (14, k0))), some (vR (some (14, k1))), some (vI x2), some (vI (aAnd (aShr x2 13) 3)), some (vI (aAnd (aShr x2 9) 15)), some (vI (aAnd (aShr x2 5) 15)), some (vI (aAnd (aShr x2 1) 15)), some (vI (if ¬ (aAnd x2 1) = 1 then 0 else 1 : Int)), none] [vI (if (if ¬ (aAnd x2 1) = 1 then 0 else 1 : Int) = 0 then (aAnd ((cpI M.1 29 k1 29 k0 0 0 10) 29 k0 (aAnd (aShr x2 5) 15).toNat) (aXor (aShl 1 (aAnd (aShr x2 9) 15)) (-1))) else (aOr ((cpI M.1 29 k1 29 k0 0 0 10) 29 k0 (aAnd (aShr x2 5) 15).toNat) (aShl 1 (aAnd (aShr x2 9) 15))) : Int), vI (aAnd (aShr x2 5) 15), vR (some (29, k0))] ((cpI (cpI (cpI (cpI M.1 29 k1 29 k0 0 0 10) 30 k1 30 k0 0 0 72) 31 k1 31 k0 0 0 12) 32 k1 32 k0 0 0 8), M.2.1, M.2.2) r M' := by
        obtain ⟨o_26, h⟩ := h
        refine s_I 10 151 dX7_follow_150 rfl rfl (by decide) rfl rfl o_26 ?_
        refine r_goto 257 dX7_follow_151 rfl ?_
        exact r_vret dX7_follow_257 rfl h.1 h.2
      have h := h0
      refine r_if_eq 121 136 dX7_follow_118 rfl rfl (fun c => ?_) (fun c => ?_)
      · have c_21 := c
        have h := h.1 c_21
        obtain ⟨o_22, o_23⟩ := h
        refine r_aload_n 137 dX7_follow_136 rfl rfl ?_
        refine g_R 140 dX7_follow_137 rfl rfl rfl fr_7_9 (mR_0 (sh_7_1 hS _)) ?_
        refine r_iload 142 dX7_follow_140 rfl rfl ?_
        refine a_I 10 143 dX7_follow_142 rfl rfl rfl rfl o_22 (mI_0 ((cpI_f rfl).trans ((cpI_f rfl).trans (cpI_f rfl)))) ?_
        refine r_iconst 144 dX7_follow_143 rfl (InR_of rfl) ?_
        refine r_iload 146 dX7_follow_144 rfl rfl ?_
        refine r_ishl 147 dX7_follow_146 rfl o_23 ?_
        refine r_iconst 148 dX7_follow_147 rfl (InR_of rfl) ?_
        refine r_ixor 149 dX7_follow_148 rfl ?_
        refine r_iand 150 dX7_follow_149 rfl ?_
        exact (Ex.at hJ_20 rfl (show [vI (aAnd ((cpI M.1 29 k1 29 k0 0 0 10) 29 k0 (aAnd (aShr x2 5) 15).toNat) (aXor (aShl 1 (aAnd (aShr x2 9) 15)) (-1))), vI (aAnd (aShr x2 5) 15), vR (some (29, k0))] = [vI (if (if ¬ (aAnd x2 1) = 1 then 0 else 1 : Int) = 0 then (aAnd ((cpI M.1 29 k1 29 k0 0 0 10) 29 k0 (aAnd (aShr x2 5) 15).toNat) (aXor (aShl 1 (aAnd (aShr x2 9) 15)) (-1))) else (aOr ((cpI M.1 29 k1 29 k0 0 0 10) 29 k0 (aAnd (aShr x2 5) 15).toNat) (aShl 1 (aAnd (aShr x2 9) 15))) : Int), vI (aAnd (aShr x2 5) 15), vR (some (29, k0))] by simp only [if_pos c_21]) rfl)
      · have c_21 := c
        have h := h.2 c_21
        obtain ⟨o_24, o_25⟩ := h
        refine r_aload_n 122 dX7_follow_121 rfl rfl ?_
        refine g_R 125 dX7_follow_122 rfl rfl rfl fr_7_9 (mR_0 (sh_7_1 hS _)) ?_
        refine r_iload 127 dX7_follow_125 rfl rfl ?_
        refine a_I 10 128 dX7_follow_127 rfl rfl rfl rfl o_24 (mI_0 ((cpI_f rfl).trans ((cpI_f rfl).trans (cpI_f rfl)))) ?_
        refine r_iconst 129 dX7_follow_128 rfl (InR_of rfl) ?_
        refine r_iload 131 dX7_follow_129 rfl rfl ?_
        refine r_ishl 132 dX7_follow_131 rfl o_25 ?_
        refine r_ior 133 dX7_follow_132 rfl ?_
        refine r_goto 150 dX7_follow_133 rfl ?_
        exact (Ex.at hJ_20 rfl (show [vI (aOr ((cpI M.1 29 k1 29 k0 0 0 10) 29 k0 (aAnd (aShr x2 5) 15).toNat) (aShl 1 (aAnd (aShr x2 9) 15))), vI (aAnd (aShr x2 5) 15), vR (some (29, k0))] = [vI (if (if ¬ (aAnd x2 1) = 1 then 0 else 1 : Int) = 0 then (aAnd ((cpI M.1 29 k1 29 k0 0 0 10) 29 k0 (aAnd (aShr x2 5) 15).toNat) (aXor (aShl 1 (aAnd (aShr x2 9) 15)) (-1))) else (aOr ((cpI M.1 29 k1 29 k0 0 0 10) 29 k0 (aAnd (aShr x2 5) 15).toNat) (aShl 1 (aAnd (aShr x2 9) 15))) : Int), vI (aAnd (aShr x2 5) 15), vR (some (29, k0))] by simp only [if_neg c_21]) rfl)
  refine r_icmp_ne 99 103 dX7_follow_96 rfl rfl (fun c => ?_) (fun c => ?_)
  · have c_2 := c
    refine r_iconst 104 dX7_follow_103 rfl (InR_of rfl) ?_
    exact (Ex.at hJ_1 rfl (show [vI 0] = [vI (if ¬ (aAnd x2 1) = 1 then 0 else 1 : Int)] by simp only [if_pos c_2]) rfl)
  · have c_2 := c
    refine r_iconst 100 dX7_follow_99 rfl (InR_of rfl) ?_
    refine r_goto 104 dX7_follow_100 rfl ?_
    exact (Ex.at hJ_1 rfl (show [vI 1] = [vI (if ¬ (aAnd x2 1) = 1 then 0 else 1 : Int)] by simp only [if_neg c_2]) rfl)

set_option maxRecDepth 4000 in
theorem xX7_marksOf_0 {l : Launch} {G : Gt} {d : Nat} {M M' : Mem} {r : Option Vl} {k0 : Nat} {x1 : Int} (h : 
    Ex l G d mX7_marksOf 4 [some (vR (some (14, k0))), some (vI x1), some (vI 0), some (vI 0)] [] M r M') : Cl l G d mX7_marksOf [vR (some (14, k0)), vI x1] M r M' := by
  show Ex l G d mX7_marksOf 0 [some (vR (some (14, k0))), some (vI x1), none, none] [] M r M'
  refine r_iconst 1 dX7_marksOf_0 rfl (InR_of rfl) ?_
  refine r_istore_n (ls' := [some (vR (some (14, k0))), some (vI x1), some (vI 0), none]) 2 dX7_marksOf_1 rfl rfl rfl rfl ?_
  refine r_iconst 3 dX7_marksOf_2 rfl (InR_of rfl) ?_
  refine r_istore_n (ls' := [some (vR (some (14, k0))), some (vI x1), some (vI 0), some (vI 0)]) 4 dX7_marksOf_3 rfl rfl rfl rfl ?_
  exact h
set_option maxRecDepth 4000 in
theorem xX7_marksOf_4 {l : Launch} {G : Gt} {d : Nat} {M M' : Mem} {r : Option Vl} {k0 : Nat} {x1 : Int} {x2 : Int} {x3 : Int} (hS : Sh M.2.1) (h : 
    (10 ≤ x3 → r = some (vI x2) ∧ M' = M) ∧ (¬ (10 ≤ x3) → ((0 ≤ x3 ∧ x3 < 10) ∧ (0 ≤ x1 ∧ x1 < 32) ∧ (0 ≤ x3 ∧ x3 < 32) ∧ InR (x3 + 1)) ∧ Ex l G d mX7_marksOf 4 [some (vR (some (14, k0))), some (vI x1), some (vI (aOr x2 (aShl (aAnd (aShr (M.1 29 k0 x3.toNat) x1) 1) x3))), some (vI (x3 + 1))] [] M r M')) : Ex l G d mX7_marksOf 4 [some (vR (some (14, k0))), some (vI x1), some (vI x2), some (vI x3)] [] M r M' := by
  refine r_iload_n 5 dX7_marksOf_4 rfl rfl ?_
  refine r_bipush 7 dX7_marksOf_5 rfl rfl ?_
  refine r_icmp_ge 10 31 dX7_marksOf_7 rfl rfl (fun c => ?_) (fun c => ?_)
  · have h := h.1 (c)
    refine r_iload_n 32 dX7_marksOf_31 rfl rfl ?_
    exact r_iret dX7_marksOf_32 rfl (.inl rfl) h.1 h.2
  · have h := h.2 (c)
    obtain ⟨⟨o_1, o_2, o_3, o_4⟩, h⟩ := h
    refine r_iload_n 11 dX7_marksOf_10 rfl rfl ?_
    refine r_aload_n 12 dX7_marksOf_11 rfl rfl ?_
    refine g_R 15 dX7_marksOf_12 rfl rfl rfl fr_7_9 (sh_7_1 hS _) ?_
    refine r_iload_n 16 dX7_marksOf_15 rfl rfl ?_
    refine a_I 10 17 dX7_marksOf_16 rfl rfl rfl rfl o_1 rfl ?_
    refine r_iload_n 18 dX7_marksOf_17 rfl rfl ?_
    refine r_ishr 19 dX7_marksOf_18 rfl o_2 ?_
    refine r_iconst 20 dX7_marksOf_19 rfl (InR_of rfl) ?_
    refine r_iand 21 dX7_marksOf_20 rfl ?_
    refine r_iload_n 22 dX7_marksOf_21 rfl rfl ?_
    refine r_ishl 23 dX7_marksOf_22 rfl o_3 ?_
    refine r_ior 24 dX7_marksOf_23 rfl ?_
    refine r_istore_n (ls' := [some (vR (some (14, k0))), some (vI x1), some (vI (aOr x2 (aShl (aAnd (aShr (M.1 29 k0 x3.toNat) x1) 1) x3))), some (vI x3)]) 25 dX7_marksOf_24 rfl rfl rfl rfl ?_
    refine r_iinc (ls' := [some (vR (some (14, k0))), some (vI x1), some (vI (aOr x2 (aShl (aAnd (aShr (M.1 29 k0 x3.toNat) x1) 1) x3))), some (vI (x3 + 1))]) 28 dX7_marksOf_25 rfl rfl rfl rfl o_4 rfl ?_
    refine r_goto 4 dX7_marksOf_28 rfl ?_
    exact h

set_option maxRecDepth 4000 in
theorem xX7_wordsOf_0 {l : Launch} {G : Gt} {d : Nat} {M M' : Mem} {r : Option Vl} {k0 : Nat} {x1 : Int} {x2 : Int} (h : 
    ∃ (r_3 : Int) (M_1 : Mem), Cl l G d mX7_marksOf [vR (some (14, k0)), vI x1] M (some (vI r_3)) M_1 ∧ Ex l G (d + 1) mX7_wordsOf 9 [some (vR (some (14, k0))), some (vI x1), some (vI x2), some (vI r_3), some (vI 0)] [] M_1 r M') : Cl l G (d + 1) mX7_wordsOf [vR (some (14, k0)), vI x1, vI x2] M r M' := by
  show Ex l G (d + 1) mX7_wordsOf 0 [some (vR (some (14, k0))), some (vI x1), some (vI x2), none, none] [] M r M'
  refine r_aload_n 1 dX7_wordsOf_0 rfl rfl ?_
  refine r_iload_n 2 dX7_wordsOf_1 rfl rfl ?_
  obtain ⟨r_3, M_1, hc_2, h⟩ := h
  refine v_1 (ci := 7) (C := (RX7, TX7, 5)) [vI x1] [] 5 dX7_wordsOf_2 rfl rfl rfl rfl rfl mo_X7_marksOf ml_7_48 rfl rfl hc_2 ?_
  refine r_istore_n (ls' := [some (vR (some (14, k0))), some (vI x1), some (vI x2), some (vI r_3), none]) 6 dX7_wordsOf_5 rfl rfl rfl rfl ?_
  refine r_iconst 7 dX7_wordsOf_6 rfl (InR_of rfl) ?_
  refine r_istore (ls' := [some (vR (some (14, k0))), some (vI x1), some (vI x2), some (vI r_3), some (vI 0)]) 9 dX7_wordsOf_7 rfl rfl rfl rfl ?_
  exact h
set_option maxRecDepth 4000 in
theorem xX7_wordsOf_9 {l : Launch} {G : Gt} {d : Nat} {M M' : Mem} {r : Option Vl} {k0 : Nat} {x1 : Int} {x2 : Int} {x3 : Int} {x4 : Int} (hS : Sh M.2.1) (h : 
    (6 ≤ x4 → r = some (vI x3) ∧ M' = M) ∧ (¬ (6 ≤ x4) → (InR (x4 * 12) ∧ InR ((x4 * 12) + x1) ∧ (0 ≤ ((x4 * 12) + x1) ∧ ((x4 * 12) + x1) < 72) ∧ (0 ≤ x2 ∧ x2 < 32) ∧ InR (10 + x4) ∧ (0 ≤ (10 + x4) ∧ (10 + x4) < 32) ∧ InR (x4 + 1)) ∧ Ex l G (d + 1) mX7_wordsOf 9 [some (vR (some (14, k0))), some (vI x1), some (vI x2), some (vI (aOr x3 (aShl (aAnd (aShr (M.1 30 k0 ((x4 * 12) + x1).toNat) x2) 1) (10 + x4)))), some (vI (x4 + 1))] [] M r M')) : Ex l G (d + 1) mX7_wordsOf 9 [some (vR (some (14, k0))), some (vI x1), some (vI x2), some (vI x3), some (vI x4)] [] M r M' := by
  refine r_iload 11 dX7_wordsOf_9 rfl rfl ?_
  refine r_bipush 13 dX7_wordsOf_11 rfl rfl ?_
  refine r_icmp_ge 16 47 dX7_wordsOf_13 rfl rfl (fun c => ?_) (fun c => ?_)
  · have h := h.1 (c)
    refine r_iload_n 48 dX7_wordsOf_47 rfl rfl ?_
    exact r_iret dX7_wordsOf_48 rfl (.inl rfl) h.1 h.2
  · have h := h.2 (c)
    obtain ⟨⟨o_1, o_2, o_3, o_4, o_5, o_6, o_7⟩, h⟩ := h
    refine r_iload_n 17 dX7_wordsOf_16 rfl rfl ?_
    refine r_aload_n 18 dX7_wordsOf_17 rfl rfl ?_
    refine g_R 21 dX7_wordsOf_18 rfl rfl rfl fr_7_15 (sh_7_2 hS _) ?_
    refine r_iload 23 dX7_wordsOf_21 rfl rfl ?_
    refine r_bipush 25 dX7_wordsOf_23 rfl rfl ?_
    refine r_imul 26 dX7_wordsOf_25 rfl o_1 ?_
    refine r_iload_n 27 dX7_wordsOf_26 rfl rfl ?_
    refine r_iadd 28 dX7_wordsOf_27 rfl o_2 ?_
    refine a_I 72 29 dX7_wordsOf_28 rfl rfl rfl rfl o_3 rfl ?_
    refine r_iload_n 30 dX7_wordsOf_29 rfl rfl ?_
    refine r_ishr 31 dX7_wordsOf_30 rfl o_4 ?_
    refine r_iconst 32 dX7_wordsOf_31 rfl (InR_of rfl) ?_
    refine r_iand 33 dX7_wordsOf_32 rfl ?_
    refine r_bipush 35 dX7_wordsOf_33 rfl rfl ?_
    refine r_iload 37 dX7_wordsOf_35 rfl rfl ?_
    refine r_iadd 38 dX7_wordsOf_37 rfl o_5 ?_
    refine r_ishl 39 dX7_wordsOf_38 rfl o_6 ?_
    refine r_ior 40 dX7_wordsOf_39 rfl ?_
    refine r_istore_n (ls' := [some (vR (some (14, k0))), some (vI x1), some (vI x2), some (vI (aOr x3 (aShl (aAnd (aShr (M.1 30 k0 ((x4 * 12) + x1).toNat) x2) 1) (10 + x4)))), some (vI x4)]) 41 dX7_wordsOf_40 rfl rfl rfl rfl ?_
    refine r_iinc (ls' := [some (vR (some (14, k0))), some (vI x1), some (vI x2), some (vI (aOr x3 (aShl (aAnd (aShr (M.1 30 k0 ((x4 * 12) + x1).toNat) x2) 1) (10 + x4)))), some (vI (x4 + 1))]) 44 dX7_wordsOf_41 rfl rfl rfl rfl o_7 rfl ?_
    refine r_goto 9 dX7_wordsOf_44 rfl ?_
    exact h

set_option maxRecDepth 4000 in
theorem xX7_wordHolders_0 {l : Launch} {G : Gt} {d : Nat} {M M' : Mem} {r : Option Vl} {k0 : Nat} {x1 : Int} {x2 : Int} (hS : Sh M.2.1) (h : 
    (10 ≤ x1 → Ex l G d mX7_wordHolders 18 [some (vR (some (14, k0))), some (vI x1), some (vI x2), some (vI 0), some (vI 0)] [] M r M') ∧ (¬ (10 ≤ x1) → ((0 ≤ x1 ∧ x1 < 10)) ∧ r = some (vI (M.1 29 k0 x1.toNat)) ∧ M' = M)) : Cl l G d mX7_wordHolders [vR (some (14, k0)), vI x1, vI x2] M r M' := by
  show Ex l G d mX7_wordHolders 0 [some (vR (some (14, k0))), some (vI x1), some (vI x2), none, none] [] M r M'
  refine r_iload_n 1 dX7_wordHolders_0 rfl rfl ?_
  refine r_bipush 3 dX7_wordHolders_1 rfl rfl ?_
  refine r_icmp_ge 6 13 dX7_wordHolders_3 rfl rfl (fun c => ?_) (fun c => ?_)
  · have h := h.1 (c)
    refine r_iconst 14 dX7_wordHolders_13 rfl (InR_of rfl) ?_
    refine r_istore_n (ls' := [some (vR (some (14, k0))), some (vI x1), some (vI x2), some (vI 0), none]) 15 dX7_wordHolders_14 rfl rfl rfl rfl ?_
    refine r_iconst 16 dX7_wordHolders_15 rfl (InR_of rfl) ?_
    refine r_istore (ls' := [some (vR (some (14, k0))), some (vI x1), some (vI x2), some (vI 0), some (vI 0)]) 18 dX7_wordHolders_16 rfl rfl rfl rfl ?_
    exact h
  · have h := h.2 (c)
    obtain ⟨o_1, h⟩ := h
    refine r_aload_n 7 dX7_wordHolders_6 rfl rfl ?_
    refine g_R 10 dX7_wordHolders_7 rfl rfl rfl fr_7_9 (sh_7_1 hS _) ?_
    refine r_iload_n 11 dX7_wordHolders_10 rfl rfl ?_
    refine a_I 10 12 dX7_wordHolders_11 rfl rfl rfl rfl o_1 rfl ?_
    exact r_iret dX7_wordHolders_12 rfl (.inl rfl) h.1 h.2
set_option maxRecDepth 4000 in
theorem xX7_wordHolders_18 {l : Launch} {G : Gt} {d : Nat} {M M' : Mem} {r : Option Vl} {k0 : Nat} {x1 : Int} {x2 : Int} {x3 : Int} {x4 : Int} (hS : Sh M.2.1) (h : 
    (12 ≤ x4 → r = some (vI x3) ∧ M' = M) ∧ (¬ (12 ≤ x4) → (InR (x1 - 10) ∧ InR ((x1 - 10) * 12) ∧ InR (((x1 - 10) * 12) + x4) ∧ (0 ≤ (((x1 - 10) * 12) + x4) ∧ (((x1 - 10) * 12) + x4) < 72) ∧ (0 ≤ x2 ∧ x2 < 32) ∧ (0 ≤ x4 ∧ x4 < 32) ∧ InR (x4 + 1)) ∧ Ex l G d mX7_wordHolders 18 [some (vR (some (14, k0))), some (vI x1), some (vI x2), some (vI (aOr x3 (aShl (aAnd (aShr (M.1 30 k0 (((x1 - 10) * 12) + x4).toNat) x2) 1) x4))), some (vI (x4 + 1))] [] M r M')) : Ex l G d mX7_wordHolders 18 [some (vR (some (14, k0))), some (vI x1), some (vI x2), some (vI x3), some (vI x4)] [] M r M' := by
  refine r_iload 20 dX7_wordHolders_18 rfl rfl ?_
  refine r_bipush 22 dX7_wordHolders_20 rfl rfl ?_
  refine r_icmp_ge 25 56 dX7_wordHolders_22 rfl rfl (fun c => ?_) (fun c => ?_)
  · have h := h.1 (c)
    refine r_iload_n 57 dX7_wordHolders_56 rfl rfl ?_
    exact r_iret dX7_wordHolders_57 rfl (.inl rfl) h.1 h.2
  · have h := h.2 (c)
    obtain ⟨⟨o_1, o_2, o_3, o_4, o_5, o_6, o_7⟩, h⟩ := h
    refine r_iload_n 26 dX7_wordHolders_25 rfl rfl ?_
    refine r_aload_n 27 dX7_wordHolders_26 rfl rfl ?_
    refine g_R 30 dX7_wordHolders_27 rfl rfl rfl fr_7_15 (sh_7_2 hS _) ?_
    refine r_iload_n 31 dX7_wordHolders_30 rfl rfl ?_
    refine r_bipush 33 dX7_wordHolders_31 rfl rfl ?_
    refine r_isub 34 dX7_wordHolders_33 rfl o_1 ?_
    refine r_bipush 36 dX7_wordHolders_34 rfl rfl ?_
    refine r_imul 37 dX7_wordHolders_36 rfl o_2 ?_
    refine r_iload 39 dX7_wordHolders_37 rfl rfl ?_
    refine r_iadd 40 dX7_wordHolders_39 rfl o_3 ?_
    refine a_I 72 41 dX7_wordHolders_40 rfl rfl rfl rfl o_4 rfl ?_
    refine r_iload_n 42 dX7_wordHolders_41 rfl rfl ?_
    refine r_ishr 43 dX7_wordHolders_42 rfl o_5 ?_
    refine r_iconst 44 dX7_wordHolders_43 rfl (InR_of rfl) ?_
    refine r_iand 45 dX7_wordHolders_44 rfl ?_
    refine r_iload 47 dX7_wordHolders_45 rfl rfl ?_
    refine r_ishl 48 dX7_wordHolders_47 rfl o_6 ?_
    refine r_ior 49 dX7_wordHolders_48 rfl ?_
    refine r_istore_n (ls' := [some (vR (some (14, k0))), some (vI x1), some (vI x2), some (vI (aOr x3 (aShl (aAnd (aShr (M.1 30 k0 (((x1 - 10) * 12) + x4).toNat) x2) 1) x4))), some (vI x4)]) 50 dX7_wordHolders_49 rfl rfl rfl rfl ?_
    refine r_iinc (ls' := [some (vR (some (14, k0))), some (vI x1), some (vI x2), some (vI (aOr x3 (aShl (aAnd (aShr (M.1 30 k0 (((x1 - 10) * 12) + x4).toNat) x2) 1) x4))), some (vI (x4 + 1))]) 53 dX7_wordHolders_50 rfl rfl rfl rfl o_7 rfl ?_
    refine r_goto 18 dX7_wordHolders_53 rfl ?_
    exact h

set_option maxRecDepth 4000 in
theorem xX7_seenFrom_0 {l : Launch} {G : Gt} {d : Nat} {M M' : Mem} {r : Option Vl} {k0 : Nat} {x1 : Int} {x2 : Int} (hS : Sh M.2.1) (h : 
    ((0 ≤ x1 ∧ x1 < 32) ∧ (0 ≤ x1 ∧ x1 < 12) ∧ (0 ≤ (M.1 31 k0 x1.toNat) ∧ (M.1 31 k0 x1.toNat) < 8)) ∧ r = some (vI (aOr (aOr (aShl 1 x1) x2) (M.1 32 k0 (M.1 31 k0 x1.toNat).toNat))) ∧ M' = M) : Cl l G d mX7_seenFrom [vR (some (14, k0)), vI x1, vI x2] M r M' := by
  show Ex l G d mX7_seenFrom 0 [some (vR (some (14, k0))), some (vI x1), some (vI x2)] [] M r M'
  obtain ⟨⟨o_1, o_2, o_3⟩, h⟩ := h
  refine r_iconst 1 dX7_seenFrom_0 rfl (InR_of rfl) ?_
  refine r_iload_n 2 dX7_seenFrom_1 rfl rfl ?_
  refine r_ishl 3 dX7_seenFrom_2 rfl o_1 ?_
  refine r_iload_n 4 dX7_seenFrom_3 rfl rfl ?_
  refine r_ior 5 dX7_seenFrom_4 rfl ?_
  refine r_aload_n 6 dX7_seenFrom_5 rfl rfl ?_
  refine g_R 9 dX7_seenFrom_6 rfl rfl rfl fr_7_21 (sh_7_4 hS _) ?_
  refine r_aload_n 10 dX7_seenFrom_9 rfl rfl ?_
  refine g_R 13 dX7_seenFrom_10 rfl rfl rfl fr_7_18 (sh_7_3 hS _) ?_
  refine r_iload_n 14 dX7_seenFrom_13 rfl rfl ?_
  refine a_I 12 15 dX7_seenFrom_14 rfl rfl rfl rfl o_2 rfl ?_
  refine a_I 8 16 dX7_seenFrom_15 rfl rfl rfl rfl o_3 rfl ?_
  refine r_ior 17 dX7_seenFrom_16 rfl ?_
  exact r_iret dX7_seenFrom_17 rfl (.inl rfl) h.1 h.2

set_option maxRecDepth 4000 in
theorem xX8_init_0 {l : Launch} {G : Gt} {d : Nat} {M M' : Mem} {r : Option Vl} {k0 : Nat} (h : 
    (∀ M_1 : Mem, newM M 33 12 12 = M_1 → (∀ M_2 : Mem, newM (M_1.1, (upR M_1.2.1 4 k0 1 (some (33, cCnt M.2.2 33))), M_1.2.2) 34 64 64 = M_2 → (∀ M_3 : Mem, newM (M_2.1, (upR M_2.2.1 4 k0 3 (some (34, cCnt M_1.2.2 34))), M_2.2.2) 35 60 60 = M_3 → (∀ M_4 : Mem, newM (M_3.1, (upR M_3.2.1 4 k0 5 (some (35, cCnt M_2.2.2 35))), M_3.2.2) 36 12 12 = M_4 → (∀ M_5 : Mem, newM (M_4.1, (upR M_4.2.1 4 k0 6 (some (36, cCnt M_3.2.2 36))), M_4.2.2) 37 17 17 = M_5 → (∀ M_6 : Mem, newM (M_5.1, (upR M_5.2.1 4 k0 7 (some (37, cCnt M_4.2.2 37))), M_5.2.2) 38 8 8 = M_6 → (∀ M_7 : Mem, newM (M_6.1, (upR M_6.2.1 4 k0 9 (some (38, cCnt M_5.2.2 38))), M_6.2.2) 39 20 20 = M_7 → ∃ (M_8 : Mem), Cl l G d mJ7_fill_53178 [vR (some (37, cCnt M_4.2.2 37)), vI 1] (M_7.1, (upR M_7.2.1 4 k0 12 (some (39, cCnt M_6.2.2 39))), M_7.2.2) none M_8 ∧ Ex l G (d + 1) mX8_init 71 [some (vR (some (4, k0))), some (vI 0)] [] M_8 r M')))))))) : Cl l G (d + 1) mX8_init [vR (some (4, k0))] M r M' := by
  show Ex l G (d + 1) mX8_init 0 [some (vR (some (4, k0))), none] [] M r M'
  refine r_aload_n 1 dX8_init_0 rfl rfl ?_
  refine r_objInit 4 dX8_init_1 rfl rfl ⟨(inT1 (List.mem_of_getElem? (i := 35) rfl) rfl), (inT1 (List.mem_of_getElem? (i := 28) rfl) rfl), (inT1 (List.mem_of_getElem? (i := 29) rfl) rfl)⟩ rfl ?_
  refine r_aload_n 5 dX8_init_4 rfl rfl ?_
  refine r_bipush 7 dX8_init_5 rfl rfl ?_
  refine r_newa (f := 33) (k := 1) (n := 12) 9 dX8_init_7 rfl rfl rfl (by decide) (inT1 (List.mem_of_getElem? (i := 104) rfl) rfl) rfl (by decide) (.inl rfl) ?_
  generalize hM_1 : newM M 33 12 12 = M_1
  have h := h M_1 hM_1
  refine p_R 12 dX8_init_9 rfl rfl rfl rfl pf_8_9 (.inr rfl) rfl ?_
  refine r_aload_n 13 dX8_init_12 rfl rfl ?_
  refine r_bipush 15 dX8_init_13 rfl rfl ?_
  refine r_newa (f := 34) (k := 1) (n := 64) 17 dX8_init_15 rfl rfl rfl (by decide) (inT1 (List.mem_of_getElem? (i := 104) rfl) rfl) rfl (by decide) (.inl rfl) ?_
  generalize hM_2 : newM (M_1.1, (upR M_1.2.1 4 k0 1 (some (33, cCnt M.2.2 33))), M_1.2.2) 34 64 64 = M_2
  have h := h M_2 hM_2
  refine p_R 20 dX8_init_17 rfl rfl rfl rfl pf_8_15 (.inr rfl) rfl ?_
  refine r_aload_n 21 dX8_init_20 rfl rfl ?_
  refine r_bipush 23 dX8_init_21 rfl rfl ?_
  refine r_newa (f := 35) (k := 1) (n := 60) 25 dX8_init_23 rfl rfl rfl (by decide) (inT1 (List.mem_of_getElem? (i := 104) rfl) rfl) rfl (by decide) (.inl rfl) ?_
  generalize hM_3 : newM (M_2.1, (upR M_2.2.1 4 k0 3 (some (34, cCnt M_1.2.2 34))), M_2.2.2) 35 60 60 = M_3
  have h := h M_3 hM_3
  refine p_R 28 dX8_init_25 rfl rfl rfl rfl pf_8_18 (.inr rfl) rfl ?_
  refine r_aload_n 29 dX8_init_28 rfl rfl ?_
  refine r_bipush 31 dX8_init_29 rfl rfl ?_
  refine r_newa (f := 36) (k := 1) (n := 12) 33 dX8_init_31 rfl rfl rfl (by decide) (inT1 (List.mem_of_getElem? (i := 104) rfl) rfl) rfl (by decide) (.inl rfl) ?_
  generalize hM_4 : newM (M_3.1, (upR M_3.2.1 4 k0 5 (some (35, cCnt M_2.2.2 35))), M_3.2.2) 36 12 12 = M_4
  have h := h M_4 hM_4
  refine p_R 36 dX8_init_33 rfl rfl rfl rfl pf_8_21 (.inr rfl) rfl ?_
  refine r_aload_n 37 dX8_init_36 rfl rfl ?_
  refine r_bipush 39 dX8_init_37 rfl rfl ?_
  refine r_newa (f := 37) (k := 1) (n := 17) 41 dX8_init_39 rfl rfl rfl (by decide) (inT1 (List.mem_of_getElem? (i := 104) rfl) rfl) rfl (by decide) (.inl rfl) ?_
  generalize hM_5 : newM (M_4.1, (upR M_4.2.1 4 k0 6 (some (36, cCnt M_3.2.2 36))), M_4.2.2) 37 17 17 = M_5
  have h := h M_5 hM_5
  refine p_R 44 dX8_init_41 rfl rfl rfl rfl pf_8_24 (.inr rfl) rfl ?_
  refine r_aload_n 45 dX8_init_44 rfl rfl ?_
  refine r_bipush 47 dX8_init_45 rfl rfl ?_
  refine r_anewa (f := 38) (ci := 5) (C := (RX5, TX5, 12)) (n := 8) 50 dX8_init_47 rfl rfl rfl (by decide) rfl (inT1 (List.mem_of_getElem? (i := 36) rfl) rfl) (inT1 (List.mem_of_getElem? (i := 37) rfl) rfl) rfl (by decide) (.inl rfl) ?_
  generalize hM_6 : newM (M_5.1, (upR M_5.2.1 4 k0 7 (some (37, cCnt M_4.2.2 37))), M_5.2.2) 38 8 8 = M_6
  have h := h M_6 hM_6
  refine p_R 53 dX8_init_50 rfl rfl rfl rfl pf_8_29 (.inr rfl) rfl ?_
  refine r_aload_n 54 dX8_init_53 rfl rfl ?_
  refine r_bipush 56 dX8_init_54 rfl rfl ?_
  refine r_newa (f := 39) (k := 1) (n := 20) 58 dX8_init_56 rfl rfl rfl (by decide) (inT1 (List.mem_of_getElem? (i := 104) rfl) rfl) rfl (by decide) (.inl rfl) ?_
  generalize hM_7 : newM (M_6.1, (upR M_6.2.1 4 k0 9 (some (38, cCnt M_5.2.2 38))), M_6.2.2) 39 20 20 = M_7
  have h := h M_7 hM_7
  refine p_R 61 dX8_init_58 rfl rfl rfl rfl pf_8_33 (.inr rfl) rfl ?_
  refine r_aload_n 62 dX8_init_61 rfl rfl ?_
  refine g_R 65 dX8_init_62 rfl rfl rfl fr_8_24 (mR_0 ((upR_i (by decide)).trans ((newM_R hM_7 rfl).trans ((mR_0 ((upR_i (by decide)).trans ((newM_R hM_6 rfl).trans ((mR_0 (upR_s)))))))))) ?_
  refine r_iconst 66 dX8_init_65 rfl (InR_of rfl) ?_
  obtain ⟨M_8, hc_9, h⟩ := h
  refine c_0 [vR (some (37, cCnt M_4.2.2 37)), vI 1] [] 69 dX8_init_66 rfl rfl mo_J7_fill_53178 ml_8_36 rfl rfl hc_9 ?_
  refine r_iconst 70 dX8_init_69 rfl (InR_of rfl) ?_
  refine r_istore_n (ls' := [some (vR (some (4, k0))), some (vI 0)]) 71 dX8_init_70 rfl rfl rfl rfl ?_
  exact h
set_option maxRecDepth 4000 in
theorem xX8_init_71 {l : Launch} {G : Gt} {d : Nat} {M M' : Mem} {r : Option Vl} {k0 : Nat} {x1 : Int} (h : 
    (8 ≤ x1 → r = none ∧ M' = M) ∧ (¬ (8 ≤ x1) → (∀ M_1 : Mem, newM M 5 0 12 = M_1 → ∃ (M_2 : Mem), Cl l G d mX5_init [vR (some (5, cCnt M.2.2 5))] M_1 none M_2 ∧ (∃ k_4 : Nat, (M.2.1 4 k0 9) = some (38, k_4) ∧ ((0 ≤ x1 ∧ x1 < 8) ∧ InR (x1 + 1)) ∧ Ex l G (d + 1) mX8_init 71 [some (vR (some (4, k0))), some (vI (x1 + 1))] [] (M_2.1, (upR M_2.2.1 38 k_4 x1.toNat (some (5, cCnt M.2.2 5))), M_2.2.2) r M')))) : Ex l G (d + 1) mX8_init 71 [some (vR (some (4, k0))), some (vI x1)] [] M r M' := by
  refine r_iload_n 72 dX8_init_71 rfl rfl ?_
  refine r_bipush 74 dX8_init_72 rfl rfl ?_
  refine r_icmp_ge 77 96 dX8_init_74 rfl rfl (fun c => ?_) (fun c => ?_)
  · have h := h.1 (c)
    exact r_vret dX8_init_96 rfl h.1 h.2
  · have h := h.2 (c)
    refine r_aload_n 78 dX8_init_77 rfl rfl ?_
    refine g_R 81 dX8_init_78 rfl rfl rfl fr_8_29 rfl ?_
    refine r_iload_n 82 dX8_init_81 rfl rfl ?_
    refine r_new (f := 5) (ci := 5) (C := (RX5, TX5, 12)) 85 dX8_init_82 rfl rfl rfl rfl (inT1 (List.mem_of_getElem? (i := 36) rfl) rfl) (inT1 (List.mem_of_getElem? (i := 41) rfl) rfl) wi_5 ?_
    generalize hM_1 : newM M 5 0 12 = M_1
    have h := h M_1 hM_1
    refine r_dup 86 dX8_init_85 rfl rfl ?_
    obtain ⟨M_2, hc_3, h⟩ := h
    refine r_callIN [] [vR (some (5, cCnt M.2.2 5)), vI x1, vR (M.2.1 4 k0 9)] 89 dX8_init_86 rfl rfl rfl mo_X5_init ⟨rfl, rfl⟩ ml_8_42 rfl rfl hc_3 ?_
    obtain ⟨k_4, e_5, h⟩ := h
    obtain ⟨⟨o_6, o_7⟩, h⟩ := h
    refine s_R (ci := 5) 8 90 dX8_init_89 rfl e_5 rfl rfl rfl rfl rfl rfl o_6 ?_
    refine r_iinc (ls' := [some (vR (some (4, k0))), some (vI (x1 + 1))]) 93 dX8_init_90 rfl rfl rfl rfl o_7 rfl ?_
    refine r_goto 71 dX8_init_93 rfl ?_
    exact h

set_option maxRecDepth 4000 in
theorem xX8_copyFrom_0 {l : Launch} {G : Gt} {d : Nat} {M M' : Mem} {r : Option Vl} {k0 : Nat} {k1 : Nat} (hne : k1 ≠ k0) (hS : Sh M.2.1) (h : 
    Ex l G (d + 1) mX8_copyFrom 140 [some (vR (some (4, k0))), some (vR (some (4, k1))), some (vI 0)] [] ((cpI (cpI (cpI (cpI (cpI (cpI (upI (upI (upI (upI (upI (upI M.1 4 k0 0 (M.1 4 k1 0)) 4 k0 2 (M.1 4 k1 2)) 4 k0 4 (M.1 4 k1 4)) 4 k0 8 (M.1 4 k1 8)) 4 k0 10 (M.1 4 k1 10)) 4 k0 11 (M.1 4 k1 11)) 33 k1 33 k0 0 0 12) 34 k1 34 k0 0 0 64) 35 k1 35 k0 0 0 60) 36 k1 36 k0 0 0 12) 37 k1 37 k0 0 0 17) 39 k1 39 k0 0 0 20), M.2.1, M.2.2) r M') : Cl l G (d + 1) mX8_copyFrom [vR (some (4, k0)), vR (some (4, k1))] M r M' := by
  show Ex l G (d + 1) mX8_copyFrom 0 [some (vR (some (4, k0))), some (vR (some (4, k1))), none] [] M r M'
  refine r_aload_n 1 dX8_copyFrom_0 rfl rfl ?_
  refine r_aload_n 2 dX8_copyFrom_1 rfl rfl ?_
  refine g_I 5 dX8_copyFrom_2 rfl rfl rfl fi_8_43 rfl ?_
  refine p_I 8 dX8_copyFrom_5 rfl rfl rfl rfl pf_8_43 (.inl rfl) rfl ?_
  refine r_aload_n 9 dX8_copyFrom_8 rfl rfl ?_
  refine r_aload_n 10 dX8_copyFrom_9 rfl rfl ?_
  refine g_I 13 dX8_copyFrom_10 rfl rfl rfl fi_8_47 (mI_0 (upI_k hne)) ?_
  refine p_I 16 dX8_copyFrom_13 rfl rfl rfl rfl pf_8_47 (.inl rfl) rfl ?_
  refine r_aload_n 17 dX8_copyFrom_16 rfl rfl ?_
  refine r_aload_n 18 dX8_copyFrom_17 rfl rfl ?_
  refine g_I 21 dX8_copyFrom_18 rfl rfl rfl fi_8_50 (mI_0 ((upI_k hne).trans (upI_k hne))) ?_
  refine p_I 24 dX8_copyFrom_21 rfl rfl rfl rfl pf_8_50 (.inl rfl) rfl ?_
  refine r_aload_n 25 dX8_copyFrom_24 rfl rfl ?_
  refine r_aload_n 26 dX8_copyFrom_25 rfl rfl ?_
  refine g_I 29 dX8_copyFrom_26 rfl rfl rfl fi_8_53 (mI_0 ((upI_k hne).trans ((upI_k hne).trans (upI_k hne)))) ?_
  refine p_I 32 dX8_copyFrom_29 rfl rfl rfl rfl pf_8_53 (.inl rfl) rfl ?_
  refine r_aload_n 33 dX8_copyFrom_32 rfl rfl ?_
  refine r_aload_n 34 dX8_copyFrom_33 rfl rfl ?_
  refine g_I 37 dX8_copyFrom_34 rfl rfl rfl fi_8_56 (mI_0 ((upI_k hne).trans ((upI_k hne).trans ((upI_k hne).trans (upI_k hne))))) ?_
  refine p_I 40 dX8_copyFrom_37 rfl rfl rfl rfl pf_8_56 (.inl rfl) rfl ?_
  refine r_aload_n 41 dX8_copyFrom_40 rfl rfl ?_
  refine r_aload_n 42 dX8_copyFrom_41 rfl rfl ?_
  refine g_I 45 dX8_copyFrom_42 rfl rfl rfl fi_8_59 (mI_0 ((upI_k hne).trans ((upI_k hne).trans ((upI_k hne).trans ((upI_k hne).trans (upI_k hne)))))) ?_
  refine p_I 48 dX8_copyFrom_45 rfl rfl rfl rfl pf_8_59 (.inl rfl) rfl ?_
  refine r_aload_n 49 dX8_copyFrom_48 rfl rfl ?_
  refine g_R 52 dX8_copyFrom_49 rfl rfl rfl fr_8_9 (mR_0 (sh_8_1 hS _)) ?_
  refine r_iconst 53 dX8_copyFrom_52 rfl (InR_of rfl) ?_
  refine r_aload_n 54 dX8_copyFrom_53 rfl rfl ?_
  refine g_R 57 dX8_copyFrom_54 rfl rfl rfl fr_8_9 (mR_0 (sh_8_1 hS _)) ?_
  refine r_iconst 58 dX8_copyFrom_57 rfl (InR_of rfl) ?_
  refine r_bipush 60 dX8_copyFrom_58 rfl rfl ?_
  refine cp_y 12 12 63 dX8_copyFrom_60 rfl rfl rfl ⟨(inT5 (List.mem_of_getElem? (i := 89) rfl) rfl), (inT3 (List.mem_of_getElem? (i := 165) rfl) rfl), (inT3 (List.mem_of_getElem? (i := 164) rfl) rfl), (inT1 (List.mem_of_getElem? (i := 19) rfl) rfl)⟩ rfl rfl rfl rfl rfl ⟨by decide, by decide, by decide, by decide, by decide⟩ rfl ?_
  refine r_aload_n 64 dX8_copyFrom_63 rfl rfl ?_
  refine g_R 67 dX8_copyFrom_64 rfl rfl rfl fr_8_15 (mR_0 (sh_8_3 hS _)) ?_
  refine r_iconst 68 dX8_copyFrom_67 rfl (InR_of rfl) ?_
  refine r_aload_n 69 dX8_copyFrom_68 rfl rfl ?_
  refine g_R 72 dX8_copyFrom_69 rfl rfl rfl fr_8_15 (mR_0 (sh_8_3 hS _)) ?_
  refine r_iconst 73 dX8_copyFrom_72 rfl (InR_of rfl) ?_
  refine r_bipush 75 dX8_copyFrom_73 rfl rfl ?_
  refine cp_y 64 64 78 dX8_copyFrom_75 rfl rfl rfl ⟨(inT5 (List.mem_of_getElem? (i := 89) rfl) rfl), (inT3 (List.mem_of_getElem? (i := 165) rfl) rfl), (inT3 (List.mem_of_getElem? (i := 164) rfl) rfl), (inT1 (List.mem_of_getElem? (i := 19) rfl) rfl)⟩ rfl rfl rfl rfl rfl ⟨by decide, by decide, by decide, by decide, by decide⟩ rfl ?_
  refine r_aload_n 79 dX8_copyFrom_78 rfl rfl ?_
  refine g_R 82 dX8_copyFrom_79 rfl rfl rfl fr_8_18 (mR_0 (sh_8_5 hS _)) ?_
  refine r_iconst 83 dX8_copyFrom_82 rfl (InR_of rfl) ?_
  refine r_aload_n 84 dX8_copyFrom_83 rfl rfl ?_
  refine g_R 87 dX8_copyFrom_84 rfl rfl rfl fr_8_18 (mR_0 (sh_8_5 hS _)) ?_
  refine r_iconst 88 dX8_copyFrom_87 rfl (InR_of rfl) ?_
  refine r_bipush 90 dX8_copyFrom_88 rfl rfl ?_
  refine cp_y 60 60 93 dX8_copyFrom_90 rfl rfl rfl ⟨(inT5 (List.mem_of_getElem? (i := 89) rfl) rfl), (inT3 (List.mem_of_getElem? (i := 165) rfl) rfl), (inT3 (List.mem_of_getElem? (i := 164) rfl) rfl), (inT1 (List.mem_of_getElem? (i := 19) rfl) rfl)⟩ rfl rfl rfl rfl rfl ⟨by decide, by decide, by decide, by decide, by decide⟩ rfl ?_
  refine r_aload_n 94 dX8_copyFrom_93 rfl rfl ?_
  refine g_R 97 dX8_copyFrom_94 rfl rfl rfl fr_8_21 (mR_0 (sh_8_6 hS _)) ?_
  refine r_iconst 98 dX8_copyFrom_97 rfl (InR_of rfl) ?_
  refine r_aload_n 99 dX8_copyFrom_98 rfl rfl ?_
  refine g_R 102 dX8_copyFrom_99 rfl rfl rfl fr_8_21 (mR_0 (sh_8_6 hS _)) ?_
  refine r_iconst 103 dX8_copyFrom_102 rfl (InR_of rfl) ?_
  refine r_bipush 105 dX8_copyFrom_103 rfl rfl ?_
  refine cp_y 12 12 108 dX8_copyFrom_105 rfl rfl rfl ⟨(inT5 (List.mem_of_getElem? (i := 89) rfl) rfl), (inT3 (List.mem_of_getElem? (i := 165) rfl) rfl), (inT3 (List.mem_of_getElem? (i := 164) rfl) rfl), (inT1 (List.mem_of_getElem? (i := 19) rfl) rfl)⟩ rfl rfl rfl rfl rfl ⟨by decide, by decide, by decide, by decide, by decide⟩ rfl ?_
  refine r_aload_n 109 dX8_copyFrom_108 rfl rfl ?_
  refine g_R 112 dX8_copyFrom_109 rfl rfl rfl fr_8_24 (mR_0 (sh_8_7 hS _)) ?_
  refine r_iconst 113 dX8_copyFrom_112 rfl (InR_of rfl) ?_
  refine r_aload_n 114 dX8_copyFrom_113 rfl rfl ?_
  refine g_R 117 dX8_copyFrom_114 rfl rfl rfl fr_8_24 (mR_0 (sh_8_7 hS _)) ?_
  refine r_iconst 118 dX8_copyFrom_117 rfl (InR_of rfl) ?_
  refine r_bipush 120 dX8_copyFrom_118 rfl rfl ?_
  refine cp_y 17 17 123 dX8_copyFrom_120 rfl rfl rfl ⟨(inT5 (List.mem_of_getElem? (i := 89) rfl) rfl), (inT3 (List.mem_of_getElem? (i := 165) rfl) rfl), (inT3 (List.mem_of_getElem? (i := 164) rfl) rfl), (inT1 (List.mem_of_getElem? (i := 19) rfl) rfl)⟩ rfl rfl rfl rfl rfl ⟨by decide, by decide, by decide, by decide, by decide⟩ rfl ?_
  refine r_aload_n 124 dX8_copyFrom_123 rfl rfl ?_
  refine g_R 127 dX8_copyFrom_124 rfl rfl rfl fr_8_33 (mR_0 (sh_8_12 hS _)) ?_
  refine r_iconst 128 dX8_copyFrom_127 rfl (InR_of rfl) ?_
  refine r_aload_n 129 dX8_copyFrom_128 rfl rfl ?_
  refine g_R 132 dX8_copyFrom_129 rfl rfl rfl fr_8_33 (mR_0 (sh_8_12 hS _)) ?_
  refine r_iconst 133 dX8_copyFrom_132 rfl (InR_of rfl) ?_
  refine r_bipush 135 dX8_copyFrom_133 rfl rfl ?_
  refine cp_y 20 20 138 dX8_copyFrom_135 rfl rfl rfl ⟨(inT5 (List.mem_of_getElem? (i := 89) rfl) rfl), (inT3 (List.mem_of_getElem? (i := 165) rfl) rfl), (inT3 (List.mem_of_getElem? (i := 164) rfl) rfl), (inT1 (List.mem_of_getElem? (i := 19) rfl) rfl)⟩ rfl rfl rfl rfl rfl ⟨by decide, by decide, by decide, by decide, by decide⟩ rfl ?_
  refine r_iconst 139 dX8_copyFrom_138 rfl (InR_of rfl) ?_
  refine r_istore_n (ls' := [some (vR (some (4, k0))), some (vR (some (4, k1))), some (vI 0)]) 140 dX8_copyFrom_139 rfl rfl rfl rfl ?_
  exact h
set_option maxRecDepth 4000 in
theorem xX8_copyFrom_140 {l : Launch} {G : Gt} {d : Nat} {M M' : Mem} {r : Option Vl} {k0 : Nat} {k1 : Nat} {x2 : Int} (hne : k1 ≠ k0) (hS : Sh M.2.1) (h : 
    (8 ≤ x2 → r = none ∧ M' = M) ∧ (¬ (8 ≤ x2) → ((0 ≤ x2 ∧ x2 < 8) ∧ (0 ≤ x2 ∧ x2 < 8)) ∧ (∃ k_3 : Nat, (M.2.1 38 k0 x2.toNat) = some (5, k_3) ∧ (∃ (M_5 : Mem), Cl l G d mX5_copyFrom [vR (some (5, k_3)), vR (M.2.1 38 k1 x2.toNat)] M none M_5 ∧ (InR (x2 + 1)) ∧ Ex l G (d + 1) mX8_copyFrom 140 [some (vR (some (4, k0))), some (vR (some (4, k1))), some (vI (x2 + 1))] [] M_5 r M')))) : Ex l G (d + 1) mX8_copyFrom 140 [some (vR (some (4, k0))), some (vR (some (4, k1))), some (vI x2)] [] M r M' := by
  refine r_iload_n 141 dX8_copyFrom_140 rfl rfl ?_
  refine r_bipush 143 dX8_copyFrom_141 rfl rfl ?_
  refine r_icmp_ge 146 167 dX8_copyFrom_143 rfl rfl (fun c => ?_) (fun c => ?_)
  · have h := h.1 (c)
    exact r_vret dX8_copyFrom_167 rfl h.1 h.2
  · have h := h.2 (c)
    obtain ⟨⟨o_1, o_2⟩, h⟩ := h
    refine r_aload_n 147 dX8_copyFrom_146 rfl rfl ?_
    refine g_R 150 dX8_copyFrom_147 rfl rfl rfl fr_8_29 (sh_8_9 hS _) ?_
    refine r_iload_n 151 dX8_copyFrom_150 rfl rfl ?_
    refine a_R (ci := 5) 8 152 dX8_copyFrom_151 rfl rfl rfl rfl rfl o_1 rfl ?_
    refine r_aload_n 153 dX8_copyFrom_152 rfl rfl ?_
    refine g_R 156 dX8_copyFrom_153 rfl rfl rfl fr_8_29 (sh_8_9 hS _) ?_
    refine r_iload_n 157 dX8_copyFrom_156 rfl rfl ?_
    refine a_R (ci := 5) 8 158 dX8_copyFrom_157 rfl rfl rfl rfl rfl o_2 rfl ?_
    obtain ⟨k_3, e_4, h⟩ := h
    refine Ex.at (st2 := [vR (M.2.1 38 k1 x2.toNat), vR (some (5, k_3))]) ?_ rfl (show [vR (M.2.1 38 k1 x2.toNat), vR (M.2.1 38 k0 x2.toNat)] = [vR (M.2.1 38 k1 x2.toNat), vR (some (5, k_3))] by rw [e_4]) rfl
    obtain ⟨M_5, hc_6, h⟩ := h
    refine v_0 (ci := 5) (C := (RX5, TX5, 12)) [vR (M.2.1 38 k1 x2.toNat)] [] 161 dX8_copyFrom_158 rfl rfl rfl rfl rfl mo_X5_copyFrom ml_8_68 rfl rfl hc_6 ?_
    obtain ⟨o_7, h⟩ := h
    refine r_iinc (ls' := [some (vR (some (4, k0))), some (vR (some (4, k1))), some (vI (x2 + 1))]) 164 dX8_copyFrom_161 rfl rfl rfl rfl o_7 rfl ?_
    refine r_goto 140 dX8_copyFrom_164 rfl ?_
    exact h

set_option maxRecDepth 4000 in
theorem xX8_addChange_0 {l : Launch} {G : Gt} {d : Nat} {M M' : Mem} {r : Option Vl} {k0 : Nat} {x1 : Int} {x2 : Int} {x3 : Int} {x4 : Int} {x5 : Int} {x6 : Int} (h : 
    Ex l G (d + 1) mX8_addChange 6 [some (vR (some (4, k0))), some (vI x1), some (vI x2), some (vI x3), some (vI x4), some (vI x5), some (vI x6), some (vI (M.1 4 k0 4))] [] M r M') : Cl l G (d + 1) mX8_addChange [vR (some (4, k0)), vI x1, vI x2, vI x3, vI x4, vI x5, vI x6] M r M' := by
  show Ex l G (d + 1) mX8_addChange 0 [some (vR (some (4, k0))), some (vI x1), some (vI x2), some (vI x3), some (vI x4), some (vI x5), some (vI x6), none] [] M r M'
  refine r_aload_n 1 dX8_addChange_0 rfl rfl ?_
  refine g_I 4 dX8_addChange_1 rfl rfl rfl fi_8_50 rfl ?_
  refine r_istore (ls' := [some (vR (some (4, k0))), some (vI x1), some (vI x2), some (vI x3), some (vI x4), some (vI x5), some (vI x6), some (vI (M.1 4 k0 4))]) 6 dX8_addChange_4 rfl rfl rfl rfl ?_
  exact h
set_option maxRecDepth 4000 in
theorem xX8_addChange_6 {l : Launch} {G : Gt} {d : Nat} {M M' : Mem} {r : Option Vl} {k0 : Nat} {x1 : Int} {x2 : Int} {x3 : Int} {x4 : Int} {x5 : Int} {x6 : Int} {x7 : Int} (hS : Sh M.2.1) (h : 
    (x7 ≤ 0 → ((0 ≤ x7 ∧ x7 < 60) ∧ InR ((M.1 4 k0 4) + 1)) ∧ r = some (vI x7) ∧ M' = ((upI (upI M.1 35 k0 x7.toNat (aOr (aOr (aOr (aOr (aOr (aShl x1 15) (aShl x2 13)) (aShl x3 9)) (aShl x4 5)) (aShl x5 1)) (if x6 = 0 then 0 else 1 : Int))) 4 k0 4 ((M.1 4 k0 4) + 1)), M.2.1, M.2.2)) ∧ (¬ (x7 ≤ 0) → (InR (x7 - 1) ∧ (0 ≤ (x7 - 1) ∧ (x7 - 1) < 60)) ∧ (∃ (r_9 : Int) (M_7 : Mem), Cl l G d mX8_dayOfChange [vI (M.1 35 k0 (x7 - 1).toNat)] M (some (vI r_9)) M_7 ∧ Sh M_7.2.1 ∧ ((r_9 ≤ x1 → ((0 ≤ x7 ∧ x7 < 60) ∧ InR ((M_7.1 4 k0 4) + 1)) ∧ r = some (vI x7) ∧ M' = ((upI (upI M_7.1 35 k0 x7.toNat (aOr (aOr (aOr (aOr (aOr (aShl x1 15) (aShl x2 13)) (aShl x3 9)) (aShl x4 5)) (aShl x5 1)) (if x6 = 0 then 0 else 1 : Int))) 4 k0 4 ((M_7.1 4 k0 4) + 1)), M_7.2.1, M_7.2.2)) ∧ (¬ (r_9 ≤ x1) → (InR (x7 - 1) ∧ (0 ≤ (x7 - 1) ∧ (x7 - 1) < 60) ∧ (0 ≤ x7 ∧ x7 < 60) ∧ InR (x7 + (-1))) ∧ Ex l G (d + 1) mX8_addChange 6 [some (vR (some (4, k0))), some (vI x1), some (vI x2), some (vI x3), some (vI x4), some (vI x5), some (vI x6), some (vI (x7 + (-1)))] [] ((upI M_7.1 35 k0 x7.toNat (M_7.1 35 k0 (x7 - 1).toNat)), M_7.2.1, M_7.2.2) r M'))))) : Ex l G (d + 1) mX8_addChange 6 [some (vR (some (4, k0))), some (vI x1), some (vI x2), some (vI x3), some (vI x4), some (vI x5), some (vI x6), some (vI x7)] [] M r M' := by
  refine r_iload 8 dX8_addChange_6 rfl rfl ?_
  refine r_if_le 11 49 dX8_addChange_8 rfl rfl (fun c => ?_) (fun c => ?_)
  · have h := h.1 (c)
    refine r_aload_n 50 dX8_addChange_49 rfl rfl ?_
    refine g_R 53 dX8_addChange_50 rfl rfl rfl fr_8_18 (sh_8_5 hS _) ?_
    refine r_iload 55 dX8_addChange_53 rfl rfl ?_
    refine r_iload_n 56 dX8_addChange_55 rfl rfl ?_
    refine r_bipush 58 dX8_addChange_56 rfl rfl ?_
    refine r_ishl 59 dX8_addChange_58 rfl ⟨by decide, by decide⟩ ?_
    refine r_iload_n 60 dX8_addChange_59 rfl rfl ?_
    refine r_bipush 62 dX8_addChange_60 rfl rfl ?_
    refine r_ishl 63 dX8_addChange_62 rfl ⟨by decide, by decide⟩ ?_
    refine r_ior 64 dX8_addChange_63 rfl ?_
    refine r_iload_n 65 dX8_addChange_64 rfl rfl ?_
    refine r_bipush 67 dX8_addChange_65 rfl rfl ?_
    refine r_ishl 68 dX8_addChange_67 rfl ⟨by decide, by decide⟩ ?_
    refine r_ior 69 dX8_addChange_68 rfl ?_
    refine r_iload 71 dX8_addChange_69 rfl rfl ?_
    refine r_iconst 72 dX8_addChange_71 rfl (InR_of rfl) ?_
    refine r_ishl 73 dX8_addChange_72 rfl ⟨by decide, by decide⟩ ?_
    refine r_ior 74 dX8_addChange_73 rfl ?_
    refine r_iload 76 dX8_addChange_74 rfl rfl ?_
    refine r_iconst 77 dX8_addChange_76 rfl (InR_of rfl) ?_
    refine r_ishl 78 dX8_addChange_77 rfl ⟨by decide, by decide⟩ ?_
    refine r_ior 79 dX8_addChange_78 rfl ?_
    refine r_iload 81 dX8_addChange_79 rfl rfl ?_
    have hJ_1 : Ex l G (d + 1) mX8_addChange 89 [some (vR (some (4, k0))), some (vI x1), some (vI x2), some (vI x3), some (vI x4), some (vI x5), some (vI x6), some (vI x7)] [vI (if x6 = 0 then 0 else 1 : Int), vI (aOr (aOr (aOr (aOr (aShl x1 15) (aShl x2 13)) (aShl x3 9)) (aShl x4 5)) (aShl x5 1)), vI x7, vR (some (35, k0))] M r M' := by
      obtain ⟨⟨o_3, o_4⟩, h⟩ := h
      refine r_ior 90 dX8_addChange_89 rfl ?_
      refine s_I 60 91 dX8_addChange_90 rfl rfl (by decide) rfl rfl o_3 ?_
      refine r_aload_n 92 dX8_addChange_91 rfl rfl ?_
      refine r_dup 93 dX8_addChange_92 rfl rfl ?_
      refine g_I 96 dX8_addChange_93 rfl rfl rfl fi_8_50 (mI_0 (upI_f rfl)) ?_
      refine r_iconst 97 dX8_addChange_96 rfl (InR_of rfl) ?_
      refine r_iadd 98 dX8_addChange_97 rfl o_4 ?_
      refine p_I 101 dX8_addChange_98 rfl rfl rfl rfl pf_8_50 (.inl rfl) rfl ?_
      refine r_iload 103 dX8_addChange_101 rfl rfl ?_
      exact r_iret dX8_addChange_103 rfl (.inl rfl) h.1 h.2
    refine r_if_eq 84 88 dX8_addChange_81 rfl rfl (fun c => ?_) (fun c => ?_)
    · have c_2 := c
      refine r_iconst 89 dX8_addChange_88 rfl (InR_of rfl) ?_
      exact (Ex.at hJ_1 rfl (show [vI 0, vI (aOr (aOr (aOr (aOr (aShl x1 15) (aShl x2 13)) (aShl x3 9)) (aShl x4 5)) (aShl x5 1)), vI x7, vR (some (35, k0))] = [vI (if x6 = 0 then 0 else 1 : Int), vI (aOr (aOr (aOr (aOr (aShl x1 15) (aShl x2 13)) (aShl x3 9)) (aShl x4 5)) (aShl x5 1)), vI x7, vR (some (35, k0))] by simp only [if_pos c_2]) rfl)
    · have c_2 := c
      refine r_iconst 85 dX8_addChange_84 rfl (InR_of rfl) ?_
      refine r_goto 89 dX8_addChange_85 rfl ?_
      exact (Ex.at hJ_1 rfl (show [vI 1, vI (aOr (aOr (aOr (aOr (aShl x1 15) (aShl x2 13)) (aShl x3 9)) (aShl x4 5)) (aShl x5 1)), vI x7, vR (some (35, k0))] = [vI (if x6 = 0 then 0 else 1 : Int), vI (aOr (aOr (aOr (aOr (aShl x1 15) (aShl x2 13)) (aShl x3 9)) (aShl x4 5)) (aShl x5 1)), vI x7, vR (some (35, k0))] by simp only [if_neg c_2]) rfl)
  · have h := h.2 (c)
    obtain ⟨⟨o_5, o_6⟩, h⟩ := h
    refine r_aload_n 12 dX8_addChange_11 rfl rfl ?_
    refine g_R 15 dX8_addChange_12 rfl rfl rfl fr_8_18 (sh_8_5 hS _) ?_
    refine r_iload 17 dX8_addChange_15 rfl rfl ?_
    refine r_iconst 18 dX8_addChange_17 rfl (InR_of rfl) ?_
    refine r_isub 19 dX8_addChange_18 rfl o_5 ?_
    refine a_I 60 20 dX8_addChange_19 rfl rfl rfl rfl o_6 rfl ?_
    obtain ⟨r_9, M_7, hc_8, hS, h⟩ := h
    refine c_1 [vI (M.1 35 k0 (x7 - 1).toNat)] [] 23 dX8_addChange_20 rfl rfl mo_X8_dayOfChange ml_8_72 rfl rfl hc_8 ?_
    refine r_iload_n 24 dX8_addChange_23 rfl rfl ?_
    refine r_icmp_le 27 49 dX8_addChange_24 rfl rfl (fun c => ?_) (fun c => ?_)
    · have h := h.1 (c)
      refine r_aload_n 50 dX8_addChange_49 rfl rfl ?_
      refine g_R 53 dX8_addChange_50 rfl rfl rfl fr_8_18 (sh_8_5 hS _) ?_
      refine r_iload 55 dX8_addChange_53 rfl rfl ?_
      refine r_iload_n 56 dX8_addChange_55 rfl rfl ?_
      refine r_bipush 58 dX8_addChange_56 rfl rfl ?_
      refine r_ishl 59 dX8_addChange_58 rfl ⟨by decide, by decide⟩ ?_
      refine r_iload_n 60 dX8_addChange_59 rfl rfl ?_
      refine r_bipush 62 dX8_addChange_60 rfl rfl ?_
      refine r_ishl 63 dX8_addChange_62 rfl ⟨by decide, by decide⟩ ?_
      refine r_ior 64 dX8_addChange_63 rfl ?_
      refine r_iload_n 65 dX8_addChange_64 rfl rfl ?_
      refine r_bipush 67 dX8_addChange_65 rfl rfl ?_
      refine r_ishl 68 dX8_addChange_67 rfl ⟨by decide, by decide⟩ ?_
      refine r_ior 69 dX8_addChange_68 rfl ?_
      refine r_iload 71 dX8_addChange_69 rfl rfl ?_
      refine r_iconst 72 dX8_addChange_71 rfl (InR_of rfl) ?_
      refine r_ishl 73 dX8_addChange_72 rfl ⟨by decide, by decide⟩ ?_
      refine r_ior 74 dX8_addChange_73 rfl ?_
      refine r_iload 76 dX8_addChange_74 rfl rfl ?_
      refine r_iconst 77 dX8_addChange_76 rfl (InR_of rfl) ?_
      refine r_ishl 78 dX8_addChange_77 rfl ⟨by decide, by decide⟩ ?_
      refine r_ior 79 dX8_addChange_78 rfl ?_
      refine r_iload 81 dX8_addChange_79 rfl rfl ?_
      have hJ_10 : Ex l G (d + 1) mX8_addChange 89 [some (vR (some (4, k0))), some (vI x1), some (vI x2), some (vI x3), some (vI x4), some (vI x5), some (vI x6), some (vI x7)] [vI (if x6 = 0 then 0 else 1 : Int), vI (aOr (aOr (aOr (aOr (aShl x1 15) (aShl x2 13)) (aShl x3 9)) (aShl x4 5)) (aShl x5 1)), vI x7, vR (some (35, k0))] M_7 r M' := by
        obtain ⟨⟨o_12, o_13⟩, h⟩ := h
        refine r_ior 90 dX8_addChange_89 rfl ?_
        refine s_I 60 91 dX8_addChange_90 rfl rfl (by decide) rfl rfl o_12 ?_
        refine r_aload_n 92 dX8_addChange_91 rfl rfl ?_
        refine r_dup 93 dX8_addChange_92 rfl rfl ?_
        refine g_I 96 dX8_addChange_93 rfl rfl rfl fi_8_50 (mI_0 (upI_f rfl)) ?_
        refine r_iconst 97 dX8_addChange_96 rfl (InR_of rfl) ?_
        refine r_iadd 98 dX8_addChange_97 rfl o_13 ?_
        refine p_I 101 dX8_addChange_98 rfl rfl rfl rfl pf_8_50 (.inl rfl) rfl ?_
        refine r_iload 103 dX8_addChange_101 rfl rfl ?_
        exact r_iret dX8_addChange_103 rfl (.inl rfl) h.1 h.2
      refine r_if_eq 84 88 dX8_addChange_81 rfl rfl (fun c => ?_) (fun c => ?_)
      · have c_11 := c
        refine r_iconst 89 dX8_addChange_88 rfl (InR_of rfl) ?_
        exact (Ex.at hJ_10 rfl (show [vI 0, vI (aOr (aOr (aOr (aOr (aShl x1 15) (aShl x2 13)) (aShl x3 9)) (aShl x4 5)) (aShl x5 1)), vI x7, vR (some (35, k0))] = [vI (if x6 = 0 then 0 else 1 : Int), vI (aOr (aOr (aOr (aOr (aShl x1 15) (aShl x2 13)) (aShl x3 9)) (aShl x4 5)) (aShl x5 1)), vI x7, vR (some (35, k0))] by simp only [if_pos c_11]) rfl)
      · have c_11 := c
        refine r_iconst 85 dX8_addChange_84 rfl (InR_of rfl) ?_
        refine r_goto 89 dX8_addChange_85 rfl ?_
        exact (Ex.at hJ_10 rfl (show [vI 1, vI (aOr (aOr (aOr (aOr (aShl x1 15) (aShl x2 13)) (aShl x3 9)) (aShl x4 5)) (aShl x5 1)), vI x7, vR (some (35, k0))] = [vI (if x6 = 0 then 0 else 1 : Int), vI (aOr (aOr (aOr (aOr (aShl x1 15) (aShl x2 13)) (aShl x3 9)) (aShl x4 5)) (aShl x5 1)), vI x7, vR (some (35, k0))] by simp only [if_neg c_11]) rfl)
    · have h := h.2 (c)
      obtain ⟨⟨o_14, o_15, o_16, o_17⟩, h⟩ := h
      refine r_aload_n 28 dX8_addChange_27 rfl rfl ?_
      refine g_R 31 dX8_addChange_28 rfl rfl rfl fr_8_18 (sh_8_5 hS _) ?_
      refine r_iload 33 dX8_addChange_31 rfl rfl ?_
      refine r_aload_n 34 dX8_addChange_33 rfl rfl ?_
      refine g_R 37 dX8_addChange_34 rfl rfl rfl fr_8_18 (sh_8_5 hS _) ?_
      refine r_iload 39 dX8_addChange_37 rfl rfl ?_
      refine r_iconst 40 dX8_addChange_39 rfl (InR_of rfl) ?_
      refine r_isub 41 dX8_addChange_40 rfl o_14 ?_
      refine a_I 60 42 dX8_addChange_41 rfl rfl rfl rfl o_15 rfl ?_
      refine s_I 60 43 dX8_addChange_42 rfl rfl (by decide) rfl rfl o_16 ?_
      refine r_iinc (ls' := [some (vR (some (4, k0))), some (vI x1), some (vI x2), some (vI x3), some (vI x4), some (vI x5), some (vI x6), some (vI (x7 + (-1)))]) 46 dX8_addChange_43 rfl rfl rfl rfl o_17 rfl ?_
      refine r_goto 6 dX8_addChange_46 rfl ?_
      exact h

set_option maxRecDepth 4000 in
theorem xX8_dayOfChange_0 {l : Launch} {G : Gt} {d : Nat} {M M' : Mem} {r : Option Vl} {x0 : Int} (h : 
    r = some (vI (aShr x0 15)) ∧ M' = M) : Cl l G d mX8_dayOfChange [vI x0] M r M' := by
  show Ex l G d mX8_dayOfChange 0 [some (vI x0)] [] M r M'
  refine r_iload_n 1 dX8_dayOfChange_0 rfl rfl ?_
  refine r_bipush 3 dX8_dayOfChange_1 rfl rfl ?_
  refine r_ishr 4 dX8_dayOfChange_3 rfl ⟨by decide, by decide⟩ ?_
  exact r_iret dX8_dayOfChange_4 rfl (.inl rfl) h.1 h.2

set_option maxRecDepth 4000 in
theorem xX8_howManyAre_0 {l : Launch} {G : Gt} {d : Nat} {M M' : Mem} {r : Option Vl} {k0 : Nat} {x1 : Int} (h : 
    Ex l G d mX8_howManyAre 4 [some (vR (some (4, k0))), some (vI x1), some (vI 0), some (vI 0)] [] M r M') : Cl l G d mX8_howManyAre [vR (some (4, k0)), vI x1] M r M' := by
  show Ex l G d mX8_howManyAre 0 [some (vR (some (4, k0))), some (vI x1), none, none] [] M r M'
  refine r_iconst 1 dX8_howManyAre_0 rfl (InR_of rfl) ?_
  refine r_istore_n (ls' := [some (vR (some (4, k0))), some (vI x1), some (vI 0), none]) 2 dX8_howManyAre_1 rfl rfl rfl rfl ?_
  refine r_iconst 3 dX8_howManyAre_2 rfl (InR_of rfl) ?_
  refine r_istore_n (ls' := [some (vR (some (4, k0))), some (vI x1), some (vI 0), some (vI 0)]) 4 dX8_howManyAre_3 rfl rfl rfl rfl ?_
  exact h
set_option maxRecDepth 4000 in
theorem xX8_howManyAre_4 {l : Launch} {G : Gt} {d : Nat} {M M' : Mem} {r : Option Vl} {k0 : Nat} {x1 : Int} {x2 : Int} {x3 : Int} (hS : Sh M.2.1) (h : 
    ((M.1 4 k0 8) ≤ x3 → r = some (vI x2) ∧ M' = M) ∧ (¬ ((M.1 4 k0 8) ≤ x3) → ((0 ≤ x3 ∧ x3 < 8)) ∧ (∃ k_2 : Nat, (M.2.1 38 k0 x3.toNat) = some (5, k_2) ∧ (InR (x2 + (if ¬ (M.1 5 k_2 5) = x1 then 0 else 1 : Int)) ∧ InR (x3 + 1)) ∧ Ex l G d mX8_howManyAre 4 [some (vR (some (4, k0))), some (vI x1), some (vI (x2 + (if ¬ (M.1 5 k_2 5) = x1 then 0 else 1 : Int))), some (vI (x3 + 1))] [] M r M'))) : Ex l G d mX8_howManyAre 4 [some (vR (some (4, k0))), some (vI x1), some (vI x2), some (vI x3)] [] M r M' := by
  refine r_iload_n 5 dX8_howManyAre_4 rfl rfl ?_
  refine r_aload_n 6 dX8_howManyAre_5 rfl rfl ?_
  refine g_I 9 dX8_howManyAre_6 rfl rfl rfl fi_8_53 rfl ?_
  refine r_icmp_ge 12 39 dX8_howManyAre_9 rfl rfl (fun c => ?_) (fun c => ?_)
  · have h := h.1 (c)
    refine r_iload_n 40 dX8_howManyAre_39 rfl rfl ?_
    exact r_iret dX8_howManyAre_40 rfl (.inl rfl) h.1 h.2
  · have h := h.2 (c)
    obtain ⟨o_1, h⟩ := h
    refine r_iload_n 13 dX8_howManyAre_12 rfl rfl ?_
    refine r_aload_n 14 dX8_howManyAre_13 rfl rfl ?_
    refine g_R 17 dX8_howManyAre_14 rfl rfl rfl fr_8_29 (sh_8_9 hS _) ?_
    refine r_iload_n 18 dX8_howManyAre_17 rfl rfl ?_
    refine a_R (ci := 5) 8 19 dX8_howManyAre_18 rfl rfl rfl rfl rfl o_1 rfl ?_
    obtain ⟨k_2, e_3, h⟩ := h
    refine g_I 22 dX8_howManyAre_19 rfl e_3 rfl fi_8_76 rfl ?_
    refine r_iload_n 23 dX8_howManyAre_22 rfl rfl ?_
    have hJ_4 : Ex l G d mX8_howManyAre 31 [some (vR (some (4, k0))), some (vI x1), some (vI x2), some (vI x3)] [vI (if ¬ (M.1 5 k_2 5) = x1 then 0 else 1 : Int), vI x2] M r M' := by
      obtain ⟨⟨o_6, o_7⟩, h⟩ := h
      refine r_iadd 32 dX8_howManyAre_31 rfl o_6 ?_
      refine r_istore_n (ls' := [some (vR (some (4, k0))), some (vI x1), some (vI (x2 + (if ¬ (M.1 5 k_2 5) = x1 then 0 else 1 : Int))), some (vI x3)]) 33 dX8_howManyAre_32 rfl rfl rfl rfl ?_
      refine r_iinc (ls' := [some (vR (some (4, k0))), some (vI x1), some (vI (x2 + (if ¬ (M.1 5 k_2 5) = x1 then 0 else 1 : Int))), some (vI (x3 + 1))]) 36 dX8_howManyAre_33 rfl rfl rfl rfl o_7 rfl ?_
      refine r_goto 4 dX8_howManyAre_36 rfl ?_
      exact h
    refine r_icmp_ne 26 30 dX8_howManyAre_23 rfl rfl (fun c => ?_) (fun c => ?_)
    · have c_5 := c
      refine r_iconst 31 dX8_howManyAre_30 rfl (InR_of rfl) ?_
      exact (Ex.at hJ_4 rfl (show [vI 0, vI x2] = [vI (if ¬ (M.1 5 k_2 5) = x1 then 0 else 1 : Int), vI x2] by simp only [if_pos c_5]) rfl)
    · have c_5 := c
      refine r_iconst 27 dX8_howManyAre_26 rfl (InR_of rfl) ?_
      refine r_goto 31 dX8_howManyAre_27 rfl ?_
      exact (Ex.at hJ_4 rfl (show [vI 1, vI x2] = [vI (if ¬ (M.1 5 k_2 5) = x1 then 0 else 1 : Int), vI x2] by simp only [if_neg c_5]) rfl)

set_option maxRecDepth 4000 in
theorem xX8_howManyAreRight_0 {l : Launch} {G : Gt} {d : Nat} {M M' : Mem} {r : Option Vl} {k0 : Nat} (h : 
    Ex l G (d + 1) mX8_howManyAreRight 4 [some (vR (some (4, k0))), some (vI 0), some (vI 0)] [] M r M') : Cl l G (d + 1) mX8_howManyAreRight [vR (some (4, k0))] M r M' := by
  show Ex l G (d + 1) mX8_howManyAreRight 0 [some (vR (some (4, k0))), none, none] [] M r M'
  refine r_iconst 1 dX8_howManyAreRight_0 rfl (InR_of rfl) ?_
  refine r_istore_n (ls' := [some (vR (some (4, k0))), some (vI 0), none]) 2 dX8_howManyAreRight_1 rfl rfl rfl rfl ?_
  refine r_iconst 3 dX8_howManyAreRight_2 rfl (InR_of rfl) ?_
  refine r_istore_n (ls' := [some (vR (some (4, k0))), some (vI 0), some (vI 0)]) 4 dX8_howManyAreRight_3 rfl rfl rfl rfl ?_
  exact h
set_option maxRecDepth 4000 in
theorem xX8_howManyAreRight_4 {l : Launch} {G : Gt} {d : Nat} {M M' : Mem} {r : Option Vl} {k0 : Nat} {x1 : Int} {x2 : Int} (hS : Sh M.2.1) (h : 
    ((M.1 4 k0 8) ≤ x2 → r = some (vI x1) ∧ M' = M) ∧ (¬ ((M.1 4 k0 8) ≤ x2) → ((0 ≤ x2 ∧ x2 < 8)) ∧ (∃ k_2 : Nat, (M.2.1 38 k0 x2.toNat) = some (5, k_2) ∧ (∃ (r_6 : Int) (M_4 : Mem), Cl l G d mX5_isRight [vR (some (5, k_2))] M (some (vI r_6)) M_4 ∧ (InR (x1 + (if r_6 = 0 then 0 else 1 : Int)) ∧ InR (x2 + 1)) ∧ Ex l G (d + 1) mX8_howManyAreRight 4 [some (vR (some (4, k0))), some (vI (x1 + (if r_6 = 0 then 0 else 1 : Int))), some (vI (x2 + 1))] [] M_4 r M')))) : Ex l G (d + 1) mX8_howManyAreRight 4 [some (vR (some (4, k0))), some (vI x1), some (vI x2)] [] M r M' := by
  refine r_iload_n 5 dX8_howManyAreRight_4 rfl rfl ?_
  refine r_aload_n 6 dX8_howManyAreRight_5 rfl rfl ?_
  refine g_I 9 dX8_howManyAreRight_6 rfl rfl rfl fi_8_53 rfl ?_
  refine r_icmp_ge 12 38 dX8_howManyAreRight_9 rfl rfl (fun c => ?_) (fun c => ?_)
  · have h := h.1 (c)
    refine r_iload_n 39 dX8_howManyAreRight_38 rfl rfl ?_
    exact r_iret dX8_howManyAreRight_39 rfl (.inl rfl) h.1 h.2
  · have h := h.2 (c)
    obtain ⟨o_1, h⟩ := h
    refine r_iload_n 13 dX8_howManyAreRight_12 rfl rfl ?_
    refine r_aload_n 14 dX8_howManyAreRight_13 rfl rfl ?_
    refine g_R 17 dX8_howManyAreRight_14 rfl rfl rfl fr_8_29 (sh_8_9 hS _) ?_
    refine r_iload_n 18 dX8_howManyAreRight_17 rfl rfl ?_
    refine a_R (ci := 5) 8 19 dX8_howManyAreRight_18 rfl rfl rfl rfl rfl o_1 rfl ?_
    obtain ⟨k_2, e_3, h⟩ := h
    refine Ex.at (st2 := [vR (some (5, k_2)), vI x1]) ?_ rfl (show [vR (M.2.1 38 k0 x2.toNat), vI x1] = [vR (some (5, k_2)), vI x1] by rw [e_3]) rfl
    obtain ⟨r_6, M_4, hc_5, h⟩ := h
    refine v_1 (ci := 5) (C := (RX5, TX5, 12)) [] [vI x1] 22 dX8_howManyAreRight_19 rfl rfl rfl rfl rfl mo_X5_isRight ml_8_79 rfl rfl hc_5 ?_
    have hJ_7 : Ex l G (d + 1) mX8_howManyAreRight 30 [some (vR (some (4, k0))), some (vI x1), some (vI x2)] [vI (if r_6 = 0 then 0 else 1 : Int), vI x1] M_4 r M' := by
      obtain ⟨⟨o_9, o_10⟩, h⟩ := h
      refine r_iadd 31 dX8_howManyAreRight_30 rfl o_9 ?_
      refine r_istore_n (ls' := [some (vR (some (4, k0))), some (vI (x1 + (if r_6 = 0 then 0 else 1 : Int))), some (vI x2)]) 32 dX8_howManyAreRight_31 rfl rfl rfl rfl ?_
      refine r_iinc (ls' := [some (vR (some (4, k0))), some (vI (x1 + (if r_6 = 0 then 0 else 1 : Int))), some (vI (x2 + 1))]) 35 dX8_howManyAreRight_32 rfl rfl rfl rfl o_10 rfl ?_
      refine r_goto 4 dX8_howManyAreRight_35 rfl ?_
      exact h
    refine r_if_eq 25 29 dX8_howManyAreRight_22 rfl rfl (fun c => ?_) (fun c => ?_)
    · have c_8 := c
      refine r_iconst 30 dX8_howManyAreRight_29 rfl (InR_of rfl) ?_
      exact (Ex.at hJ_7 rfl (show [vI 0, vI x1] = [vI (if r_6 = 0 then 0 else 1 : Int), vI x1] by simp only [if_pos c_8]) rfl)
    · have c_8 := c
      refine r_iconst 26 dX8_howManyAreRight_25 rfl (InR_of rfl) ?_
      refine r_goto 30 dX8_howManyAreRight_26 rfl ?_
      exact (Ex.at hJ_7 rfl (show [vI 1, vI x1] = [vI (if r_6 = 0 then 0 else 1 : Int), vI x1] by simp only [if_neg c_8]) rfl)

set_option maxRecDepth 4000 in
theorem xX9_init_0 {l : Launch} {G : Gt} {d : Nat} {M M' : Mem} {r : Option Vl}  (h : 
    (∀ M_1 : Mem, newM M 40 61 61 = M_1 → (∀ M_2 : Mem, newM (M_1.1, (upR M_1.2.1 10 0 0 (some (40, cCnt M.2.2 40))), M_1.2.2) 41 488 488 = M_2 → (∀ M_3 : Mem, newM (M_2.1, (upR M_2.2.1 10 0 1 (some (41, cCnt M_1.2.2 41))), M_2.2.2) 42 488 488 = M_3 → (∀ M_4 : Mem, newM (M_3.1, (upR M_3.2.1 10 0 2 (some (42, cCnt M_2.2.2 42))), M_3.2.2) 43 61 61 = M_4 → (∀ M_5 : Mem, newM (M_4.1, (upR M_4.2.1 10 0 3 (some (43, cCnt M_3.2.2 43))), M_4.2.2) 44 488 488 = M_5 → r = none ∧ M' = (M_5.1, (upR M_5.2.1 10 0 4 (some (44, cCnt M_4.2.2 44))), M_5.2.2))))))) : Cl l G (d + 1) mX9_init [vR (some (10, 0))] M r M' := by
  show Ex l G (d + 1) mX9_init 0 [some (vR (some (10, 0)))] [] M r M'
  refine r_aload_n 1 dX9_init_0 rfl rfl ?_
  refine r_objInit 4 dX9_init_1 rfl rfl ⟨(inT2 (List.mem_of_getElem? (i := 38) rfl) rfl), (inT1 (List.mem_of_getElem? (i := 28) rfl) rfl), (inT1 (List.mem_of_getElem? (i := 29) rfl) rfl)⟩ rfl ?_
  refine r_aload_n 5 dX9_init_4 rfl rfl ?_
  refine r_bipush 7 dX9_init_5 rfl rfl ?_
  refine r_newa (f := 40) (k := 1) (n := 61) 9 dX9_init_7 rfl rfl rfl (by decide) (inT1 (List.mem_of_getElem? (i := 104) rfl) rfl) rfl (by decide) (.inl rfl) ?_
  generalize hM_1 : newM M 40 61 61 = M_1
  have h := h M_1 hM_1
  refine p_R 12 dX9_init_9 rfl rfl rfl rfl pf_9_11 (.inr rfl) rfl ?_
  refine r_aload_n 13 dX9_init_12 rfl rfl ?_
  refine r_sipush 16 dX9_init_13 rfl rfl ?_
  refine r_newa (f := 41) (k := 1) (n := 488) 18 dX9_init_16 rfl rfl rfl (by decide) (inT1 (List.mem_of_getElem? (i := 104) rfl) rfl) rfl (by decide) (.inl rfl) ?_
  generalize hM_2 : newM (M_1.1, (upR M_1.2.1 10 0 0 (some (40, cCnt M.2.2 40))), M_1.2.2) 41 488 488 = M_2
  have h := h M_2 hM_2
  refine p_R 21 dX9_init_18 rfl rfl rfl rfl pf_9_15 (.inr rfl) rfl ?_
  refine r_aload_n 22 dX9_init_21 rfl rfl ?_
  refine r_sipush 25 dX9_init_22 rfl rfl ?_
  refine r_newa (f := 42) (k := 1) (n := 488) 27 dX9_init_25 rfl rfl rfl (by decide) (inT1 (List.mem_of_getElem? (i := 104) rfl) rfl) rfl (by decide) (.inl rfl) ?_
  generalize hM_3 : newM (M_2.1, (upR M_2.2.1 10 0 1 (some (41, cCnt M_1.2.2 41))), M_2.2.2) 42 488 488 = M_3
  have h := h M_3 hM_3
  refine p_R 30 dX9_init_27 rfl rfl rfl rfl pf_9_18 (.inr rfl) rfl ?_
  refine r_aload_n 31 dX9_init_30 rfl rfl ?_
  refine r_bipush 33 dX9_init_31 rfl rfl ?_
  refine r_newa (f := 43) (k := 1) (n := 61) 35 dX9_init_33 rfl rfl rfl (by decide) (inT1 (List.mem_of_getElem? (i := 104) rfl) rfl) rfl (by decide) (.inl rfl) ?_
  generalize hM_4 : newM (M_3.1, (upR M_3.2.1 10 0 2 (some (42, cCnt M_2.2.2 42))), M_3.2.2) 43 61 61 = M_4
  have h := h M_4 hM_4
  refine p_R 38 dX9_init_35 rfl rfl rfl rfl pf_9_21 (.inr rfl) rfl ?_
  refine r_aload_n 39 dX9_init_38 rfl rfl ?_
  refine r_sipush 42 dX9_init_39 rfl rfl ?_
  refine r_newa (f := 44) (k := 1) (n := 488) 44 dX9_init_42 rfl rfl rfl (by decide) (inT1 (List.mem_of_getElem? (i := 104) rfl) rfl) rfl (by decide) (.inl rfl) ?_
  generalize hM_5 : newM (M_4.1, (upR M_4.2.1 10 0 3 (some (43, cCnt M_3.2.2 43))), M_4.2.2) 44 488 488 = M_5
  have h := h M_5 hM_5
  refine p_R 47 dX9_init_44 rfl rfl rfl rfl pf_9_24 (.inr rfl) rfl ?_
  exact r_vret dX9_init_47 rfl h.1 h.2

set_option maxRecDepth 4000 in
theorem xX9_spread_0 {l : Launch} {G : Gt} {d : Nat} {M M' : Mem} {r : Option Vl} {k1 : Nat} {k3 : Nat} (hS : Sh M.2.1) (h : 
    ∃ (M_1 : Mem), Cl l G d mJ7_fill_53178 [vR (some (40, 0)), vI 0] M none M_1 ∧ Sh M_1.2.1 ∧ ((¬ ((M_1.2.1 5 k1 0) = none) → ((0 ≤ (M_1.1 5 k1 3) ∧ (M_1.1 5 k1 3) < 32)) ∧ Ex l G (d + 1) mX9_spread 31 [some (vR (some (10, 0))), some (vR (some (5, k1))), some (vR (some (9, 0))), some (vR (some (34, k3))), some (vI 0), none, none] [] ((upI M_1.1 40 0 0 (aShl 1 (M_1.1 5 k1 3))), M_1.2.1, M_1.2.2) r M') ∧ ((M_1.2.1 5 k1 0) = none → r = none ∧ M' = M_1))) : Cl l G (d + 1) mX9_spread [vR (some (10, 0)), vR (some (5, k1)), vR (some (9, 0)), vR (some (34, k3))] M r M' := by
  show Ex l G (d + 1) mX9_spread 0 [some (vR (some (10, 0))), some (vR (some (5, k1))), some (vR (some (9, 0))), some (vR (some (34, k3))), none, none, none] [] M r M'
  refine r_aload_n 1 dX9_spread_0 rfl rfl ?_
  refine g_R 4 dX9_spread_1 rfl rfl rfl fr_9_11 (sh_9_0 hS) ?_
  refine r_iconst 5 dX9_spread_4 rfl (InR_of rfl) ?_
  obtain ⟨M_1, hc_2, hS, h⟩ := h
  refine c_0 [vR (some (40, 0)), vI 0] [] 8 dX9_spread_5 rfl rfl mo_J7_fill_53178 ml_9_27 rfl rfl hc_2 ?_
  refine r_aload_n 9 dX9_spread_8 rfl rfl ?_
  refine g_R 12 dX9_spread_9 rfl rfl rfl fr_9_33 rfl ?_
  refine r_ifnonnull 15 16 dX9_spread_12 rfl rfl (fun c => ?_) (fun c => ?_)
  · have h := h.1 (c)
    obtain ⟨o_3, h⟩ := h
    refine r_aload_n 17 dX9_spread_16 rfl rfl ?_
    refine g_R 20 dX9_spread_17 rfl rfl rfl fr_9_11 (sh_9_0 hS) ?_
    refine r_iconst 21 dX9_spread_20 rfl (InR_of rfl) ?_
    refine r_iconst 22 dX9_spread_21 rfl (InR_of rfl) ?_
    refine r_aload_n 23 dX9_spread_22 rfl rfl ?_
    refine g_I 26 dX9_spread_23 rfl rfl rfl fi_9_39 rfl ?_
    refine r_ishl 27 dX9_spread_26 rfl o_3 ?_
    refine s_I 61 28 dX9_spread_27 rfl rfl (by decide) rfl rfl ⟨by decide, by decide⟩ ?_
    refine r_iconst 29 dX9_spread_28 rfl (InR_of rfl) ?_
    refine r_istore (ls' := [some (vR (some (10, 0))), some (vR (some (5, k1))), some (vR (some (9, 0))), some (vR (some (34, k3))), some (vI 0), none, none]) 31 dX9_spread_29 rfl rfl rfl rfl ?_
    exact h
  · have h := h.2 (c)
    exact r_vret dX9_spread_15 rfl h.1 h.2
set_option maxRecDepth 4000 in
theorem xX9_spread_31 {l : Launch} {G : Gt} {d : Nat} {M M' : Mem} {r : Option Vl} {k1 : Nat} {k3 : Nat} {x4 : Int} (h : 
    (61 ≤ x4 → r = none ∧ M' = M) ∧ (¬ (61 ≤ x4) → (InR ((M.1 5 k1 4) + x4)) ∧ Ex l G (d + 1) mX9_spread 56 [some (vR (some (10, 0))), some (vR (some (5, k1))), some (vR (some (9, 0))), some (vR (some (34, k3))), some (vI x4), some (vI (if 999 < ((M.1 5 k1 4) + x4) then 999 else ((M.1 5 k1 4) + x4) : Int)), some (vI 0)] [] M r M')) : Ex l G (d + 1) mX9_spread 31 [some (vR (some (10, 0))), some (vR (some (5, k1))), some (vR (some (9, 0))), some (vR (some (34, k3))), some (vI x4), none, none] [] M r M' := by
  refine r_iload 33 dX9_spread_31 rfl rfl ?_
  refine r_bipush 35 dX9_spread_33 rfl rfl ?_
  refine r_icmp_ge 38 153 dX9_spread_35 rfl rfl (fun c => ?_) (fun c => ?_)
  · have h := h.1 (c)
    exact r_vret dX9_spread_153 rfl h.1 h.2
  · have h := h.2 (c)
    obtain ⟨o_1, h⟩ := h
    refine r_aload_n 39 dX9_spread_38 rfl rfl ?_
    refine g_I 42 dX9_spread_39 rfl rfl rfl fi_9_43 rfl ?_
    refine r_iload 44 dX9_spread_42 rfl rfl ?_
    refine r_iadd 45 dX9_spread_44 rfl o_1 ?_
    refine r_sipush 48 dX9_spread_45 rfl rfl ?_
    refine r_min 51 dX9_spread_48 rfl (inT4 (List.mem_of_getElem? (i := 152) rfl) rfl) rfl ?_
    refine r_istore (ls' := [some (vR (some (10, 0))), some (vR (some (5, k1))), some (vR (some (9, 0))), some (vR (some (34, k3))), some (vI x4), some (vI (if 999 < ((M.1 5 k1 4) + x4) then 999 else ((M.1 5 k1 4) + x4) : Int)), none]) 53 dX9_spread_51 rfl rfl rfl rfl ?_
    refine r_iconst 54 dX9_spread_53 rfl (InR_of rfl) ?_
    refine r_istore (ls' := [some (vR (some (10, 0))), some (vR (some (5, k1))), some (vR (some (9, 0))), some (vR (some (34, k3))), some (vI x4), some (vI (if 999 < ((M.1 5 k1 4) + x4) then 999 else ((M.1 5 k1 4) + x4) : Int)), some (vI 0)]) 56 dX9_spread_54 rfl rfl rfl rfl ?_
    exact h
set_option maxRecDepth 4000 in
theorem xX9_spread_56 {l : Launch} {G : Gt} {d : Nat} {M M' : Mem} {r : Option Vl} {k1 : Nat} {k3 : Nat} {x4 : Int} {x5 : Int} {x6 : Int} (hS : Sh M.2.1) (h : 
    (8 ≤ x6 → (InR (x4 + 1)) ∧ Ex l G (d + 1) mX9_spread 31 [some (vR (some (10, 0))), some (vR (some (5, k1))), some (vR (some (9, 0))), some (vR (some (34, k3))), some (vI (x4 + 1)), none, none] [] M r M') ∧ (¬ (8 ≤ x6) → ((0 ≤ x4 ∧ x4 < 61)) ∧ (∃ (r_5 : Int) (M_3 : Mem), Cl l G d mX11_hasBit [vI (M.1 40 0 x4.toNat), vI x6] M (some (vI r_5)) M_3 ∧ ((r_5 = 0 → (InR (x6 + 1)) ∧ Ex l G (d + 1) mX9_spread 56 [some (vR (some (10, 0))), some (vR (some (5, k1))), some (vR (some (9, 0))), some (vR (some (34, k3))), some (vI x4), some (vI x5), some (vI (x6 + 1))] [] M_3 r M') ∧ (¬ (r_5 = 0) → ∃ k_7 : Nat, (M_3.2.1 5 k1 0) = some (13, k_7) ∧ (∃ (M_9 : Mem), Cl l G d mX0_choose [vR (some (9, 0)), vR (some (13, k_7)), vI (M_3.1 5 k1 1), vI (M_3.1 5 k1 4), vI x5, vI x6] M_3 none M_9 ∧ Sh M_9.2.1 ∧ (InR (x4 * 8) ∧ InR ((x4 * 8) + x6) ∧ (0 ≤ ((x4 * 8) + x6) ∧ ((x4 * 8) + x6) < 488) ∧ InR (x4 * 8) ∧ InR ((x4 * 8) + x6) ∧ (0 ≤ ((x4 * 8) + x6) ∧ ((x4 * 8) + x6) < 488)) ∧ (∃ (M_17 : Mem), Cl l G d mX9_reach [vR (some (10, 0)), vI x4, vI x6, vR (some (34, k3))] ((upI (upI M_9.1 41 0 ((x4 * 8) + x6).toNat (M_9.1 9 0 8)) 42 0 ((x4 * 8) + x6).toNat (M_9.1 9 0 9)), M_9.2.1, M_9.2.2) none M_17 ∧ (InR (x6 + 1)) ∧ Ex l G (d + 1) mX9_spread 56 [some (vR (some (10, 0))), some (vR (some (5, k1))), some (vR (some (9, 0))), some (vR (some (34, k3))), some (vI x4), some (vI x5), some (vI (x6 + 1))] [] M_17 r M'))))))) : Ex l G (d + 1) mX9_spread 56 [some (vR (some (10, 0))), some (vR (some (5, k1))), some (vR (some (9, 0))), some (vR (some (34, k3))), some (vI x4), some (vI x5), some (vI x6)] [] M r M' := by
  refine r_iload 58 dX9_spread_56 rfl rfl ?_
  refine r_bipush 60 dX9_spread_58 rfl rfl ?_
  refine r_icmp_ge 63 147 dX9_spread_60 rfl rfl (fun c => ?_) (fun c => ?_)
  · have h := h.1 (c)
    obtain ⟨o_1, h⟩ := h
    refine r_iinc (ls' := [some (vR (some (10, 0))), some (vR (some (5, k1))), some (vR (some (9, 0))), some (vR (some (34, k3))), some (vI (x4 + 1)), some (vI x5), some (vI x6)]) 150 dX9_spread_147 rfl rfl rfl rfl o_1 rfl ?_
    refine r_goto 31 dX9_spread_150 rfl ?_
    exact Ex.weak h ⟨rfl, rfl, rfl, rfl, rfl, trivial⟩
  · have h := h.2 (c)
    obtain ⟨o_2, h⟩ := h
    refine r_aload_n 64 dX9_spread_63 rfl rfl ?_
    refine g_R 67 dX9_spread_64 rfl rfl rfl fr_9_11 (sh_9_0 hS) ?_
    refine r_iload 69 dX9_spread_67 rfl rfl ?_
    refine a_I 61 70 dX9_spread_69 rfl rfl rfl rfl o_2 rfl ?_
    refine r_iload 72 dX9_spread_70 rfl rfl ?_
    obtain ⟨r_5, M_3, hc_4, h⟩ := h
    refine n_1 [vI (M.1 40 0 x4.toNat), vI x6] [] 75 dX9_spread_72 rfl rfl mo_X11_hasBit ml_9_52 rfl rfl hc_4 ?_
    refine r_if_eq 78 141 dX9_spread_75 rfl rfl (fun c => ?_) (fun c => ?_)
    · have h := h.1 (c)
      obtain ⟨o_6, h⟩ := h
      refine r_iinc (ls' := [some (vR (some (10, 0))), some (vR (some (5, k1))), some (vR (some (9, 0))), some (vR (some (34, k3))), some (vI x4), some (vI x5), some (vI (x6 + 1))]) 144 dX9_spread_141 rfl rfl rfl rfl o_6 rfl ?_
      refine r_goto 56 dX9_spread_144 rfl ?_
      exact h
    · have h := h.2 (c)
      refine r_aload_n 79 dX9_spread_78 rfl rfl ?_
      refine r_aload_n 80 dX9_spread_79 rfl rfl ?_
      refine g_R 83 dX9_spread_80 rfl rfl rfl fr_9_33 rfl ?_
      refine r_aload_n 84 dX9_spread_83 rfl rfl ?_
      refine g_I 87 dX9_spread_84 rfl rfl rfl fi_9_56 rfl ?_
      refine r_aload_n 88 dX9_spread_87 rfl rfl ?_
      refine g_I 91 dX9_spread_88 rfl rfl rfl fi_9_43 rfl ?_
      refine r_iload 93 dX9_spread_91 rfl rfl ?_
      refine r_iload 95 dX9_spread_93 rfl rfl ?_
      obtain ⟨k_7, e_8, h⟩ := h
      refine Ex.at (st2 := [vI x6, vI x5, vI (M_3.1 5 k1 4), vI (M_3.1 5 k1 1), vR (some (13, k_7)), vR (some (9, 0))]) ?_ rfl (show [vI x6, vI x5, vI (M_3.1 5 k1 4), vI (M_3.1 5 k1 1), vR (M_3.2.1 5 k1 0), vR (some (9, 0))] = [vI x6, vI x5, vI (M_3.1 5 k1 4), vI (M_3.1 5 k1 1), vR (some (13, k_7)), vR (some (9, 0))] by rw [e_8]) rfl
      obtain ⟨M_9, hc_10, hS, h⟩ := h
      refine v_0 (ci := 0) (C := (RX0, TX0, 13)) [vR (some (13, k_7)), vI (M_3.1 5 k1 1), vI (M_3.1 5 k1 4), vI x5, vI x6] [] 98 dX9_spread_95 rfl rfl rfl rfl rfl mo_X0_choose ml_9_59 rfl rfl hc_10 ?_
      obtain ⟨⟨o_11, o_12, o_13, o_14, o_15, o_16⟩, h⟩ := h
      refine r_aload_n 99 dX9_spread_98 rfl rfl ?_
      refine g_R 102 dX9_spread_99 rfl rfl rfl fr_9_15 (sh_9_1 hS) ?_
      refine r_iload 104 dX9_spread_102 rfl rfl ?_
      refine r_bipush 106 dX9_spread_104 rfl rfl ?_
      refine r_imul 107 dX9_spread_106 rfl o_11 ?_
      refine r_iload 109 dX9_spread_107 rfl rfl ?_
      refine r_iadd 110 dX9_spread_109 rfl o_12 ?_
      refine r_aload_n 111 dX9_spread_110 rfl rfl ?_
      refine g_I 114 dX9_spread_111 rfl rfl rfl fi_9_65 rfl ?_
      refine s_I 488 115 dX9_spread_114 rfl rfl (by decide) rfl rfl o_13 ?_
      refine r_aload_n 116 dX9_spread_115 rfl rfl ?_
      refine g_R 119 dX9_spread_116 rfl rfl rfl fr_9_18 (mR_0 (sh_9_2 hS)) ?_
      refine r_iload 121 dX9_spread_119 rfl rfl ?_
      refine r_bipush 123 dX9_spread_121 rfl rfl ?_
      refine r_imul 124 dX9_spread_123 rfl o_14 ?_
      refine r_iload 126 dX9_spread_124 rfl rfl ?_
      refine r_iadd 127 dX9_spread_126 rfl o_15 ?_
      refine r_aload_n 128 dX9_spread_127 rfl rfl ?_
      refine g_I 131 dX9_spread_128 rfl rfl rfl fi_9_67 (mI_0 (upI_f rfl)) ?_
      refine s_I 488 132 dX9_spread_131 rfl rfl (by decide) rfl rfl o_16 ?_
      refine r_aload_n 133 dX9_spread_132 rfl rfl ?_
      refine r_iload 135 dX9_spread_133 rfl rfl ?_
      refine r_iload 137 dX9_spread_135 rfl rfl ?_
      refine r_aload_n 138 dX9_spread_137 rfl rfl ?_
      obtain ⟨M_17, hc_18, h⟩ := h
      refine v_0 (ci := 9) (C := (RX9, TX9, 5)) [vI x4, vI x6, vR (some (34, k3))] [] 141 dX9_spread_138 rfl rfl rfl rfl rfl mo_X9_reach ml_9_69 rfl rfl hc_18 ?_
      obtain ⟨o_19, h⟩ := h
      refine r_iinc (ls' := [some (vR (some (10, 0))), some (vR (some (5, k1))), some (vR (some (9, 0))), some (vR (some (34, k3))), some (vI x4), some (vI x5), some (vI (x6 + 1))]) 144 dX9_spread_141 rfl rfl rfl rfl o_19 rfl ?_
      refine r_goto 56 dX9_spread_144 rfl ?_
      exact h

set_option maxRecDepth 4000 in
theorem xX9_reach_0 {l : Launch} {G : Gt} {d : Nat} {M M' : Mem} {r : Option Vl} {x1 : Int} {x2 : Int} {k3 : Nat} (h : 
    Ex l G (d + 1) mX9_reach 3 [some (vR (some (10, 0))), some (vI x1), some (vI x2), some (vR (some (34, k3))), some (vI 0), none] [] M r M') : Cl l G (d + 1) mX9_reach [vR (some (10, 0)), vI x1, vI x2, vR (some (34, k3))] M r M' := by
  show Ex l G (d + 1) mX9_reach 0 [some (vR (some (10, 0))), some (vI x1), some (vI x2), some (vR (some (34, k3))), none, none] [] M r M'
  refine r_iconst 1 dX9_reach_0 rfl (InR_of rfl) ?_
  refine r_istore (ls' := [some (vR (some (10, 0))), some (vI x1), some (vI x2), some (vR (some (34, k3))), some (vI 0), none]) 3 dX9_reach_1 rfl rfl rfl rfl ?_
  exact h
set_option maxRecDepth 4000 in
theorem xX9_reach_3 {l : Launch} {G : Gt} {d : Nat} {M M' : Mem} {r : Option Vl} {x1 : Int} {x2 : Int} {k3 : Nat} {x4 : Int} (hS : Sh M.2.1) (h : 
    (8 ≤ x4 → r = none ∧ M' = M) ∧ (¬ (8 ≤ x4) → (InR (x2 * 8) ∧ InR ((x2 * 8) + x4) ∧ (0 ≤ ((x2 * 8) + x4) ∧ ((x2 * 8) + x4) < 64) ∧ InR (x1 + (M.1 34 k3 ((x2 * 8) + x4).toNat)) ∧ InR (x1 * 8) ∧ InR ((x1 * 8) + x2) ∧ (0 ≤ ((x1 * 8) + x2) ∧ ((x1 * 8) + x2) < 488)) ∧ (∃ (r_10 : Int) (M_8 : Mem), Cl l G d mX11_hasBit [vI (M.1 42 0 ((x1 * 8) + x2).toNat), vI x4] M (some (vI r_10)) M_8 ∧ Sh M_8.2.1 ∧ ((r_10 = 0 → (InR (x4 + 1)) ∧ Ex l G (d + 1) mX9_reach 3 [some (vR (some (10, 0))), some (vI x1), some (vI x2), some (vR (some (34, k3))), some (vI (x4 + 1)), none] [] M_8 r M') ∧ (¬ (r_10 = 0) → (61 ≤ (x1 + (M.1 34 k3 ((x2 * 8) + x4).toNat)) → (InR (x4 + 1)) ∧ Ex l G (d + 1) mX9_reach 3 [some (vR (some (10, 0))), some (vI x1), some (vI x2), some (vR (some (34, k3))), some (vI (x4 + 1)), none] [] M_8 r M') ∧ (¬ (61 ≤ (x1 + (M.1 34 k3 ((x2 * 8) + x4).toNat))) → ((0 ≤ (x1 + (M.1 34 k3 ((x2 * 8) + x4).toNat)) ∧ (x1 + (M.1 34 k3 ((x2 * 8) + x4).toNat)) < 61) ∧ (0 ≤ x4 ∧ x4 < 32) ∧ (0 ≤ (x1 + (M.1 34 k3 ((x2 * 8) + x4).toNat)) ∧ (x1 + (M.1 34 k3 ((x2 * 8) + x4).toNat)) < 61) ∧ InR (x4 + 1)) ∧ Ex l G (d + 1) mX9_reach 3 [some (vR (some (10, 0))), some (vI x1), some (vI x2), some (vR (some (34, k3))), some (vI (x4 + 1)), none] [] ((upI M_8.1 40 0 (x1 + (M.1 34 k3 ((x2 * 8) + x4).toNat)).toNat (aOr (M_8.1 40 0 (x1 + (M.1 34 k3 ((x2 * 8) + x4).toNat)).toNat) (aShl 1 x4))), M_8.2.1, M_8.2.2) r M')))))) : Ex l G (d + 1) mX9_reach 3 [some (vR (some (10, 0))), some (vI x1), some (vI x2), some (vR (some (34, k3))), some (vI x4), none] [] M r M' := by
  refine r_iload 5 dX9_reach_3 rfl rfl ?_
  refine r_bipush 7 dX9_reach_5 rfl rfl ?_
  refine r_icmp_ge 10 69 dX9_reach_7 rfl rfl (fun c => ?_) (fun c => ?_)
  · have h := h.1 (c)
    exact r_vret dX9_reach_69 rfl h.1 h.2
  · have h := h.2 (c)
    obtain ⟨⟨o_1, o_2, o_3, o_4, o_5, o_6, o_7⟩, h⟩ := h
    refine r_iload_n 11 dX9_reach_10 rfl rfl ?_
    refine r_aload_n 12 dX9_reach_11 rfl rfl ?_
    refine r_iload_n 13 dX9_reach_12 rfl rfl ?_
    refine r_bipush 15 dX9_reach_13 rfl rfl ?_
    refine r_imul 16 dX9_reach_15 rfl o_1 ?_
    refine r_iload 18 dX9_reach_16 rfl rfl ?_
    refine r_iadd 19 dX9_reach_18 rfl o_2 ?_
    refine a_I 64 20 dX9_reach_19 rfl rfl rfl rfl o_3 rfl ?_
    refine r_iadd 21 dX9_reach_20 rfl o_4 ?_
    refine r_istore (ls' := [some (vR (some (10, 0))), some (vI x1), some (vI x2), some (vR (some (34, k3))), some (vI x4), some (vI (x1 + (M.1 34 k3 ((x2 * 8) + x4).toNat)))]) 23 dX9_reach_21 rfl rfl rfl rfl ?_
    refine r_aload_n 24 dX9_reach_23 rfl rfl ?_
    refine g_R 27 dX9_reach_24 rfl rfl rfl fr_9_18 (sh_9_2 hS) ?_
    refine r_iload_n 28 dX9_reach_27 rfl rfl ?_
    refine r_bipush 30 dX9_reach_28 rfl rfl ?_
    refine r_imul 31 dX9_reach_30 rfl o_5 ?_
    refine r_iload_n 32 dX9_reach_31 rfl rfl ?_
    refine r_iadd 33 dX9_reach_32 rfl o_6 ?_
    refine a_I 488 34 dX9_reach_33 rfl rfl rfl rfl o_7 rfl ?_
    refine r_iload 36 dX9_reach_34 rfl rfl ?_
    obtain ⟨r_10, M_8, hc_9, hS, h⟩ := h
    refine n_1 [vI (M.1 42 0 ((x1 * 8) + x2).toNat), vI x4] [] 39 dX9_reach_36 rfl rfl mo_X11_hasBit ml_9_52 rfl rfl hc_9 ?_
    refine r_if_eq 42 63 dX9_reach_39 rfl rfl (fun c => ?_) (fun c => ?_)
    · have h := h.1 (c)
      obtain ⟨o_11, h⟩ := h
      refine r_iinc (ls' := [some (vR (some (10, 0))), some (vI x1), some (vI x2), some (vR (some (34, k3))), some (vI (x4 + 1)), some (vI (x1 + (M.1 34 k3 ((x2 * 8) + x4).toNat)))]) 66 dX9_reach_63 rfl rfl rfl rfl o_11 rfl ?_
      refine r_goto 3 dX9_reach_66 rfl ?_
      exact Ex.weak h ⟨rfl, rfl, rfl, rfl, rfl, trivial⟩
    · have h := h.2 (c)
      refine r_iload 44 dX9_reach_42 rfl rfl ?_
      refine r_bipush 46 dX9_reach_44 rfl rfl ?_
      refine r_icmp_ge 49 63 dX9_reach_46 rfl rfl (fun c => ?_) (fun c => ?_)
      · have h := h.1 (c)
        obtain ⟨o_12, h⟩ := h
        refine r_iinc (ls' := [some (vR (some (10, 0))), some (vI x1), some (vI x2), some (vR (some (34, k3))), some (vI (x4 + 1)), some (vI (x1 + (M.1 34 k3 ((x2 * 8) + x4).toNat)))]) 66 dX9_reach_63 rfl rfl rfl rfl o_12 rfl ?_
        refine r_goto 3 dX9_reach_66 rfl ?_
        exact Ex.weak h ⟨rfl, rfl, rfl, rfl, rfl, trivial⟩
      · have h := h.2 (c)
        obtain ⟨⟨o_13, o_14, o_15, o_16⟩, h⟩ := h
        refine r_aload_n 50 dX9_reach_49 rfl rfl ?_
        refine g_R 53 dX9_reach_50 rfl rfl rfl fr_9_11 (sh_9_0 hS) ?_
        refine r_iload 55 dX9_reach_53 rfl rfl ?_
        refine r_dup2 56 dX9_reach_55 rfl rfl ?_
        refine a_I 61 57 dX9_reach_56 rfl rfl rfl rfl o_13 rfl ?_
        refine r_iconst 58 dX9_reach_57 rfl (InR_of rfl) ?_
        refine r_iload 60 dX9_reach_58 rfl rfl ?_
        refine r_ishl 61 dX9_reach_60 rfl o_14 ?_
        refine r_ior 62 dX9_reach_61 rfl ?_
        refine s_I 61 63 dX9_reach_62 rfl rfl (by decide) rfl rfl o_15 ?_
        refine r_iinc (ls' := [some (vR (some (10, 0))), some (vI x1), some (vI x2), some (vR (some (34, k3))), some (vI (x4 + 1)), some (vI (x1 + (M.1 34 k3 ((x2 * 8) + x4).toNat)))]) 66 dX9_reach_63 rfl rfl rfl rfl o_16 rfl ?_
        refine r_goto 3 dX9_reach_66 rfl ?_
        exact Ex.weak h ⟨rfl, rfl, rfl, rfl, rfl, trivial⟩

set_option maxRecDepth 4000 in
theorem xX9_judge_0 {l : Launch} {G : Gt} {d : Nat} {M M' : Mem} {r : Option Vl} {x1 : Int} {k2 : Nat} (hS : Sh M.2.1) (h : 
    ∃ (M_1 : Mem), Cl l G d mJ7_fill_53178 [vR (some (43, 0)), vI 0] M none M_1 ∧ Sh M_1.2.1 ∧ (∃ (M_3 : Mem), Cl l G d mJ7_fill_53178 [vR (some (44, 0)), vI 1000] M_1 none M_3 ∧ Ex l G (d + 1) mX9_judge 21 [some (vR (some (10, 0))), some (vI x1), some (vR (some (34, k2))), some (vI 60), none] [] M_3 r M')) : Cl l G (d + 1) mX9_judge [vR (some (10, 0)), vI x1, vR (some (34, k2))] M r M' := by
  show Ex l G (d + 1) mX9_judge 0 [some (vR (some (10, 0))), some (vI x1), some (vR (some (34, k2))), none, none] [] M r M'
  refine r_aload_n 1 dX9_judge_0 rfl rfl ?_
  refine g_R 4 dX9_judge_1 rfl rfl rfl fr_9_21 (sh_9_3 hS) ?_
  refine r_iconst 5 dX9_judge_4 rfl (InR_of rfl) ?_
  obtain ⟨M_1, hc_2, hS, h⟩ := h
  refine c_0 [vR (some (43, 0)), vI 0] [] 8 dX9_judge_5 rfl rfl mo_J7_fill_53178 ml_9_27 rfl rfl hc_2 ?_
  refine r_aload_n 9 dX9_judge_8 rfl rfl ?_
  refine g_R 12 dX9_judge_9 rfl rfl rfl fr_9_24 (sh_9_4 hS) ?_
  refine r_sipush 15 dX9_judge_12 rfl rfl ?_
  obtain ⟨M_3, hc_4, h⟩ := h
  refine c_0 [vR (some (44, 0)), vI 1000] [] 18 dX9_judge_15 rfl rfl mo_J7_fill_53178 ml_9_27 rfl rfl hc_4 ?_
  refine r_bipush 20 dX9_judge_18 rfl rfl ?_
  refine r_istore_n (ls' := [some (vR (some (10, 0))), some (vI x1), some (vR (some (34, k2))), some (vI 60), none]) 21 dX9_judge_20 rfl rfl rfl rfl ?_
  exact h
set_option maxRecDepth 4000 in
theorem xX9_judge_21 {l : Launch} {G : Gt} {d : Nat} {M M' : Mem} {r : Option Vl} {x1 : Int} {k2 : Nat} {x3 : Int} (h : 
    (x3 < 0 → r = none ∧ M' = M) ∧ (¬ (x3 < 0) → Ex l G (d + 1) mX9_judge 28 [some (vR (some (10, 0))), some (vI x1), some (vR (some (34, k2))), some (vI x3), some (vI 0)] [] M r M')) : Ex l G (d + 1) mX9_judge 21 [some (vR (some (10, 0))), some (vI x1), some (vR (some (34, k2))), some (vI x3), none] [] M r M' := by
  refine r_iload_n 22 dX9_judge_21 rfl rfl ?_
  refine r_if_lt 25 70 dX9_judge_22 rfl rfl (fun c => ?_) (fun c => ?_)
  · have h := h.1 (c)
    exact r_vret dX9_judge_70 rfl h.1 h.2
  · have h := h.2 (c)
    refine r_iconst 26 dX9_judge_25 rfl (InR_of rfl) ?_
    refine r_istore (ls' := [some (vR (some (10, 0))), some (vI x1), some (vR (some (34, k2))), some (vI x3), some (vI 0)]) 28 dX9_judge_26 rfl rfl rfl rfl ?_
    exact h
set_option maxRecDepth 4000 in
theorem xX9_judge_28 {l : Launch} {G : Gt} {d : Nat} {M M' : Mem} {r : Option Vl} {x1 : Int} {k2 : Nat} {x3 : Int} {x4 : Int} (hS : Sh M.2.1) (h : 
    (8 ≤ x4 → (InR (x3 + (-1))) ∧ Ex l G (d + 1) mX9_judge 21 [some (vR (some (10, 0))), some (vI x1), some (vR (some (34, k2))), some (vI (x3 + (-1))), none] [] M r M') ∧ (¬ (8 ≤ x4) → ((0 ≤ x3 ∧ x3 < 61)) ∧ (∃ (r_5 : Int) (M_3 : Mem), Cl l G d mX11_hasBit [vI (M.1 40 0 x3.toNat), vI x4] M (some (vI r_5)) M_3 ∧ ((r_5 = 0 → (InR (x4 + 1)) ∧ Ex l G (d + 1) mX9_judge 28 [some (vR (some (10, 0))), some (vI x1), some (vR (some (34, k2))), some (vI x3), some (vI (x4 + 1))] [] M_3 r M') ∧ (¬ (r_5 = 0) → ∃ (M_7 : Mem), Cl l G d mX9_judgeAt [vR (some (10, 0)), vI x3, vI x4, vI x1, vR (some (34, k2))] M_3 none M_7 ∧ (InR (x4 + 1)) ∧ Ex l G (d + 1) mX9_judge 28 [some (vR (some (10, 0))), some (vI x1), some (vR (some (34, k2))), some (vI x3), some (vI (x4 + 1))] [] M_7 r M'))))) : Ex l G (d + 1) mX9_judge 28 [some (vR (some (10, 0))), some (vI x1), some (vR (some (34, k2))), some (vI x3), some (vI x4)] [] M r M' := by
  refine r_iload 30 dX9_judge_28 rfl rfl ?_
  refine r_bipush 32 dX9_judge_30 rfl rfl ?_
  refine r_icmp_ge 35 64 dX9_judge_32 rfl rfl (fun c => ?_) (fun c => ?_)
  · have h := h.1 (c)
    obtain ⟨o_1, h⟩ := h
    refine r_iinc (ls' := [some (vR (some (10, 0))), some (vI x1), some (vR (some (34, k2))), some (vI (x3 + (-1))), some (vI x4)]) 67 dX9_judge_64 rfl rfl rfl rfl o_1 rfl ?_
    refine r_goto 21 dX9_judge_67 rfl ?_
    exact Ex.weak h ⟨rfl, rfl, rfl, rfl, trivial⟩
  · have h := h.2 (c)
    obtain ⟨o_2, h⟩ := h
    refine r_aload_n 36 dX9_judge_35 rfl rfl ?_
    refine g_R 39 dX9_judge_36 rfl rfl rfl fr_9_11 (sh_9_0 hS) ?_
    refine r_iload_n 40 dX9_judge_39 rfl rfl ?_
    refine a_I 61 41 dX9_judge_40 rfl rfl rfl rfl o_2 rfl ?_
    refine r_iload 43 dX9_judge_41 rfl rfl ?_
    obtain ⟨r_5, M_3, hc_4, h⟩ := h
    refine n_1 [vI (M.1 40 0 x3.toNat), vI x4] [] 46 dX9_judge_43 rfl rfl mo_X11_hasBit ml_9_52 rfl rfl hc_4 ?_
    refine r_if_eq 49 58 dX9_judge_46 rfl rfl (fun c => ?_) (fun c => ?_)
    · have h := h.1 (c)
      obtain ⟨o_6, h⟩ := h
      refine r_iinc (ls' := [some (vR (some (10, 0))), some (vI x1), some (vR (some (34, k2))), some (vI x3), some (vI (x4 + 1))]) 61 dX9_judge_58 rfl rfl rfl rfl o_6 rfl ?_
      refine r_goto 28 dX9_judge_61 rfl ?_
      exact h
    · have h := h.2 (c)
      refine r_aload_n 50 dX9_judge_49 rfl rfl ?_
      refine r_iload_n 51 dX9_judge_50 rfl rfl ?_
      refine r_iload 53 dX9_judge_51 rfl rfl ?_
      refine r_iload_n 54 dX9_judge_53 rfl rfl ?_
      refine r_aload_n 55 dX9_judge_54 rfl rfl ?_
      obtain ⟨M_7, hc_8, h⟩ := h
      refine v_0 (ci := 9) (C := (RX9, TX9, 5)) [vI x3, vI x4, vI x1, vR (some (34, k2))] [] 58 dX9_judge_55 rfl rfl rfl rfl rfl mo_X9_judgeAt ml_9_73 rfl rfl hc_8 ?_
      obtain ⟨o_9, h⟩ := h
      refine r_iinc (ls' := [some (vR (some (10, 0))), some (vI x1), some (vR (some (34, k2))), some (vI x3), some (vI (x4 + 1))]) 61 dX9_judge_58 rfl rfl rfl rfl o_9 rfl ?_
      refine r_goto 28 dX9_judge_61 rfl ?_
      exact h

set_option maxRecDepth 4000 in
theorem xX9_judgeAt_0 {l : Launch} {G : Gt} {d : Nat} {M M' : Mem} {r : Option Vl} {x1 : Int} {x2 : Int} {x3 : Int} {k4 : Nat} (hS : Sh M.2.1) (h : 
    (InR (x1 * 8) ∧ InR ((x1 * 8) + x2) ∧ (0 ≤ ((x1 * 8) + x2) ∧ ((x1 * 8) + x2) < 488) ∧ (0 ≤ ((x1 * 8) + x2) ∧ ((x1 * 8) + x2) < 488)) ∧ (((¬ ((aOr (M.1 41 0 ((x1 * 8) + x2).toNat) (M.1 42 0 ((x1 * 8) + x2).toNat)) = 0) → ((0 ≤ ((x1 * 8) + x2) ∧ ((x1 * 8) + x2) < 488) ∧ (0 ≤ x3 ∧ x3 < 32)))) ∧ ((0 ≤ ((x1 * 8) + x2) ∧ ((x1 * 8) + x2) < 488)) ∧ (∃ (r_13 : Int) (M_11 : Mem), Cl l G d mX11_hasBit [vI (M.1 41 0 ((x1 * 8) + x2).toNat), vI x3] M (some (vI r_13)) M_11 ∧ Ex l G (d + 1) mX9_judgeAt 75 [some (vR (some (10, 0))), some (vI x1), some (vI x2), some (vI x3), some (vR (some (34, k4))), some (vI ((x1 * 8) + x2)), some (vI (if (aOr (M.1 41 0 ((x1 * 8) + x2).toNat) (M.1 42 0 ((x1 * 8) + x2).toNat)) = 0 then 0 else (if ¬ (aAnd (M.1 41 0 ((x1 * 8) + x2).toNat) (aXor (aShl 1 x3) (-1))) = 0 then 0 else 1 : Int) : Int)), some (vI (if r_13 = 0 then 1000 else x1 : Int)), some (vI 0), none] [] M_11 r M'))) : Cl l G (d + 1) mX9_judgeAt [vR (some (10, 0)), vI x1, vI x2, vI x3, vR (some (34, k4))] M r M' := by
  show Ex l G (d + 1) mX9_judgeAt 0 [some (vR (some (10, 0))), some (vI x1), some (vI x2), some (vI x3), some (vR (some (34, k4))), none, none, none, none, none] [] M r M'
  obtain ⟨⟨o_1, o_2, o_3, o_4⟩, h⟩ := h
  refine r_iload_n 1 dX9_judgeAt_0 rfl rfl ?_
  refine r_bipush 3 dX9_judgeAt_1 rfl rfl ?_
  refine r_imul 4 dX9_judgeAt_3 rfl o_1 ?_
  refine r_iload_n 5 dX9_judgeAt_4 rfl rfl ?_
  refine r_iadd 6 dX9_judgeAt_5 rfl o_2 ?_
  refine r_istore (ls' := [some (vR (some (10, 0))), some (vI x1), some (vI x2), some (vI x3), some (vR (some (34, k4))), some (vI ((x1 * 8) + x2)), none, none, none, none]) 8 dX9_judgeAt_6 rfl rfl rfl rfl ?_
  refine r_aload_n 9 dX9_judgeAt_8 rfl rfl ?_
  refine g_R 12 dX9_judgeAt_9 rfl rfl rfl fr_9_15 (sh_9_1 hS) ?_
  refine r_iload 14 dX9_judgeAt_12 rfl rfl ?_
  refine a_I 488 15 dX9_judgeAt_14 rfl rfl rfl rfl o_3 rfl ?_
  refine r_aload_n 16 dX9_judgeAt_15 rfl rfl ?_
  refine g_R 19 dX9_judgeAt_16 rfl rfl rfl fr_9_18 (sh_9_2 hS) ?_
  refine r_iload 21 dX9_judgeAt_19 rfl rfl ?_
  refine a_I 488 22 dX9_judgeAt_21 rfl rfl rfl rfl o_4 rfl ?_
  refine r_ior 23 dX9_judgeAt_22 rfl ?_
  obtain ⟨h0, h⟩ := h
  have hJ_5 : Ex l G (d + 1) mX9_judgeAt 47 [some (vR (some (10, 0))), some (vI x1), some (vI x2), some (vI x3), some (vR (some (34, k4))), some (vI ((x1 * 8) + x2)), none, none, none, none] [vI (if (aOr (M.1 41 0 ((x1 * 8) + x2).toNat) (M.1 42 0 ((x1 * 8) + x2).toNat)) = 0 then 0 else (if ¬ (aAnd (M.1 41 0 ((x1 * 8) + x2).toNat) (aXor (aShl 1 x3) (-1))) = 0 then 0 else 1 : Int) : Int)] M r M' := by
    obtain ⟨o_10, h⟩ := h
    refine r_istore (ls' := [some (vR (some (10, 0))), some (vI x1), some (vI x2), some (vI x3), some (vR (some (34, k4))), some (vI ((x1 * 8) + x2)), some (vI (if (aOr (M.1 41 0 ((x1 * 8) + x2).toNat) (M.1 42 0 ((x1 * 8) + x2).toNat)) = 0 then 0 else (if ¬ (aAnd (M.1 41 0 ((x1 * 8) + x2).toNat) (aXor (aShl 1 x3) (-1))) = 0 then 0 else 1 : Int) : Int)), none, none, none]) 49 dX9_judgeAt_47 rfl rfl rfl rfl ?_
    refine r_aload_n 50 dX9_judgeAt_49 rfl rfl ?_
    refine g_R 53 dX9_judgeAt_50 rfl rfl rfl fr_9_15 (sh_9_1 hS) ?_
    refine r_iload 55 dX9_judgeAt_53 rfl rfl ?_
    refine a_I 488 56 dX9_judgeAt_55 rfl rfl rfl rfl o_10 rfl ?_
    refine r_iload_n 57 dX9_judgeAt_56 rfl rfl ?_
    obtain ⟨r_13, M_11, hc_12, h⟩ := h
    refine n_1 [vI (M.1 41 0 ((x1 * 8) + x2).toNat), vI x3] [] 60 dX9_judgeAt_57 rfl rfl mo_X11_hasBit ml_9_52 rfl rfl hc_12 ?_
    have hJ_14 : Ex l G (d + 1) mX9_judgeAt 70 [some (vR (some (10, 0))), some (vI x1), some (vI x2), some (vI x3), some (vR (some (34, k4))), some (vI ((x1 * 8) + x2)), some (vI (if (aOr (M.1 41 0 ((x1 * 8) + x2).toNat) (M.1 42 0 ((x1 * 8) + x2).toNat)) = 0 then 0 else (if ¬ (aAnd (M.1 41 0 ((x1 * 8) + x2).toNat) (aXor (aShl 1 x3) (-1))) = 0 then 0 else 1 : Int) : Int)), none, none, none] [vI (if r_13 = 0 then 1000 else x1 : Int)] M_11 r M' := by
      refine r_istore (ls' := [some (vR (some (10, 0))), some (vI x1), some (vI x2), some (vI x3), some (vR (some (34, k4))), some (vI ((x1 * 8) + x2)), some (vI (if (aOr (M.1 41 0 ((x1 * 8) + x2).toNat) (M.1 42 0 ((x1 * 8) + x2).toNat)) = 0 then 0 else (if ¬ (aAnd (M.1 41 0 ((x1 * 8) + x2).toNat) (aXor (aShl 1 x3) (-1))) = 0 then 0 else 1 : Int) : Int)), some (vI (if r_13 = 0 then 1000 else x1 : Int)), none, none]) 72 dX9_judgeAt_70 rfl rfl rfl rfl ?_
      refine r_iconst 73 dX9_judgeAt_72 rfl (InR_of rfl) ?_
      refine r_istore (ls' := [some (vR (some (10, 0))), some (vI x1), some (vI x2), some (vI x3), some (vR (some (34, k4))), some (vI ((x1 * 8) + x2)), some (vI (if (aOr (M.1 41 0 ((x1 * 8) + x2).toNat) (M.1 42 0 ((x1 * 8) + x2).toNat)) = 0 then 0 else (if ¬ (aAnd (M.1 41 0 ((x1 * 8) + x2).toNat) (aXor (aShl 1 x3) (-1))) = 0 then 0 else 1 : Int) : Int)), some (vI (if r_13 = 0 then 1000 else x1 : Int)), some (vI 0), none]) 75 dX9_judgeAt_73 rfl rfl rfl rfl ?_
      exact h
    refine r_if_eq 63 67 dX9_judgeAt_60 rfl rfl (fun c => ?_) (fun c => ?_)
    · have c_15 := c
      refine r_sipush 70 dX9_judgeAt_67 rfl rfl ?_
      exact (Ex.at hJ_14 rfl (show [vI 1000] = [vI (if r_13 = 0 then 1000 else x1 : Int)] by simp only [if_pos c_15]) rfl)
    · have c_15 := c
      refine r_iload_n 64 dX9_judgeAt_63 rfl rfl ?_
      refine r_goto 70 dX9_judgeAt_64 rfl ?_
      exact (Ex.at hJ_14 rfl (show [vI x1] = [vI (if r_13 = 0 then 1000 else x1 : Int)] by simp only [if_neg c_15]) rfl)
  have h := h0
  refine r_if_eq 26 46 dX9_judgeAt_23 rfl rfl (fun c => ?_) (fun c => ?_)
  · have c_6 := c
    refine r_iconst 47 dX9_judgeAt_46 rfl (InR_of rfl) ?_
    exact (Ex.at hJ_5 rfl (show [vI 0] = [vI (if (aOr (M.1 41 0 ((x1 * 8) + x2).toNat) (M.1 42 0 ((x1 * 8) + x2).toNat)) = 0 then 0 else (if ¬ (aAnd (M.1 41 0 ((x1 * 8) + x2).toNat) (aXor (aShl 1 x3) (-1))) = 0 then 0 else 1 : Int) : Int)] by simp only [if_pos c_6]) rfl)
  · have c_6 := c
    have h := h c_6
    obtain ⟨o_7, o_8⟩ := h
    refine r_aload_n 27 dX9_judgeAt_26 rfl rfl ?_
    refine g_R 30 dX9_judgeAt_27 rfl rfl rfl fr_9_15 (sh_9_1 hS) ?_
    refine r_iload 32 dX9_judgeAt_30 rfl rfl ?_
    refine a_I 488 33 dX9_judgeAt_32 rfl rfl rfl rfl o_7 rfl ?_
    refine r_iconst 34 dX9_judgeAt_33 rfl (InR_of rfl) ?_
    refine r_iload_n 35 dX9_judgeAt_34 rfl rfl ?_
    refine r_ishl 36 dX9_judgeAt_35 rfl o_8 ?_
    refine r_iconst 37 dX9_judgeAt_36 rfl (InR_of rfl) ?_
    refine r_ixor 38 dX9_judgeAt_37 rfl ?_
    refine r_iand 39 dX9_judgeAt_38 rfl ?_
    refine r_if_ne 42 46 dX9_judgeAt_39 rfl rfl (fun c => ?_) (fun c => ?_)
    · have c_9 := c
      refine r_iconst 47 dX9_judgeAt_46 rfl (InR_of rfl) ?_
      exact (Ex.at hJ_5 rfl (show [vI 0] = [vI (if (aOr (M.1 41 0 ((x1 * 8) + x2).toNat) (M.1 42 0 ((x1 * 8) + x2).toNat)) = 0 then 0 else (if ¬ (aAnd (M.1 41 0 ((x1 * 8) + x2).toNat) (aXor (aShl 1 x3) (-1))) = 0 then 0 else 1 : Int) : Int)] by simp only [if_neg c_6, if_pos c_9]) rfl)
    · have c_9 := c
      refine r_iconst 43 dX9_judgeAt_42 rfl (InR_of rfl) ?_
      refine r_goto 47 dX9_judgeAt_43 rfl ?_
      exact (Ex.at hJ_5 rfl (show [vI 1] = [vI (if (aOr (M.1 41 0 ((x1 * 8) + x2).toNat) (M.1 42 0 ((x1 * 8) + x2).toNat)) = 0 then 0 else (if ¬ (aAnd (M.1 41 0 ((x1 * 8) + x2).toNat) (aXor (aShl 1 x3) (-1))) = 0 then 0 else 1 : Int) : Int)] by simp only [if_neg c_6, if_neg c_9]) rfl)
set_option maxRecDepth 4000 in
theorem xX9_judgeAt_75 {l : Launch} {G : Gt} {d : Nat} {M M' : Mem} {r : Option Vl} {x1 : Int} {x2 : Int} {x3 : Int} {k4 : Nat} {x5 : Int} {x6 : Int} {x7 : Int} {x8 : Int} (hS : Sh M.2.1) (h : 
    (8 ≤ x8 → ((0 ≤ x5 ∧ x5 < 488) ∧ (0 ≤ x1 ∧ x1 < 61)) ∧ (((¬ (x6 = 0) → ((0 ≤ x2 ∧ x2 < 32)))) ∧ ((0 ≤ x1 ∧ x1 < 61)) ∧ r = none ∧ M' = ((upI (upI M.1 44 0 x5.toNat x7) 43 0 x1.toNat (aOr (M.1 43 0 x1.toNat) (if x6 = 0 then 0 else (aShl 1 x2) : Int))), M.2.1, M.2.2))) ∧ (¬ (8 ≤ x8) → ((0 ≤ x5 ∧ x5 < 488)) ∧ (∃ (r_10 : Int) (M_8 : Mem), Cl l G d mX11_hasBit [vI (M.1 42 0 x5.toNat), vI x8] M (some (vI r_10)) M_8 ∧ Sh M_8.2.1 ∧ ((r_10 = 0 → (InR (x8 + 1)) ∧ Ex l G (d + 1) mX9_judgeAt 75 [some (vR (some (10, 0))), some (vI x1), some (vI x2), some (vI x3), some (vR (some (34, k4))), some (vI x5), some (vI x6), some (vI x7), some (vI (x8 + 1)), none] [] M_8 r M') ∧ (¬ (r_10 = 0) → (InR (x2 * 8) ∧ InR ((x2 * 8) + x8) ∧ (0 ≤ ((x2 * 8) + x8) ∧ ((x2 * 8) + x8) < 64) ∧ InR (x1 + (M_8.1 34 k4 ((x2 * 8) + x8).toNat))) ∧ ((x6 = 0 → ((¬ (61 ≤ (x1 + (M_8.1 34 k4 ((x2 * 8) + x8).toNat))) → (InR ((x1 + (M_8.1 34 k4 ((x2 * 8) + x8).toNat)) * 8) ∧ InR (((x1 + (M_8.1 34 k4 ((x2 * 8) + x8).toNat)) * 8) + x8) ∧ (0 ≤ (((x1 + (M_8.1 34 k4 ((x2 * 8) + x8).toNat)) * 8) + x8) ∧ (((x1 + (M_8.1 34 k4 ((x2 * 8) + x8).toNat)) * 8) + x8) < 488)))) ∧ (InR (x8 + 1)) ∧ Ex l G (d + 1) mX9_judgeAt 75 [some (vR (some (10, 0))), some (vI x1), some (vI x2), some (vI x3), some (vR (some (34, k4))), some (vI x5), some (vI 0), some (vI (if 61 ≤ (x1 + (M_8.1 34 k4 ((x2 * 8) + x8).toNat)) then x7 else (if (M_8.1 44 0 (((x1 + (M_8.1 34 k4 ((x2 * 8) + x8).toNat)) * 8) + x8).toNat) < x7 then (M_8.1 44 0 (((x1 + (M_8.1 34 k4 ((x2 * 8) + x8).toNat)) * 8) + x8).toNat) else x7 : Int) : Int)), some (vI (x8 + 1)), none] [] M_8 r M') ∧ (¬ (x6 = 0) → (61 ≤ (x1 + (M_8.1 34 k4 ((x2 * 8) + x8).toNat)) → ((¬ (61 ≤ (x1 + (M_8.1 34 k4 ((x2 * 8) + x8).toNat))) → (InR ((x1 + (M_8.1 34 k4 ((x2 * 8) + x8).toNat)) * 8) ∧ InR (((x1 + (M_8.1 34 k4 ((x2 * 8) + x8).toNat)) * 8) + x8) ∧ (0 ≤ (((x1 + (M_8.1 34 k4 ((x2 * 8) + x8).toNat)) * 8) + x8) ∧ (((x1 + (M_8.1 34 k4 ((x2 * 8) + x8).toNat)) * 8) + x8) < 488)))) ∧ (InR (x8 + 1)) ∧ Ex l G (d + 1) mX9_judgeAt 75 [some (vR (some (10, 0))), some (vI x1), some (vI x2), some (vI x3), some (vR (some (34, k4))), some (vI x5), some (vI 0), some (vI (if 61 ≤ (x1 + (M_8.1 34 k4 ((x2 * 8) + x8).toNat)) then x7 else (if (M_8.1 44 0 (((x1 + (M_8.1 34 k4 ((x2 * 8) + x8).toNat)) * 8) + x8).toNat) < x7 then (M_8.1 44 0 (((x1 + (M_8.1 34 k4 ((x2 * 8) + x8).toNat)) * 8) + x8).toNat) else x7 : Int) : Int)), some (vI (x8 + 1)), none] [] M_8 r M') ∧ (¬ (61 ≤ (x1 + (M_8.1 34 k4 ((x2 * 8) + x8).toNat))) → ((0 ≤ (x1 + (M_8.1 34 k4 ((x2 * 8) + x8).toNat)) ∧ (x1 + (M_8.1 34 k4 ((x2 * 8) + x8).toNat)) < 61)) ∧ (∃ (r_31 : Int) (M_29 : Mem), Cl l G d mX11_hasBit [vI (M_8.1 43 0 (x1 + (M_8.1 34 k4 ((x2 * 8) + x8).toNat)).toNat), vI x8] M_8 (some (vI r_31)) M_29 ∧ Sh M_29.2.1 ∧ (((¬ (61 ≤ (x1 + (M_8.1 34 k4 ((x2 * 8) + x8).toNat))) → (InR ((x1 + (M_8.1 34 k4 ((x2 * 8) + x8).toNat)) * 8) ∧ InR (((x1 + (M_8.1 34 k4 ((x2 * 8) + x8).toNat)) * 8) + x8) ∧ (0 ≤ (((x1 + (M_8.1 34 k4 ((x2 * 8) + x8).toNat)) * 8) + x8) ∧ (((x1 + (M_8.1 34 k4 ((x2 * 8) + x8).toNat)) * 8) + x8) < 488)))) ∧ (InR (x8 + 1)) ∧ Ex l G (d + 1) mX9_judgeAt 75 [some (vR (some (10, 0))), some (vI x1), some (vI x2), some (vI x3), some (vR (some (34, k4))), some (vI x5), some (vI (if r_31 = 0 then 0 else 1 : Int)), some (vI (if 61 ≤ (x1 + (M_8.1 34 k4 ((x2 * 8) + x8).toNat)) then x7 else (if (M_29.1 44 0 (((x1 + (M_8.1 34 k4 ((x2 * 8) + x8).toNat)) * 8) + x8).toNat) < x7 then (M_29.1 44 0 (((x1 + (M_8.1 34 k4 ((x2 * 8) + x8).toNat)) * 8) + x8).toNat) else x7 : Int) : Int)), some (vI (x8 + 1)), none] [] M_29 r M')))))))))) : Ex l G (d + 1) mX9_judgeAt 75 [some (vR (some (10, 0))), some (vI x1), some (vI x2), some (vI x3), some (vR (some (34, k4))), some (vI x5), some (vI x6), some (vI x7), some (vI x8), none] [] M r M' := by
  refine r_iload 77 dX9_judgeAt_75 rfl rfl ?_
  refine r_bipush 79 dX9_judgeAt_77 rfl rfl ?_
  refine r_icmp_ge 82 183 dX9_judgeAt_79 rfl rfl (fun c => ?_) (fun c => ?_)
  · have h := h.1 (c)
    obtain ⟨⟨o_1, o_2⟩, h⟩ := h
    refine r_aload_n 184 dX9_judgeAt_183 rfl rfl ?_
    refine g_R 187 dX9_judgeAt_184 rfl rfl rfl fr_9_24 (sh_9_4 hS) ?_
    refine r_iload 189 dX9_judgeAt_187 rfl rfl ?_
    refine r_iload 191 dX9_judgeAt_189 rfl rfl ?_
    refine s_I 488 192 dX9_judgeAt_191 rfl rfl (by decide) rfl rfl o_1 ?_
    refine r_aload_n 193 dX9_judgeAt_192 rfl rfl ?_
    refine g_R 196 dX9_judgeAt_193 rfl rfl rfl fr_9_21 (mR_0 (sh_9_3 hS)) ?_
    refine r_iload_n 197 dX9_judgeAt_196 rfl rfl ?_
    refine r_dup2 198 dX9_judgeAt_197 rfl rfl ?_
    refine a_I 61 199 dX9_judgeAt_198 rfl rfl rfl rfl o_2 (mI_0 (upI_f rfl)) ?_
    refine r_iload 201 dX9_judgeAt_199 rfl rfl ?_
    obtain ⟨h0, h⟩ := h
    have hJ_3 : Ex l G (d + 1) mX9_judgeAt 211 [some (vR (some (10, 0))), some (vI x1), some (vI x2), some (vI x3), some (vR (some (34, k4))), some (vI x5), some (vI x6), some (vI x7), some (vI x8), none] [vI (if x6 = 0 then 0 else (aShl 1 x2) : Int), vI (M.1 43 0 x1.toNat), vI x1, vR (some (43, 0))] ((upI M.1 44 0 x5.toNat x7), M.2.1, M.2.2) r M' := by
      obtain ⟨o_6, h⟩ := h
      refine r_ior 212 dX9_judgeAt_211 rfl ?_
      refine s_I 61 213 dX9_judgeAt_212 rfl rfl (by decide) rfl rfl o_6 ?_
      exact r_vret dX9_judgeAt_213 rfl h.1 h.2
    have h := h0
    refine r_if_eq 204 210 dX9_judgeAt_201 rfl rfl (fun c => ?_) (fun c => ?_)
    · have c_4 := c
      refine r_iconst 211 dX9_judgeAt_210 rfl (InR_of rfl) ?_
      exact (Ex.at hJ_3 rfl (show [vI 0, vI (M.1 43 0 x1.toNat), vI x1, vR (some (43, 0))] = [vI (if x6 = 0 then 0 else (aShl 1 x2) : Int), vI (M.1 43 0 x1.toNat), vI x1, vR (some (43, 0))] by simp only [if_pos c_4]) rfl)
    · have c_4 := c
      have h := h c_4
      have o_5 := h
      refine r_iconst 205 dX9_judgeAt_204 rfl (InR_of rfl) ?_
      refine r_iload_n 206 dX9_judgeAt_205 rfl rfl ?_
      refine r_ishl 207 dX9_judgeAt_206 rfl o_5 ?_
      refine r_goto 211 dX9_judgeAt_207 rfl ?_
      exact (Ex.at hJ_3 rfl (show [vI (aShl 1 x2), vI (M.1 43 0 x1.toNat), vI x1, vR (some (43, 0))] = [vI (if x6 = 0 then 0 else (aShl 1 x2) : Int), vI (M.1 43 0 x1.toNat), vI x1, vR (some (43, 0))] by simp only [if_neg c_4]) rfl)
  · have h := h.2 (c)
    obtain ⟨o_7, h⟩ := h
    refine r_aload_n 83 dX9_judgeAt_82 rfl rfl ?_
    refine g_R 86 dX9_judgeAt_83 rfl rfl rfl fr_9_18 (sh_9_2 hS) ?_
    refine r_iload 88 dX9_judgeAt_86 rfl rfl ?_
    refine a_I 488 89 dX9_judgeAt_88 rfl rfl rfl rfl o_7 rfl ?_
    refine r_iload 91 dX9_judgeAt_89 rfl rfl ?_
    obtain ⟨r_10, M_8, hc_9, hS, h⟩ := h
    refine n_1 [vI (M.1 42 0 x5.toNat), vI x8] [] 94 dX9_judgeAt_91 rfl rfl mo_X11_hasBit ml_9_52 rfl rfl hc_9 ?_
    refine r_if_eq 97 177 dX9_judgeAt_94 rfl rfl (fun c => ?_) (fun c => ?_)
    · have h := h.1 (c)
      obtain ⟨o_11, h⟩ := h
      refine r_iinc (ls' := [some (vR (some (10, 0))), some (vI x1), some (vI x2), some (vI x3), some (vR (some (34, k4))), some (vI x5), some (vI x6), some (vI x7), some (vI (x8 + 1)), none]) 180 dX9_judgeAt_177 rfl rfl rfl rfl o_11 rfl ?_
      refine r_goto 75 dX9_judgeAt_180 rfl ?_
      exact h
    · have h := h.2 (c)
      obtain ⟨⟨o_12, o_13, o_14, o_15⟩, h⟩ := h
      refine r_iload_n 98 dX9_judgeAt_97 rfl rfl ?_
      refine r_aload 100 dX9_judgeAt_98 rfl rfl ?_
      refine r_iload_n 101 dX9_judgeAt_100 rfl rfl ?_
      refine r_bipush 103 dX9_judgeAt_101 rfl rfl ?_
      refine r_imul 104 dX9_judgeAt_103 rfl o_12 ?_
      refine r_iload 106 dX9_judgeAt_104 rfl rfl ?_
      refine r_iadd 107 dX9_judgeAt_106 rfl o_13 ?_
      refine a_I 64 108 dX9_judgeAt_107 rfl rfl rfl rfl o_14 rfl ?_
      refine r_iadd 109 dX9_judgeAt_108 rfl o_15 ?_
      refine r_istore (ls' := [some (vR (some (10, 0))), some (vI x1), some (vI x2), some (vI x3), some (vR (some (34, k4))), some (vI x5), some (vI x6), some (vI x7), some (vI x8), some (vI (x1 + (M_8.1 34 k4 ((x2 * 8) + x8).toNat)))]) 111 dX9_judgeAt_109 rfl rfl rfl rfl ?_
      refine r_iload 113 dX9_judgeAt_111 rfl rfl ?_
      refine r_if_eq 116 142 dX9_judgeAt_113 rfl rfl (fun c => ?_) (fun c => ?_)
      · have h := h.1 (c)
        refine r_iconst 143 dX9_judgeAt_142 rfl (InR_of rfl) ?_
        refine r_istore (ls' := [some (vR (some (10, 0))), some (vI x1), some (vI x2), some (vI x3), some (vR (some (34, k4))), some (vI x5), some (vI 0), some (vI x7), some (vI x8), some (vI (x1 + (M_8.1 34 k4 ((x2 * 8) + x8).toNat)))]) 145 dX9_judgeAt_143 rfl rfl rfl rfl ?_
        refine r_iload 147 dX9_judgeAt_145 rfl rfl ?_
        refine r_bipush 149 dX9_judgeAt_147 rfl rfl ?_
        obtain ⟨h0, h⟩ := h
        have hJ_16 : Ex l G (d + 1) mX9_judgeAt 175 [some (vR (some (10, 0))), some (vI x1), some (vI x2), some (vI x3), some (vR (some (34, k4))), some (vI x5), some (vI 0), some (vI x7), some (vI x8), some (vI (x1 + (M_8.1 34 k4 ((x2 * 8) + x8).toNat)))] [vI (if 61 ≤ (x1 + (M_8.1 34 k4 ((x2 * 8) + x8).toNat)) then x7 else (if (M_8.1 44 0 (((x1 + (M_8.1 34 k4 ((x2 * 8) + x8).toNat)) * 8) + x8).toNat) < x7 then (M_8.1 44 0 (((x1 + (M_8.1 34 k4 ((x2 * 8) + x8).toNat)) * 8) + x8).toNat) else x7 : Int) : Int)] M_8 r M' := by
          obtain ⟨o_21, h⟩ := h
          refine r_istore (ls' := [some (vR (some (10, 0))), some (vI x1), some (vI x2), some (vI x3), some (vR (some (34, k4))), some (vI x5), some (vI 0), some (vI (if 61 ≤ (x1 + (M_8.1 34 k4 ((x2 * 8) + x8).toNat)) then x7 else (if (M_8.1 44 0 (((x1 + (M_8.1 34 k4 ((x2 * 8) + x8).toNat)) * 8) + x8).toNat) < x7 then (M_8.1 44 0 (((x1 + (M_8.1 34 k4 ((x2 * 8) + x8).toNat)) * 8) + x8).toNat) else x7 : Int) : Int)), some (vI x8), some (vI (x1 + (M_8.1 34 k4 ((x2 * 8) + x8).toNat)))]) 177 dX9_judgeAt_175 rfl rfl rfl rfl ?_
          refine r_iinc (ls' := [some (vR (some (10, 0))), some (vI x1), some (vI x2), some (vI x3), some (vR (some (34, k4))), some (vI x5), some (vI 0), some (vI (if 61 ≤ (x1 + (M_8.1 34 k4 ((x2 * 8) + x8).toNat)) then x7 else (if (M_8.1 44 0 (((x1 + (M_8.1 34 k4 ((x2 * 8) + x8).toNat)) * 8) + x8).toNat) < x7 then (M_8.1 44 0 (((x1 + (M_8.1 34 k4 ((x2 * 8) + x8).toNat)) * 8) + x8).toNat) else x7 : Int) : Int)), some (vI (x8 + 1)), some (vI (x1 + (M_8.1 34 k4 ((x2 * 8) + x8).toNat)))]) 180 dX9_judgeAt_177 rfl rfl rfl rfl o_21 rfl ?_
          refine r_goto 75 dX9_judgeAt_180 rfl ?_
          exact Ex.weak h ⟨rfl, rfl, rfl, rfl, rfl, rfl, rfl, rfl, rfl, trivial⟩
        have h := h0
        refine r_icmp_ge 152 173 dX9_judgeAt_149 rfl rfl (fun c => ?_) (fun c => ?_)
        · have c_17 := c
          refine r_iload 175 dX9_judgeAt_173 rfl rfl ?_
          exact (Ex.at hJ_16 rfl (show [vI x7] = [vI (if 61 ≤ (x1 + (M_8.1 34 k4 ((x2 * 8) + x8).toNat)) then x7 else (if (M_8.1 44 0 (((x1 + (M_8.1 34 k4 ((x2 * 8) + x8).toNat)) * 8) + x8).toNat) < x7 then (M_8.1 44 0 (((x1 + (M_8.1 34 k4 ((x2 * 8) + x8).toNat)) * 8) + x8).toNat) else x7 : Int) : Int)] by simp only [if_pos c_17]) rfl)
        · have c_17 := c
          have h := h c_17
          obtain ⟨o_18, o_19, o_20⟩ := h
          refine r_iload 154 dX9_judgeAt_152 rfl rfl ?_
          refine r_aload_n 155 dX9_judgeAt_154 rfl rfl ?_
          refine g_R 158 dX9_judgeAt_155 rfl rfl rfl fr_9_24 (sh_9_4 hS) ?_
          refine r_iload 160 dX9_judgeAt_158 rfl rfl ?_
          refine r_bipush 162 dX9_judgeAt_160 rfl rfl ?_
          refine r_imul 163 dX9_judgeAt_162 rfl o_18 ?_
          refine r_iload 165 dX9_judgeAt_163 rfl rfl ?_
          refine r_iadd 166 dX9_judgeAt_165 rfl o_19 ?_
          refine a_I 488 167 dX9_judgeAt_166 rfl rfl rfl rfl o_20 rfl ?_
          refine r_min 170 dX9_judgeAt_167 rfl (inT4 (List.mem_of_getElem? (i := 152) rfl) rfl) rfl ?_
          refine r_goto 175 dX9_judgeAt_170 rfl ?_
          exact (Ex.at hJ_16 rfl (show [vI (if (M_8.1 44 0 (((x1 + (M_8.1 34 k4 ((x2 * 8) + x8).toNat)) * 8) + x8).toNat) < x7 then (M_8.1 44 0 (((x1 + (M_8.1 34 k4 ((x2 * 8) + x8).toNat)) * 8) + x8).toNat) else x7 : Int)] = [vI (if 61 ≤ (x1 + (M_8.1 34 k4 ((x2 * 8) + x8).toNat)) then x7 else (if (M_8.1 44 0 (((x1 + (M_8.1 34 k4 ((x2 * 8) + x8).toNat)) * 8) + x8).toNat) < x7 then (M_8.1 44 0 (((x1 + (M_8.1 34 k4 ((x2 * 8) + x8).toNat)) * 8) + x8).toNat) else x7 : Int) : Int)] by simp only [if_neg c_17]) rfl)
      · have h := h.2 (c)
        refine r_iload 118 dX9_judgeAt_116 rfl rfl ?_
        refine r_bipush 120 dX9_judgeAt_118 rfl rfl ?_
        refine r_icmp_ge 123 142 dX9_judgeAt_120 rfl rfl (fun c => ?_) (fun c => ?_)
        · have h := h.1 (c)
          refine r_iconst 143 dX9_judgeAt_142 rfl (InR_of rfl) ?_
          refine r_istore (ls' := [some (vR (some (10, 0))), some (vI x1), some (vI x2), some (vI x3), some (vR (some (34, k4))), some (vI x5), some (vI 0), some (vI x7), some (vI x8), some (vI (x1 + (M_8.1 34 k4 ((x2 * 8) + x8).toNat)))]) 145 dX9_judgeAt_143 rfl rfl rfl rfl ?_
          refine r_iload 147 dX9_judgeAt_145 rfl rfl ?_
          refine r_bipush 149 dX9_judgeAt_147 rfl rfl ?_
          obtain ⟨h0, h⟩ := h
          have hJ_22 : Ex l G (d + 1) mX9_judgeAt 175 [some (vR (some (10, 0))), some (vI x1), some (vI x2), some (vI x3), some (vR (some (34, k4))), some (vI x5), some (vI 0), some (vI x7), some (vI x8), some (vI (x1 + (M_8.1 34 k4 ((x2 * 8) + x8).toNat)))] [vI (if 61 ≤ (x1 + (M_8.1 34 k4 ((x2 * 8) + x8).toNat)) then x7 else (if (M_8.1 44 0 (((x1 + (M_8.1 34 k4 ((x2 * 8) + x8).toNat)) * 8) + x8).toNat) < x7 then (M_8.1 44 0 (((x1 + (M_8.1 34 k4 ((x2 * 8) + x8).toNat)) * 8) + x8).toNat) else x7 : Int) : Int)] M_8 r M' := by
            obtain ⟨o_27, h⟩ := h
            refine r_istore (ls' := [some (vR (some (10, 0))), some (vI x1), some (vI x2), some (vI x3), some (vR (some (34, k4))), some (vI x5), some (vI 0), some (vI (if 61 ≤ (x1 + (M_8.1 34 k4 ((x2 * 8) + x8).toNat)) then x7 else (if (M_8.1 44 0 (((x1 + (M_8.1 34 k4 ((x2 * 8) + x8).toNat)) * 8) + x8).toNat) < x7 then (M_8.1 44 0 (((x1 + (M_8.1 34 k4 ((x2 * 8) + x8).toNat)) * 8) + x8).toNat) else x7 : Int) : Int)), some (vI x8), some (vI (x1 + (M_8.1 34 k4 ((x2 * 8) + x8).toNat)))]) 177 dX9_judgeAt_175 rfl rfl rfl rfl ?_
            refine r_iinc (ls' := [some (vR (some (10, 0))), some (vI x1), some (vI x2), some (vI x3), some (vR (some (34, k4))), some (vI x5), some (vI 0), some (vI (if 61 ≤ (x1 + (M_8.1 34 k4 ((x2 * 8) + x8).toNat)) then x7 else (if (M_8.1 44 0 (((x1 + (M_8.1 34 k4 ((x2 * 8) + x8).toNat)) * 8) + x8).toNat) < x7 then (M_8.1 44 0 (((x1 + (M_8.1 34 k4 ((x2 * 8) + x8).toNat)) * 8) + x8).toNat) else x7 : Int) : Int)), some (vI (x8 + 1)), some (vI (x1 + (M_8.1 34 k4 ((x2 * 8) + x8).toNat)))]) 180 dX9_judgeAt_177 rfl rfl rfl rfl o_27 rfl ?_
            refine r_goto 75 dX9_judgeAt_180 rfl ?_
            exact Ex.weak h ⟨rfl, rfl, rfl, rfl, rfl, rfl, rfl, rfl, rfl, trivial⟩
          have h := h0
          refine r_icmp_ge 152 173 dX9_judgeAt_149 rfl rfl (fun c => ?_) (fun c => ?_)
          · have c_23 := c
            refine r_iload 175 dX9_judgeAt_173 rfl rfl ?_
            exact (Ex.at hJ_22 rfl (show [vI x7] = [vI (if 61 ≤ (x1 + (M_8.1 34 k4 ((x2 * 8) + x8).toNat)) then x7 else (if (M_8.1 44 0 (((x1 + (M_8.1 34 k4 ((x2 * 8) + x8).toNat)) * 8) + x8).toNat) < x7 then (M_8.1 44 0 (((x1 + (M_8.1 34 k4 ((x2 * 8) + x8).toNat)) * 8) + x8).toNat) else x7 : Int) : Int)] by simp only [if_pos c_23]) rfl)
          · have c_23 := c
            have h := h c_23
            obtain ⟨o_24, o_25, o_26⟩ := h
            refine r_iload 154 dX9_judgeAt_152 rfl rfl ?_
            refine r_aload_n 155 dX9_judgeAt_154 rfl rfl ?_
            refine g_R 158 dX9_judgeAt_155 rfl rfl rfl fr_9_24 (sh_9_4 hS) ?_
            refine r_iload 160 dX9_judgeAt_158 rfl rfl ?_
            refine r_bipush 162 dX9_judgeAt_160 rfl rfl ?_
            refine r_imul 163 dX9_judgeAt_162 rfl o_24 ?_
            refine r_iload 165 dX9_judgeAt_163 rfl rfl ?_
            refine r_iadd 166 dX9_judgeAt_165 rfl o_25 ?_
            refine a_I 488 167 dX9_judgeAt_166 rfl rfl rfl rfl o_26 rfl ?_
            refine r_min 170 dX9_judgeAt_167 rfl (inT4 (List.mem_of_getElem? (i := 152) rfl) rfl) rfl ?_
            refine r_goto 175 dX9_judgeAt_170 rfl ?_
            exact (Ex.at hJ_22 rfl (show [vI (if (M_8.1 44 0 (((x1 + (M_8.1 34 k4 ((x2 * 8) + x8).toNat)) * 8) + x8).toNat) < x7 then (M_8.1 44 0 (((x1 + (M_8.1 34 k4 ((x2 * 8) + x8).toNat)) * 8) + x8).toNat) else x7 : Int)] = [vI (if 61 ≤ (x1 + (M_8.1 34 k4 ((x2 * 8) + x8).toNat)) then x7 else (if (M_8.1 44 0 (((x1 + (M_8.1 34 k4 ((x2 * 8) + x8).toNat)) * 8) + x8).toNat) < x7 then (M_8.1 44 0 (((x1 + (M_8.1 34 k4 ((x2 * 8) + x8).toNat)) * 8) + x8).toNat) else x7 : Int) : Int)] by simp only [if_neg c_23]) rfl)
        · have h := h.2 (c)
          obtain ⟨o_28, h⟩ := h
          refine r_aload_n 124 dX9_judgeAt_123 rfl rfl ?_
          refine g_R 127 dX9_judgeAt_124 rfl rfl rfl fr_9_21 (sh_9_3 hS) ?_
          refine r_iload 129 dX9_judgeAt_127 rfl rfl ?_
          refine a_I 61 130 dX9_judgeAt_129 rfl rfl rfl rfl o_28 rfl ?_
          refine r_iload 132 dX9_judgeAt_130 rfl rfl ?_
          obtain ⟨r_31, M_29, hc_30, hS, h⟩ := h
          refine n_1 [vI (M_8.1 43 0 (x1 + (M_8.1 34 k4 ((x2 * 8) + x8).toNat)).toNat), vI x8] [] 135 dX9_judgeAt_132 rfl rfl mo_X11_hasBit ml_9_52 rfl rfl hc_30 ?_
          have hJ_32 : Ex l G (d + 1) mX9_judgeAt 143 [some (vR (some (10, 0))), some (vI x1), some (vI x2), some (vI x3), some (vR (some (34, k4))), some (vI x5), some (vI x6), some (vI x7), some (vI x8), some (vI (x1 + (M_8.1 34 k4 ((x2 * 8) + x8).toNat)))] [vI (if r_31 = 0 then 0 else 1 : Int)] M_29 r M' := by
            refine r_istore (ls' := [some (vR (some (10, 0))), some (vI x1), some (vI x2), some (vI x3), some (vR (some (34, k4))), some (vI x5), some (vI (if r_31 = 0 then 0 else 1 : Int)), some (vI x7), some (vI x8), some (vI (x1 + (M_8.1 34 k4 ((x2 * 8) + x8).toNat)))]) 145 dX9_judgeAt_143 rfl rfl rfl rfl ?_
            refine r_iload 147 dX9_judgeAt_145 rfl rfl ?_
            refine r_bipush 149 dX9_judgeAt_147 rfl rfl ?_
            obtain ⟨h0, h⟩ := h
            have hJ_34 : Ex l G (d + 1) mX9_judgeAt 175 [some (vR (some (10, 0))), some (vI x1), some (vI x2), some (vI x3), some (vR (some (34, k4))), some (vI x5), some (vI (if r_31 = 0 then 0 else 1 : Int)), some (vI x7), some (vI x8), some (vI (x1 + (M_8.1 34 k4 ((x2 * 8) + x8).toNat)))] [vI (if 61 ≤ (x1 + (M_8.1 34 k4 ((x2 * 8) + x8).toNat)) then x7 else (if (M_29.1 44 0 (((x1 + (M_8.1 34 k4 ((x2 * 8) + x8).toNat)) * 8) + x8).toNat) < x7 then (M_29.1 44 0 (((x1 + (M_8.1 34 k4 ((x2 * 8) + x8).toNat)) * 8) + x8).toNat) else x7 : Int) : Int)] M_29 r M' := by
              obtain ⟨o_39, h⟩ := h
              refine r_istore (ls' := [some (vR (some (10, 0))), some (vI x1), some (vI x2), some (vI x3), some (vR (some (34, k4))), some (vI x5), some (vI (if r_31 = 0 then 0 else 1 : Int)), some (vI (if 61 ≤ (x1 + (M_8.1 34 k4 ((x2 * 8) + x8).toNat)) then x7 else (if (M_29.1 44 0 (((x1 + (M_8.1 34 k4 ((x2 * 8) + x8).toNat)) * 8) + x8).toNat) < x7 then (M_29.1 44 0 (((x1 + (M_8.1 34 k4 ((x2 * 8) + x8).toNat)) * 8) + x8).toNat) else x7 : Int) : Int)), some (vI x8), some (vI (x1 + (M_8.1 34 k4 ((x2 * 8) + x8).toNat)))]) 177 dX9_judgeAt_175 rfl rfl rfl rfl ?_
              refine r_iinc (ls' := [some (vR (some (10, 0))), some (vI x1), some (vI x2), some (vI x3), some (vR (some (34, k4))), some (vI x5), some (vI (if r_31 = 0 then 0 else 1 : Int)), some (vI (if 61 ≤ (x1 + (M_8.1 34 k4 ((x2 * 8) + x8).toNat)) then x7 else (if (M_29.1 44 0 (((x1 + (M_8.1 34 k4 ((x2 * 8) + x8).toNat)) * 8) + x8).toNat) < x7 then (M_29.1 44 0 (((x1 + (M_8.1 34 k4 ((x2 * 8) + x8).toNat)) * 8) + x8).toNat) else x7 : Int) : Int)), some (vI (x8 + 1)), some (vI (x1 + (M_8.1 34 k4 ((x2 * 8) + x8).toNat)))]) 180 dX9_judgeAt_177 rfl rfl rfl rfl o_39 rfl ?_
              refine r_goto 75 dX9_judgeAt_180 rfl ?_
              exact Ex.weak h ⟨rfl, rfl, rfl, rfl, rfl, rfl, rfl, rfl, rfl, trivial⟩
            have h := h0
            refine r_icmp_ge 152 173 dX9_judgeAt_149 rfl rfl (fun c => ?_) (fun c => ?_)
            · have c_35 := c
              refine r_iload 175 dX9_judgeAt_173 rfl rfl ?_
              exact (Ex.at hJ_34 rfl (show [vI x7] = [vI (if 61 ≤ (x1 + (M_8.1 34 k4 ((x2 * 8) + x8).toNat)) then x7 else (if (M_29.1 44 0 (((x1 + (M_8.1 34 k4 ((x2 * 8) + x8).toNat)) * 8) + x8).toNat) < x7 then (M_29.1 44 0 (((x1 + (M_8.1 34 k4 ((x2 * 8) + x8).toNat)) * 8) + x8).toNat) else x7 : Int) : Int)] by simp only [if_pos c_35]) rfl)
            · have c_35 := c
              have h := h c_35
              obtain ⟨o_36, o_37, o_38⟩ := h
              refine r_iload 154 dX9_judgeAt_152 rfl rfl ?_
              refine r_aload_n 155 dX9_judgeAt_154 rfl rfl ?_
              refine g_R 158 dX9_judgeAt_155 rfl rfl rfl fr_9_24 (sh_9_4 hS) ?_
              refine r_iload 160 dX9_judgeAt_158 rfl rfl ?_
              refine r_bipush 162 dX9_judgeAt_160 rfl rfl ?_
              refine r_imul 163 dX9_judgeAt_162 rfl o_36 ?_
              refine r_iload 165 dX9_judgeAt_163 rfl rfl ?_
              refine r_iadd 166 dX9_judgeAt_165 rfl o_37 ?_
              refine a_I 488 167 dX9_judgeAt_166 rfl rfl rfl rfl o_38 rfl ?_
              refine r_min 170 dX9_judgeAt_167 rfl (inT4 (List.mem_of_getElem? (i := 152) rfl) rfl) rfl ?_
              refine r_goto 175 dX9_judgeAt_170 rfl ?_
              exact (Ex.at hJ_34 rfl (show [vI (if (M_29.1 44 0 (((x1 + (M_8.1 34 k4 ((x2 * 8) + x8).toNat)) * 8) + x8).toNat) < x7 then (M_29.1 44 0 (((x1 + (M_8.1 34 k4 ((x2 * 8) + x8).toNat)) * 8) + x8).toNat) else x7 : Int)] = [vI (if 61 ≤ (x1 + (M_8.1 34 k4 ((x2 * 8) + x8).toNat)) then x7 else (if (M_29.1 44 0 (((x1 + (M_8.1 34 k4 ((x2 * 8) + x8).toNat)) * 8) + x8).toNat) < x7 then (M_29.1 44 0 (((x1 + (M_8.1 34 k4 ((x2 * 8) + x8).toNat)) * 8) + x8).toNat) else x7 : Int) : Int)] by simp only [if_neg c_35]) rfl)
          refine r_if_eq 138 142 dX9_judgeAt_135 rfl rfl (fun c => ?_) (fun c => ?_)
          · have c_33 := c
            refine r_iconst 143 dX9_judgeAt_142 rfl (InR_of rfl) ?_
            exact (Ex.at hJ_32 rfl (show [vI 0] = [vI (if r_31 = 0 then 0 else 1 : Int)] by simp only [if_pos c_33]) rfl)
          · have c_33 := c
            refine r_iconst 139 dX9_judgeAt_138 rfl (InR_of rfl) ?_
            refine r_goto 143 dX9_judgeAt_139 rfl ?_
            exact (Ex.at hJ_32 rfl (show [vI 1] = [vI (if r_31 = 0 then 0 else 1 : Int)] by simp only [if_neg c_33]) rfl)

set_option maxRecDepth 4000 in
theorem xX9_sureFrom_0 {l : Launch} {G : Gt} {d : Nat} {M M' : Mem} {r : Option Vl} {x1 : Int} (hS : Sh M.2.1) (h : 
    ∃ (r_3 : Int) (M_1 : Mem), Cl l G d mX11_hasBit [vI (M.1 43 0 0), vI x1] M (some (vI r_3)) M_1 ∧ r = some (vI (if r_3 = 0 then 0 else 1 : Int)) ∧ M' = M_1) : Cl l G (d + 1) mX9_sureFrom [vR (some (10, 0)), vI x1] M r M' := by
  show Ex l G (d + 1) mX9_sureFrom 0 [some (vR (some (10, 0))), some (vI x1)] [] M r M'
  refine r_aload_n 1 dX9_sureFrom_0 rfl rfl ?_
  refine g_R 4 dX9_sureFrom_1 rfl rfl rfl fr_9_21 (sh_9_3 hS) ?_
  refine r_iconst 5 dX9_sureFrom_4 rfl (InR_of rfl) ?_
  refine a_I 61 6 dX9_sureFrom_5 rfl rfl rfl rfl ⟨by decide, by decide⟩ rfl ?_
  refine r_iload_n 7 dX9_sureFrom_6 rfl rfl ?_
  obtain ⟨r_3, M_1, hc_2, h⟩ := h
  refine n_1 [vI (M.1 43 0 0), vI x1] [] 10 dX9_sureFrom_7 rfl rfl mo_X11_hasBit ml_9_52 rfl rfl hc_2 ?_
  have hJ_4 : Ex l G (d + 1) mX9_sureFrom 18 [some (vR (some (10, 0))), some (vI x1)] [vI (if r_3 = 0 then 0 else 1 : Int)] M_1 r M' := by
    exact r_iret dX9_sureFrom_18 rfl (.inl rfl) h.1 h.2
  refine r_if_eq 13 17 dX9_sureFrom_10 rfl rfl (fun c => ?_) (fun c => ?_)
  · have c_5 := c
    refine r_iconst 18 dX9_sureFrom_17 rfl (InR_of rfl) ?_
    exact (Ex.at hJ_4 rfl (show [vI 0] = [vI (if r_3 = 0 then 0 else 1 : Int)] by simp only [if_pos c_5]) rfl)
  · have c_5 := c
    refine r_iconst 14 dX9_sureFrom_13 rfl (InR_of rfl) ?_
    refine r_goto 18 dX9_sureFrom_14 rfl ?_
    exact (Ex.at hJ_4 rfl (show [vI 1] = [vI (if r_3 = 0 then 0 else 1 : Int)] by simp only [if_neg c_5]) rfl)

set_option maxRecDepth 4000 in
theorem xX9_soonFrom_0 {l : Launch} {G : Gt} {d : Nat} {M M' : Mem} {r : Option Vl} {x1 : Int} (hS : Sh M.2.1) (h : 
    ((0 ≤ x1 ∧ x1 < 488)) ∧ (((¬ (M.1 44 0 x1.toNat) = 1000 → ((0 ≤ x1 ∧ x1 < 488)))) ∧ r = some (vI (if ¬ (M.1 44 0 x1.toNat) = 1000 then (M.1 44 0 x1.toNat) else (-2) : Int)) ∧ M' = M)) : Cl l G d mX9_soonFrom [vR (some (10, 0)), vI x1] M r M' := by
  show Ex l G d mX9_soonFrom 0 [some (vR (some (10, 0))), some (vI x1)] [] M r M'
  obtain ⟨o_1, h⟩ := h
  refine r_aload_n 1 dX9_soonFrom_0 rfl rfl ?_
  refine g_R 4 dX9_soonFrom_1 rfl rfl rfl fr_9_24 (sh_9_4 hS) ?_
  refine r_iload_n 5 dX9_soonFrom_4 rfl rfl ?_
  refine a_I 488 6 dX9_soonFrom_5 rfl rfl rfl rfl o_1 rfl ?_
  refine r_sipush 9 dX9_soonFrom_6 rfl rfl ?_
  obtain ⟨h0, h⟩ := h
  have hJ_2 : Ex l G d mX9_soonFrom 23 [some (vR (some (10, 0))), some (vI x1)] [vI (if ¬ (M.1 44 0 x1.toNat) = 1000 then (M.1 44 0 x1.toNat) else (-2) : Int)] M r M' := by
    exact r_iret dX9_soonFrom_23 rfl (.inl rfl) h.1 h.2
  have h := h0
  refine r_icmp_ne 12 17 dX9_soonFrom_9 rfl rfl (fun c => ?_) (fun c => ?_)
  · have c_3 := c
    have h := h c_3
    have o_4 := h
    refine r_aload_n 18 dX9_soonFrom_17 rfl rfl ?_
    refine g_R 21 dX9_soonFrom_18 rfl rfl rfl fr_9_24 (sh_9_4 hS) ?_
    refine r_iload_n 22 dX9_soonFrom_21 rfl rfl ?_
    refine a_I 488 23 dX9_soonFrom_22 rfl rfl rfl rfl o_4 rfl ?_
    exact (Ex.at hJ_2 rfl (show [vI (M.1 44 0 x1.toNat)] = [vI (if ¬ (M.1 44 0 x1.toNat) = 1000 then (M.1 44 0 x1.toNat) else (-2) : Int)] by simp only [if_pos c_3]) rfl)
  · have c_3 := c
    refine r_bipush 14 dX9_soonFrom_12 rfl rfl ?_
    refine r_goto 23 dX9_soonFrom_14 rfl ?_
    exact (Ex.at hJ_2 rfl (show [vI (-2)] = [vI (if ¬ (M.1 44 0 x1.toNat) = 1000 then (M.1 44 0 x1.toNat) else (-2) : Int)] by simp only [if_neg c_3]) rfl)

set_option maxRecDepth 4000 in
theorem xX10_init_0 {l : Launch} {G : Gt} {d : Nat} {M M' : Mem} {r : Option Vl}  (h : 
    (∀ M_1 : Mem, newM M 45 64 64 = M_1 → (∀ M_2 : Mem, newM (M_1.1, (upR M_1.2.1 7 0 0 (some (45, cCnt M.2.2 45))), M_1.2.2) 46 64 64 = M_2 → ∃ (M_3 : Mem), Cl l G d mJ7_fill_53178 [vR (some (45, cCnt M.2.2 45)), vI 1000] (M_2.1, (upR M_2.2.1 7 0 1 (some (46, cCnt M_1.2.2 46))), M_2.2.2) none M_3 ∧ (∃ (M_5 : Mem), Cl l G d mJ7_fill_53178 [vR (M_3.2.1 7 0 1), vI (-1)] M_3 none M_5 ∧ Ex l G (d + 1) mX10_init 40 [some (vR (some (7, 0))), some (vI 0)] [] M_5 r M')))) : Cl l G (d + 1) mX10_init [vR (some (7, 0))] M r M' := by
  show Ex l G (d + 1) mX10_init 0 [some (vR (some (7, 0))), none] [] M r M'
  refine r_aload_n 1 dX10_init_0 rfl rfl ?_
  refine r_objInit 4 dX10_init_1 rfl rfl ⟨(inT1 (List.mem_of_getElem? (i := 190) rfl) rfl), (inT1 (List.mem_of_getElem? (i := 28) rfl) rfl), (inT1 (List.mem_of_getElem? (i := 29) rfl) rfl)⟩ rfl ?_
  refine r_aload_n 5 dX10_init_4 rfl rfl ?_
  refine r_bipush 7 dX10_init_5 rfl rfl ?_
  refine r_newa (f := 45) (k := 1) (n := 64) 9 dX10_init_7 rfl rfl rfl (by decide) (inT1 (List.mem_of_getElem? (i := 104) rfl) rfl) rfl (by decide) (.inl rfl) ?_
  generalize hM_1 : newM M 45 64 64 = M_1
  have h := h M_1 hM_1
  refine p_R 12 dX10_init_9 rfl rfl rfl rfl pf_10_9 (.inr rfl) rfl ?_
  refine r_aload_n 13 dX10_init_12 rfl rfl ?_
  refine r_bipush 15 dX10_init_13 rfl rfl ?_
  refine r_newa (f := 46) (k := 1) (n := 64) 17 dX10_init_15 rfl rfl rfl (by decide) (inT1 (List.mem_of_getElem? (i := 104) rfl) rfl) rfl (by decide) (.inl rfl) ?_
  generalize hM_2 : newM (M_1.1, (upR M_1.2.1 7 0 0 (some (45, cCnt M.2.2 45))), M_1.2.2) 46 64 64 = M_2
  have h := h M_2 hM_2
  refine p_R 20 dX10_init_17 rfl rfl rfl rfl pf_10_15 (.inr rfl) rfl ?_
  refine r_aload_n 21 dX10_init_20 rfl rfl ?_
  refine g_R 24 dX10_init_21 rfl rfl rfl fr_10_9 (mR_0 ((upR_i (by decide)).trans ((newM_R hM_2 rfl).trans ((mR_0 (upR_s)))))) ?_
  refine r_sipush 27 dX10_init_24 rfl rfl ?_
  obtain ⟨M_3, hc_4, h⟩ := h
  refine c_0 [vR (some (45, cCnt M.2.2 45)), vI 1000] [] 30 dX10_init_27 rfl rfl mo_J7_fill_53178 ml_10_18 rfl rfl hc_4 ?_
  refine r_aload_n 31 dX10_init_30 rfl rfl ?_
  refine g_R 34 dX10_init_31 rfl rfl rfl fr_10_15 rfl ?_
  refine r_iconst 35 dX10_init_34 rfl (InR_of rfl) ?_
  obtain ⟨M_5, hc_6, h⟩ := h
  refine c_0 [vR (M_3.2.1 7 0 1), vI (-1)] [] 38 dX10_init_35 rfl rfl mo_J7_fill_53178 ml_10_18 rfl rfl hc_6 ?_
  refine r_iconst 39 dX10_init_38 rfl (InR_of rfl) ?_
  refine r_istore_n (ls' := [some (vR (some (7, 0))), some (vI 0)]) 40 dX10_init_39 rfl rfl rfl rfl ?_
  exact h
set_option maxRecDepth 4000 in
theorem xX10_init_40 {l : Launch} {G : Gt} {d : Nat} {M M' : Mem} {r : Option Vl} {x1 : Int} (h : 
    (8 ≤ x1 → r = none ∧ M' = M) ∧ (¬ (8 ≤ x1) → (InR (x1 * 8) ∧ InR ((x1 * 8) + x1)) ∧ (∃ k_3 : Nat, (M.2.1 7 0 0) = some (45, k_3) ∧ ((0 ≤ ((x1 * 8) + x1) ∧ ((x1 * 8) + x1) < 64) ∧ InR (x1 + 1)) ∧ Ex l G (d + 1) mX10_init 40 [some (vR (some (7, 0))), some (vI (x1 + 1))] [] ((upI M.1 45 k_3 ((x1 * 8) + x1).toNat 0), M.2.1, M.2.2) r M'))) : Ex l G (d + 1) mX10_init 40 [some (vR (some (7, 0))), some (vI x1)] [] M r M' := by
  refine r_iload_n 41 dX10_init_40 rfl rfl ?_
  refine r_bipush 43 dX10_init_41 rfl rfl ?_
  refine r_icmp_ge 46 64 dX10_init_43 rfl rfl (fun c => ?_) (fun c => ?_)
  · have h := h.1 (c)
    exact r_vret dX10_init_64 rfl h.1 h.2
  · have h := h.2 (c)
    obtain ⟨⟨o_1, o_2⟩, h⟩ := h
    refine r_aload_n 47 dX10_init_46 rfl rfl ?_
    refine g_R 50 dX10_init_47 rfl rfl rfl fr_10_9 rfl ?_
    refine r_iload_n 51 dX10_init_50 rfl rfl ?_
    refine r_bipush 53 dX10_init_51 rfl rfl ?_
    refine r_imul 54 dX10_init_53 rfl o_1 ?_
    refine r_iload_n 55 dX10_init_54 rfl rfl ?_
    refine r_iadd 56 dX10_init_55 rfl o_2 ?_
    refine r_iconst 57 dX10_init_56 rfl (InR_of rfl) ?_
    obtain ⟨k_3, e_4, h⟩ := h
    obtain ⟨⟨o_5, o_6⟩, h⟩ := h
    refine s_I 64 58 dX10_init_57 rfl e_4 (by decide) rfl rfl o_5 ?_
    refine r_iinc (ls' := [some (vR (some (7, 0))), some (vI (x1 + 1))]) 61 dX10_init_58 rfl rfl rfl rfl o_6 rfl ?_
    refine r_goto 40 dX10_init_61 rfl ?_
    exact h

set_option maxRecDepth 4000 in
theorem xX10_measure_0 {l : Launch} {G : Gt} {d : Nat} {M M' : Mem} {r : Option Vl} {k1 : Nat} (h : 
    Ex l G (d + 1) mX10_measure 2 [some (vR (some (7, 0))), some (vR (some (34, k1))), some (vI 0), none, none, none, none] [] M r M') : Cl l G (d + 1) mX10_measure [vR (some (7, 0)), vR (some (34, k1))] M r M' := by
  show Ex l G (d + 1) mX10_measure 0 [some (vR (some (7, 0))), some (vR (some (34, k1))), none, none, none, none, none] [] M r M'
  refine r_iconst 1 dX10_measure_0 rfl (InR_of rfl) ?_
  refine r_istore_n (ls' := [some (vR (some (7, 0))), some (vR (some (34, k1))), some (vI 0), none, none, none, none]) 2 dX10_measure_1 rfl rfl rfl rfl ?_
  exact h
set_option maxRecDepth 4000 in
theorem xX10_measure_2 {l : Launch} {G : Gt} {d : Nat} {M M' : Mem} {r : Option Vl} {k1 : Nat} {x2 : Int} (hS : Sh M.2.1) (h : 
    (64 ≤ x2 → Ex l G (d + 1) mX10_measure 37 [some (vR (some (7, 0))), some (vR (some (34, k1))), some (vI 0), none, none, none, none] [] M r M') ∧ (¬ (64 ≤ x2) → ((0 ≤ x2 ∧ x2 < 64)) ∧ (((¬ (M.1 34 k1 x2.toNat) = 0 → ((0 ≤ x2 ∧ x2 < 64)))) ∧ ((0 ≤ x2 ∧ x2 < 64) ∧ InR (x2 + 1)) ∧ Ex l G (d + 1) mX10_measure 2 [some (vR (some (7, 0))), some (vR (some (34, k1))), some (vI (x2 + 1)), none, none, none, none] [] ((upI M.1 45 0 x2.toNat (if ¬ (M.1 34 k1 x2.toNat) = 0 then (M.1 34 k1 x2.toNat) else 1000 : Int)), M.2.1, M.2.2) r M'))) : Ex l G (d + 1) mX10_measure 2 [some (vR (some (7, 0))), some (vR (some (34, k1))), some (vI x2), none, none, none, none] [] M r M' := by
  refine r_iload_n 3 dX10_measure_2 rfl rfl ?_
  refine r_bipush 5 dX10_measure_3 rfl rfl ?_
  refine r_icmp_ge 8 35 dX10_measure_5 rfl rfl (fun c => ?_) (fun c => ?_)
  · have h := h.1 (c)
    refine r_iconst 36 dX10_measure_35 rfl (InR_of rfl) ?_
    refine r_istore_n (ls' := [some (vR (some (7, 0))), some (vR (some (34, k1))), some (vI 0), none, none, none, none]) 37 dX10_measure_36 rfl rfl rfl rfl ?_
    exact h
  · have h := h.2 (c)
    obtain ⟨o_1, h⟩ := h
    refine r_aload_n 9 dX10_measure_8 rfl rfl ?_
    refine g_R 12 dX10_measure_9 rfl rfl rfl fr_10_9 (sh_10_0 hS) ?_
    refine r_iload_n 13 dX10_measure_12 rfl rfl ?_
    refine r_aload_n 14 dX10_measure_13 rfl rfl ?_
    refine r_iload_n 15 dX10_measure_14 rfl rfl ?_
    refine a_I 64 16 dX10_measure_15 rfl rfl rfl rfl o_1 rfl ?_
    obtain ⟨h0, h⟩ := h
    have hJ_2 : Ex l G (d + 1) mX10_measure 28 [some (vR (some (7, 0))), some (vR (some (34, k1))), some (vI x2), none, none, none, none] [vI (if ¬ (M.1 34 k1 x2.toNat) = 0 then (M.1 34 k1 x2.toNat) else 1000 : Int), vI x2, vR (some (45, 0))] M r M' := by
      obtain ⟨⟨o_5, o_6⟩, h⟩ := h
      refine s_I 64 29 dX10_measure_28 rfl rfl (by decide) rfl rfl o_5 ?_
      refine r_iinc (ls' := [some (vR (some (7, 0))), some (vR (some (34, k1))), some (vI (x2 + 1)), none, none, none, none]) 32 dX10_measure_29 rfl rfl rfl rfl o_6 rfl ?_
      refine r_goto 2 dX10_measure_32 rfl ?_
      exact h
    have h := h0
    refine r_if_ne 19 25 dX10_measure_16 rfl rfl (fun c => ?_) (fun c => ?_)
    · have c_3 := c
      have h := h c_3
      have o_4 := h
      refine r_aload_n 26 dX10_measure_25 rfl rfl ?_
      refine r_iload_n 27 dX10_measure_26 rfl rfl ?_
      refine a_I 64 28 dX10_measure_27 rfl rfl rfl rfl o_4 rfl ?_
      exact (Ex.at hJ_2 rfl (show [vI (M.1 34 k1 x2.toNat), vI x2, vR (some (45, 0))] = [vI (if ¬ (M.1 34 k1 x2.toNat) = 0 then (M.1 34 k1 x2.toNat) else 1000 : Int), vI x2, vR (some (45, 0))] by simp only [if_pos c_3]) rfl)
    · have c_3 := c
      refine r_sipush 22 dX10_measure_19 rfl rfl ?_
      refine r_goto 28 dX10_measure_22 rfl ?_
      exact (Ex.at hJ_2 rfl (show [vI 1000, vI x2, vR (some (45, 0))] = [vI (if ¬ (M.1 34 k1 x2.toNat) = 0 then (M.1 34 k1 x2.toNat) else 1000 : Int), vI x2, vR (some (45, 0))] by simp only [if_neg c_3]) rfl)
set_option maxRecDepth 4000 in
theorem xX10_measure_37 {l : Launch} {G : Gt} {d : Nat} {M M' : Mem} {r : Option Vl} {k1 : Nat} {x2 : Int} (hS : Sh M.2.1) (h : 
    (8 ≤ x2 → Ex l G (d + 1) mX10_measure 63 [some (vR (some (7, 0))), some (vR (some (34, k1))), some (vI 0), none, none, none, none] [] M r M') ∧ (¬ (8 ≤ x2) → (InR (x2 * 8) ∧ InR ((x2 * 8) + x2) ∧ (0 ≤ ((x2 * 8) + x2) ∧ ((x2 * 8) + x2) < 64) ∧ InR (x2 + 1)) ∧ Ex l G (d + 1) mX10_measure 37 [some (vR (some (7, 0))), some (vR (some (34, k1))), some (vI (x2 + 1)), none, none, none, none] [] ((upI M.1 45 0 ((x2 * 8) + x2).toNat 0), M.2.1, M.2.2) r M')) : Ex l G (d + 1) mX10_measure 37 [some (vR (some (7, 0))), some (vR (some (34, k1))), some (vI x2), none, none, none, none] [] M r M' := by
  refine r_iload_n 38 dX10_measure_37 rfl rfl ?_
  refine r_bipush 40 dX10_measure_38 rfl rfl ?_
  refine r_icmp_ge 43 61 dX10_measure_40 rfl rfl (fun c => ?_) (fun c => ?_)
  · have h := h.1 (c)
    refine r_iconst 62 dX10_measure_61 rfl (InR_of rfl) ?_
    refine r_istore_n (ls' := [some (vR (some (7, 0))), some (vR (some (34, k1))), some (vI 0), none, none, none, none]) 63 dX10_measure_62 rfl rfl rfl rfl ?_
    exact h
  · have h := h.2 (c)
    obtain ⟨⟨o_1, o_2, o_3, o_4⟩, h⟩ := h
    refine r_aload_n 44 dX10_measure_43 rfl rfl ?_
    refine g_R 47 dX10_measure_44 rfl rfl rfl fr_10_9 (sh_10_0 hS) ?_
    refine r_iload_n 48 dX10_measure_47 rfl rfl ?_
    refine r_bipush 50 dX10_measure_48 rfl rfl ?_
    refine r_imul 51 dX10_measure_50 rfl o_1 ?_
    refine r_iload_n 52 dX10_measure_51 rfl rfl ?_
    refine r_iadd 53 dX10_measure_52 rfl o_2 ?_
    refine r_iconst 54 dX10_measure_53 rfl (InR_of rfl) ?_
    refine s_I 64 55 dX10_measure_54 rfl rfl (by decide) rfl rfl o_3 ?_
    refine r_iinc (ls' := [some (vR (some (7, 0))), some (vR (some (34, k1))), some (vI (x2 + 1)), none, none, none, none]) 58 dX10_measure_55 rfl rfl rfl rfl o_4 rfl ?_
    refine r_goto 37 dX10_measure_58 rfl ?_
    exact h
set_option maxRecDepth 4000 in
theorem xX10_measure_63 {l : Launch} {G : Gt} {d : Nat} {M M' : Mem} {r : Option Vl} {k1 : Nat} {x2 : Int} (h : 
    (8 ≤ x2 → Ex l G (d + 1) mX10_measure 161 [some (vR (some (7, 0))), some (vR (some (34, k1))), some (vI 0), none, none, none, none] [] M r M') ∧ (¬ (8 ≤ x2) → Ex l G (d + 1) mX10_measure 71 [some (vR (some (7, 0))), some (vR (some (34, k1))), some (vI x2), some (vI 0), none, none, none] [] M r M')) : Ex l G (d + 1) mX10_measure 63 [some (vR (some (7, 0))), some (vR (some (34, k1))), some (vI x2), none, none, none, none] [] M r M' := by
  refine r_iload_n 64 dX10_measure_63 rfl rfl ?_
  refine r_bipush 66 dX10_measure_64 rfl rfl ?_
  refine r_icmp_ge 69 159 dX10_measure_66 rfl rfl (fun c => ?_) (fun c => ?_)
  · have h := h.1 (c)
    refine r_iconst 160 dX10_measure_159 rfl (InR_of rfl) ?_
    refine r_istore_n (ls' := [some (vR (some (7, 0))), some (vR (some (34, k1))), some (vI 0), none, none, none, none]) 161 dX10_measure_160 rfl rfl rfl rfl ?_
    exact h
  · have h := h.2 (c)
    refine r_iconst 70 dX10_measure_69 rfl (InR_of rfl) ?_
    refine r_istore_n (ls' := [some (vR (some (7, 0))), some (vR (some (34, k1))), some (vI x2), some (vI 0), none, none, none]) 71 dX10_measure_70 rfl rfl rfl rfl ?_
    exact h
set_option maxRecDepth 4000 in
theorem xX10_measure_71 {l : Launch} {G : Gt} {d : Nat} {M M' : Mem} {r : Option Vl} {k1 : Nat} {x2 : Int} {x3 : Int} (h : 
    (8 ≤ x3 → (InR (x2 + 1)) ∧ Ex l G (d + 1) mX10_measure 63 [some (vR (some (7, 0))), some (vR (some (34, k1))), some (vI (x2 + 1)), none, none, none, none] [] M r M') ∧ (¬ (8 ≤ x3) → Ex l G (d + 1) mX10_measure 80 [some (vR (some (7, 0))), some (vR (some (34, k1))), some (vI x2), some (vI x3), some (vI 0), none, none] [] M r M')) : Ex l G (d + 1) mX10_measure 71 [some (vR (some (7, 0))), some (vR (some (34, k1))), some (vI x2), some (vI x3), none, none, none] [] M r M' := by
  refine r_iload_n 72 dX10_measure_71 rfl rfl ?_
  refine r_bipush 74 dX10_measure_72 rfl rfl ?_
  refine r_icmp_ge 77 153 dX10_measure_74 rfl rfl (fun c => ?_) (fun c => ?_)
  · have h := h.1 (c)
    obtain ⟨o_1, h⟩ := h
    refine r_iinc (ls' := [some (vR (some (7, 0))), some (vR (some (34, k1))), some (vI (x2 + 1)), some (vI x3), none, none, none]) 156 dX10_measure_153 rfl rfl rfl rfl o_1 rfl ?_
    refine r_goto 63 dX10_measure_156 rfl ?_
    exact Ex.weak h ⟨rfl, rfl, rfl, trivial⟩
  · have h := h.2 (c)
    refine r_iconst 78 dX10_measure_77 rfl (InR_of rfl) ?_
    refine r_istore (ls' := [some (vR (some (7, 0))), some (vR (some (34, k1))), some (vI x2), some (vI x3), some (vI 0), none, none]) 80 dX10_measure_78 rfl rfl rfl rfl ?_
    exact h
set_option maxRecDepth 4000 in
theorem xX10_measure_80 {l : Launch} {G : Gt} {d : Nat} {M M' : Mem} {r : Option Vl} {k1 : Nat} {x2 : Int} {x3 : Int} {x4 : Int} (hS : Sh M.2.1) (h : 
    (8 ≤ x4 → (InR (x3 + 1)) ∧ Ex l G (d + 1) mX10_measure 71 [some (vR (some (7, 0))), some (vR (some (34, k1))), some (vI x2), some (vI (x3 + 1)), none, none, none] [] M r M') ∧ (¬ (8 ≤ x4) → (InR (x3 * 8) ∧ InR ((x3 * 8) + x4) ∧ InR (x3 * 8) ∧ InR ((x3 * 8) + x2) ∧ (0 ≤ ((x3 * 8) + x2) ∧ ((x3 * 8) + x2) < 64) ∧ InR (x2 * 8) ∧ InR ((x2 * 8) + x4) ∧ (0 ≤ ((x2 * 8) + x4) ∧ ((x2 * 8) + x4) < 64) ∧ InR ((M.1 45 0 ((x3 * 8) + x2).toNat) + (M.1 45 0 ((x2 * 8) + x4).toNat)) ∧ (0 ≤ ((x3 * 8) + x4) ∧ ((x3 * 8) + x4) < 64) ∧ (0 ≤ ((x3 * 8) + x4) ∧ ((x3 * 8) + x4) < 64) ∧ InR (x4 + 1)) ∧ Ex l G (d + 1) mX10_measure 80 [some (vR (some (7, 0))), some (vR (some (34, k1))), some (vI x2), some (vI x3), some (vI (x4 + 1)), none, none] [] ((upI M.1 45 0 ((x3 * 8) + x4).toNat (if ((M.1 45 0 ((x3 * 8) + x2).toNat) + (M.1 45 0 ((x2 * 8) + x4).toNat)) < (M.1 45 0 ((x3 * 8) + x4).toNat) then ((M.1 45 0 ((x3 * 8) + x2).toNat) + (M.1 45 0 ((x2 * 8) + x4).toNat)) else (M.1 45 0 ((x3 * 8) + x4).toNat) : Int)), M.2.1, M.2.2) r M')) : Ex l G (d + 1) mX10_measure 80 [some (vR (some (7, 0))), some (vR (some (34, k1))), some (vI x2), some (vI x3), some (vI x4), none, none] [] M r M' := by
  refine r_iload 82 dX10_measure_80 rfl rfl ?_
  refine r_bipush 84 dX10_measure_82 rfl rfl ?_
  refine r_icmp_ge 87 147 dX10_measure_84 rfl rfl (fun c => ?_) (fun c => ?_)
  · have h := h.1 (c)
    obtain ⟨o_1, h⟩ := h
    refine r_iinc (ls' := [some (vR (some (7, 0))), some (vR (some (34, k1))), some (vI x2), some (vI (x3 + 1)), some (vI x4), none, none]) 150 dX10_measure_147 rfl rfl rfl rfl o_1 rfl ?_
    refine r_goto 71 dX10_measure_150 rfl ?_
    exact Ex.weak h ⟨rfl, rfl, rfl, rfl, trivial⟩
  · have h := h.2 (c)
    obtain ⟨⟨o_2, o_3, o_4, o_5, o_6, o_7, o_8, o_9, o_10, o_11, o_12, o_13⟩, h⟩ := h
    refine r_iload_n 88 dX10_measure_87 rfl rfl ?_
    refine r_bipush 90 dX10_measure_88 rfl rfl ?_
    refine r_imul 91 dX10_measure_90 rfl o_2 ?_
    refine r_iload 93 dX10_measure_91 rfl rfl ?_
    refine r_iadd 94 dX10_measure_93 rfl o_3 ?_
    refine r_istore (ls' := [some (vR (some (7, 0))), some (vR (some (34, k1))), some (vI x2), some (vI x3), some (vI x4), some (vI ((x3 * 8) + x4)), none]) 96 dX10_measure_94 rfl rfl rfl rfl ?_
    refine r_aload_n 97 dX10_measure_96 rfl rfl ?_
    refine g_R 100 dX10_measure_97 rfl rfl rfl fr_10_9 (sh_10_0 hS) ?_
    refine r_iload_n 101 dX10_measure_100 rfl rfl ?_
    refine r_bipush 103 dX10_measure_101 rfl rfl ?_
    refine r_imul 104 dX10_measure_103 rfl o_4 ?_
    refine r_iload_n 105 dX10_measure_104 rfl rfl ?_
    refine r_iadd 106 dX10_measure_105 rfl o_5 ?_
    refine a_I 64 107 dX10_measure_106 rfl rfl rfl rfl o_6 rfl ?_
    refine r_aload_n 108 dX10_measure_107 rfl rfl ?_
    refine g_R 111 dX10_measure_108 rfl rfl rfl fr_10_9 (sh_10_0 hS) ?_
    refine r_iload_n 112 dX10_measure_111 rfl rfl ?_
    refine r_bipush 114 dX10_measure_112 rfl rfl ?_
    refine r_imul 115 dX10_measure_114 rfl o_7 ?_
    refine r_iload 117 dX10_measure_115 rfl rfl ?_
    refine r_iadd 118 dX10_measure_117 rfl o_8 ?_
    refine a_I 64 119 dX10_measure_118 rfl rfl rfl rfl o_9 rfl ?_
    refine r_iadd 120 dX10_measure_119 rfl o_10 ?_
    refine r_istore (ls' := [some (vR (some (7, 0))), some (vR (some (34, k1))), some (vI x2), some (vI x3), some (vI x4), some (vI ((x3 * 8) + x4)), some (vI ((M.1 45 0 ((x3 * 8) + x2).toNat) + (M.1 45 0 ((x2 * 8) + x4).toNat)))]) 122 dX10_measure_120 rfl rfl rfl rfl ?_
    refine r_aload_n 123 dX10_measure_122 rfl rfl ?_
    refine g_R 126 dX10_measure_123 rfl rfl rfl fr_10_9 (sh_10_0 hS) ?_
    refine r_iload 128 dX10_measure_126 rfl rfl ?_
    refine r_aload_n 129 dX10_measure_128 rfl rfl ?_
    refine g_R 132 dX10_measure_129 rfl rfl rfl fr_10_9 (sh_10_0 hS) ?_
    refine r_iload 134 dX10_measure_132 rfl rfl ?_
    refine a_I 64 135 dX10_measure_134 rfl rfl rfl rfl o_11 rfl ?_
    refine r_iload 137 dX10_measure_135 rfl rfl ?_
    refine r_min 140 dX10_measure_137 rfl (inT2 (List.mem_of_getElem? (i := 187) rfl) rfl) rfl ?_
    refine s_I 64 141 dX10_measure_140 rfl rfl (by decide) rfl rfl o_12 ?_
    refine r_iinc (ls' := [some (vR (some (7, 0))), some (vR (some (34, k1))), some (vI x2), some (vI x3), some (vI (x4 + 1)), some (vI ((x3 * 8) + x4)), some (vI ((M.1 45 0 ((x3 * 8) + x2).toNat) + (M.1 45 0 ((x2 * 8) + x4).toNat)))]) 144 dX10_measure_141 rfl rfl rfl rfl o_13 rfl ?_
    refine r_goto 80 dX10_measure_144 rfl ?_
    exact Ex.weak h ⟨rfl, rfl, rfl, rfl, rfl, trivial⟩
set_option maxRecDepth 4000 in
theorem xX10_measure_161 {l : Launch} {G : Gt} {d : Nat} {M M' : Mem} {r : Option Vl} {k1 : Nat} {x2 : Int} (hS : Sh M.2.1) (h : 
    (64 ≤ x2 → r = none ∧ M' = M) ∧ (¬ (64 ≤ x2) → (0 ≤ x2 ∧ 0 ≤ x2) ∧ (∃ (r_5 : Int) (M_3 : Mem), Cl l G d mX10_nextOf [vR (some (7, 0)), vI (x2 / 8), vI (x2 % 8), vR (some (34, k1))] M (some (vI r_5)) M_3 ∧ ((0 ≤ x2 ∧ x2 < 64) ∧ InR (x2 + 1)) ∧ Ex l G (d + 1) mX10_measure 161 [some (vR (some (7, 0))), some (vR (some (34, k1))), some (vI (x2 + 1)), none, none, none, none] [] ((upI M_3.1 46 0 x2.toNat r_5), M_3.2.1, M_3.2.2) r M'))) : Ex l G (d + 1) mX10_measure 161 [some (vR (some (7, 0))), some (vR (some (34, k1))), some (vI x2), none, none, none, none] [] M r M' := by
  refine r_iload_n 162 dX10_measure_161 rfl rfl ?_
  refine r_bipush 164 dX10_measure_162 rfl rfl ?_
  refine r_icmp_ge 167 192 dX10_measure_164 rfl rfl (fun c => ?_) (fun c => ?_)
  · have h := h.1 (c)
    exact r_vret dX10_measure_192 rfl h.1 h.2
  · have h := h.2 (c)
    obtain ⟨⟨o_1, o_2⟩, h⟩ := h
    refine r_aload_n 168 dX10_measure_167 rfl rfl ?_
    refine g_R 171 dX10_measure_168 rfl rfl rfl fr_10_15 (sh_10_1 hS) ?_
    refine r_iload_n 172 dX10_measure_171 rfl rfl ?_
    refine r_aload_n 173 dX10_measure_172 rfl rfl ?_
    refine r_iload_n 174 dX10_measure_173 rfl rfl ?_
    refine r_bipush 176 dX10_measure_174 rfl rfl ?_
    refine r_idiv 177 dX10_measure_176 rfl ⟨o_1, by decide⟩ ?_
    refine r_iload_n 178 dX10_measure_177 rfl rfl ?_
    refine r_bipush 180 dX10_measure_178 rfl rfl ?_
    refine r_irem 181 dX10_measure_180 rfl ⟨o_2, by decide⟩ ?_
    refine r_aload_n 182 dX10_measure_181 rfl rfl ?_
    obtain ⟨r_5, M_3, hc_4, h⟩ := h
    refine v_1 (ci := 10) (C := (RX10, TX10, 2)) [vI (x2 / 8), vI (x2 % 8), vR (some (34, k1))] [vI x2, vR (some (46, 0))] 185 dX10_measure_182 rfl rfl rfl rfl rfl mo_X10_nextOf ml_10_30 rfl rfl hc_4 ?_
    obtain ⟨⟨o_6, o_7⟩, h⟩ := h
    refine s_I 64 186 dX10_measure_185 rfl rfl (by decide) rfl rfl o_6 ?_
    refine r_iinc (ls' := [some (vR (some (7, 0))), some (vR (some (34, k1))), some (vI (x2 + 1)), none, none, none, none]) 189 dX10_measure_186 rfl rfl rfl rfl o_7 rfl ?_
    refine r_goto 161 dX10_measure_189 rfl ?_
    exact h

set_option maxRecDepth 4000 in
theorem xX10_nextOf_0 {l : Launch} {G : Gt} {d : Nat} {M M' : Mem} {r : Option Vl} {x1 : Int} {x2 : Int} {k3 : Nat} (hS : Sh M.2.1) (h : 
    (InR (x1 * 8) ∧ InR ((x1 * 8) + x2) ∧ (0 ≤ ((x1 * 8) + x2) ∧ ((x1 * 8) + x2) < 64)) ∧ ((x1 = x2 → r = some (vI (-1)) ∧ M' = M) ∧ (¬ (x1 = x2) → ((M.1 45 0 ((x1 * 8) + x2).toNat) < 1000 → Ex l G d mX10_nextOf 31 [some (vR (some (7, 0))), some (vI x1), some (vI x2), some (vR (some (34, k3))), some (vI (M.1 45 0 ((x1 * 8) + x2).toNat)), some (vI 0), none] [] M r M') ∧ (¬ ((M.1 45 0 ((x1 * 8) + x2).toNat) < 1000) → r = some (vI (-1)) ∧ M' = M)))) : Cl l G d mX10_nextOf [vR (some (7, 0)), vI x1, vI x2, vR (some (34, k3))] M r M' := by
  show Ex l G d mX10_nextOf 0 [some (vR (some (7, 0))), some (vI x1), some (vI x2), some (vR (some (34, k3))), none, none, none] [] M r M'
  obtain ⟨⟨o_1, o_2, o_3⟩, h⟩ := h
  refine r_aload_n 1 dX10_nextOf_0 rfl rfl ?_
  refine g_R 4 dX10_nextOf_1 rfl rfl rfl fr_10_9 (sh_10_0 hS) ?_
  refine r_iload_n 5 dX10_nextOf_4 rfl rfl ?_
  refine r_bipush 7 dX10_nextOf_5 rfl rfl ?_
  refine r_imul 8 dX10_nextOf_7 rfl o_1 ?_
  refine r_iload_n 9 dX10_nextOf_8 rfl rfl ?_
  refine r_iadd 10 dX10_nextOf_9 rfl o_2 ?_
  refine a_I 64 11 dX10_nextOf_10 rfl rfl rfl rfl o_3 rfl ?_
  refine r_istore (ls' := [some (vR (some (7, 0))), some (vI x1), some (vI x2), some (vR (some (34, k3))), some (vI (M.1 45 0 ((x1 * 8) + x2).toNat)), none, none]) 13 dX10_nextOf_11 rfl rfl rfl rfl ?_
  refine r_iload_n 14 dX10_nextOf_13 rfl rfl ?_
  refine r_iload_n 15 dX10_nextOf_14 rfl rfl ?_
  refine r_icmp_eq 18 26 dX10_nextOf_15 rfl rfl (fun c => ?_) (fun c => ?_)
  · have h := h.1 (c)
    refine r_iconst 27 dX10_nextOf_26 rfl (InR_of rfl) ?_
    exact r_iret dX10_nextOf_27 rfl (.inl rfl) h.1 h.2
  · have h := h.2 (c)
    refine r_iload 20 dX10_nextOf_18 rfl rfl ?_
    refine r_sipush 23 dX10_nextOf_20 rfl rfl ?_
    refine r_icmp_lt 26 28 dX10_nextOf_23 rfl rfl (fun c => ?_) (fun c => ?_)
    · have h := h.1 (c)
      refine r_iconst 29 dX10_nextOf_28 rfl (InR_of rfl) ?_
      refine r_istore (ls' := [some (vR (some (7, 0))), some (vI x1), some (vI x2), some (vR (some (34, k3))), some (vI (M.1 45 0 ((x1 * 8) + x2).toNat)), some (vI 0), none]) 31 dX10_nextOf_29 rfl rfl rfl rfl ?_
      exact h
    · have h := h.2 (c)
      refine r_iconst 27 dX10_nextOf_26 rfl (InR_of rfl) ?_
      exact r_iret dX10_nextOf_27 rfl (.inl rfl) h.1 h.2
set_option maxRecDepth 4000 in
theorem xX10_nextOf_31 {l : Launch} {G : Gt} {d : Nat} {M M' : Mem} {r : Option Vl} {x1 : Int} {x2 : Int} {k3 : Nat} {x4 : Int} {x5 : Int} (hS : Sh M.2.1) (h : 
    (8 ≤ x5 → r = some (vI (-1)) ∧ M' = M) ∧ (¬ (8 ≤ x5) → (InR (x1 * 8) ∧ InR ((x1 * 8) + x5) ∧ (0 ≤ ((x1 * 8) + x5) ∧ ((x1 * 8) + x5) < 64)) ∧ (((M.1 34 k3 ((x1 * 8) + x5).toNat) = 0 → (InR (x5 + 1)) ∧ Ex l G d mX10_nextOf 31 [some (vR (some (7, 0))), some (vI x1), some (vI x2), some (vR (some (34, k3))), some (vI x4), some (vI (x5 + 1)), none] [] M r M') ∧ (¬ ((M.1 34 k3 ((x1 * 8) + x5).toNat) = 0) → (InR (x5 * 8) ∧ InR ((x5 * 8) + x2) ∧ (0 ≤ ((x5 * 8) + x2) ∧ ((x5 * 8) + x2) < 64) ∧ InR ((M.1 34 k3 ((x1 * 8) + x5).toNat) + (M.1 45 0 ((x5 * 8) + x2).toNat))) ∧ ((¬ ((M.1 34 k3 ((x1 * 8) + x5).toNat) + (M.1 45 0 ((x5 * 8) + x2).toNat)) = x4 → (InR (x5 + 1)) ∧ Ex l G d mX10_nextOf 31 [some (vR (some (7, 0))), some (vI x1), some (vI x2), some (vR (some (34, k3))), some (vI x4), some (vI (x5 + 1)), none] [] M r M') ∧ (¬ (¬ ((M.1 34 k3 ((x1 * 8) + x5).toNat) + (M.1 45 0 ((x5 * 8) + x2).toNat)) = x4) → r = some (vI x5) ∧ M' = M)))))) : Ex l G d mX10_nextOf 31 [some (vR (some (7, 0))), some (vI x1), some (vI x2), some (vR (some (34, k3))), some (vI x4), some (vI x5), none] [] M r M' := by
  refine r_iload 33 dX10_nextOf_31 rfl rfl ?_
  refine r_bipush 35 dX10_nextOf_33 rfl rfl ?_
  refine r_icmp_ge 38 83 dX10_nextOf_35 rfl rfl (fun c => ?_) (fun c => ?_)
  · have h := h.1 (c)
    refine r_iconst 84 dX10_nextOf_83 rfl (InR_of rfl) ?_
    exact r_iret dX10_nextOf_84 rfl (.inl rfl) h.1 h.2
  · have h := h.2 (c)
    obtain ⟨⟨o_1, o_2, o_3⟩, h⟩ := h
    refine r_aload_n 39 dX10_nextOf_38 rfl rfl ?_
    refine r_iload_n 40 dX10_nextOf_39 rfl rfl ?_
    refine r_bipush 42 dX10_nextOf_40 rfl rfl ?_
    refine r_imul 43 dX10_nextOf_42 rfl o_1 ?_
    refine r_iload 45 dX10_nextOf_43 rfl rfl ?_
    refine r_iadd 46 dX10_nextOf_45 rfl o_2 ?_
    refine a_I 64 47 dX10_nextOf_46 rfl rfl rfl rfl o_3 rfl ?_
    refine r_istore (ls' := [some (vR (some (7, 0))), some (vI x1), some (vI x2), some (vR (some (34, k3))), some (vI x4), some (vI x5), some (vI (M.1 34 k3 ((x1 * 8) + x5).toNat))]) 49 dX10_nextOf_47 rfl rfl rfl rfl ?_
    refine r_iload 51 dX10_nextOf_49 rfl rfl ?_
    refine r_if_eq 54 77 dX10_nextOf_51 rfl rfl (fun c => ?_) (fun c => ?_)
    · have h := h.1 (c)
      obtain ⟨o_4, h⟩ := h
      refine r_iinc (ls' := [some (vR (some (7, 0))), some (vI x1), some (vI x2), some (vR (some (34, k3))), some (vI x4), some (vI (x5 + 1)), some (vI (M.1 34 k3 ((x1 * 8) + x5).toNat))]) 80 dX10_nextOf_77 rfl rfl rfl rfl o_4 rfl ?_
      refine r_goto 31 dX10_nextOf_80 rfl ?_
      exact Ex.weak h ⟨rfl, rfl, rfl, rfl, rfl, rfl, trivial⟩
    · have h := h.2 (c)
      obtain ⟨⟨o_5, o_6, o_7, o_8⟩, h⟩ := h
      refine r_iload 56 dX10_nextOf_54 rfl rfl ?_
      refine r_aload_n 57 dX10_nextOf_56 rfl rfl ?_
      refine g_R 60 dX10_nextOf_57 rfl rfl rfl fr_10_9 (sh_10_0 hS) ?_
      refine r_iload 62 dX10_nextOf_60 rfl rfl ?_
      refine r_bipush 64 dX10_nextOf_62 rfl rfl ?_
      refine r_imul 65 dX10_nextOf_64 rfl o_5 ?_
      refine r_iload_n 66 dX10_nextOf_65 rfl rfl ?_
      refine r_iadd 67 dX10_nextOf_66 rfl o_6 ?_
      refine a_I 64 68 dX10_nextOf_67 rfl rfl rfl rfl o_7 rfl ?_
      refine r_iadd 69 dX10_nextOf_68 rfl o_8 ?_
      refine r_iload 71 dX10_nextOf_69 rfl rfl ?_
      refine r_icmp_ne 74 77 dX10_nextOf_71 rfl rfl (fun c => ?_) (fun c => ?_)
      · have h := h.1 (c)
        obtain ⟨o_9, h⟩ := h
        refine r_iinc (ls' := [some (vR (some (7, 0))), some (vI x1), some (vI x2), some (vR (some (34, k3))), some (vI x4), some (vI (x5 + 1)), some (vI (M.1 34 k3 ((x1 * 8) + x5).toNat))]) 80 dX10_nextOf_77 rfl rfl rfl rfl o_9 rfl ?_
        refine r_goto 31 dX10_nextOf_80 rfl ?_
        exact Ex.weak h ⟨rfl, rfl, rfl, rfl, rfl, rfl, trivial⟩
      · have h := h.2 (c)
        refine r_iload 76 dX10_nextOf_74 rfl rfl ?_
        exact r_iret dX10_nextOf_76 rfl (.inl rfl) h.1 h.2

set_option maxRecDepth 4000 in
theorem xX11_init_0 {l : Launch} {G : Gt} {d : Nat} {M M' : Mem} {r : Option Vl}  (h : 
    (∀ M_1 : Mem, newM M 4 0 13 = M_1 → ∃ (M_2 : Mem), Cl l G d mX8_init [vR (some (4, cCnt M.2.2 4))] M_1 none M_2 ∧ (∀ M_4 : Mem, newM (M_2.1, (upR M_2.2.1 2 0 0 (some (4, cCnt M.2.2 4))), M_2.2.2) 6 0 3 = M_4 → ∃ (M_5 : Mem), Cl l G d mX6_init [vR (some (6, cCnt M_2.2.2 6)), vR (some (4, cCnt M.2.2 4))] M_4 none M_5 ∧ (∀ M_7 : Mem, newM (M_5.1, (upR M_5.2.1 2 0 1 (some (6, cCnt M_2.2.2 6))), M_5.2.2) 7 0 2 = M_7 → ∃ (M_8 : Mem), Cl l G d mX10_init [vR (some (7, cCnt M_5.2.2 7))] M_7 none M_8 ∧ (∀ M_10 : Mem, newM (M_8.1, (upR M_8.2.1 2 0 2 (some (7, cCnt M_5.2.2 7))), M_8.2.2) 8 0 4 = M_10 → ∃ (M_11 : Mem), Cl l G d mX3_init [vR (some (8, cCnt M_8.2.2 8))] M_10 none M_11 ∧ (∀ M_13 : Mem, newM (M_11.1, (upR M_11.2.1 2 0 3 (some (8, cCnt M_8.2.2 8))), M_11.2.2) 9 0 13 = M_13 → ∃ (M_14 : Mem), Cl l G d mX0_init [vR (some (9, cCnt M_11.2.2 9)), vR (M_11.2.1 2 0 0), vR (M_11.2.1 2 0 1), vR (M_11.2.1 2 0 2), vR (some (8, cCnt M_8.2.2 8))] M_13 none M_14 ∧ (∀ M_16 : Mem, newM (M_14.1, (upR M_14.2.1 2 0 4 (some (9, cCnt M_11.2.2 9))), M_14.2.2) 10 0 5 = M_16 → ∃ (M_17 : Mem), Cl l G d mX9_init [vR (some (10, cCnt M_14.2.2 10))] M_16 none M_17 ∧ (∀ M_19 : Mem, newM (M_17.1, (upR M_17.2.1 2 0 5 (some (10, cCnt M_14.2.2 10))), M_17.2.2) 11 0 8 = M_19 → ∃ (M_20 : Mem), Cl l G d mX4_init [vR (some (11, cCnt M_17.2.2 11))] M_19 none M_20 ∧ (∀ M_22 : Mem, newM (M_20.1, (upR M_20.2.1 2 0 6 (some (11, cCnt M_17.2.2 11))), M_20.2.2) 12 0 10 = M_22 → ∃ (M_23 : Mem), Cl l G d mX2_init [vR (some (12, cCnt M_20.2.2 12))] M_22 none M_23 ∧ (∀ M_25 : Mem, newM (M_23.1, (upR M_23.2.1 2 0 7 (some (12, cCnt M_20.2.2 12))), M_23.2.2) 5 0 12 = M_25 → ∃ (M_26 : Mem), Cl l G d mX5_init [vR (some (5, cCnt M_23.2.2 5))] M_25 none M_26 ∧ (∀ M_28 : Mem, newM (M_26.1, (upR M_26.2.1 2 0 8 (some (5, cCnt M_23.2.2 5))), M_26.2.2) 15 8 8 = M_28 → (∀ M_29 : Mem, newM (M_28.1, (upR M_28.2.1 2 0 9 (some (15, cCnt M_26.2.2 15))), M_28.2.2) 16 400 400 = M_29 → (∀ M_30 : Mem, newM (M_29.1, (upR M_29.2.1 2 0 11 (some (16, cCnt M_28.2.2 16))), M_29.2.2) 17 4 4 = M_30 → r = none ∧ M' = (M_30.1, (upR M_30.2.1 2 0 13 (some (17, cCnt M_29.2.2 17))), M_30.2.2)))))))))))))) : Cl l G (d + 1) mX11_init [vR (some (2, 0))] M r M' := by
  show Ex l G (d + 1) mX11_init 0 [some (vR (some (2, 0)))] [] M r M'
  refine r_aload_n 1 dX11_init_0 rfl rfl ?_
  refine r_objInit 4 dX11_init_1 rfl rfl ⟨(inT1 (List.mem_of_getElem? (i := 27) rfl) rfl), (inT1 (List.mem_of_getElem? (i := 28) rfl) rfl), (inT1 (List.mem_of_getElem? (i := 29) rfl) rfl)⟩ rfl ?_
  refine r_aload_n 5 dX11_init_4 rfl rfl ?_
  refine r_new (f := 4) (ci := 8) (C := (RX8, TX8, 13)) 8 dX11_init_5 rfl rfl rfl rfl (inT1 (List.mem_of_getElem? (i := 30) rfl) rfl) (inT1 (List.mem_of_getElem? (i := 31) rfl) rfl) wi_8 ?_
  generalize hM_1 : newM M 4 0 13 = M_1
  have h := h M_1 hM_1
  refine r_dup 9 dX11_init_8 rfl rfl ?_
  obtain ⟨M_2, hc_3, h⟩ := h
  refine r_callI [] [vR (some (4, cCnt M.2.2 4)), vR (some (2, 0))] 12 dX11_init_9 rfl rfl rfl mo_X8_init ⟨rfl, rfl⟩ ml_11_11 rfl rfl hc_3 ?_
  refine p_R 15 dX11_init_12 rfl rfl rfl rfl pf_11_12 (.inr rfl) rfl ?_
  refine r_aload_n 16 dX11_init_15 rfl rfl ?_
  refine r_new (f := 6) (ci := 6) (C := (RX6, TX6, 3)) 19 dX11_init_16 rfl rfl rfl rfl (inT1 (List.mem_of_getElem? (i := 167) rfl) rfl) (inT1 (List.mem_of_getElem? (i := 168) rfl) rfl) wi_6 ?_
  generalize hM_4 : newM (M_2.1, (upR M_2.2.1 2 0 0 (some (4, cCnt M.2.2 4))), M_2.2.2) 6 0 3 = M_4
  have h := h M_4 hM_4
  refine r_dup 20 dX11_init_19 rfl rfl ?_
  refine r_aload_n 21 dX11_init_20 rfl rfl ?_
  refine g_R 24 dX11_init_21 rfl rfl rfl fr_11_12 ((newM_R hM_4 rfl).trans ((mR_0 (upR_s)))) ?_
  obtain ⟨M_5, hc_6, h⟩ := h
  refine r_callI [vR (some (4, cCnt M.2.2 4))] [vR (some (6, cCnt M_2.2.2 6)), vR (some (2, 0))] 27 dX11_init_24 rfl rfl rfl mo_X6_init ⟨rfl, rfl⟩ ml_11_18 rfl rfl hc_6 ?_
  refine p_R 30 dX11_init_27 rfl rfl rfl rfl pf_11_21 (.inr rfl) rfl ?_
  refine r_aload_n 31 dX11_init_30 rfl rfl ?_
  refine r_new (f := 7) (ci := 10) (C := (RX10, TX10, 2)) 34 dX11_init_31 rfl rfl rfl rfl (inT1 (List.mem_of_getElem? (i := 185) rfl) rfl) (inT1 (List.mem_of_getElem? (i := 186) rfl) rfl) wi_10 ?_
  generalize hM_7 : newM (M_5.1, (upR M_5.2.1 2 0 1 (some (6, cCnt M_2.2.2 6))), M_5.2.2) 7 0 2 = M_7
  have h := h M_7 hM_7
  refine r_dup 35 dX11_init_34 rfl rfl ?_
  obtain ⟨M_8, hc_9, h⟩ := h
  refine r_callI [] [vR (some (7, cCnt M_5.2.2 7)), vR (some (2, 0))] 38 dX11_init_35 rfl rfl rfl mo_X10_init ⟨rfl, rfl⟩ ml_11_27 rfl rfl hc_9 ?_
  refine p_R 41 dX11_init_38 rfl rfl rfl rfl pf_11_28 (.inr rfl) rfl ?_
  refine r_aload_n 42 dX11_init_41 rfl rfl ?_
  refine r_new (f := 8) (ci := 3) (C := (RX3, TX3, 4)) 45 dX11_init_42 rfl rfl rfl rfl (inT1 (List.mem_of_getElem? (i := 201) rfl) rfl) (inT1 (List.mem_of_getElem? (i := 202) rfl) rfl) wi_3 ?_
  generalize hM_10 : newM (M_8.1, (upR M_8.2.1 2 0 2 (some (7, cCnt M_5.2.2 7))), M_8.2.2) 8 0 4 = M_10
  have h := h M_10 hM_10
  refine r_dup 46 dX11_init_45 rfl rfl ?_
  obtain ⟨M_11, hc_12, h⟩ := h
  refine r_callIN [] [vR (some (8, cCnt M_8.2.2 8)), vR (some (2, 0))] 49 dX11_init_46 rfl rfl rfl mo_X3_init ⟨rfl, rfl⟩ ml_11_34 rfl rfl hc_12 ?_
  refine p_R 52 dX11_init_49 rfl rfl rfl rfl pf_11_35 (.inr rfl) rfl ?_
  refine r_aload_n 53 dX11_init_52 rfl rfl ?_
  refine r_new (f := 9) (ci := 0) (C := (RX0, TX0, 13)) 56 dX11_init_53 rfl rfl rfl rfl (inT1 (List.mem_of_getElem? (i := 220) rfl) rfl) (inT1 (List.mem_of_getElem? (i := 221) rfl) rfl) wi_0 ?_
  generalize hM_13 : newM (M_11.1, (upR M_11.2.1 2 0 3 (some (8, cCnt M_8.2.2 8))), M_11.2.2) 9 0 13 = M_13
  have h := h M_13 hM_13
  refine r_dup 57 dX11_init_56 rfl rfl ?_
  refine r_aload_n 58 dX11_init_57 rfl rfl ?_
  refine g_R 61 dX11_init_58 rfl rfl rfl fr_11_12 ((newM_R hM_13 rfl).trans ((mR_0 (upR_i (by decide))))) ?_
  refine r_aload_n 62 dX11_init_61 rfl rfl ?_
  refine g_R 65 dX11_init_62 rfl rfl rfl fr_11_21 ((newM_R hM_13 rfl).trans ((mR_0 (upR_i (by decide))))) ?_
  refine r_aload_n 66 dX11_init_65 rfl rfl ?_
  refine g_R 69 dX11_init_66 rfl rfl rfl fr_11_28 ((newM_R hM_13 rfl).trans ((mR_0 (upR_i (by decide))))) ?_
  refine r_aload_n 70 dX11_init_69 rfl rfl ?_
  refine g_R 73 dX11_init_70 rfl rfl rfl fr_11_35 ((newM_R hM_13 rfl).trans ((mR_0 (upR_s)))) ?_
  obtain ⟨M_14, hc_15, h⟩ := h
  refine r_callI [vR (M_11.2.1 2 0 0), vR (M_11.2.1 2 0 1), vR (M_11.2.1 2 0 2), vR (some (8, cCnt M_8.2.2 8))] [vR (some (9, cCnt M_11.2.2 9)), vR (some (2, 0))] 76 dX11_init_73 rfl rfl rfl mo_X0_init ⟨rfl, rfl⟩ ml_11_41 rfl rfl hc_15 ?_
  refine p_R 79 dX11_init_76 rfl rfl rfl rfl pf_11_44 (.inr rfl) rfl ?_
  refine r_aload_n 80 dX11_init_79 rfl rfl ?_
  refine r_new (f := 10) (ci := 9) (C := (RX9, TX9, 5)) 83 dX11_init_80 rfl rfl rfl rfl (inT2 (List.mem_of_getElem? (i := 33) rfl) rfl) (inT2 (List.mem_of_getElem? (i := 34) rfl) rfl) wi_9 ?_
  generalize hM_16 : newM (M_14.1, (upR M_14.2.1 2 0 4 (some (9, cCnt M_11.2.2 9))), M_14.2.2) 10 0 5 = M_16
  have h := h M_16 hM_16
  refine r_dup 84 dX11_init_83 rfl rfl ?_
  obtain ⟨M_17, hc_18, h⟩ := h
  refine r_callIN [] [vR (some (10, cCnt M_14.2.2 10)), vR (some (2, 0))] 87 dX11_init_84 rfl rfl rfl mo_X9_init ⟨rfl, rfl⟩ ml_11_50 rfl rfl hc_18 ?_
  refine p_R 90 dX11_init_87 rfl rfl rfl rfl pf_11_51 (.inr rfl) rfl ?_
  refine r_aload_n 91 dX11_init_90 rfl rfl ?_
  refine r_new (f := 11) (ci := 4) (C := (RX4, TX4, 8)) 94 dX11_init_91 rfl rfl rfl rfl (inT2 (List.mem_of_getElem? (i := 55) rfl) rfl) (inT2 (List.mem_of_getElem? (i := 56) rfl) rfl) wi_4 ?_
  generalize hM_19 : newM (M_17.1, (upR M_17.2.1 2 0 5 (some (10, cCnt M_14.2.2 10))), M_17.2.2) 11 0 8 = M_19
  have h := h M_19 hM_19
  refine r_dup 95 dX11_init_94 rfl rfl ?_
  obtain ⟨M_20, hc_21, h⟩ := h
  refine r_callIN [] [vR (some (11, cCnt M_17.2.2 11)), vR (some (2, 0))] 98 dX11_init_95 rfl rfl rfl mo_X4_init ⟨rfl, rfl⟩ ml_11_57 rfl rfl hc_21 ?_
  refine p_R 101 dX11_init_98 rfl rfl rfl rfl pf_11_58 (.inr rfl) rfl ?_
  refine r_aload_n 102 dX11_init_101 rfl rfl ?_
  refine r_new (f := 12) (ci := 2) (C := (RX2, TX2, 10)) 105 dX11_init_102 rfl rfl rfl rfl (inT2 (List.mem_of_getElem? (i := 91) rfl) rfl) (inT2 (List.mem_of_getElem? (i := 92) rfl) rfl) wi_2 ?_
  generalize hM_22 : newM (M_20.1, (upR M_20.2.1 2 0 6 (some (11, cCnt M_17.2.2 11))), M_20.2.2) 12 0 10 = M_22
  have h := h M_22 hM_22
  refine r_dup 106 dX11_init_105 rfl rfl ?_
  obtain ⟨M_23, hc_24, h⟩ := h
  refine r_callIN [] [vR (some (12, cCnt M_20.2.2 12)), vR (some (2, 0))] 109 dX11_init_106 rfl rfl rfl mo_X2_init ⟨rfl, rfl⟩ ml_11_64 rfl rfl hc_24 ?_
  refine p_R 112 dX11_init_109 rfl rfl rfl rfl pf_11_65 (.inr rfl) rfl ?_
  refine r_aload_n 113 dX11_init_112 rfl rfl ?_
  refine r_new (f := 5) (ci := 5) (C := (RX5, TX5, 12)) 116 dX11_init_113 rfl rfl rfl rfl (inT2 (List.mem_of_getElem? (i := 128) rfl) rfl) (inT1 (List.mem_of_getElem? (i := 41) rfl) rfl) wi_5 ?_
  generalize hM_25 : newM (M_23.1, (upR M_23.2.1 2 0 7 (some (12, cCnt M_20.2.2 12))), M_23.2.2) 5 0 12 = M_25
  have h := h M_25 hM_25
  refine r_dup 117 dX11_init_116 rfl rfl ?_
  obtain ⟨M_26, hc_27, h⟩ := h
  refine r_callIN [] [vR (some (5, cCnt M_23.2.2 5)), vR (some (2, 0))] 120 dX11_init_117 rfl rfl rfl mo_X5_init ⟨rfl, rfl⟩ ml_11_71 rfl rfl hc_27 ?_
  refine p_R 123 dX11_init_120 rfl rfl rfl rfl pf_11_72 (.inr rfl) rfl ?_
  refine r_aload_n 124 dX11_init_123 rfl rfl ?_
  refine r_bipush 126 dX11_init_124 rfl rfl ?_
  refine r_anewa (f := 15) (ci := 1) (C := (RX1, TX1, 4)) (n := 8) 129 dX11_init_126 rfl rfl rfl (by decide) rfl (inT2 (List.mem_of_getElem? (i := 130) rfl) rfl) (inT2 (List.mem_of_getElem? (i := 131) rfl) rfl) rfl (by decide) (.inl rfl) ?_
  generalize hM_28 : newM (M_26.1, (upR M_26.2.1 2 0 8 (some (5, cCnt M_23.2.2 5))), M_26.2.2) 15 8 8 = M_28
  have h := h M_28 hM_28
  refine p_R 132 dX11_init_129 rfl rfl rfl rfl pf_11_78 (.inr rfl) rfl ?_
  refine r_aload_n 133 dX11_init_132 rfl rfl ?_
  refine r_sipush 136 dX11_init_133 rfl rfl ?_
  refine r_newa (f := 16) (k := 1) (n := 400) 138 dX11_init_136 rfl rfl rfl (by decide) (inT1 (List.mem_of_getElem? (i := 104) rfl) rfl) rfl (by decide) (.inl rfl) ?_
  generalize hM_29 : newM (M_28.1, (upR M_28.2.1 2 0 9 (some (15, cCnt M_26.2.2 15))), M_28.2.2) 16 400 400 = M_29
  have h := h M_29 hM_29
  refine p_R 141 dX11_init_138 rfl rfl rfl rfl pf_11_82 (.inr rfl) rfl ?_
  refine r_aload_n 142 dX11_init_141 rfl rfl ?_
  refine r_iconst 143 dX11_init_142 rfl (InR_of rfl) ?_
  refine r_anewa (f := 17) (ci := 8) (C := (RX8, TX8, 13)) (n := 4) 146 dX11_init_143 rfl rfl rfl (by decide) rfl (inT1 (List.mem_of_getElem? (i := 30) rfl) rfl) (inT2 (List.mem_of_getElem? (i := 132) rfl) rfl) rfl (by decide) (.inl rfl) ?_
  generalize hM_30 : newM (M_29.1, (upR M_29.2.1 2 0 11 (some (16, cCnt M_28.2.2 16))), M_29.2.2) 17 4 4 = M_30
  have h := h M_30 hM_30
  refine p_R 149 dX11_init_146 rfl rfl rfl rfl pf_11_86 (.inr rfl) rfl ?_
  exact r_vret dX11_init_149 rfl h.1 h.2

set_option maxRecDepth 4000 in
theorem xX11_road_0 {l : Launch} {G : Gt} {d : Nat} {M M' : Mem} {r : Option Vl} {x1 : Int} {x2 : Int} {x3 : Int} (h : 
    ∃ (r_3 : Int) (M_1 : Mem), Cl l G d mX11_isPlace [vI x1] M (some (vI r_3)) M_1 ∧ ((r_3 = 0 → r = some (vI (-1)) ∧ M' = M_1) ∧ (¬ (r_3 = 0) → ∃ (r_6 : Int) (M_4 : Mem), Cl l G d mX11_isPlace [vI x2] M_1 (some (vI r_6)) M_4 ∧ Sh M_4.2.1 ∧ ((r_6 = 0 → r = some (vI (-1)) ∧ M' = M_4) ∧ (¬ (r_6 = 0) → (x1 = x2 → r = some (vI (-1)) ∧ M' = M_4) ∧ (¬ (x1 = x2) → (x3 < 1 → r = some (vI (-1)) ∧ M' = M_4) ∧ (¬ (x3 < 1) → (x3 ≤ 9 → (16 ≤ (M_4.1 4 0 2) → r = some (vI (-1)) ∧ M' = M_4) ∧ (¬ (16 ≤ (M_4.1 4 0 2)) → (InR (x1 * 8) ∧ InR ((x1 * 8) + x2) ∧ (0 ≤ ((x1 * 8) + x2) ∧ ((x1 * 8) + x2) < 64)) ∧ (((M_4.1 34 0 ((x1 * 8) + x2).toNat) = 0 → (InR (x1 * 8) ∧ InR ((x1 * 8) + x2) ∧ (0 ≤ ((x1 * 8) + x2) ∧ ((x1 * 8) + x2) < 64) ∧ InR (x2 * 8) ∧ InR ((x2 * 8) + x1) ∧ (0 ≤ ((x2 * 8) + x1) ∧ ((x2 * 8) + x1) < 64)) ∧ (∃ (M_16 : Mem), Cl l G d mX10_measure [vR (some (7, 0)), vR (some (34, 0))] ((upI (upI M_4.1 34 0 ((x1 * 8) + x2).toNat x3) 34 0 ((x2 * 8) + x1).toNat x3), M_4.2.1, M_4.2.2) none M_16 ∧ Sh M_16.2.1 ∧ (InR ((M_16.1 4 0 2) + 1)) ∧ r = some (vI (M_16.1 4 0 2)) ∧ M' = ((upI M_16.1 4 0 2 ((M_16.1 4 0 2) + 1)), M_16.2.1, M_16.2.2))) ∧ (¬ ((M_4.1 34 0 ((x1 * 8) + x2).toNat) = 0) → r = some (vI (-1)) ∧ M' = M_4)))) ∧ (¬ (x3 ≤ 9) → r = some (vI (-1)) ∧ M' = M_4)))))))) : Cl l G (d + 1) mX11_road [vR (some (2, 0)), vI x1, vI x2, vI x3] M r M' := by
  show Ex l G (d + 1) mX11_road 0 [some (vR (some (2, 0))), some (vI x1), some (vI x2), some (vI x3)] [] M r M'
  refine r_iload_n 1 dX11_road_0 rfl rfl ?_
  obtain ⟨r_3, M_1, hc_2, h⟩ := h
  refine c_1 [vI x1] [] 4 dX11_road_1 rfl rfl mo_X11_isPlace ml_11_90 rfl rfl hc_2 ?_
  refine r_if_eq 7 30 dX11_road_4 rfl rfl (fun c => ?_) (fun c => ?_)
  · have h := h.1 (c)
    refine r_iconst 31 dX11_road_30 rfl (InR_of rfl) ?_
    exact r_iret dX11_road_31 rfl (.inl rfl) h.1 h.2
  · have h := h.2 (c)
    refine r_iload_n 8 dX11_road_7 rfl rfl ?_
    obtain ⟨r_6, M_4, hc_5, hS, h⟩ := h
    refine c_1 [vI x2] [] 11 dX11_road_8 rfl rfl mo_X11_isPlace ml_11_90 rfl rfl hc_5 ?_
    refine r_if_eq 14 30 dX11_road_11 rfl rfl (fun c => ?_) (fun c => ?_)
    · have h := h.1 (c)
      refine r_iconst 31 dX11_road_30 rfl (InR_of rfl) ?_
      exact r_iret dX11_road_31 rfl (.inl rfl) h.1 h.2
    · have h := h.2 (c)
      refine r_iload_n 15 dX11_road_14 rfl rfl ?_
      refine r_iload_n 16 dX11_road_15 rfl rfl ?_
      refine r_icmp_eq 19 30 dX11_road_16 rfl rfl (fun c => ?_) (fun c => ?_)
      · have h := h.1 (c)
        refine r_iconst 31 dX11_road_30 rfl (InR_of rfl) ?_
        exact r_iret dX11_road_31 rfl (.inl rfl) h.1 h.2
      · have h := h.2 (c)
        refine r_iload_n 20 dX11_road_19 rfl rfl ?_
        refine r_iconst 21 dX11_road_20 rfl (InR_of rfl) ?_
        refine r_icmp_lt 24 30 dX11_road_21 rfl rfl (fun c => ?_) (fun c => ?_)
        · have h := h.1 (c)
          refine r_iconst 31 dX11_road_30 rfl (InR_of rfl) ?_
          exact r_iret dX11_road_31 rfl (.inl rfl) h.1 h.2
        · have h := h.2 (c)
          refine r_iload_n 25 dX11_road_24 rfl rfl ?_
          refine r_bipush 27 dX11_road_25 rfl rfl ?_
          refine r_icmp_le 30 32 dX11_road_27 rfl rfl (fun c => ?_) (fun c => ?_)
          · have h := h.1 (c)
            refine r_aload_n 33 dX11_road_32 rfl rfl ?_
            refine g_R 36 dX11_road_33 rfl rfl rfl fr_11_12 (sh_11_0 hS) ?_
            refine g_I 39 dX11_road_36 rfl rfl rfl fi_11_94 rfl ?_
            refine r_bipush 41 dX11_road_39 rfl rfl ?_
            refine r_icmp_ge 44 61 dX11_road_41 rfl rfl (fun c => ?_) (fun c => ?_)
            · have h := h.1 (c)
              refine r_iconst 62 dX11_road_61 rfl (InR_of rfl) ?_
              exact r_iret dX11_road_62 rfl (.inl rfl) h.1 h.2
            · have h := h.2 (c)
              obtain ⟨⟨o_7, o_8, o_9⟩, h⟩ := h
              refine r_aload_n 45 dX11_road_44 rfl rfl ?_
              refine g_R 48 dX11_road_45 rfl rfl rfl fr_11_12 (sh_11_0 hS) ?_
              refine g_R 51 dX11_road_48 rfl rfl rfl fr_11_98 (sh_8_3 hS _) ?_
              refine r_iload_n 52 dX11_road_51 rfl rfl ?_
              refine r_bipush 54 dX11_road_52 rfl rfl ?_
              refine r_imul 55 dX11_road_54 rfl o_7 ?_
              refine r_iload_n 56 dX11_road_55 rfl rfl ?_
              refine r_iadd 57 dX11_road_56 rfl o_8 ?_
              refine a_I 64 58 dX11_road_57 rfl rfl rfl rfl o_9 rfl ?_
              refine r_if_eq 61 63 dX11_road_58 rfl rfl (fun c => ?_) (fun c => ?_)
              · have h := h.1 (c)
                obtain ⟨⟨o_10, o_11, o_12, o_13, o_14, o_15⟩, h⟩ := h
                refine r_aload_n 64 dX11_road_63 rfl rfl ?_
                refine g_R 67 dX11_road_64 rfl rfl rfl fr_11_12 (sh_11_0 hS) ?_
                refine g_R 70 dX11_road_67 rfl rfl rfl fr_11_98 (sh_8_3 hS _) ?_
                refine r_iload_n 71 dX11_road_70 rfl rfl ?_
                refine r_bipush 73 dX11_road_71 rfl rfl ?_
                refine r_imul 74 dX11_road_73 rfl o_10 ?_
                refine r_iload_n 75 dX11_road_74 rfl rfl ?_
                refine r_iadd 76 dX11_road_75 rfl o_11 ?_
                refine r_iload_n 77 dX11_road_76 rfl rfl ?_
                refine s_I 64 78 dX11_road_77 rfl rfl (by decide) rfl rfl o_12 ?_
                refine r_aload_n 79 dX11_road_78 rfl rfl ?_
                refine g_R 82 dX11_road_79 rfl rfl rfl fr_11_12 (mR_0 (sh_11_0 hS)) ?_
                refine g_R 85 dX11_road_82 rfl rfl rfl fr_11_98 (mR_0 (sh_8_3 hS _)) ?_
                refine r_iload_n 86 dX11_road_85 rfl rfl ?_
                refine r_bipush 88 dX11_road_86 rfl rfl ?_
                refine r_imul 89 dX11_road_88 rfl o_13 ?_
                refine r_iload_n 90 dX11_road_89 rfl rfl ?_
                refine r_iadd 91 dX11_road_90 rfl o_14 ?_
                refine r_iload_n 92 dX11_road_91 rfl rfl ?_
                refine s_I 64 93 dX11_road_92 rfl rfl (by decide) rfl rfl o_15 ?_
                refine r_aload_n 94 dX11_road_93 rfl rfl ?_
                refine g_R 97 dX11_road_94 rfl rfl rfl fr_11_28 (mR_0 (sh_11_2 hS)) ?_
                refine r_aload_n 98 dX11_road_97 rfl rfl ?_
                refine g_R 101 dX11_road_98 rfl rfl rfl fr_11_12 (mR_0 (sh_11_0 hS)) ?_
                refine g_R 104 dX11_road_101 rfl rfl rfl fr_11_98 (mR_0 (sh_8_3 hS _)) ?_
                obtain ⟨M_16, hc_17, hS, h⟩ := h
                refine v_0 (ci := 10) (C := (RX10, TX10, 2)) [vR (some (34, 0))] [] 107 dX11_road_104 rfl rfl rfl rfl rfl mo_X10_measure ml_11_101 rfl rfl hc_17 ?_
                obtain ⟨o_18, h⟩ := h
                refine r_aload_n 108 dX11_road_107 rfl rfl ?_
                refine g_R 111 dX11_road_108 rfl rfl rfl fr_11_12 (sh_11_0 hS) ?_
                refine r_dup 112 dX11_road_111 rfl rfl ?_
                refine g_I 115 dX11_road_112 rfl rfl rfl fi_11_94 rfl ?_
                refine r_dup_x1 116 dX11_road_115 rfl rfl ?_
                refine r_iconst 117 dX11_road_116 rfl (InR_of rfl) ?_
                refine r_iadd 118 dX11_road_117 rfl o_18 ?_
                refine p_I 121 dX11_road_118 rfl rfl rfl rfl pf_11_94 (.inl rfl) rfl ?_
                exact r_iret dX11_road_121 rfl (.inl rfl) h.1 h.2
              · have h := h.2 (c)
                refine r_iconst 62 dX11_road_61 rfl (InR_of rfl) ?_
                exact r_iret dX11_road_62 rfl (.inl rfl) h.1 h.2
          · have h := h.2 (c)
            refine r_iconst 31 dX11_road_30 rfl (InR_of rfl) ?_
            exact r_iret dX11_road_31 rfl (.inl rfl) h.1 h.2

set_option maxRecDepth 4000 in
theorem xX11_person_0 {l : Launch} {G : Gt} {d : Nat} {M M' : Mem} {r : Option Vl} {x1 : Int} (hS : Sh M.2.1) (h : 
    (12 ≤ (M.1 4 0 0) → r = some (vI (-1)) ∧ M' = M) ∧ (¬ (12 ≤ (M.1 4 0 0)) → ∃ (r_3 : Int) (M_1 : Mem), Cl l G d mX11_isPlace [vI x1] M (some (vI r_3)) M_1 ∧ Sh M_1.2.1 ∧ ((¬ r_3 = 0 → ((0 ≤ (M_1.1 4 0 0) ∧ (M_1.1 4 0 0) < 12)) ∧ (∃ (M_5 : Mem), Cl l G d mX11_forgetFacts [vR (some (2, 0)), vI (-1)] ((upI M_1.1 33 0 (M_1.1 4 0 0).toNat x1), M_1.2.1, M_1.2.2) none M_5 ∧ Sh M_5.2.1 ∧ (InR ((M_5.1 4 0 0) + 1)) ∧ r = some (vI (M_5.1 4 0 0)) ∧ M' = ((upI M_5.1 4 0 0 ((M_5.1 4 0 0) + 1)), M_5.2.1, M_5.2.2))) ∧ (¬ (¬ r_3 = 0) → r = some (vI (-1)) ∧ M' = M_1)))) : Cl l G (d + 1) mX11_person [vR (some (2, 0)), vI x1] M r M' := by
  show Ex l G (d + 1) mX11_person 0 [some (vR (some (2, 0))), some (vI x1)] [] M r M'
  refine r_aload_n 1 dX11_person_0 rfl rfl ?_
  refine g_R 4 dX11_person_1 rfl rfl rfl fr_11_12 (sh_11_0 hS) ?_
  refine g_I 7 dX11_person_4 rfl rfl rfl fi_11_105 rfl ?_
  refine r_bipush 9 dX11_person_7 rfl rfl ?_
  refine r_icmp_ge 12 19 dX11_person_9 rfl rfl (fun c => ?_) (fun c => ?_)
  · have h := h.1 (c)
    refine r_iconst 20 dX11_person_19 rfl (InR_of rfl) ?_
    exact r_iret dX11_person_20 rfl (.inl rfl) h.1 h.2
  · have h := h.2 (c)
    refine r_iload_n 13 dX11_person_12 rfl rfl ?_
    obtain ⟨r_3, M_1, hc_2, hS, h⟩ := h
    refine c_1 [vI x1] [] 16 dX11_person_13 rfl rfl mo_X11_isPlace ml_11_90 rfl rfl hc_2 ?_
    refine r_if_ne 19 21 dX11_person_16 rfl rfl (fun c => ?_) (fun c => ?_)
    · have h := h.1 (c)
      obtain ⟨o_4, h⟩ := h
      refine r_aload_n 22 dX11_person_21 rfl rfl ?_
      refine g_R 25 dX11_person_22 rfl rfl rfl fr_11_12 (sh_11_0 hS) ?_
      refine g_R 28 dX11_person_25 rfl rfl rfl fr_11_108 (sh_8_1 hS _) ?_
      refine r_aload_n 29 dX11_person_28 rfl rfl ?_
      refine g_R 32 dX11_person_29 rfl rfl rfl fr_11_12 (sh_11_0 hS) ?_
      refine g_I 35 dX11_person_32 rfl rfl rfl fi_11_105 rfl ?_
      refine r_iload_n 36 dX11_person_35 rfl rfl ?_
      refine s_I 12 37 dX11_person_36 rfl rfl (by decide) rfl rfl o_4 ?_
      refine r_aload_n 38 dX11_person_37 rfl rfl ?_
      refine r_iconst 39 dX11_person_38 rfl (InR_of rfl) ?_
      obtain ⟨M_5, hc_6, hS, h⟩ := h
      refine v_0 (ci := 11) (C := (RX11, TX11, 14)) [vI (-1)] [] 42 dX11_person_39 rfl rfl rfl rfl rfl mo_X11_forgetFacts ml_11_111 rfl rfl hc_6 ?_
      obtain ⟨o_7, h⟩ := h
      refine r_aload_n 43 dX11_person_42 rfl rfl ?_
      refine g_R 46 dX11_person_43 rfl rfl rfl fr_11_12 (sh_11_0 hS) ?_
      refine r_dup 47 dX11_person_46 rfl rfl ?_
      refine g_I 50 dX11_person_47 rfl rfl rfl fi_11_105 rfl ?_
      refine r_dup_x1 51 dX11_person_50 rfl rfl ?_
      refine r_iconst 52 dX11_person_51 rfl (InR_of rfl) ?_
      refine r_iadd 53 dX11_person_52 rfl o_7 ?_
      refine p_I 56 dX11_person_53 rfl rfl rfl rfl pf_11_105 (.inl rfl) rfl ?_
      exact r_iret dX11_person_56 rfl (.inl rfl) h.1 h.2
    · have h := h.2 (c)
      refine r_iconst 20 dX11_person_19 rfl (InR_of rfl) ?_
      exact r_iret dX11_person_20 rfl (.inl rfl) h.1 h.2

set_option maxRecDepth 4000 in
theorem xX11_change_0 {l : Launch} {G : Gt} {d : Nat} {M M' : Mem} {r : Option Vl} {x1 : Int} {x2 : Int} {x3 : Int} {x4 : Int} {x5 : Int} {x6 : Int} (hS : Sh M.2.1) (h : 
    (60 ≤ (M.1 4 0 4) → r = some (vI (-1)) ∧ M' = M) ∧ (¬ (60 ≤ (M.1 4 0 4)) → ∃ (r_3 : Int) (M_1 : Mem), Cl l G d mX11_isDay [vI x1] M (some (vI r_3)) M_1 ∧ ((r_3 = 0 → r = some (vI (-1)) ∧ M' = M_1) ∧ (¬ (r_3 = 0) → ∃ (r_6 : Int) (M_4 : Mem), Cl l G d mX11_isPerson [vR (some (2, 0)), vI x3] M_1 (some (vI r_6)) M_4 ∧ Sh M_4.2.1 ∧ ((r_6 = 0 → r = some (vI (-1)) ∧ M' = M_4) ∧ (¬ (r_6 = 0) → (0 ≤ x4 → (¬ x2 = 0 → (¬ x2 = 1 → (¬ (if ¬ x2 = 2 then 0 else (if 8 ≤ x4 then 0 else 1 : Int) : Int) = 0 → ∃ (r_14 : Int) (M_12 : Mem), Cl l G d mX8_addChange [vR (some (4, 0)), vI x1, vI x2, vI x3, vI x4, vI (if ¬ x2 = 1 then 0 else x5 : Int), vI x6] M_4 (some (vI r_14)) M_12 ∧ (∃ (M_15 : Mem), Cl l G d mX11_forgetFacts [vR (some (2, 0)), vI r_14] M_12 none M_15 ∧ Sh M_15.2.1 ∧ r = some (vI (M_15.1 4 0 4)) ∧ M' = M_15)) ∧ (¬ (¬ (if ¬ x2 = 2 then 0 else (if 8 ≤ x4 then 0 else 1 : Int) : Int) = 0) → r = some (vI (-1)) ∧ M' = M_4)) ∧ (¬ (¬ x2 = 1) → (6 ≤ x4 → r = some (vI (-1)) ∧ M' = M_4) ∧ (¬ (6 ≤ x4) → ∃ (r_19 : Int) (M_17 : Mem), Cl l G d mX11_areTwo [vR (some (2, 0)), vI x3, vI x5] M_4 (some (vI r_19)) M_17 ∧ Sh M_17.2.1 ∧ ((¬ (if r_19 = 0 then 0 else 1 : Int) = 0 → ∃ (r_26 : Int) (M_24 : Mem), Cl l G d mX8_addChange [vR (some (4, 0)), vI x1, vI x2, vI x3, vI x4, vI (if ¬ x2 = 1 then 0 else x5 : Int), vI x6] M_17 (some (vI r_26)) M_24 ∧ (∃ (M_27 : Mem), Cl l G d mX11_forgetFacts [vR (some (2, 0)), vI r_26] M_24 none M_27 ∧ Sh M_27.2.1 ∧ r = some (vI (M_27.1 4 0 4)) ∧ M' = M_27)) ∧ (¬ (¬ (if r_19 = 0 then 0 else 1 : Int) = 0) → r = some (vI (-1)) ∧ M' = M_17))))) ∧ (¬ (¬ x2 = 0) → (¬ (if 10 ≤ x4 then 0 else 1 : Int) = 0 → ∃ (r_35 : Int) (M_33 : Mem), Cl l G d mX8_addChange [vR (some (4, 0)), vI x1, vI x2, vI x3, vI x4, vI (if ¬ x2 = 1 then 0 else x5 : Int), vI x6] M_4 (some (vI r_35)) M_33 ∧ (∃ (M_36 : Mem), Cl l G d mX11_forgetFacts [vR (some (2, 0)), vI r_35] M_33 none M_36 ∧ Sh M_36.2.1 ∧ r = some (vI (M_36.1 4 0 4)) ∧ M' = M_36)) ∧ (¬ (¬ (if 10 ≤ x4 then 0 else 1 : Int) = 0) → r = some (vI (-1)) ∧ M' = M_4))) ∧ (¬ (0 ≤ x4) → r = some (vI (-1)) ∧ M' = M_4))))))) : Cl l G (d + 1) mX11_change [vR (some (2, 0)), vI x1, vI x2, vI x3, vI x4, vI x5, vI x6] M r M' := by
  show Ex l G (d + 1) mX11_change 0 [some (vR (some (2, 0))), some (vI x1), some (vI x2), some (vI x3), some (vI x4), some (vI x5), some (vI x6), none] [] M r M'
  refine r_aload_n 1 dX11_change_0 rfl rfl ?_
  refine g_R 4 dX11_change_1 rfl rfl rfl fr_11_12 (sh_11_0 hS) ?_
  refine g_I 7 dX11_change_4 rfl rfl rfl fi_11_115 rfl ?_
  refine r_bipush 9 dX11_change_7 rfl rfl ?_
  refine r_icmp_ge 12 32 dX11_change_9 rfl rfl (fun c => ?_) (fun c => ?_)
  · have h := h.1 (c)
    refine r_iconst 33 dX11_change_32 rfl (InR_of rfl) ?_
    exact r_iret dX11_change_33 rfl (.inl rfl) h.1 h.2
  · have h := h.2 (c)
    refine r_iload_n 13 dX11_change_12 rfl rfl ?_
    obtain ⟨r_3, M_1, hc_2, h⟩ := h
    refine c_1 [vI x1] [] 16 dX11_change_13 rfl rfl mo_X11_isDay ml_11_118 rfl rfl hc_2 ?_
    refine r_if_eq 19 32 dX11_change_16 rfl rfl (fun c => ?_) (fun c => ?_)
    · have h := h.1 (c)
      refine r_iconst 33 dX11_change_32 rfl (InR_of rfl) ?_
      exact r_iret dX11_change_33 rfl (.inl rfl) h.1 h.2
    · have h := h.2 (c)
      refine r_aload_n 20 dX11_change_19 rfl rfl ?_
      refine r_iload_n 21 dX11_change_20 rfl rfl ?_
      obtain ⟨r_6, M_4, hc_5, hS, h⟩ := h
      refine v_1 (ci := 11) (C := (RX11, TX11, 14)) [vI x3] [] 24 dX11_change_21 rfl rfl rfl rfl rfl mo_X11_isPerson ml_11_121 rfl rfl hc_5 ?_
      refine r_if_eq 27 32 dX11_change_24 rfl rfl (fun c => ?_) (fun c => ?_)
      · have h := h.1 (c)
        refine r_iconst 33 dX11_change_32 rfl (InR_of rfl) ?_
        exact r_iret dX11_change_33 rfl (.inl rfl) h.1 h.2
      · have h := h.2 (c)
        refine r_iload 29 dX11_change_27 rfl rfl ?_
        refine r_if_ge 32 34 dX11_change_29 rfl rfl (fun c => ?_) (fun c => ?_)
        · have h := h.1 (c)
          refine r_iload_n 35 dX11_change_34 rfl rfl ?_
          refine r_if_ne 38 55 dX11_change_35 rfl rfl (fun c => ?_) (fun c => ?_)
          · have h := h.1 (c)
            refine r_iload_n 56 dX11_change_55 rfl rfl ?_
            refine r_iconst 57 dX11_change_56 rfl (InR_of rfl) ?_
            refine r_icmp_ne 60 87 dX11_change_57 rfl rfl (fun c => ?_) (fun c => ?_)
            · have h := h.1 (c)
              refine r_iload_n 88 dX11_change_87 rfl rfl ?_
              refine r_iconst 89 dX11_change_88 rfl (InR_of rfl) ?_
              have hJ_7 : Ex l G (d + 1) mX11_change 104 [some (vR (some (2, 0))), some (vI x1), some (vI x2), some (vI x3), some (vI x4), some (vI x5), some (vI x6), none] [vI (if ¬ x2 = 2 then 0 else (if 8 ≤ x4 then 0 else 1 : Int) : Int)] M_4 r M' := by
                refine r_istore (ls' := [some (vR (some (2, 0))), some (vI x1), some (vI x2), some (vI x3), some (vI x4), some (vI x5), some (vI x6), some (vI (if ¬ x2 = 2 then 0 else (if 8 ≤ x4 then 0 else 1 : Int) : Int))]) 106 dX11_change_104 rfl rfl rfl rfl ?_
                refine r_iload 108 dX11_change_106 rfl rfl ?_
                refine r_if_ne 111 113 dX11_change_108 rfl rfl (fun c => ?_) (fun c => ?_)
                · have h := h.1 (c)
                  refine r_aload_n 114 dX11_change_113 rfl rfl ?_
                  refine r_aload_n 115 dX11_change_114 rfl rfl ?_
                  refine g_R 118 dX11_change_115 rfl rfl rfl fr_11_12 (sh_11_0 hS) ?_
                  refine r_iload_n 119 dX11_change_118 rfl rfl ?_
                  refine r_iload_n 120 dX11_change_119 rfl rfl ?_
                  refine r_iload_n 121 dX11_change_120 rfl rfl ?_
                  refine r_iload 123 dX11_change_121 rfl rfl ?_
                  refine r_iload_n 124 dX11_change_123 rfl rfl ?_
                  refine r_iconst 125 dX11_change_124 rfl (InR_of rfl) ?_
                  have hJ_10 : Ex l G (d + 1) mX11_change 134 [some (vR (some (2, 0))), some (vI x1), some (vI x2), some (vI x3), some (vI x4), some (vI x5), some (vI x6), some (vI (if ¬ x2 = 2 then 0 else (if 8 ≤ x4 then 0 else 1 : Int) : Int))] [vI (if ¬ x2 = 1 then 0 else x5 : Int), vI x4, vI x3, vI x2, vI x1, vR (some (4, 0)), vR (some (2, 0))] M_4 r M' := by
                    refine r_iload 136 dX11_change_134 rfl rfl ?_
                    obtain ⟨r_14, M_12, hc_13, h⟩ := h
                    refine v_1 (ci := 8) (C := (RX8, TX8, 13)) [vI x1, vI x2, vI x3, vI x4, vI (if ¬ x2 = 1 then 0 else x5 : Int), vI x6] [vR (some (2, 0))] 139 dX11_change_136 rfl rfl rfl rfl rfl mo_X8_addChange ml_11_128 rfl rfl hc_13 ?_
                    obtain ⟨M_15, hc_16, hS, h⟩ := h
                    refine v_0 (ci := 11) (C := (RX11, TX11, 14)) [vI r_14] [] 142 dX11_change_139 rfl rfl rfl rfl rfl mo_X11_forgetFacts ml_11_111 rfl rfl hc_16 ?_
                    refine r_aload_n 143 dX11_change_142 rfl rfl ?_
                    refine g_R 146 dX11_change_143 rfl rfl rfl fr_11_12 (sh_11_0 hS) ?_
                    refine g_I 149 dX11_change_146 rfl rfl rfl fi_11_115 rfl ?_
                    exact r_iret dX11_change_149 rfl (.inl rfl) h.1 h.2
                  refine r_icmp_ne 128 133 dX11_change_125 rfl rfl (fun c => ?_) (fun c => ?_)
                  · have c_11 := c
                    refine r_iconst 134 dX11_change_133 rfl (InR_of rfl) ?_
                    exact (Ex.at hJ_10 rfl (show [vI 0, vI x4, vI x3, vI x2, vI x1, vR (some (4, 0)), vR (some (2, 0))] = [vI (if ¬ x2 = 1 then 0 else x5 : Int), vI x4, vI x3, vI x2, vI x1, vR (some (4, 0)), vR (some (2, 0))] by simp only [if_pos c_11]) rfl)
                  · have c_11 := c
                    refine r_iload 130 dX11_change_128 rfl rfl ?_
                    refine r_goto 134 dX11_change_130 rfl ?_
                    exact (Ex.at hJ_10 rfl (show [vI x5, vI x4, vI x3, vI x2, vI x1, vR (some (4, 0)), vR (some (2, 0))] = [vI (if ¬ x2 = 1 then 0 else x5 : Int), vI x4, vI x3, vI x2, vI x1, vR (some (4, 0)), vR (some (2, 0))] by simp only [if_neg c_11]) rfl)
                · have h := h.2 (c)
                  refine r_iconst 112 dX11_change_111 rfl (InR_of rfl) ?_
                  exact r_iret dX11_change_112 rfl (.inl rfl) h.1 h.2
              refine r_icmp_ne 92 103 dX11_change_89 rfl rfl (fun c => ?_) (fun c => ?_)
              · have c_8 := c
                refine r_iconst 104 dX11_change_103 rfl (InR_of rfl) ?_
                exact (Ex.at hJ_7 rfl (show [vI 0] = [vI (if ¬ x2 = 2 then 0 else (if 8 ≤ x4 then 0 else 1 : Int) : Int)] by simp only [if_pos c_8]) rfl)
              · have c_8 := c
                refine r_iload 94 dX11_change_92 rfl rfl ?_
                refine r_bipush 96 dX11_change_94 rfl rfl ?_
                refine r_icmp_ge 99 103 dX11_change_96 rfl rfl (fun c => ?_) (fun c => ?_)
                · have c_9 := c
                  refine r_iconst 104 dX11_change_103 rfl (InR_of rfl) ?_
                  exact (Ex.at hJ_7 rfl (show [vI 0] = [vI (if ¬ x2 = 2 then 0 else (if 8 ≤ x4 then 0 else 1 : Int) : Int)] by simp only [if_neg c_8, if_pos c_9]) rfl)
                · have c_9 := c
                  refine r_iconst 100 dX11_change_99 rfl (InR_of rfl) ?_
                  refine r_goto 104 dX11_change_100 rfl ?_
                  exact (Ex.at hJ_7 rfl (show [vI 1] = [vI (if ¬ x2 = 2 then 0 else (if 8 ≤ x4 then 0 else 1 : Int) : Int)] by simp only [if_neg c_8, if_neg c_9]) rfl)
            · have h := h.2 (c)
              refine r_iload 62 dX11_change_60 rfl rfl ?_
              refine r_bipush 64 dX11_change_62 rfl rfl ?_
              refine r_icmp_ge 67 81 dX11_change_64 rfl rfl (fun c => ?_) (fun c => ?_)
              · have h := h.1 (c)
                refine r_iconst 82 dX11_change_81 rfl (InR_of rfl) ?_
                refine r_istore (ls' := [some (vR (some (2, 0))), some (vI x1), some (vI x2), some (vI x3), some (vI x4), some (vI x5), some (vI x6), some (vI 0)]) 84 dX11_change_82 rfl rfl rfl rfl ?_
                refine r_goto 106 dX11_change_84 rfl ?_
                refine r_iload 108 dX11_change_106 rfl rfl ?_
                refine r_if_ne 111 113 dX11_change_108 rfl rfl (fun c => absurd c (by decide)) (fun _ => ?_)
                refine r_iconst 112 dX11_change_111 rfl (InR_of rfl) ?_
                exact r_iret dX11_change_112 rfl (.inl rfl) h.1 h.2
              · have h := h.2 (c)
                refine r_aload_n 68 dX11_change_67 rfl rfl ?_
                refine r_iload_n 69 dX11_change_68 rfl rfl ?_
                refine r_iload 71 dX11_change_69 rfl rfl ?_
                obtain ⟨r_19, M_17, hc_18, hS, h⟩ := h
                refine v_1 (ci := 11) (C := (RX11, TX11, 14)) [vI x3, vI x5] [] 74 dX11_change_71 rfl rfl rfl rfl rfl mo_X11_areTwo ml_11_124 rfl rfl hc_18 ?_
                have hJ_20 : Ex l G (d + 1) mX11_change 82 [some (vR (some (2, 0))), some (vI x1), some (vI x2), some (vI x3), some (vI x4), some (vI x5), some (vI x6), none] [vI (if r_19 = 0 then 0 else 1 : Int)] M_17 r M' := by
                  refine r_istore (ls' := [some (vR (some (2, 0))), some (vI x1), some (vI x2), some (vI x3), some (vI x4), some (vI x5), some (vI x6), some (vI (if r_19 = 0 then 0 else 1 : Int))]) 84 dX11_change_82 rfl rfl rfl rfl ?_
                  refine r_goto 106 dX11_change_84 rfl ?_
                  refine r_iload 108 dX11_change_106 rfl rfl ?_
                  refine r_if_ne 111 113 dX11_change_108 rfl rfl (fun c => ?_) (fun c => ?_)
                  · have h := h.1 (c)
                    refine r_aload_n 114 dX11_change_113 rfl rfl ?_
                    refine r_aload_n 115 dX11_change_114 rfl rfl ?_
                    refine g_R 118 dX11_change_115 rfl rfl rfl fr_11_12 (sh_11_0 hS) ?_
                    refine r_iload_n 119 dX11_change_118 rfl rfl ?_
                    refine r_iload_n 120 dX11_change_119 rfl rfl ?_
                    refine r_iload_n 121 dX11_change_120 rfl rfl ?_
                    refine r_iload 123 dX11_change_121 rfl rfl ?_
                    refine r_iload_n 124 dX11_change_123 rfl rfl ?_
                    refine r_iconst 125 dX11_change_124 rfl (InR_of rfl) ?_
                    have hJ_22 : Ex l G (d + 1) mX11_change 134 [some (vR (some (2, 0))), some (vI x1), some (vI x2), some (vI x3), some (vI x4), some (vI x5), some (vI x6), some (vI (if r_19 = 0 then 0 else 1 : Int))] [vI (if ¬ x2 = 1 then 0 else x5 : Int), vI x4, vI x3, vI x2, vI x1, vR (some (4, 0)), vR (some (2, 0))] M_17 r M' := by
                      refine r_iload 136 dX11_change_134 rfl rfl ?_
                      obtain ⟨r_26, M_24, hc_25, h⟩ := h
                      refine v_1 (ci := 8) (C := (RX8, TX8, 13)) [vI x1, vI x2, vI x3, vI x4, vI (if ¬ x2 = 1 then 0 else x5 : Int), vI x6] [vR (some (2, 0))] 139 dX11_change_136 rfl rfl rfl rfl rfl mo_X8_addChange ml_11_128 rfl rfl hc_25 ?_
                      obtain ⟨M_27, hc_28, hS, h⟩ := h
                      refine v_0 (ci := 11) (C := (RX11, TX11, 14)) [vI r_26] [] 142 dX11_change_139 rfl rfl rfl rfl rfl mo_X11_forgetFacts ml_11_111 rfl rfl hc_28 ?_
                      refine r_aload_n 143 dX11_change_142 rfl rfl ?_
                      refine g_R 146 dX11_change_143 rfl rfl rfl fr_11_12 (sh_11_0 hS) ?_
                      refine g_I 149 dX11_change_146 rfl rfl rfl fi_11_115 rfl ?_
                      exact r_iret dX11_change_149 rfl (.inl rfl) h.1 h.2
                    refine r_icmp_ne 128 133 dX11_change_125 rfl rfl (fun c => ?_) (fun c => ?_)
                    · have c_23 := c
                      refine r_iconst 134 dX11_change_133 rfl (InR_of rfl) ?_
                      exact (Ex.at hJ_22 rfl (show [vI 0, vI x4, vI x3, vI x2, vI x1, vR (some (4, 0)), vR (some (2, 0))] = [vI (if ¬ x2 = 1 then 0 else x5 : Int), vI x4, vI x3, vI x2, vI x1, vR (some (4, 0)), vR (some (2, 0))] by simp only [if_pos c_23]) rfl)
                    · have c_23 := c
                      refine r_iload 130 dX11_change_128 rfl rfl ?_
                      refine r_goto 134 dX11_change_130 rfl ?_
                      exact (Ex.at hJ_22 rfl (show [vI x5, vI x4, vI x3, vI x2, vI x1, vR (some (4, 0)), vR (some (2, 0))] = [vI (if ¬ x2 = 1 then 0 else x5 : Int), vI x4, vI x3, vI x2, vI x1, vR (some (4, 0)), vR (some (2, 0))] by simp only [if_neg c_23]) rfl)
                  · have h := h.2 (c)
                    refine r_iconst 112 dX11_change_111 rfl (InR_of rfl) ?_
                    exact r_iret dX11_change_112 rfl (.inl rfl) h.1 h.2
                refine r_if_eq 77 81 dX11_change_74 rfl rfl (fun c => ?_) (fun c => ?_)
                · have c_21 := c
                  refine r_iconst 82 dX11_change_81 rfl (InR_of rfl) ?_
                  exact (Ex.at hJ_20 rfl (show [vI 0] = [vI (if r_19 = 0 then 0 else 1 : Int)] by simp only [if_pos c_21]) rfl)
                · have c_21 := c
                  refine r_iconst 78 dX11_change_77 rfl (InR_of rfl) ?_
                  refine r_goto 82 dX11_change_78 rfl ?_
                  exact (Ex.at hJ_20 rfl (show [vI 1] = [vI (if r_19 = 0 then 0 else 1 : Int)] by simp only [if_neg c_21]) rfl)
          · have h := h.2 (c)
            refine r_iload 40 dX11_change_38 rfl rfl ?_
            refine r_bipush 42 dX11_change_40 rfl rfl ?_
            have hJ_29 : Ex l G (d + 1) mX11_change 50 [some (vR (some (2, 0))), some (vI x1), some (vI x2), some (vI x3), some (vI x4), some (vI x5), some (vI x6), none] [vI (if 10 ≤ x4 then 0 else 1 : Int)] M_4 r M' := by
              refine r_istore (ls' := [some (vR (some (2, 0))), some (vI x1), some (vI x2), some (vI x3), some (vI x4), some (vI x5), some (vI x6), some (vI (if 10 ≤ x4 then 0 else 1 : Int))]) 52 dX11_change_50 rfl rfl rfl rfl ?_
              refine r_goto 106 dX11_change_52 rfl ?_
              refine r_iload 108 dX11_change_106 rfl rfl ?_
              refine r_if_ne 111 113 dX11_change_108 rfl rfl (fun c => ?_) (fun c => ?_)
              · have h := h.1 (c)
                refine r_aload_n 114 dX11_change_113 rfl rfl ?_
                refine r_aload_n 115 dX11_change_114 rfl rfl ?_
                refine g_R 118 dX11_change_115 rfl rfl rfl fr_11_12 (sh_11_0 hS) ?_
                refine r_iload_n 119 dX11_change_118 rfl rfl ?_
                refine r_iload_n 120 dX11_change_119 rfl rfl ?_
                refine r_iload_n 121 dX11_change_120 rfl rfl ?_
                refine r_iload 123 dX11_change_121 rfl rfl ?_
                refine r_iload_n 124 dX11_change_123 rfl rfl ?_
                refine r_iconst 125 dX11_change_124 rfl (InR_of rfl) ?_
                have hJ_31 : Ex l G (d + 1) mX11_change 134 [some (vR (some (2, 0))), some (vI x1), some (vI x2), some (vI x3), some (vI x4), some (vI x5), some (vI x6), some (vI (if 10 ≤ x4 then 0 else 1 : Int))] [vI (if ¬ x2 = 1 then 0 else x5 : Int), vI x4, vI x3, vI x2, vI x1, vR (some (4, 0)), vR (some (2, 0))] M_4 r M' := by
                  refine r_iload 136 dX11_change_134 rfl rfl ?_
                  obtain ⟨r_35, M_33, hc_34, h⟩ := h
                  refine v_1 (ci := 8) (C := (RX8, TX8, 13)) [vI x1, vI x2, vI x3, vI x4, vI (if ¬ x2 = 1 then 0 else x5 : Int), vI x6] [vR (some (2, 0))] 139 dX11_change_136 rfl rfl rfl rfl rfl mo_X8_addChange ml_11_128 rfl rfl hc_34 ?_
                  obtain ⟨M_36, hc_37, hS, h⟩ := h
                  refine v_0 (ci := 11) (C := (RX11, TX11, 14)) [vI r_35] [] 142 dX11_change_139 rfl rfl rfl rfl rfl mo_X11_forgetFacts ml_11_111 rfl rfl hc_37 ?_
                  refine r_aload_n 143 dX11_change_142 rfl rfl ?_
                  refine g_R 146 dX11_change_143 rfl rfl rfl fr_11_12 (sh_11_0 hS) ?_
                  refine g_I 149 dX11_change_146 rfl rfl rfl fi_11_115 rfl ?_
                  exact r_iret dX11_change_149 rfl (.inl rfl) h.1 h.2
                refine r_icmp_ne 128 133 dX11_change_125 rfl rfl (fun c => ?_) (fun c => ?_)
                · have c_32 := c
                  refine r_iconst 134 dX11_change_133 rfl (InR_of rfl) ?_
                  exact (Ex.at hJ_31 rfl (show [vI 0, vI x4, vI x3, vI x2, vI x1, vR (some (4, 0)), vR (some (2, 0))] = [vI (if ¬ x2 = 1 then 0 else x5 : Int), vI x4, vI x3, vI x2, vI x1, vR (some (4, 0)), vR (some (2, 0))] by simp only [if_pos c_32]) rfl)
                · have c_32 := c
                  refine r_iload 130 dX11_change_128 rfl rfl ?_
                  refine r_goto 134 dX11_change_130 rfl ?_
                  exact (Ex.at hJ_31 rfl (show [vI x5, vI x4, vI x3, vI x2, vI x1, vR (some (4, 0)), vR (some (2, 0))] = [vI (if ¬ x2 = 1 then 0 else x5 : Int), vI x4, vI x3, vI x2, vI x1, vR (some (4, 0)), vR (some (2, 0))] by simp only [if_neg c_32]) rfl)
              · have h := h.2 (c)
                refine r_iconst 112 dX11_change_111 rfl (InR_of rfl) ?_
                exact r_iret dX11_change_112 rfl (.inl rfl) h.1 h.2
            refine r_icmp_ge 45 49 dX11_change_42 rfl rfl (fun c => ?_) (fun c => ?_)
            · have c_30 := c
              refine r_iconst 50 dX11_change_49 rfl (InR_of rfl) ?_
              exact (Ex.at hJ_29 rfl (show [vI 0] = [vI (if 10 ≤ x4 then 0 else 1 : Int)] by simp only [if_pos c_30]) rfl)
            · have c_30 := c
              refine r_iconst 46 dX11_change_45 rfl (InR_of rfl) ?_
              refine r_goto 50 dX11_change_46 rfl ?_
              exact (Ex.at hJ_29 rfl (show [vI 1] = [vI (if 10 ≤ x4 then 0 else 1 : Int)] by simp only [if_neg c_30]) rfl)
        · have h := h.2 (c)
          refine r_iconst 33 dX11_change_32 rfl (InR_of rfl) ?_
          exact r_iret dX11_change_33 rfl (.inl rfl) h.1 h.2

set_option maxRecDepth 4000 in
theorem xX11_knows_0 {l : Launch} {G : Gt} {d : Nat} {M M' : Mem} {r : Option Vl} {x1 : Int} {x2 : Int} {x3 : Int} (h : 
    ∃ (r_3 : Int) (M_1 : Mem), Cl l G d mX11_areTwo [vR (some (2, 0)), vI x1, vI x2] M (some (vI r_3)) M_1 ∧ Sh M_1.2.1 ∧ ((r_3 = 0 → r = some (vI 0) ∧ M' = M_1) ∧ (¬ (r_3 = 0) → ((0 ≤ x1 ∧ x1 < 12)) ∧ (∃ (r_7 : Int) (M_5 : Mem), Cl l G d mX11_hasBit [vI (M_1.1 36 0 x1.toNat), vI x2] M_1 (some (vI r_7)) M_5 ∧ Sh M_5.2.1 ∧ ((¬ r_7 = x3 → ((0 ≤ x1 ∧ x1 < 12) ∧ (0 ≤ x2 ∧ x2 < 32) ∧ (0 ≤ x1 ∧ x1 < 12)) ∧ r = some (vI 1) ∧ M' = ((upI M_5.1 36 0 x1.toNat (aXor (M_5.1 36 0 x1.toNat) (aShl 1 x2))), M_5.2.1, M_5.2.2)) ∧ (¬ (¬ r_7 = x3) → r = some (vI 0) ∧ M' = M_5)))))) : Cl l G (d + 1) mX11_knows [vR (some (2, 0)), vI x1, vI x2, vI x3] M r M' := by
  show Ex l G (d + 1) mX11_knows 0 [some (vR (some (2, 0))), some (vI x1), some (vI x2), some (vI x3)] [] M r M'
  refine r_aload_n 1 dX11_knows_0 rfl rfl ?_
  refine r_iload_n 2 dX11_knows_1 rfl rfl ?_
  refine r_iload_n 3 dX11_knows_2 rfl rfl ?_
  obtain ⟨r_3, M_1, hc_2, hS, h⟩ := h
  refine v_1 (ci := 11) (C := (RX11, TX11, 14)) [vI x1, vI x2] [] 6 dX11_knows_3 rfl rfl rfl rfl rfl mo_X11_areTwo ml_11_124 rfl rfl hc_2 ?_
  refine r_if_eq 9 26 dX11_knows_6 rfl rfl (fun c => ?_) (fun c => ?_)
  · have h := h.1 (c)
    refine r_iconst 27 dX11_knows_26 rfl (InR_of rfl) ?_
    exact r_iret dX11_knows_27 rfl (.inr ⟨rfl, (.inl rfl)⟩) h.1 h.2
  · have h := h.2 (c)
    obtain ⟨o_4, h⟩ := h
    refine r_aload_n 10 dX11_knows_9 rfl rfl ?_
    refine g_R 13 dX11_knows_10 rfl rfl rfl fr_11_12 (sh_11_0 hS) ?_
    refine g_R 16 dX11_knows_13 rfl rfl rfl fr_11_132 (sh_8_6 hS _) ?_
    refine r_iload_n 17 dX11_knows_16 rfl rfl ?_
    refine a_I 12 18 dX11_knows_17 rfl rfl rfl rfl o_4 rfl ?_
    refine r_iload_n 19 dX11_knows_18 rfl rfl ?_
    obtain ⟨r_7, M_5, hc_6, hS, h⟩ := h
    refine c_1 [vI (M_1.1 36 0 x1.toNat), vI x2] [] 22 dX11_knows_19 rfl rfl mo_X11_hasBit ml_11_135 rfl rfl hc_6 ?_
    refine r_iload_n 23 dX11_knows_22 rfl rfl ?_
    refine r_icmp_ne 26 28 dX11_knows_23 rfl rfl (fun c => ?_) (fun c => ?_)
    · have h := h.1 (c)
      obtain ⟨⟨o_8, o_9, o_10⟩, h⟩ := h
      refine r_aload_n 29 dX11_knows_28 rfl rfl ?_
      refine g_R 32 dX11_knows_29 rfl rfl rfl fr_11_12 (sh_11_0 hS) ?_
      refine g_R 35 dX11_knows_32 rfl rfl rfl fr_11_132 (sh_8_6 hS _) ?_
      refine r_iload_n 36 dX11_knows_35 rfl rfl ?_
      refine r_dup2 37 dX11_knows_36 rfl rfl ?_
      refine a_I 12 38 dX11_knows_37 rfl rfl rfl rfl o_8 rfl ?_
      refine r_iconst 39 dX11_knows_38 rfl (InR_of rfl) ?_
      refine r_iload_n 40 dX11_knows_39 rfl rfl ?_
      refine r_ishl 41 dX11_knows_40 rfl o_9 ?_
      refine r_ixor 42 dX11_knows_41 rfl ?_
      refine s_I 12 43 dX11_knows_42 rfl rfl (by decide) rfl rfl o_10 ?_
      refine r_iconst 44 dX11_knows_43 rfl (InR_of rfl) ?_
      exact r_iret dX11_knows_44 rfl (.inr ⟨rfl, (.inr rfl)⟩) h.1 h.2
    · have h := h.2 (c)
      refine r_iconst 27 dX11_knows_26 rfl (InR_of rfl) ?_
      exact r_iret dX11_knows_27 rfl (.inr ⟨rfl, (.inl rfl)⟩) h.1 h.2

set_option maxRecDepth 4000 in
theorem xX11_worth_0 {l : Launch} {G : Gt} {d : Nat} {M M' : Mem} {r : Option Vl} {x1 : Int} {x2 : Int} (hS : Sh M.2.1) (h : 
    (x1 < 0 → r = some (vI (-1)) ∧ M' = M) ∧ (¬ (x1 < 0) → (16 < x1 → r = some (vI (-1)) ∧ M' = M) ∧ (¬ (16 < x1) → (x2 < 0 → r = some (vI (-1)) ∧ M' = M) ∧ (¬ (x2 < 0) → (x2 ≤ 99 → ((0 ≤ x1 ∧ x1 < 17) ∧ (0 ≤ x1 ∧ x1 < 17)) ∧ r = some (vI (M.1 37 0 x1.toNat)) ∧ M' = ((upI M.1 37 0 x1.toNat x2), M.2.1, M.2.2)) ∧ (¬ (x2 ≤ 99) → r = some (vI (-1)) ∧ M' = M))))) : Cl l G d mX11_worth [vR (some (2, 0)), vI x1, vI x2] M r M' := by
  show Ex l G d mX11_worth 0 [some (vR (some (2, 0))), some (vI x1), some (vI x2), none] [] M r M'
  refine r_iload_n 1 dX11_worth_0 rfl rfl ?_
  refine r_if_lt 4 20 dX11_worth_1 rfl rfl (fun c => ?_) (fun c => ?_)
  · have h := h.1 (c)
    refine r_iconst 21 dX11_worth_20 rfl (InR_of rfl) ?_
    exact r_iret dX11_worth_21 rfl (.inl rfl) h.1 h.2
  · have h := h.2 (c)
    refine r_iload_n 5 dX11_worth_4 rfl rfl ?_
    refine r_bipush 7 dX11_worth_5 rfl rfl ?_
    refine r_icmp_gt 10 20 dX11_worth_7 rfl rfl (fun c => ?_) (fun c => ?_)
    · have h := h.1 (c)
      refine r_iconst 21 dX11_worth_20 rfl (InR_of rfl) ?_
      exact r_iret dX11_worth_21 rfl (.inl rfl) h.1 h.2
    · have h := h.2 (c)
      refine r_iload_n 11 dX11_worth_10 rfl rfl ?_
      refine r_if_lt 14 20 dX11_worth_11 rfl rfl (fun c => ?_) (fun c => ?_)
      · have h := h.1 (c)
        refine r_iconst 21 dX11_worth_20 rfl (InR_of rfl) ?_
        exact r_iret dX11_worth_21 rfl (.inl rfl) h.1 h.2
      · have h := h.2 (c)
        refine r_iload_n 15 dX11_worth_14 rfl rfl ?_
        refine r_bipush 17 dX11_worth_15 rfl rfl ?_
        refine r_icmp_le 20 22 dX11_worth_17 rfl rfl (fun c => ?_) (fun c => ?_)
        · have h := h.1 (c)
          obtain ⟨⟨o_1, o_2⟩, h⟩ := h
          refine r_aload_n 23 dX11_worth_22 rfl rfl ?_
          refine g_R 26 dX11_worth_23 rfl rfl rfl fr_11_12 (sh_11_0 hS) ?_
          refine g_R 29 dX11_worth_26 rfl rfl rfl fr_11_138 (sh_8_7 hS _) ?_
          refine r_iload_n 30 dX11_worth_29 rfl rfl ?_
          refine a_I 17 31 dX11_worth_30 rfl rfl rfl rfl o_1 rfl ?_
          refine r_istore_n (ls' := [some (vR (some (2, 0))), some (vI x1), some (vI x2), some (vI (M.1 37 0 x1.toNat))]) 32 dX11_worth_31 rfl rfl rfl rfl ?_
          refine r_aload_n 33 dX11_worth_32 rfl rfl ?_
          refine g_R 36 dX11_worth_33 rfl rfl rfl fr_11_12 (sh_11_0 hS) ?_
          refine g_R 39 dX11_worth_36 rfl rfl rfl fr_11_138 (sh_8_7 hS _) ?_
          refine r_iload_n 40 dX11_worth_39 rfl rfl ?_
          refine r_iload_n 41 dX11_worth_40 rfl rfl ?_
          refine s_I 17 42 dX11_worth_41 rfl rfl (by decide) rfl rfl o_2 ?_
          refine r_iload_n 43 dX11_worth_42 rfl rfl ?_
          exact r_iret dX11_worth_43 rfl (.inl rfl) h.1 h.2
        · have h := h.2 (c)
          refine r_iconst 21 dX11_worth_20 rfl (InR_of rfl) ?_
          exact r_iret dX11_worth_21 rfl (.inl rfl) h.1 h.2

set_option maxRecDepth 4000 in
theorem xX11_feed_0 {l : Launch} {G : Gt} {d : Nat} {M M' : Mem} {r : Option Vl} {x1 : Int} {x2 : Int} {x3 : Int} {x4 : Int} {x5 : Int} (h : 
    ((M.1 2 0 12) ≤ 380 → ∃ (M_1 : Mem), Cl l G d mX11_putBytes [vR (some (2, 0)), vI x1] M none M_1 ∧ (∃ (M_3 : Mem), Cl l G d mX11_putBytes [vR (some (2, 0)), vI x2] M_1 none M_3 ∧ (∃ (M_5 : Mem), Cl l G d mX11_putBytes [vR (some (2, 0)), vI x3] M_3 none M_5 ∧ (∃ (M_7 : Mem), Cl l G d mX11_putBytes [vR (some (2, 0)), vI x4] M_5 none M_7 ∧ (∃ (M_9 : Mem), Cl l G d mX11_putBytes [vR (some (2, 0)), vI x5] M_7 none M_9 ∧ r = some (vI (M_9.1 2 0 12)) ∧ M' = M_9))))) ∧ (¬ ((M.1 2 0 12) ≤ 380) → r = some (vI (-1)) ∧ M' = M)) : Cl l G (d + 1) mX11_feed [vR (some (2, 0)), vI x1, vI x2, vI x3, vI x4, vI x5] M r M' := by
  show Ex l G (d + 1) mX11_feed 0 [some (vR (some (2, 0))), some (vI x1), some (vI x2), some (vI x3), some (vI x4), some (vI x5)] [] M r M'
  refine r_aload_n 1 dX11_feed_0 rfl rfl ?_
  refine g_I 4 dX11_feed_1 rfl rfl rfl fi_11_141 rfl ?_
  refine r_sipush 7 dX11_feed_4 rfl rfl ?_
  refine r_icmp_le 10 12 dX11_feed_7 rfl rfl (fun c => ?_) (fun c => ?_)
  · have h := h.1 (c)
    refine r_aload_n 13 dX11_feed_12 rfl rfl ?_
    refine r_iload_n 14 dX11_feed_13 rfl rfl ?_
    obtain ⟨M_1, hc_2, h⟩ := h
    refine v_0 (ci := 11) (C := (RX11, TX11, 14)) [vI x1] [] 17 dX11_feed_14 rfl rfl rfl rfl rfl mo_X11_putBytes ml_11_144 rfl rfl hc_2 ?_
    refine r_aload_n 18 dX11_feed_17 rfl rfl ?_
    refine r_iload_n 19 dX11_feed_18 rfl rfl ?_
    obtain ⟨M_3, hc_4, h⟩ := h
    refine v_0 (ci := 11) (C := (RX11, TX11, 14)) [vI x2] [] 22 dX11_feed_19 rfl rfl rfl rfl rfl mo_X11_putBytes ml_11_144 rfl rfl hc_4 ?_
    refine r_aload_n 23 dX11_feed_22 rfl rfl ?_
    refine r_iload_n 24 dX11_feed_23 rfl rfl ?_
    obtain ⟨M_5, hc_6, h⟩ := h
    refine v_0 (ci := 11) (C := (RX11, TX11, 14)) [vI x3] [] 27 dX11_feed_24 rfl rfl rfl rfl rfl mo_X11_putBytes ml_11_144 rfl rfl hc_6 ?_
    refine r_aload_n 28 dX11_feed_27 rfl rfl ?_
    refine r_iload 30 dX11_feed_28 rfl rfl ?_
    obtain ⟨M_7, hc_8, h⟩ := h
    refine v_0 (ci := 11) (C := (RX11, TX11, 14)) [vI x4] [] 33 dX11_feed_30 rfl rfl rfl rfl rfl mo_X11_putBytes ml_11_144 rfl rfl hc_8 ?_
    refine r_aload_n 34 dX11_feed_33 rfl rfl ?_
    refine r_iload 36 dX11_feed_34 rfl rfl ?_
    obtain ⟨M_9, hc_10, h⟩ := h
    refine v_0 (ci := 11) (C := (RX11, TX11, 14)) [vI x5] [] 39 dX11_feed_36 rfl rfl rfl rfl rfl mo_X11_putBytes ml_11_144 rfl rfl hc_10 ?_
    refine r_aload_n 40 dX11_feed_39 rfl rfl ?_
    refine g_I 43 dX11_feed_40 rfl rfl rfl fi_11_141 rfl ?_
    exact r_iret dX11_feed_43 rfl (.inl rfl) h.1 h.2
  · have h := h.2 (c)
    refine r_iconst 11 dX11_feed_10 rfl (InR_of rfl) ?_
    exact r_iret dX11_feed_11 rfl (.inl rfl) h.1 h.2

set_option maxRecDepth 4000 in
theorem xX11_end_0 {l : Launch} {G : Gt} {d : Nat} {M M' : Mem} {r : Option Vl} {x1 : Int} (h : 
    (x1 < 0 → r = some (vI (-1)) ∧ M' = M) ∧ (¬ (x1 < 0) → (x1 ≤ (M.1 2 0 12) → r = some (vI x1) ∧ M' = ((upI M.1 2 0 12 x1), M.2.1, M.2.2)) ∧ (¬ (x1 ≤ (M.1 2 0 12)) → r = some (vI (-1)) ∧ M' = M))) : Cl l G d mX11_end [vR (some (2, 0)), vI x1] M r M' := by
  show Ex l G d mX11_end 0 [some (vR (some (2, 0))), some (vI x1)] [] M r M'
  refine r_iload_n 1 dX11_end_0 rfl rfl ?_
  refine r_if_lt 4 12 dX11_end_1 rfl rfl (fun c => ?_) (fun c => ?_)
  · have h := h.1 (c)
    refine r_iconst 13 dX11_end_12 rfl (InR_of rfl) ?_
    exact r_iret dX11_end_13 rfl (.inl rfl) h.1 h.2
  · have h := h.2 (c)
    refine r_iload_n 5 dX11_end_4 rfl rfl ?_
    refine r_aload_n 6 dX11_end_5 rfl rfl ?_
    refine g_I 9 dX11_end_6 rfl rfl rfl fi_11_141 rfl ?_
    refine r_icmp_le 12 14 dX11_end_9 rfl rfl (fun c => ?_) (fun c => ?_)
    · have h := h.1 (c)
      refine r_aload_n 15 dX11_end_14 rfl rfl ?_
      refine r_iload_n 16 dX11_end_15 rfl rfl ?_
      refine p_I 19 dX11_end_16 rfl rfl rfl rfl pf_11_141 (.inl rfl) rfl ?_
      refine r_iload_n 20 dX11_end_19 rfl rfl ?_
      exact r_iret dX11_end_20 rfl (.inl rfl) h.1 h.2
    · have h := h.2 (c)
      refine r_iconst 13 dX11_end_12 rfl (InR_of rfl) ?_
      exact r_iret dX11_end_13 rfl (.inl rfl) h.1 h.2

set_option maxRecDepth 4000 in
theorem xX11_cover_0 {l : Launch} {G : Gt} {d : Nat} {M M' : Mem} {r : Option Vl}  (hS : Sh M.2.1) (h : 
    ((M.1 2 0 10) < 8 → ∃ (r_3 : Int) (M_1 : Mem), Cl l G d mX2_read [vR (some (12, 0)), vR (some (16, 0)), vI (M.1 2 0 12)] M (some (vI r_3)) M_1 ∧ Sh M_1.2.1 ∧ ((r_3 = 0 → ∃ (k_6 : Nat) (M_4 : Mem), Cl l G d mX2_newCover [vR (some (12, 0)), vI (M_1.1 2 0 10)] ((upI M_1.1 2 0 12 0), M_1.2.1, M_1.2.2) (some (vR (some (13, k_6)))) M_4 ∧ ((0 ≤ (M_1.1 2 0 10) ∧ (M_1.1 2 0 10) < 8) ∧ InR ((M_4.1 2 0 10) + 1)) ∧ r = some (vI (M_4.1 2 0 10)) ∧ M' = ((upI M_4.1 2 0 10 ((M_4.1 2 0 10) + 1)), (upR M_4.2.1 15 0 (M_1.1 2 0 10).toNat (some (13, k_6))), M_4.2.2)) ∧ (¬ (r_3 = 0) → (InR ((-2) - r_3)) ∧ r = some (vI ((-2) - r_3)) ∧ M' = ((upI M_1.1 2 0 12 0), M_1.2.1, M_1.2.2)))) ∧ (¬ ((M.1 2 0 10) < 8) → r = some (vI (-1)) ∧ M' = M)) : Cl l G (d + 1) mX11_cover [vR (some (2, 0))] M r M' := by
  show Ex l G (d + 1) mX11_cover 0 [some (vR (some (2, 0))), none] [] M r M'
  refine r_aload_n 1 dX11_cover_0 rfl rfl ?_
  refine g_I 4 dX11_cover_1 rfl rfl rfl fi_11_147 rfl ?_
  refine r_bipush 6 dX11_cover_4 rfl rfl ?_
  refine r_icmp_lt 9 11 dX11_cover_6 rfl rfl (fun c => ?_) (fun c => ?_)
  · have h := h.1 (c)
    refine r_aload_n 12 dX11_cover_11 rfl rfl ?_
    refine g_R 15 dX11_cover_12 rfl rfl rfl fr_11_65 (sh_11_7 hS) ?_
    refine r_aload_n 16 dX11_cover_15 rfl rfl ?_
    refine g_R 19 dX11_cover_16 rfl rfl rfl fr_11_82 (sh_11_11 hS) ?_
    refine r_aload_n 20 dX11_cover_19 rfl rfl ?_
    refine g_I 23 dX11_cover_20 rfl rfl rfl fi_11_141 rfl ?_
    obtain ⟨r_3, M_1, hc_2, hS, h⟩ := h
    refine v_1 (ci := 2) (C := (RX2, TX2, 10)) [vR (some (16, 0)), vI (M.1 2 0 12)] [] 26 dX11_cover_23 rfl rfl rfl rfl rfl mo_X2_read ml_11_150 rfl rfl hc_2 ?_
    refine r_istore_n (ls' := [some (vR (some (2, 0))), some (vI r_3)]) 27 dX11_cover_26 rfl rfl rfl rfl ?_
    refine r_aload_n 28 dX11_cover_27 rfl rfl ?_
    refine r_iconst 29 dX11_cover_28 rfl (InR_of rfl) ?_
    refine p_I 32 dX11_cover_29 rfl rfl rfl rfl pf_11_141 (.inl rfl) rfl ?_
    refine r_iload_n 33 dX11_cover_32 rfl rfl ?_
    refine r_if_eq 36 41 dX11_cover_33 rfl rfl (fun c => ?_) (fun c => ?_)
    · have h := h.1 (c)
      refine r_aload_n 42 dX11_cover_41 rfl rfl ?_
      refine g_R 45 dX11_cover_42 rfl rfl rfl fr_11_78 (mR_0 (sh_11_9 hS)) ?_
      refine r_aload_n 46 dX11_cover_45 rfl rfl ?_
      refine g_I 49 dX11_cover_46 rfl rfl rfl fi_11_147 (mI_0 (upI_i (by decide))) ?_
      refine r_aload_n 50 dX11_cover_49 rfl rfl ?_
      refine g_R 53 dX11_cover_50 rfl rfl rfl fr_11_65 (mR_0 (sh_11_7 hS)) ?_
      refine r_aload_n 54 dX11_cover_53 rfl rfl ?_
      refine g_I 57 dX11_cover_54 rfl rfl rfl fi_11_147 (mI_0 (upI_i (by decide))) ?_
      obtain ⟨k_6, M_4, hc_5, h⟩ := h
      refine v_1 (ci := 2) (C := (RX2, TX2, 10)) [vI (M_1.1 2 0 10)] [vI (M_1.1 2 0 10), vR (some (15, 0))] 60 dX11_cover_57 rfl rfl rfl rfl rfl mo_X2_newCover ml_11_154 rfl rfl hc_5 ?_
      obtain ⟨⟨o_7, o_8⟩, h⟩ := h
      refine s_R (ci := 1) 8 61 dX11_cover_60 rfl rfl rfl rfl rfl rfl rfl rfl o_7 ?_
      refine r_aload_n 62 dX11_cover_61 rfl rfl ?_
      refine r_dup 63 dX11_cover_62 rfl rfl ?_
      refine g_I 66 dX11_cover_63 rfl rfl rfl fi_11_147 (mI_0 rfl) ?_
      refine r_dup_x1 67 dX11_cover_66 rfl rfl ?_
      refine r_iconst 68 dX11_cover_67 rfl (InR_of rfl) ?_
      refine r_iadd 69 dX11_cover_68 rfl o_8 ?_
      refine p_I 72 dX11_cover_69 rfl rfl rfl rfl pf_11_147 (.inl rfl) rfl ?_
      exact r_iret dX11_cover_72 rfl (.inl rfl) h.1 h.2
    · have h := h.2 (c)
      obtain ⟨o_9, h⟩ := h
      refine r_bipush 38 dX11_cover_36 rfl rfl ?_
      refine r_iload_n 39 dX11_cover_38 rfl rfl ?_
      refine r_isub 40 dX11_cover_39 rfl o_9 ?_
      exact r_iret dX11_cover_40 rfl (.inl rfl) h.1 h.2
  · have h := h.2 (c)
    refine r_iconst 10 dX11_cover_9 rfl (InR_of rfl) ?_
    exact r_iret dX11_cover_10 rfl (.inl rfl) h.1 h.2

set_option maxRecDepth 4000 in
theorem xX11_marks_0 {l : Launch} {G : Gt} {d : Nat} {M M' : Mem} {r : Option Vl} {x1 : Int} {x2 : Int} (h : 
    ∃ (r_3 : Int) (M_1 : Mem), Cl l G d mX11_isPerson [vR (some (2, 0)), vI x1] M (some (vI r_3)) M_1 ∧ ((r_3 = 0 → r = some (vI (-1)) ∧ M' = M_1) ∧ (¬ (r_3 = 0) → ∃ (r_6 : Int) (M_4 : Mem), Cl l G d mX11_isDay [vI x2] M_1 (some (vI r_6)) M_4 ∧ Sh M_4.2.1 ∧ ((¬ r_6 = 0 → ∃ (k_9 : Nat) (M_7 : Mem), Cl l G d mX6_on [vR (some (6, 0)), vI x2] M_4 (some (vR (some (14, k_9)))) M_7 ∧ (∃ (r_12 : Int) (M_10 : Mem), Cl l G d mX7_marksOf [vR (some (14, k_9)), vI x1] M_7 (some (vI r_12)) M_10 ∧ r = some (vI r_12) ∧ M' = M_10)) ∧ (¬ (¬ r_6 = 0) → r = some (vI (-1)) ∧ M' = M_4))))) : Cl l G (d + 1) mX11_marks [vR (some (2, 0)), vI x1, vI x2] M r M' := by
  show Ex l G (d + 1) mX11_marks 0 [some (vR (some (2, 0))), some (vI x1), some (vI x2)] [] M r M'
  refine r_aload_n 1 dX11_marks_0 rfl rfl ?_
  refine r_iload_n 2 dX11_marks_1 rfl rfl ?_
  obtain ⟨r_3, M_1, hc_2, h⟩ := h
  refine v_1 (ci := 11) (C := (RX11, TX11, 14)) [vI x1] [] 5 dX11_marks_2 rfl rfl rfl rfl rfl mo_X11_isPerson ml_11_121 rfl rfl hc_2 ?_
  refine r_if_eq 8 15 dX11_marks_5 rfl rfl (fun c => ?_) (fun c => ?_)
  · have h := h.1 (c)
    refine r_iconst 16 dX11_marks_15 rfl (InR_of rfl) ?_
    exact r_iret dX11_marks_16 rfl (.inl rfl) h.1 h.2
  · have h := h.2 (c)
    refine r_iload_n 9 dX11_marks_8 rfl rfl ?_
    obtain ⟨r_6, M_4, hc_5, hS, h⟩ := h
    refine c_1 [vI x2] [] 12 dX11_marks_9 rfl rfl mo_X11_isDay ml_11_118 rfl rfl hc_5 ?_
    refine r_if_ne 15 17 dX11_marks_12 rfl rfl (fun c => ?_) (fun c => ?_)
    · have h := h.1 (c)
      refine r_aload_n 18 dX11_marks_17 rfl rfl ?_
      refine g_R 21 dX11_marks_18 rfl rfl rfl fr_11_21 (sh_11_1 hS) ?_
      refine r_iload_n 22 dX11_marks_21 rfl rfl ?_
      obtain ⟨k_9, M_7, hc_8, h⟩ := h
      refine v_1 (ci := 6) (C := (RX6, TX6, 3)) [vI x2] [] 25 dX11_marks_22 rfl rfl rfl rfl rfl mo_X6_on ml_11_158 rfl rfl hc_8 ?_
      refine r_iload_n 26 dX11_marks_25 rfl rfl ?_
      obtain ⟨r_12, M_10, hc_11, h⟩ := h
      refine v_1 (ci := 7) (C := (RX7, TX7, 5)) [vI x1] [] 29 dX11_marks_26 rfl rfl rfl rfl rfl mo_X7_marksOf ml_11_162 rfl rfl hc_11 ?_
      exact r_iret dX11_marks_29 rfl (.inl rfl) h.1 h.2
    · have h := h.2 (c)
      refine r_iconst 16 dX11_marks_15 rfl (InR_of rfl) ?_
      exact r_iret dX11_marks_16 rfl (.inl rfl) h.1 h.2

set_option maxRecDepth 4000 in
theorem xX11_ties_0 {l : Launch} {G : Gt} {d : Nat} {M M' : Mem} {r : Option Vl} {x1 : Int} {x2 : Int} {x3 : Int} (h : 
    ∃ (r_3 : Int) (M_1 : Mem), Cl l G d mX11_isPerson [vR (some (2, 0)), vI x1] M (some (vI r_3)) M_1 ∧ ((r_3 = 0 → r = some (vI (-1)) ∧ M' = M_1) ∧ (¬ (r_3 = 0) → (x2 < 0 → r = some (vI (-1)) ∧ M' = M_1) ∧ (¬ (x2 < 0) → (6 ≤ x2 → r = some (vI (-1)) ∧ M' = M_1) ∧ (¬ (6 ≤ x2) → ∃ (r_6 : Int) (M_4 : Mem), Cl l G d mX11_isDay [vI x3] M_1 (some (vI r_6)) M_4 ∧ Sh M_4.2.1 ∧ ((¬ r_6 = 0 → ∃ (k_9 : Nat) (M_7 : Mem), Cl l G d mX6_on [vR (some (6, 0)), vI x3] M_4 (some (vR (some (14, k_9)))) M_7 ∧ Sh M_7.2.1 ∧ (InR (x2 * 12) ∧ InR ((x2 * 12) + x1) ∧ (0 ≤ ((x2 * 12) + x1) ∧ ((x2 * 12) + x1) < 72)) ∧ r = some (vI (M_7.1 30 k_9 ((x2 * 12) + x1).toNat)) ∧ M' = M_7) ∧ (¬ (¬ r_6 = 0) → r = some (vI (-1)) ∧ M' = M_4))))))) : Cl l G (d + 1) mX11_ties [vR (some (2, 0)), vI x1, vI x2, vI x3] M r M' := by
  show Ex l G (d + 1) mX11_ties 0 [some (vR (some (2, 0))), some (vI x1), some (vI x2), some (vI x3)] [] M r M'
  refine r_aload_n 1 dX11_ties_0 rfl rfl ?_
  refine r_iload_n 2 dX11_ties_1 rfl rfl ?_
  obtain ⟨r_3, M_1, hc_2, h⟩ := h
  refine v_1 (ci := 11) (C := (RX11, TX11, 14)) [vI x1] [] 5 dX11_ties_2 rfl rfl rfl rfl rfl mo_X11_isPerson ml_11_121 rfl rfl hc_2 ?_
  refine r_if_eq 8 25 dX11_ties_5 rfl rfl (fun c => ?_) (fun c => ?_)
  · have h := h.1 (c)
    refine r_iconst 26 dX11_ties_25 rfl (InR_of rfl) ?_
    exact r_iret dX11_ties_26 rfl (.inl rfl) h.1 h.2
  · have h := h.2 (c)
    refine r_iload_n 9 dX11_ties_8 rfl rfl ?_
    refine r_if_lt 12 25 dX11_ties_9 rfl rfl (fun c => ?_) (fun c => ?_)
    · have h := h.1 (c)
      refine r_iconst 26 dX11_ties_25 rfl (InR_of rfl) ?_
      exact r_iret dX11_ties_26 rfl (.inl rfl) h.1 h.2
    · have h := h.2 (c)
      refine r_iload_n 13 dX11_ties_12 rfl rfl ?_
      refine r_bipush 15 dX11_ties_13 rfl rfl ?_
      refine r_icmp_ge 18 25 dX11_ties_15 rfl rfl (fun c => ?_) (fun c => ?_)
      · have h := h.1 (c)
        refine r_iconst 26 dX11_ties_25 rfl (InR_of rfl) ?_
        exact r_iret dX11_ties_26 rfl (.inl rfl) h.1 h.2
      · have h := h.2 (c)
        refine r_iload_n 19 dX11_ties_18 rfl rfl ?_
        obtain ⟨r_6, M_4, hc_5, hS, h⟩ := h
        refine c_1 [vI x3] [] 22 dX11_ties_19 rfl rfl mo_X11_isDay ml_11_118 rfl rfl hc_5 ?_
        refine r_if_ne 25 27 dX11_ties_22 rfl rfl (fun c => ?_) (fun c => ?_)
        · have h := h.1 (c)
          refine r_aload_n 28 dX11_ties_27 rfl rfl ?_
          refine g_R 31 dX11_ties_28 rfl rfl rfl fr_11_21 (sh_11_1 hS) ?_
          refine r_iload_n 32 dX11_ties_31 rfl rfl ?_
          obtain ⟨k_9, M_7, hc_8, hS, h⟩ := h
          refine v_1 (ci := 6) (C := (RX6, TX6, 3)) [vI x3] [] 35 dX11_ties_32 rfl rfl rfl rfl rfl mo_X6_on ml_11_158 rfl rfl hc_8 ?_
          obtain ⟨⟨o_10, o_11, o_12⟩, h⟩ := h
          refine g_R 38 dX11_ties_35 rfl rfl rfl fr_11_168 (sh_7_2 hS _) ?_
          refine r_iload_n 39 dX11_ties_38 rfl rfl ?_
          refine r_bipush 41 dX11_ties_39 rfl rfl ?_
          refine r_imul 42 dX11_ties_41 rfl o_10 ?_
          refine r_iload_n 43 dX11_ties_42 rfl rfl ?_
          refine r_iadd 44 dX11_ties_43 rfl o_11 ?_
          refine a_I 72 45 dX11_ties_44 rfl rfl rfl rfl o_12 rfl ?_
          exact r_iret dX11_ties_45 rfl (.inl rfl) h.1 h.2
        · have h := h.2 (c)
          refine r_iconst 26 dX11_ties_25 rfl (InR_of rfl) ?_
          exact r_iret dX11_ties_26 rfl (.inl rfl) h.1 h.2

set_option maxRecDepth 4000 in
theorem xX11_lives_0 {l : Launch} {G : Gt} {d : Nat} {M M' : Mem} {r : Option Vl} {x1 : Int} {x2 : Int} (h : 
    ∃ (r_3 : Int) (M_1 : Mem), Cl l G d mX11_isPerson [vR (some (2, 0)), vI x1] M (some (vI r_3)) M_1 ∧ ((r_3 = 0 → r = some (vI (-1)) ∧ M' = M_1) ∧ (¬ (r_3 = 0) → ∃ (r_6 : Int) (M_4 : Mem), Cl l G d mX11_isDay [vI x2] M_1 (some (vI r_6)) M_4 ∧ Sh M_4.2.1 ∧ ((¬ r_6 = 0 → ∃ (k_9 : Nat) (M_7 : Mem), Cl l G d mX6_on [vR (some (6, 0)), vI x2] M_4 (some (vR (some (14, k_9)))) M_7 ∧ Sh M_7.2.1 ∧ ((0 ≤ x1 ∧ x1 < 12)) ∧ r = some (vI (M_7.1 31 k_9 x1.toNat)) ∧ M' = M_7) ∧ (¬ (¬ r_6 = 0) → r = some (vI (-1)) ∧ M' = M_4))))) : Cl l G (d + 1) mX11_lives [vR (some (2, 0)), vI x1, vI x2] M r M' := by
  show Ex l G (d + 1) mX11_lives 0 [some (vR (some (2, 0))), some (vI x1), some (vI x2)] [] M r M'
  refine r_aload_n 1 dX11_lives_0 rfl rfl ?_
  refine r_iload_n 2 dX11_lives_1 rfl rfl ?_
  obtain ⟨r_3, M_1, hc_2, h⟩ := h
  refine v_1 (ci := 11) (C := (RX11, TX11, 14)) [vI x1] [] 5 dX11_lives_2 rfl rfl rfl rfl rfl mo_X11_isPerson ml_11_121 rfl rfl hc_2 ?_
  refine r_if_eq 8 15 dX11_lives_5 rfl rfl (fun c => ?_) (fun c => ?_)
  · have h := h.1 (c)
    refine r_iconst 16 dX11_lives_15 rfl (InR_of rfl) ?_
    exact r_iret dX11_lives_16 rfl (.inl rfl) h.1 h.2
  · have h := h.2 (c)
    refine r_iload_n 9 dX11_lives_8 rfl rfl ?_
    obtain ⟨r_6, M_4, hc_5, hS, h⟩ := h
    refine c_1 [vI x2] [] 12 dX11_lives_9 rfl rfl mo_X11_isDay ml_11_118 rfl rfl hc_5 ?_
    refine r_if_ne 15 17 dX11_lives_12 rfl rfl (fun c => ?_) (fun c => ?_)
    · have h := h.1 (c)
      refine r_aload_n 18 dX11_lives_17 rfl rfl ?_
      refine g_R 21 dX11_lives_18 rfl rfl rfl fr_11_21 (sh_11_1 hS) ?_
      refine r_iload_n 22 dX11_lives_21 rfl rfl ?_
      obtain ⟨k_9, M_7, hc_8, hS, h⟩ := h
      refine v_1 (ci := 6) (C := (RX6, TX6, 3)) [vI x2] [] 25 dX11_lives_22 rfl rfl rfl rfl rfl mo_X6_on ml_11_158 rfl rfl hc_8 ?_
      obtain ⟨o_10, h⟩ := h
      refine g_R 28 dX11_lives_25 rfl rfl rfl fr_11_171 (sh_7_3 hS _) ?_
      refine r_iload_n 29 dX11_lives_28 rfl rfl ?_
      refine a_I 12 30 dX11_lives_29 rfl rfl rfl rfl o_10 rfl ?_
      exact r_iret dX11_lives_30 rfl (.inl rfl) h.1 h.2
    · have h := h.2 (c)
      refine r_iconst 16 dX11_lives_15 rfl (InR_of rfl) ?_
      exact r_iret dX11_lives_16 rfl (.inl rfl) h.1 h.2

set_option maxRecDepth 4000 in
theorem xX11_sees_0 {l : Launch} {G : Gt} {d : Nat} {M M' : Mem} {r : Option Vl} {x1 : Int} {x2 : Int} (h : 
    ∃ (r_3 : Int) (M_1 : Mem), Cl l G d mX11_isPerson [vR (some (2, 0)), vI x1] M (some (vI r_3)) M_1 ∧ ((r_3 = 0 → r = some (vI (-1)) ∧ M' = M_1) ∧ (¬ (r_3 = 0) → ∃ (r_6 : Int) (M_4 : Mem), Cl l G d mX11_isDay [vI x2] M_1 (some (vI r_6)) M_4 ∧ Sh M_4.2.1 ∧ ((¬ r_6 = 0 → ∃ (k_9 : Nat) (M_7 : Mem), Cl l G d mX6_on [vR (some (6, 0)), vI x2] M_4 (some (vR (some (14, k_9)))) M_7 ∧ (∃ (r_12 : Int) (M_10 : Mem), Cl l G d mX11_seenBy [vR (some (2, 0)), vI x1, vR (some (14, k_9))] M_7 (some (vI r_12)) M_10 ∧ r = some (vI r_12) ∧ M' = M_10)) ∧ (¬ (¬ r_6 = 0) → r = some (vI (-1)) ∧ M' = M_4))))) : Cl l G (d + 1) mX11_sees [vR (some (2, 0)), vI x1, vI x2] M r M' := by
  show Ex l G (d + 1) mX11_sees 0 [some (vR (some (2, 0))), some (vI x1), some (vI x2)] [] M r M'
  refine r_aload_n 1 dX11_sees_0 rfl rfl ?_
  refine r_iload_n 2 dX11_sees_1 rfl rfl ?_
  obtain ⟨r_3, M_1, hc_2, h⟩ := h
  refine v_1 (ci := 11) (C := (RX11, TX11, 14)) [vI x1] [] 5 dX11_sees_2 rfl rfl rfl rfl rfl mo_X11_isPerson ml_11_121 rfl rfl hc_2 ?_
  refine r_if_eq 8 15 dX11_sees_5 rfl rfl (fun c => ?_) (fun c => ?_)
  · have h := h.1 (c)
    refine r_iconst 16 dX11_sees_15 rfl (InR_of rfl) ?_
    exact r_iret dX11_sees_16 rfl (.inl rfl) h.1 h.2
  · have h := h.2 (c)
    refine r_iload_n 9 dX11_sees_8 rfl rfl ?_
    obtain ⟨r_6, M_4, hc_5, hS, h⟩ := h
    refine c_1 [vI x2] [] 12 dX11_sees_9 rfl rfl mo_X11_isDay ml_11_118 rfl rfl hc_5 ?_
    refine r_if_ne 15 17 dX11_sees_12 rfl rfl (fun c => ?_) (fun c => ?_)
    · have h := h.1 (c)
      refine r_aload_n 18 dX11_sees_17 rfl rfl ?_
      refine r_iload_n 19 dX11_sees_18 rfl rfl ?_
      refine r_aload_n 20 dX11_sees_19 rfl rfl ?_
      refine g_R 23 dX11_sees_20 rfl rfl rfl fr_11_21 (sh_11_1 hS) ?_
      refine r_iload_n 24 dX11_sees_23 rfl rfl ?_
      obtain ⟨k_9, M_7, hc_8, h⟩ := h
      refine v_1 (ci := 6) (C := (RX6, TX6, 3)) [vI x2] [vI x1, vR (some (2, 0))] 27 dX11_sees_24 rfl rfl rfl rfl rfl mo_X6_on ml_11_158 rfl rfl hc_8 ?_
      obtain ⟨r_12, M_10, hc_11, h⟩ := h
      refine v_1 (ci := 11) (C := (RX11, TX11, 14)) [vI x1, vR (some (14, k_9))] [] 30 dX11_sees_27 rfl rfl rfl rfl rfl mo_X11_seenBy ml_11_174 rfl rfl hc_11 ?_
      exact r_iret dX11_sees_30 rfl (.inl rfl) h.1 h.2
    · have h := h.2 (c)
      refine r_iconst 16 dX11_sees_15 rfl (InR_of rfl) ?_
      exact r_iret dX11_sees_16 rfl (.inl rfl) h.1 h.2

set_option maxRecDepth 4000 in
theorem xX11_far_0 {l : Launch} {G : Gt} {d : Nat} {M M' : Mem} {r : Option Vl} {x1 : Int} {x2 : Int} (h : 
    ∃ (r_3 : Int) (M_1 : Mem), Cl l G d mX11_isPlace [vI x1] M (some (vI r_3)) M_1 ∧ ((r_3 = 0 → r = some (vI (-1)) ∧ M' = M_1) ∧ (¬ (r_3 = 0) → ∃ (r_6 : Int) (M_4 : Mem), Cl l G d mX11_isPlace [vI x2] M_1 (some (vI r_6)) M_4 ∧ Sh M_4.2.1 ∧ ((¬ r_6 = 0 → (InR (x1 * 8) ∧ InR ((x1 * 8) + x2) ∧ (0 ≤ ((x1 * 8) + x2) ∧ ((x1 * 8) + x2) < 64)) ∧ r = some (vI (if ¬ (M_4.1 45 0 ((x1 * 8) + x2).toNat) = 1000 then (M_4.1 45 0 ((x1 * 8) + x2).toNat) else (-2) : Int)) ∧ M' = M_4) ∧ (¬ (¬ r_6 = 0) → r = some (vI (-1)) ∧ M' = M_4))))) : Cl l G (d + 1) mX11_far [vR (some (2, 0)), vI x1, vI x2] M r M' := by
  show Ex l G (d + 1) mX11_far 0 [some (vR (some (2, 0))), some (vI x1), some (vI x2), none] [] M r M'
  refine r_iload_n 1 dX11_far_0 rfl rfl ?_
  obtain ⟨r_3, M_1, hc_2, h⟩ := h
  refine c_1 [vI x1] [] 4 dX11_far_1 rfl rfl mo_X11_isPlace ml_11_90 rfl rfl hc_2 ?_
  refine r_if_eq 7 14 dX11_far_4 rfl rfl (fun c => ?_) (fun c => ?_)
  · have h := h.1 (c)
    refine r_iconst 15 dX11_far_14 rfl (InR_of rfl) ?_
    exact r_iret dX11_far_15 rfl (.inl rfl) h.1 h.2
  · have h := h.2 (c)
    refine r_iload_n 8 dX11_far_7 rfl rfl ?_
    obtain ⟨r_6, M_4, hc_5, hS, h⟩ := h
    refine c_1 [vI x2] [] 11 dX11_far_8 rfl rfl mo_X11_isPlace ml_11_90 rfl rfl hc_5 ?_
    refine r_if_ne 14 16 dX11_far_11 rfl rfl (fun c => ?_) (fun c => ?_)
    · have h := h.1 (c)
      obtain ⟨⟨o_7, o_8, o_9⟩, h⟩ := h
      refine r_aload_n 17 dX11_far_16 rfl rfl ?_
      refine g_R 20 dX11_far_17 rfl rfl rfl fr_11_28 (sh_11_2 hS) ?_
      refine g_R 23 dX11_far_20 rfl rfl rfl fr_11_178 (sh_10_0 hS) ?_
      refine r_iload_n 24 dX11_far_23 rfl rfl ?_
      refine r_bipush 26 dX11_far_24 rfl rfl ?_
      refine r_imul 27 dX11_far_26 rfl o_7 ?_
      refine r_iload_n 28 dX11_far_27 rfl rfl ?_
      refine r_iadd 29 dX11_far_28 rfl o_8 ?_
      refine a_I 64 30 dX11_far_29 rfl rfl rfl rfl o_9 rfl ?_
      refine r_istore_n (ls' := [some (vR (some (2, 0))), some (vI x1), some (vI x2), some (vI (M_4.1 45 0 ((x1 * 8) + x2).toNat))]) 31 dX11_far_30 rfl rfl rfl rfl ?_
      refine r_iload_n 32 dX11_far_31 rfl rfl ?_
      refine r_sipush 35 dX11_far_32 rfl rfl ?_
      have hJ_10 : Ex l G (d + 1) mX11_far 44 [some (vR (some (2, 0))), some (vI x1), some (vI x2), some (vI (M_4.1 45 0 ((x1 * 8) + x2).toNat))] [vI (if ¬ (M_4.1 45 0 ((x1 * 8) + x2).toNat) = 1000 then (M_4.1 45 0 ((x1 * 8) + x2).toNat) else (-2) : Int)] M_4 r M' := by
        exact r_iret dX11_far_44 rfl (.inl rfl) h.1 h.2
      refine r_icmp_ne 38 43 dX11_far_35 rfl rfl (fun c => ?_) (fun c => ?_)
      · have c_11 := c
        refine r_iload_n 44 dX11_far_43 rfl rfl ?_
        exact (Ex.at hJ_10 rfl (show [vI (M_4.1 45 0 ((x1 * 8) + x2).toNat)] = [vI (if ¬ (M_4.1 45 0 ((x1 * 8) + x2).toNat) = 1000 then (M_4.1 45 0 ((x1 * 8) + x2).toNat) else (-2) : Int)] by simp only [if_pos c_11]) rfl)
      · have c_11 := c
        refine r_bipush 40 dX11_far_38 rfl rfl ?_
        refine r_goto 44 dX11_far_40 rfl ?_
        exact (Ex.at hJ_10 rfl (show [vI (-2)] = [vI (if ¬ (M_4.1 45 0 ((x1 * 8) + x2).toNat) = 1000 then (M_4.1 45 0 ((x1 * 8) + x2).toNat) else (-2) : Int)] by simp only [if_neg c_11]) rfl)
    · have h := h.2 (c)
      refine r_iconst 15 dX11_far_14 rfl (InR_of rfl) ?_
      exact r_iret dX11_far_15 rfl (.inl rfl) h.1 h.2

set_option maxRecDepth 4000 in
theorem xX11_fits_0 {l : Launch} {G : Gt} {d : Nat} {M M' : Mem} {r : Option Vl} {x1 : Int} {x2 : Int} {x3 : Int} {x4 : Int} {x5 : Int} (h : 
    ∃ (o_3 : Option Nm) (M_1 : Mem), Cl l G d mX11_coverOf [vR (some (2, 0)), vI x1] M (some (vR o_3)) M_1 ∧ ((o_3 = none → r = some (vI (-2)) ∧ M' = M_1) ∧ (¬ (o_3 = none) → ∃ (r_6 : Int) (M_4 : Mem), Cl l G d mX11_isPerson [vR (some (2, 0)), vI x2] M_1 (some (vI r_6)) M_4 ∧ ((r_6 = 0 → r = some (vI (-2)) ∧ M' = M_4) ∧ (¬ (r_6 = 0) → ∃ (r_9 : Int) (M_7 : Mem), Cl l G d mX11_isDay [vI x3] M_4 (some (vI r_9)) M_7 ∧ ((r_9 = 0 → r = some (vI (-2)) ∧ M' = M_7) ∧ (¬ (r_9 = 0) → ∃ (r_12 : Int) (M_10 : Mem), Cl l G d mX11_isDay [vI x4] M_7 (some (vI r_12)) M_10 ∧ ((¬ r_12 = 0 → (x5 = (-1) → ∃ k_13 : Nat, o_3 = some (13, k_13) ∧ (∃ (r_17 : Int) (M_15 : Mem), Cl l G d mX11_fitFor [vR (some (2, 0)), vR (some (13, k_13)), vI x2, vI x3, vI x4, vI x5] M_10 (some (vI r_17)) M_15 ∧ r = some (vI r_17) ∧ M' = M_15)) ∧ (¬ (x5 = (-1)) → ∃ (r_20 : Int) (M_18 : Mem), Cl l G d mX11_isPerson [vR (some (2, 0)), vI x5] M_10 (some (vI r_20)) M_18 ∧ ((¬ r_20 = 0 → ∃ k_21 : Nat, o_3 = some (13, k_21) ∧ (∃ (r_25 : Int) (M_23 : Mem), Cl l G d mX11_fitFor [vR (some (2, 0)), vR (some (13, k_21)), vI x2, vI x3, vI x4, vI x5] M_18 (some (vI r_25)) M_23 ∧ r = some (vI r_25) ∧ M' = M_23)) ∧ (¬ (¬ r_20 = 0) → r = some (vI (-2)) ∧ M' = M_18)))) ∧ (¬ (¬ r_12 = 0) → r = some (vI (-2)) ∧ M' = M_10))))))))) : Cl l G (d + 1) mX11_fits [vR (some (2, 0)), vI x1, vI x2, vI x3, vI x4, vI x5] M r M' := by
  show Ex l G (d + 1) mX11_fits 0 [some (vR (some (2, 0))), some (vI x1), some (vI x2), some (vI x3), some (vI x4), some (vI x5), none] [] M r M'
  refine r_aload_n 1 dX11_fits_0 rfl rfl ?_
  refine r_iload_n 2 dX11_fits_1 rfl rfl ?_
  obtain ⟨o_3, M_1, hc_2, h⟩ := h
  refine v_1 (ci := 11) (C := (RX11, TX11, 14)) [vI x1] [] 5 dX11_fits_2 rfl rfl rfl rfl rfl mo_X11_coverOf ml_11_181 rfl rfl hc_2 ?_
  refine r_astore (ls' := [some (vR (some (2, 0))), some (vI x1), some (vI x2), some (vI x3), some (vI x4), some (vI x5), some (vR o_3)]) 7 dX11_fits_5 rfl rfl rfl rfl ?_
  refine r_aload 9 dX11_fits_7 rfl rfl ?_
  refine r_ifnull 12 35 dX11_fits_9 rfl rfl (fun c => ?_) (fun c => ?_)
  · have h := h.1 (c)
    refine r_bipush 37 dX11_fits_35 rfl rfl ?_
    exact r_iret dX11_fits_37 rfl (.inl rfl) h.1 h.2
  · have h := h.2 (c)
    refine r_aload_n 13 dX11_fits_12 rfl rfl ?_
    refine r_iload_n 14 dX11_fits_13 rfl rfl ?_
    obtain ⟨r_6, M_4, hc_5, h⟩ := h
    refine v_1 (ci := 11) (C := (RX11, TX11, 14)) [vI x2] [] 17 dX11_fits_14 rfl rfl rfl rfl rfl mo_X11_isPerson ml_11_121 rfl rfl hc_5 ?_
    refine r_if_eq 20 35 dX11_fits_17 rfl rfl (fun c => ?_) (fun c => ?_)
    · have h := h.1 (c)
      refine r_bipush 37 dX11_fits_35 rfl rfl ?_
      exact r_iret dX11_fits_37 rfl (.inl rfl) h.1 h.2
    · have h := h.2 (c)
      refine r_iload_n 21 dX11_fits_20 rfl rfl ?_
      obtain ⟨r_9, M_7, hc_8, h⟩ := h
      refine c_1 [vI x3] [] 24 dX11_fits_21 rfl rfl mo_X11_isDay ml_11_118 rfl rfl hc_8 ?_
      refine r_if_eq 27 35 dX11_fits_24 rfl rfl (fun c => ?_) (fun c => ?_)
      · have h := h.1 (c)
        refine r_bipush 37 dX11_fits_35 rfl rfl ?_
        exact r_iret dX11_fits_37 rfl (.inl rfl) h.1 h.2
      · have h := h.2 (c)
        refine r_iload 29 dX11_fits_27 rfl rfl ?_
        obtain ⟨r_12, M_10, hc_11, h⟩ := h
        refine c_1 [vI x4] [] 32 dX11_fits_29 rfl rfl mo_X11_isDay ml_11_118 rfl rfl hc_11 ?_
        refine r_if_ne 35 38 dX11_fits_32 rfl rfl (fun c => ?_) (fun c => ?_)
        · have h := h.1 (c)
          refine r_iload 40 dX11_fits_38 rfl rfl ?_
          refine r_iconst 41 dX11_fits_40 rfl (InR_of rfl) ?_
          refine r_icmp_eq 44 56 dX11_fits_41 rfl rfl (fun c => ?_) (fun c => ?_)
          · have h := h.1 (c)
            refine r_aload_n 57 dX11_fits_56 rfl rfl ?_
            refine r_aload 59 dX11_fits_57 rfl rfl ?_
            refine r_iload_n 60 dX11_fits_59 rfl rfl ?_
            refine r_iload_n 61 dX11_fits_60 rfl rfl ?_
            refine r_iload 63 dX11_fits_61 rfl rfl ?_
            refine r_iload 65 dX11_fits_63 rfl rfl ?_
            obtain ⟨k_13, e_14, h⟩ := h
            refine Ex.at (st2 := [vI x5, vI x4, vI x3, vI x2, vR (some (13, k_13)), vR (some (2, 0))]) ?_ rfl (show [vI x5, vI x4, vI x3, vI x2, vR o_3, vR (some (2, 0))] = [vI x5, vI x4, vI x3, vI x2, vR (some (13, k_13)), vR (some (2, 0))] by rw [e_14]) rfl
            obtain ⟨r_17, M_15, hc_16, h⟩ := h
            refine v_1 (ci := 11) (C := (RX11, TX11, 14)) [vR (some (13, k_13)), vI x2, vI x3, vI x4, vI x5] [] 68 dX11_fits_65 rfl rfl rfl rfl rfl mo_X11_fitFor ml_11_184 rfl rfl hc_16 ?_
            exact r_iret dX11_fits_68 rfl (.inl rfl) h.1 h.2
          · have h := h.2 (c)
            refine r_aload_n 45 dX11_fits_44 rfl rfl ?_
            refine r_iload 47 dX11_fits_45 rfl rfl ?_
            obtain ⟨r_20, M_18, hc_19, h⟩ := h
            refine v_1 (ci := 11) (C := (RX11, TX11, 14)) [vI x5] [] 50 dX11_fits_47 rfl rfl rfl rfl rfl mo_X11_isPerson ml_11_121 rfl rfl hc_19 ?_
            refine r_if_ne 53 56 dX11_fits_50 rfl rfl (fun c => ?_) (fun c => ?_)
            · have h := h.1 (c)
              refine r_aload_n 57 dX11_fits_56 rfl rfl ?_
              refine r_aload 59 dX11_fits_57 rfl rfl ?_
              refine r_iload_n 60 dX11_fits_59 rfl rfl ?_
              refine r_iload_n 61 dX11_fits_60 rfl rfl ?_
              refine r_iload 63 dX11_fits_61 rfl rfl ?_
              refine r_iload 65 dX11_fits_63 rfl rfl ?_
              obtain ⟨k_21, e_22, h⟩ := h
              refine Ex.at (st2 := [vI x5, vI x4, vI x3, vI x2, vR (some (13, k_21)), vR (some (2, 0))]) ?_ rfl (show [vI x5, vI x4, vI x3, vI x2, vR o_3, vR (some (2, 0))] = [vI x5, vI x4, vI x3, vI x2, vR (some (13, k_21)), vR (some (2, 0))] by rw [e_22]) rfl
              obtain ⟨r_25, M_23, hc_24, h⟩ := h
              refine v_1 (ci := 11) (C := (RX11, TX11, 14)) [vR (some (13, k_21)), vI x2, vI x3, vI x4, vI x5] [] 68 dX11_fits_65 rfl rfl rfl rfl rfl mo_X11_fitFor ml_11_184 rfl rfl hc_24 ?_
              exact r_iret dX11_fits_68 rfl (.inl rfl) h.1 h.2
            · have h := h.2 (c)
              refine r_bipush 55 dX11_fits_53 rfl rfl ?_
              exact r_iret dX11_fits_55 rfl (.inl rfl) h.1 h.2
        · have h := h.2 (c)
          refine r_bipush 37 dX11_fits_35 rfl rfl ?_
          exact r_iret dX11_fits_37 rfl (.inl rfl) h.1 h.2

set_option maxRecDepth 4000 in
theorem xX11_stale_0 {l : Launch} {G : Gt} {d : Nat} {M M' : Mem} {r : Option Vl} {x1 : Int} {x2 : Int} {x3 : Int} {x4 : Int} (h : 
    ∃ (o_3 : Option Nm) (M_1 : Mem), Cl l G d mX11_coverOf [vR (some (2, 0)), vI x1] M (some (vR o_3)) M_1 ∧ ((o_3 = none → r = some (vI (-1)) ∧ M' = M_1) ∧ (¬ (o_3 = none) → ∃ (r_6 : Int) (M_4 : Mem), Cl l G d mX11_isPerson [vR (some (2, 0)), vI x2] M_1 (some (vI r_6)) M_4 ∧ ((r_6 = 0 → r = some (vI (-1)) ∧ M' = M_4) ∧ (¬ (r_6 = 0) → ∃ (r_9 : Int) (M_7 : Mem), Cl l G d mX11_isPerson [vR (some (2, 0)), vI x3] M_4 (some (vI r_9)) M_7 ∧ ((r_9 = 0 → r = some (vI (-1)) ∧ M' = M_7) ∧ (¬ (r_9 = 0) → ∃ (r_12 : Int) (M_10 : Mem), Cl l G d mX11_isDay [vI x4] M_7 (some (vI r_12)) M_10 ∧ ((¬ r_12 = 0 → (InR (x4 + 99)) ∧ Ex l G (d + 1) mX11_stale 55 [some (vR (some (2, 0))), some (vI x1), some (vI x2), some (vI x3), some (vI x4), some (vR o_3), some (vI (if 999 < (x4 + 99) then 999 else (x4 + 99) : Int)), some (vI x4)] [] M_10 r M') ∧ (¬ (¬ r_12 = 0) → r = some (vI (-1)) ∧ M' = M_10))))))))) : Cl l G (d + 1) mX11_stale [vR (some (2, 0)), vI x1, vI x2, vI x3, vI x4] M r M' := by
  show Ex l G (d + 1) mX11_stale 0 [some (vR (some (2, 0))), some (vI x1), some (vI x2), some (vI x3), some (vI x4), none, none, none] [] M r M'
  refine r_aload_n 1 dX11_stale_0 rfl rfl ?_
  refine r_iload_n 2 dX11_stale_1 rfl rfl ?_
  obtain ⟨o_3, M_1, hc_2, h⟩ := h
  refine v_1 (ci := 11) (C := (RX11, TX11, 14)) [vI x1] [] 5 dX11_stale_2 rfl rfl rfl rfl rfl mo_X11_coverOf ml_11_181 rfl rfl hc_2 ?_
  refine r_astore (ls' := [some (vR (some (2, 0))), some (vI x1), some (vI x2), some (vI x3), some (vI x4), some (vR o_3), none, none]) 7 dX11_stale_5 rfl rfl rfl rfl ?_
  refine r_aload 9 dX11_stale_7 rfl rfl ?_
  refine r_ifnull 12 36 dX11_stale_9 rfl rfl (fun c => ?_) (fun c => ?_)
  · have h := h.1 (c)
    refine r_iconst 37 dX11_stale_36 rfl (InR_of rfl) ?_
    exact r_iret dX11_stale_37 rfl (.inl rfl) h.1 h.2
  · have h := h.2 (c)
    refine r_aload_n 13 dX11_stale_12 rfl rfl ?_
    refine r_iload_n 14 dX11_stale_13 rfl rfl ?_
    obtain ⟨r_6, M_4, hc_5, h⟩ := h
    refine v_1 (ci := 11) (C := (RX11, TX11, 14)) [vI x2] [] 17 dX11_stale_14 rfl rfl rfl rfl rfl mo_X11_isPerson ml_11_121 rfl rfl hc_5 ?_
    refine r_if_eq 20 36 dX11_stale_17 rfl rfl (fun c => ?_) (fun c => ?_)
    · have h := h.1 (c)
      refine r_iconst 37 dX11_stale_36 rfl (InR_of rfl) ?_
      exact r_iret dX11_stale_37 rfl (.inl rfl) h.1 h.2
    · have h := h.2 (c)
      refine r_aload_n 21 dX11_stale_20 rfl rfl ?_
      refine r_iload_n 22 dX11_stale_21 rfl rfl ?_
      obtain ⟨r_9, M_7, hc_8, h⟩ := h
      refine v_1 (ci := 11) (C := (RX11, TX11, 14)) [vI x3] [] 25 dX11_stale_22 rfl rfl rfl rfl rfl mo_X11_isPerson ml_11_121 rfl rfl hc_8 ?_
      refine r_if_eq 28 36 dX11_stale_25 rfl rfl (fun c => ?_) (fun c => ?_)
      · have h := h.1 (c)
        refine r_iconst 37 dX11_stale_36 rfl (InR_of rfl) ?_
        exact r_iret dX11_stale_37 rfl (.inl rfl) h.1 h.2
      · have h := h.2 (c)
        refine r_iload 30 dX11_stale_28 rfl rfl ?_
        obtain ⟨r_12, M_10, hc_11, h⟩ := h
        refine c_1 [vI x4] [] 33 dX11_stale_30 rfl rfl mo_X11_isDay ml_11_118 rfl rfl hc_11 ?_
        refine r_if_ne 36 38 dX11_stale_33 rfl rfl (fun c => ?_) (fun c => ?_)
        · have h := h.1 (c)
          obtain ⟨o_13, h⟩ := h
          refine r_iload 40 dX11_stale_38 rfl rfl ?_
          refine r_bipush 42 dX11_stale_40 rfl rfl ?_
          refine r_iadd 43 dX11_stale_42 rfl o_13 ?_
          refine r_sipush 46 dX11_stale_43 rfl rfl ?_
          refine r_min 49 dX11_stale_46 rfl (inT4 (List.mem_of_getElem? (i := 60) rfl) rfl) rfl ?_
          refine r_istore (ls' := [some (vR (some (2, 0))), some (vI x1), some (vI x2), some (vI x3), some (vI x4), some (vR o_3), some (vI (if 999 < (x4 + 99) then 999 else (x4 + 99) : Int)), none]) 51 dX11_stale_49 rfl rfl rfl rfl ?_
          refine r_iload 53 dX11_stale_51 rfl rfl ?_
          refine r_istore (ls' := [some (vR (some (2, 0))), some (vI x1), some (vI x2), some (vI x3), some (vI x4), some (vR o_3), some (vI (if 999 < (x4 + 99) then 999 else (x4 + 99) : Int)), some (vI x4)]) 55 dX11_stale_53 rfl rfl rfl rfl ?_
          exact h
        · have h := h.2 (c)
          refine r_iconst 37 dX11_stale_36 rfl (InR_of rfl) ?_
          exact r_iret dX11_stale_37 rfl (.inl rfl) h.1 h.2
set_option maxRecDepth 4000 in
theorem xX11_stale_55 {l : Launch} {G : Gt} {d : Nat} {M M' : Mem} {r : Option Vl} {x1 : Int} {x2 : Int} {x3 : Int} {x4 : Int} {o5 : Option Nm} {x6 : Int} {x7 : Int} (h : 
    (x6 < x7 → r = some (vI (-2)) ∧ M' = M) ∧ (¬ (x6 < x7) → ∃ k_1 : Nat, o5 = some (13, k_1) ∧ (∃ (r_5 : Int) (M_3 : Mem), Cl l G d mX11_fitFor [vR (some (2, 0)), vR (some (13, k_1)), vI x2, vI x4, vI x7, vI (-1)] M (some (vI r_5)) M_3 ∧ (((0 ≤ x3 ∧ x3 < 32)) ∧ ((r_5 = (aShl 1 x3) → (InR (x7 + 1)) ∧ Ex l G (d + 1) mX11_stale 55 [some (vR (some (2, 0))), some (vI x1), some (vI x2), some (vI x3), some (vI x4), some (vR (some (13, k_1))), some (vI x6), some (vI (x7 + 1))] [] M_3 r M') ∧ (¬ (r_5 = (aShl 1 x3)) → r = some (vI x7) ∧ M' = M_3)))))) : Ex l G (d + 1) mX11_stale 55 [some (vR (some (2, 0))), some (vI x1), some (vI x2), some (vI x3), some (vI x4), some (vR o5), some (vI x6), some (vI x7)] [] M r M' := by
  refine r_iload 57 dX11_stale_55 rfl rfl ?_
  refine r_iload 59 dX11_stale_57 rfl rfl ?_
  refine r_icmp_gt 62 89 dX11_stale_59 rfl rfl (fun c => ?_) (fun c => ?_)
  · have h := h.1 (c)
    refine r_bipush 91 dX11_stale_89 rfl rfl ?_
    exact r_iret dX11_stale_91 rfl (.inl rfl) h.1 h.2
  · have h := h.2 (c)
    refine r_aload_n 63 dX11_stale_62 rfl rfl ?_
    refine r_aload 65 dX11_stale_63 rfl rfl ?_
    refine r_iload_n 66 dX11_stale_65 rfl rfl ?_
    refine r_iload 68 dX11_stale_66 rfl rfl ?_
    refine r_iload 70 dX11_stale_68 rfl rfl ?_
    refine r_iconst 71 dX11_stale_70 rfl (InR_of rfl) ?_
    obtain ⟨k_1, e_2, h⟩ := h
    refine Ex.at (st2 := [vI (-1), vI x7, vI x4, vI x2, vR (some (13, k_1)), vR (some (2, 0))]) ?_ rfl (show [vI (-1), vI x7, vI x4, vI x2, vR o5, vR (some (2, 0))] = [vI (-1), vI x7, vI x4, vI x2, vR (some (13, k_1)), vR (some (2, 0))] by rw [e_2]) rfl
    obtain ⟨r_5, M_3, hc_4, h⟩ := h
    refine v_1 (ci := 11) (C := (RX11, TX11, 14)) [vR (some (13, k_1)), vI x2, vI x4, vI x7, vI (-1)] [] 74 dX11_stale_71 rfl rfl rfl rfl rfl mo_X11_fitFor ml_11_184 rfl rfl hc_4 ?_
    obtain ⟨o_6, h⟩ := h
    refine r_iconst 75 dX11_stale_74 rfl (InR_of rfl) ?_
    refine r_iload_n 76 dX11_stale_75 rfl rfl ?_
    refine r_ishl 77 dX11_stale_76 rfl o_6 ?_
    refine r_icmp_eq 80 83 dX11_stale_77 rfl rfl (fun c => ?_) (fun c => ?_)
    · have h := h.1 (c)
      obtain ⟨o_7, h⟩ := h
      refine r_iinc (ls' := [some (vR (some (2, 0))), some (vI x1), some (vI x2), some (vI x3), some (vI x4), some (vR o5), some (vI x6), some (vI (x7 + 1))]) 86 dX11_stale_83 rfl rfl rfl rfl o_7 rfl ?_
      refine r_goto 55 dX11_stale_86 rfl ?_
      exact (Ex.at h (show [some (vR (some (2, 0))), some (vI x1), some (vI x2), some (vI x3), some (vI x4), some (vR o5), some (vI x6), some (vI (x7 + 1))] = [some (vR (some (2, 0))), some (vI x1), some (vI x2), some (vI x3), some (vI x4), some (vR (some (13, k_1))), some (vI x6), some (vI (x7 + 1))] by rw [e_2]) rfl rfl)
    · have h := h.2 (c)
      refine r_iload 82 dX11_stale_80 rfl rfl ?_
      exact r_iret dX11_stale_82 rfl (.inl rfl) h.1 h.2

set_option maxRecDepth 4000 in
theorem xX11_alone_0 {l : Launch} {G : Gt} {d : Nat} {M M' : Mem} {r : Option Vl} {x1 : Int} {x2 : Int} {x3 : Int} {x4 : Int} (h : 
    ∃ (o_3 : Option Nm) (M_1 : Mem), Cl l G d mX11_coverOf [vR (some (2, 0)), vI x1] M (some (vR o_3)) M_1 ∧ ((o_3 = none → r = some (vI (-1)) ∧ M' = M_1) ∧ (¬ (o_3 = none) → ∃ (r_6 : Int) (M_4 : Mem), Cl l G d mX11_isPerson [vR (some (2, 0)), vI x2] M_1 (some (vI r_6)) M_4 ∧ ((r_6 = 0 → r = some (vI (-1)) ∧ M' = M_4) ∧ (¬ (r_6 = 0) → ∃ (r_9 : Int) (M_7 : Mem), Cl l G d mX11_isPerson [vR (some (2, 0)), vI x3] M_4 (some (vI r_9)) M_7 ∧ ((r_9 = 0 → r = some (vI (-1)) ∧ M' = M_7) ∧ (¬ (r_9 = 0) → ∃ (r_12 : Int) (M_10 : Mem), Cl l G d mX11_isDay [vI x4] M_7 (some (vI r_12)) M_10 ∧ ((¬ r_12 = 0 → (InR (x4 + 99)) ∧ Ex l G (d + 1) mX11_alone 58 [some (vR (some (2, 0))), some (vI x1), some (vI x2), some (vI x3), some (vI x4), some (vR o_3), some (vI (if 999 < (x4 + 99) then 999 else (x4 + 99) : Int)), some (vI 0), some (vI x4)] [] M_10 r M') ∧ (¬ (¬ r_12 = 0) → r = some (vI (-1)) ∧ M' = M_10))))))))) : Cl l G (d + 1) mX11_alone [vR (some (2, 0)), vI x1, vI x2, vI x3, vI x4] M r M' := by
  show Ex l G (d + 1) mX11_alone 0 [some (vR (some (2, 0))), some (vI x1), some (vI x2), some (vI x3), some (vI x4), none, none, none, none] [] M r M'
  refine r_aload_n 1 dX11_alone_0 rfl rfl ?_
  refine r_iload_n 2 dX11_alone_1 rfl rfl ?_
  obtain ⟨o_3, M_1, hc_2, h⟩ := h
  refine v_1 (ci := 11) (C := (RX11, TX11, 14)) [vI x1] [] 5 dX11_alone_2 rfl rfl rfl rfl rfl mo_X11_coverOf ml_11_181 rfl rfl hc_2 ?_
  refine r_astore (ls' := [some (vR (some (2, 0))), some (vI x1), some (vI x2), some (vI x3), some (vI x4), some (vR o_3), none, none, none]) 7 dX11_alone_5 rfl rfl rfl rfl ?_
  refine r_aload 9 dX11_alone_7 rfl rfl ?_
  refine r_ifnull 12 36 dX11_alone_9 rfl rfl (fun c => ?_) (fun c => ?_)
  · have h := h.1 (c)
    refine r_iconst 37 dX11_alone_36 rfl (InR_of rfl) ?_
    exact r_iret dX11_alone_37 rfl (.inl rfl) h.1 h.2
  · have h := h.2 (c)
    refine r_aload_n 13 dX11_alone_12 rfl rfl ?_
    refine r_iload_n 14 dX11_alone_13 rfl rfl ?_
    obtain ⟨r_6, M_4, hc_5, h⟩ := h
    refine v_1 (ci := 11) (C := (RX11, TX11, 14)) [vI x2] [] 17 dX11_alone_14 rfl rfl rfl rfl rfl mo_X11_isPerson ml_11_121 rfl rfl hc_5 ?_
    refine r_if_eq 20 36 dX11_alone_17 rfl rfl (fun c => ?_) (fun c => ?_)
    · have h := h.1 (c)
      refine r_iconst 37 dX11_alone_36 rfl (InR_of rfl) ?_
      exact r_iret dX11_alone_37 rfl (.inl rfl) h.1 h.2
    · have h := h.2 (c)
      refine r_aload_n 21 dX11_alone_20 rfl rfl ?_
      refine r_iload_n 22 dX11_alone_21 rfl rfl ?_
      obtain ⟨r_9, M_7, hc_8, h⟩ := h
      refine v_1 (ci := 11) (C := (RX11, TX11, 14)) [vI x3] [] 25 dX11_alone_22 rfl rfl rfl rfl rfl mo_X11_isPerson ml_11_121 rfl rfl hc_8 ?_
      refine r_if_eq 28 36 dX11_alone_25 rfl rfl (fun c => ?_) (fun c => ?_)
      · have h := h.1 (c)
        refine r_iconst 37 dX11_alone_36 rfl (InR_of rfl) ?_
        exact r_iret dX11_alone_37 rfl (.inl rfl) h.1 h.2
      · have h := h.2 (c)
        refine r_iload 30 dX11_alone_28 rfl rfl ?_
        obtain ⟨r_12, M_10, hc_11, h⟩ := h
        refine c_1 [vI x4] [] 33 dX11_alone_30 rfl rfl mo_X11_isDay ml_11_118 rfl rfl hc_11 ?_
        refine r_if_ne 36 38 dX11_alone_33 rfl rfl (fun c => ?_) (fun c => ?_)
        · have h := h.1 (c)
          obtain ⟨o_13, h⟩ := h
          refine r_iload 40 dX11_alone_38 rfl rfl ?_
          refine r_bipush 42 dX11_alone_40 rfl rfl ?_
          refine r_iadd 43 dX11_alone_42 rfl o_13 ?_
          refine r_sipush 46 dX11_alone_43 rfl rfl ?_
          refine r_min 49 dX11_alone_46 rfl (inT4 (List.mem_of_getElem? (i := 60) rfl) rfl) rfl ?_
          refine r_istore (ls' := [some (vR (some (2, 0))), some (vI x1), some (vI x2), some (vI x3), some (vI x4), some (vR o_3), some (vI (if 999 < (x4 + 99) then 999 else (x4 + 99) : Int)), none, none]) 51 dX11_alone_49 rfl rfl rfl rfl ?_
          refine r_iconst 52 dX11_alone_51 rfl (InR_of rfl) ?_
          refine r_istore (ls' := [some (vR (some (2, 0))), some (vI x1), some (vI x2), some (vI x3), some (vI x4), some (vR o_3), some (vI (if 999 < (x4 + 99) then 999 else (x4 + 99) : Int)), some (vI 0), none]) 54 dX11_alone_52 rfl rfl rfl rfl ?_
          refine r_iload 56 dX11_alone_54 rfl rfl ?_
          refine r_istore (ls' := [some (vR (some (2, 0))), some (vI x1), some (vI x2), some (vI x3), some (vI x4), some (vR o_3), some (vI (if 999 < (x4 + 99) then 999 else (x4 + 99) : Int)), some (vI 0), some (vI x4)]) 58 dX11_alone_56 rfl rfl rfl rfl ?_
          exact h
        · have h := h.2 (c)
          refine r_iconst 37 dX11_alone_36 rfl (InR_of rfl) ?_
          exact r_iret dX11_alone_37 rfl (.inl rfl) h.1 h.2
set_option maxRecDepth 4000 in
theorem xX11_alone_58 {l : Launch} {G : Gt} {d : Nat} {M M' : Mem} {r : Option Vl} {x1 : Int} {x2 : Int} {x3 : Int} {x4 : Int} {o5 : Option Nm} {x6 : Int} {x7 : Int} {x8 : Int} (h : 
    (x6 < x8 → r = some (vI x7) ∧ M' = M) ∧ (¬ (x6 < x8) → ∃ k_1 : Nat, o5 = some (13, k_1) ∧ (∃ (r_5 : Int) (M_3 : Mem), Cl l G d mX11_fitFor [vR (some (2, 0)), vR (some (13, k_1)), vI x2, vI x4, vI x8, vI (-1)] M (some (vI r_5)) M_3 ∧ (((0 ≤ x3 ∧ x3 < 32)) ∧ (((¬ (¬ r_5 = (aShl 1 x3)) → (InR (x7 + 1)))) ∧ (InR (x8 + 1)) ∧ Ex l G (d + 1) mX11_alone 58 [some (vR (some (2, 0))), some (vI x1), some (vI x2), some (vI x3), some (vI x4), some (vR (some (13, k_1))), some (vI x6), some (vI (if ¬ r_5 = (aShl 1 x3) then x7 else (x7 + 1) : Int)), some (vI (x8 + 1))] [] M_3 r M'))))) : Ex l G (d + 1) mX11_alone 58 [some (vR (some (2, 0))), some (vI x1), some (vI x2), some (vI x3), some (vI x4), some (vR o5), some (vI x6), some (vI x7), some (vI x8)] [] M r M' := by
  refine r_iload 60 dX11_alone_58 rfl rfl ?_
  refine r_iload 62 dX11_alone_60 rfl rfl ?_
  refine r_icmp_gt 65 92 dX11_alone_62 rfl rfl (fun c => ?_) (fun c => ?_)
  · have h := h.1 (c)
    refine r_iload 94 dX11_alone_92 rfl rfl ?_
    exact r_iret dX11_alone_94 rfl (.inl rfl) h.1 h.2
  · have h := h.2 (c)
    refine r_aload_n 66 dX11_alone_65 rfl rfl ?_
    refine r_aload 68 dX11_alone_66 rfl rfl ?_
    refine r_iload_n 69 dX11_alone_68 rfl rfl ?_
    refine r_iload 71 dX11_alone_69 rfl rfl ?_
    refine r_iload 73 dX11_alone_71 rfl rfl ?_
    refine r_iconst 74 dX11_alone_73 rfl (InR_of rfl) ?_
    obtain ⟨k_1, e_2, h⟩ := h
    refine Ex.at (st2 := [vI (-1), vI x8, vI x4, vI x2, vR (some (13, k_1)), vR (some (2, 0))]) ?_ rfl (show [vI (-1), vI x8, vI x4, vI x2, vR o5, vR (some (2, 0))] = [vI (-1), vI x8, vI x4, vI x2, vR (some (13, k_1)), vR (some (2, 0))] by rw [e_2]) rfl
    obtain ⟨r_5, M_3, hc_4, h⟩ := h
    refine v_1 (ci := 11) (C := (RX11, TX11, 14)) [vR (some (13, k_1)), vI x2, vI x4, vI x8, vI (-1)] [] 77 dX11_alone_74 rfl rfl rfl rfl rfl mo_X11_fitFor ml_11_184 rfl rfl hc_4 ?_
    obtain ⟨o_6, h⟩ := h
    refine r_iconst 78 dX11_alone_77 rfl (InR_of rfl) ?_
    refine r_iload_n 79 dX11_alone_78 rfl rfl ?_
    refine r_ishl 80 dX11_alone_79 rfl o_6 ?_
    obtain ⟨h0, h⟩ := h
    have hJ_7 : Ex l G (d + 1) mX11_alone 86 [some (vR (some (2, 0))), some (vI x1), some (vI x2), some (vI x3), some (vI x4), some (vR o5), some (vI x6), some (vI (if ¬ r_5 = (aShl 1 x3) then x7 else (x7 + 1) : Int)), some (vI x8)] [] M_3 r M' := by
      obtain ⟨o_10, h⟩ := h
      refine r_iinc (ls' := [some (vR (some (2, 0))), some (vI x1), some (vI x2), some (vI x3), some (vI x4), some (vR o5), some (vI x6), some (vI (if ¬ r_5 = (aShl 1 x3) then x7 else (x7 + 1) : Int)), some (vI (x8 + 1))]) 89 dX11_alone_86 rfl rfl rfl rfl o_10 rfl ?_
      refine r_goto 58 dX11_alone_89 rfl ?_
      exact (Ex.at h (show [some (vR (some (2, 0))), some (vI x1), some (vI x2), some (vI x3), some (vI x4), some (vR o5), some (vI x6), some (vI (if ¬ r_5 = (aShl 1 x3) then x7 else (x7 + 1) : Int)), some (vI (x8 + 1))] = [some (vR (some (2, 0))), some (vI x1), some (vI x2), some (vI x3), some (vI x4), some (vR (some (13, k_1))), some (vI x6), some (vI (if ¬ r_5 = (aShl 1 x3) then x7 else (x7 + 1) : Int)), some (vI (x8 + 1))] by rw [e_2]) rfl rfl)
    have h := h0
    refine r_icmp_ne 83 86 dX11_alone_80 rfl rfl (fun c => ?_) (fun c => ?_)
    · have c_8 := c
      exact (Ex.at hJ_7 (show [some (vR (some (2, 0))), some (vI x1), some (vI x2), some (vI x3), some (vI x4), some (vR o5), some (vI x6), some (vI x7), some (vI x8)] = [some (vR (some (2, 0))), some (vI x1), some (vI x2), some (vI x3), some (vI x4), some (vR o5), some (vI x6), some (vI (if ¬ r_5 = (aShl 1 x3) then x7 else (x7 + 1) : Int)), some (vI x8)] by simp only [if_pos c_8]) rfl rfl)
    · have c_8 := c
      have h := h c_8
      have o_9 := h
      refine r_iinc (ls' := [some (vR (some (2, 0))), some (vI x1), some (vI x2), some (vI x3), some (vI x4), some (vR o5), some (vI x6), some (vI (x7 + 1)), some (vI x8)]) 86 dX11_alone_83 rfl rfl rfl rfl o_9 rfl ?_
      exact (Ex.at hJ_7 (show [some (vR (some (2, 0))), some (vI x1), some (vI x2), some (vI x3), some (vI x4), some (vR o5), some (vI x6), some (vI (x7 + 1)), some (vI x8)] = [some (vR (some (2, 0))), some (vI x1), some (vI x2), some (vI x3), some (vI x4), some (vR o5), some (vI x6), some (vI (if ¬ r_5 = (aShl 1 x3) then x7 else (x7 + 1) : Int)), some (vI x8)] by simp only [if_neg c_8]) rfl rfl)

set_option maxRecDepth 4000 in
theorem xX11_tellers_0 {l : Launch} {G : Gt} {d : Nat} {M M' : Mem} {r : Option Vl} {x1 : Int} {x2 : Int} {x3 : Int} (h : 
    ∃ (o_3 : Option Nm) (M_1 : Mem), Cl l G d mX11_coverOf [vR (some (2, 0)), vI x1] M (some (vR o_3)) M_1 ∧ ((o_3 = none → r = some (vI (-1)) ∧ M' = M_1) ∧ (¬ (o_3 = none) → ∃ (r_6 : Int) (M_4 : Mem), Cl l G d mX11_isPerson [vR (some (2, 0)), vI x2] M_1 (some (vI r_6)) M_4 ∧ ((r_6 = 0 → r = some (vI (-1)) ∧ M' = M_4) ∧ (¬ (r_6 = 0) → ∃ (r_9 : Int) (M_7 : Mem), Cl l G d mX11_isDay [vI x3] M_4 (some (vI r_9)) M_7 ∧ ((¬ r_9 = 0 → Ex l G (d + 1) mX11_tellers 35 [some (vR (some (2, 0))), some (vI x1), some (vI x2), some (vI x3), some (vR o_3), some (vI 0), some (vI 0)] [] M_7 r M') ∧ (¬ (¬ r_9 = 0) → r = some (vI (-1)) ∧ M' = M_7))))))) : Cl l G (d + 1) mX11_tellers [vR (some (2, 0)), vI x1, vI x2, vI x3] M r M' := by
  show Ex l G (d + 1) mX11_tellers 0 [some (vR (some (2, 0))), some (vI x1), some (vI x2), some (vI x3), none, none, none] [] M r M'
  refine r_aload_n 1 dX11_tellers_0 rfl rfl ?_
  refine r_iload_n 2 dX11_tellers_1 rfl rfl ?_
  obtain ⟨o_3, M_1, hc_2, h⟩ := h
  refine v_1 (ci := 11) (C := (RX11, TX11, 14)) [vI x1] [] 5 dX11_tellers_2 rfl rfl rfl rfl rfl mo_X11_coverOf ml_11_181 rfl rfl hc_2 ?_
  refine r_astore (ls' := [some (vR (some (2, 0))), some (vI x1), some (vI x2), some (vI x3), some (vR o_3), none, none]) 7 dX11_tellers_5 rfl rfl rfl rfl ?_
  refine r_aload 9 dX11_tellers_7 rfl rfl ?_
  refine r_ifnull 12 27 dX11_tellers_9 rfl rfl (fun c => ?_) (fun c => ?_)
  · have h := h.1 (c)
    refine r_iconst 28 dX11_tellers_27 rfl (InR_of rfl) ?_
    exact r_iret dX11_tellers_28 rfl (.inl rfl) h.1 h.2
  · have h := h.2 (c)
    refine r_aload_n 13 dX11_tellers_12 rfl rfl ?_
    refine r_iload_n 14 dX11_tellers_13 rfl rfl ?_
    obtain ⟨r_6, M_4, hc_5, h⟩ := h
    refine v_1 (ci := 11) (C := (RX11, TX11, 14)) [vI x2] [] 17 dX11_tellers_14 rfl rfl rfl rfl rfl mo_X11_isPerson ml_11_121 rfl rfl hc_5 ?_
    refine r_if_eq 20 27 dX11_tellers_17 rfl rfl (fun c => ?_) (fun c => ?_)
    · have h := h.1 (c)
      refine r_iconst 28 dX11_tellers_27 rfl (InR_of rfl) ?_
      exact r_iret dX11_tellers_28 rfl (.inl rfl) h.1 h.2
    · have h := h.2 (c)
      refine r_iload_n 21 dX11_tellers_20 rfl rfl ?_
      obtain ⟨r_9, M_7, hc_8, h⟩ := h
      refine c_1 [vI x3] [] 24 dX11_tellers_21 rfl rfl mo_X11_isDay ml_11_118 rfl rfl hc_8 ?_
      refine r_if_ne 27 29 dX11_tellers_24 rfl rfl (fun c => ?_) (fun c => ?_)
      · have h := h.1 (c)
        refine r_iconst 30 dX11_tellers_29 rfl (InR_of rfl) ?_
        refine r_istore (ls' := [some (vR (some (2, 0))), some (vI x1), some (vI x2), some (vI x3), some (vR o_3), some (vI 0), none]) 32 dX11_tellers_30 rfl rfl rfl rfl ?_
        refine r_iconst 33 dX11_tellers_32 rfl (InR_of rfl) ?_
        refine r_istore (ls' := [some (vR (some (2, 0))), some (vI x1), some (vI x2), some (vI x3), some (vR o_3), some (vI 0), some (vI 0)]) 35 dX11_tellers_33 rfl rfl rfl rfl ?_
        exact h
      · have h := h.2 (c)
        refine r_iconst 28 dX11_tellers_27 rfl (InR_of rfl) ?_
        exact r_iret dX11_tellers_28 rfl (.inl rfl) h.1 h.2
set_option maxRecDepth 4000 in
theorem xX11_tellers_35 {l : Launch} {G : Gt} {d : Nat} {M M' : Mem} {r : Option Vl} {x1 : Int} {x2 : Int} {x3 : Int} {o4 : Option Nm} {x5 : Int} {x6 : Int} (hS : Sh M.2.1) (h : 
    ((M.1 4 0 0) ≤ x6 → r = some (vI x5) ∧ M' = M) ∧ (¬ ((M.1 4 0 0) ≤ x6) → ∃ k_1 : Nat, o4 = some (13, k_1) ∧ (∃ (r_5 : Int) (M_3 : Mem), Cl l G d mX11_fitFor [vR (some (2, 0)), vR (some (13, k_1)), vI x2, vI x3, vI x3, vI x6] M (some (vI r_5)) M_3 ∧ (((¬ (r_5 = 0) → ((0 ≤ x6 ∧ x6 < 32)))) ∧ (InR (x6 + 1)) ∧ Ex l G (d + 1) mX11_tellers 35 [some (vR (some (2, 0))), some (vI x1), some (vI x2), some (vI x3), some (vR (some (13, k_1))), some (vI (if r_5 = 0 then x5 else (aOr x5 (aShl 1 x6)) : Int)), some (vI (x6 + 1))] [] M_3 r M')))) : Ex l G (d + 1) mX11_tellers 35 [some (vR (some (2, 0))), some (vI x1), some (vI x2), some (vI x3), some (vR o4), some (vI x5), some (vI x6)] [] M r M' := by
  refine r_iload 37 dX11_tellers_35 rfl rfl ?_
  refine r_aload_n 38 dX11_tellers_37 rfl rfl ?_
  refine g_R 41 dX11_tellers_38 rfl rfl rfl fr_11_12 (sh_11_0 hS) ?_
  refine g_I 44 dX11_tellers_41 rfl rfl rfl fi_11_105 rfl ?_
  refine r_icmp_ge 47 76 dX11_tellers_44 rfl rfl (fun c => ?_) (fun c => ?_)
  · have h := h.1 (c)
    refine r_iload 78 dX11_tellers_76 rfl rfl ?_
    exact r_iret dX11_tellers_78 rfl (.inl rfl) h.1 h.2
  · have h := h.2 (c)
    refine r_aload_n 48 dX11_tellers_47 rfl rfl ?_
    refine r_aload 50 dX11_tellers_48 rfl rfl ?_
    refine r_iload_n 51 dX11_tellers_50 rfl rfl ?_
    refine r_iload_n 52 dX11_tellers_51 rfl rfl ?_
    refine r_iload_n 53 dX11_tellers_52 rfl rfl ?_
    refine r_iload 55 dX11_tellers_53 rfl rfl ?_
    obtain ⟨k_1, e_2, h⟩ := h
    refine Ex.at (st2 := [vI x6, vI x3, vI x3, vI x2, vR (some (13, k_1)), vR (some (2, 0))]) ?_ rfl (show [vI x6, vI x3, vI x3, vI x2, vR o4, vR (some (2, 0))] = [vI x6, vI x3, vI x3, vI x2, vR (some (13, k_1)), vR (some (2, 0))] by rw [e_2]) rfl
    obtain ⟨r_5, M_3, hc_4, h⟩ := h
    refine v_1 (ci := 11) (C := (RX11, TX11, 14)) [vR (some (13, k_1)), vI x2, vI x3, vI x3, vI x6] [] 58 dX11_tellers_55 rfl rfl rfl rfl rfl mo_X11_fitFor ml_11_184 rfl rfl hc_4 ?_
    obtain ⟨h0, h⟩ := h
    have hJ_6 : Ex l G (d + 1) mX11_tellers 70 [some (vR (some (2, 0))), some (vI x1), some (vI x2), some (vI x3), some (vR o4), some (vI (if r_5 = 0 then x5 else (aOr x5 (aShl 1 x6)) : Int)), some (vI x6)] [] M_3 r M' := by
      obtain ⟨o_9, h⟩ := h
      refine r_iinc (ls' := [some (vR (some (2, 0))), some (vI x1), some (vI x2), some (vI x3), some (vR o4), some (vI (if r_5 = 0 then x5 else (aOr x5 (aShl 1 x6)) : Int)), some (vI (x6 + 1))]) 73 dX11_tellers_70 rfl rfl rfl rfl o_9 rfl ?_
      refine r_goto 35 dX11_tellers_73 rfl ?_
      exact (Ex.at h (show [some (vR (some (2, 0))), some (vI x1), some (vI x2), some (vI x3), some (vR o4), some (vI (if r_5 = 0 then x5 else (aOr x5 (aShl 1 x6)) : Int)), some (vI (x6 + 1))] = [some (vR (some (2, 0))), some (vI x1), some (vI x2), some (vI x3), some (vR (some (13, k_1))), some (vI (if r_5 = 0 then x5 else (aOr x5 (aShl 1 x6)) : Int)), some (vI (x6 + 1))] by rw [e_2]) rfl rfl)
    have h := h0
    refine r_if_eq 61 70 dX11_tellers_58 rfl rfl (fun c => ?_) (fun c => ?_)
    · have c_7 := c
      exact (Ex.at hJ_6 (show [some (vR (some (2, 0))), some (vI x1), some (vI x2), some (vI x3), some (vR o4), some (vI x5), some (vI x6)] = [some (vR (some (2, 0))), some (vI x1), some (vI x2), some (vI x3), some (vR o4), some (vI (if r_5 = 0 then x5 else (aOr x5 (aShl 1 x6)) : Int)), some (vI x6)] by simp only [if_pos c_7]) rfl rfl)
    · have c_7 := c
      have h := h c_7
      have o_8 := h
      refine r_iload 63 dX11_tellers_61 rfl rfl ?_
      refine r_iconst 64 dX11_tellers_63 rfl (InR_of rfl) ?_
      refine r_iload 66 dX11_tellers_64 rfl rfl ?_
      refine r_ishl 67 dX11_tellers_66 rfl o_8 ?_
      refine r_ior 68 dX11_tellers_67 rfl ?_
      refine r_istore (ls' := [some (vR (some (2, 0))), some (vI x1), some (vI x2), some (vI x3), some (vR o4), some (vI (aOr x5 (aShl 1 x6))), some (vI x6)]) 70 dX11_tellers_68 rfl rfl rfl rfl ?_
      exact (Ex.at hJ_6 (show [some (vR (some (2, 0))), some (vI x1), some (vI x2), some (vI x3), some (vR o4), some (vI (aOr x5 (aShl 1 x6))), some (vI x6)] = [some (vR (some (2, 0))), some (vI x1), some (vI x2), some (vI x3), some (vR o4), some (vI (if r_5 = 0 then x5 else (aOr x5 (aShl 1 x6)) : Int)), some (vI x6)] by simp only [if_neg c_7]) rfl rfl)

set_option maxRecDepth 4000 in
theorem xX11_lied_0 {l : Launch} {G : Gt} {d : Nat} {M M' : Mem} {r : Option Vl} {x1 : Int} {x2 : Int} {x3 : Int} (h : 
    ∃ (o_3 : Option Nm) (M_1 : Mem), Cl l G d mX11_coverOf [vR (some (2, 0)), vI x1] M (some (vR o_3)) M_1 ∧ ((o_3 = none → r = some (vI (-1)) ∧ M' = M_1) ∧ (¬ (o_3 = none) → ∃ (r_6 : Int) (M_4 : Mem), Cl l G d mX11_isPerson [vR (some (2, 0)), vI x2] M_1 (some (vI r_6)) M_4 ∧ ((r_6 = 0 → r = some (vI (-1)) ∧ M' = M_4) ∧ (¬ (r_6 = 0) → ∃ (r_9 : Int) (M_7 : Mem), Cl l G d mX11_isDay [vI x3] M_4 (some (vI r_9)) M_7 ∧ ((¬ r_9 = 0 → ∃ k_10 : Nat, o_3 = some (13, k_10) ∧ (∃ (r_14 : Int) (M_12 : Mem), Cl l G d mX11_fitFor [vR (some (2, 0)), vR (some (13, k_10)), vI x2, vI x3, vI x3, vI (-1)] M_7 (some (vI r_14)) M_12 ∧ Ex l G (d + 1) mX11_lied 47 [some (vR (some (2, 0))), some (vI x1), some (vI x2), some (vI x3), some (vR (some (13, k_10))), some (vI r_14), some (vI 0), some (vI 0)] [] M_12 r M')) ∧ (¬ (¬ r_9 = 0) → r = some (vI (-1)) ∧ M' = M_7))))))) : Cl l G (d + 1) mX11_lied [vR (some (2, 0)), vI x1, vI x2, vI x3] M r M' := by
  show Ex l G (d + 1) mX11_lied 0 [some (vR (some (2, 0))), some (vI x1), some (vI x2), some (vI x3), none, none, none, none] [] M r M'
  refine r_aload_n 1 dX11_lied_0 rfl rfl ?_
  refine r_iload_n 2 dX11_lied_1 rfl rfl ?_
  obtain ⟨o_3, M_1, hc_2, h⟩ := h
  refine v_1 (ci := 11) (C := (RX11, TX11, 14)) [vI x1] [] 5 dX11_lied_2 rfl rfl rfl rfl rfl mo_X11_coverOf ml_11_181 rfl rfl hc_2 ?_
  refine r_astore (ls' := [some (vR (some (2, 0))), some (vI x1), some (vI x2), some (vI x3), some (vR o_3), none, none, none]) 7 dX11_lied_5 rfl rfl rfl rfl ?_
  refine r_aload 9 dX11_lied_7 rfl rfl ?_
  refine r_ifnull 12 27 dX11_lied_9 rfl rfl (fun c => ?_) (fun c => ?_)
  · have h := h.1 (c)
    refine r_iconst 28 dX11_lied_27 rfl (InR_of rfl) ?_
    exact r_iret dX11_lied_28 rfl (.inl rfl) h.1 h.2
  · have h := h.2 (c)
    refine r_aload_n 13 dX11_lied_12 rfl rfl ?_
    refine r_iload_n 14 dX11_lied_13 rfl rfl ?_
    obtain ⟨r_6, M_4, hc_5, h⟩ := h
    refine v_1 (ci := 11) (C := (RX11, TX11, 14)) [vI x2] [] 17 dX11_lied_14 rfl rfl rfl rfl rfl mo_X11_isPerson ml_11_121 rfl rfl hc_5 ?_
    refine r_if_eq 20 27 dX11_lied_17 rfl rfl (fun c => ?_) (fun c => ?_)
    · have h := h.1 (c)
      refine r_iconst 28 dX11_lied_27 rfl (InR_of rfl) ?_
      exact r_iret dX11_lied_28 rfl (.inl rfl) h.1 h.2
    · have h := h.2 (c)
      refine r_iload_n 21 dX11_lied_20 rfl rfl ?_
      obtain ⟨r_9, M_7, hc_8, h⟩ := h
      refine c_1 [vI x3] [] 24 dX11_lied_21 rfl rfl mo_X11_isDay ml_11_118 rfl rfl hc_8 ?_
      refine r_if_ne 27 29 dX11_lied_24 rfl rfl (fun c => ?_) (fun c => ?_)
      · have h := h.1 (c)
        refine r_aload_n 30 dX11_lied_29 rfl rfl ?_
        refine r_aload 32 dX11_lied_30 rfl rfl ?_
        refine r_iload_n 33 dX11_lied_32 rfl rfl ?_
        refine r_iload_n 34 dX11_lied_33 rfl rfl ?_
        refine r_iload_n 35 dX11_lied_34 rfl rfl ?_
        refine r_iconst 36 dX11_lied_35 rfl (InR_of rfl) ?_
        obtain ⟨k_10, e_11, h⟩ := h
        refine Ex.at (st2 := [vI (-1), vI x3, vI x3, vI x2, vR (some (13, k_10)), vR (some (2, 0))]) ?_ rfl (show [vI (-1), vI x3, vI x3, vI x2, vR o_3, vR (some (2, 0))] = [vI (-1), vI x3, vI x3, vI x2, vR (some (13, k_10)), vR (some (2, 0))] by rw [e_11]) rfl
        obtain ⟨r_14, M_12, hc_13, h⟩ := h
        refine v_1 (ci := 11) (C := (RX11, TX11, 14)) [vR (some (13, k_10)), vI x2, vI x3, vI x3, vI (-1)] [] 39 dX11_lied_36 rfl rfl rfl rfl rfl mo_X11_fitFor ml_11_184 rfl rfl hc_13 ?_
        refine r_istore (ls' := [some (vR (some (2, 0))), some (vI x1), some (vI x2), some (vI x3), some (vR o_3), some (vI r_14), none, none]) 41 dX11_lied_39 rfl rfl rfl rfl ?_
        refine r_iconst 42 dX11_lied_41 rfl (InR_of rfl) ?_
        refine r_istore (ls' := [some (vR (some (2, 0))), some (vI x1), some (vI x2), some (vI x3), some (vR o_3), some (vI r_14), some (vI 0), none]) 44 dX11_lied_42 rfl rfl rfl rfl ?_
        refine r_iconst 45 dX11_lied_44 rfl (InR_of rfl) ?_
        refine r_istore (ls' := [some (vR (some (2, 0))), some (vI x1), some (vI x2), some (vI x3), some (vR o_3), some (vI r_14), some (vI 0), some (vI 0)]) 47 dX11_lied_45 rfl rfl rfl rfl ?_
        exact (Ex.at h (show [some (vR (some (2, 0))), some (vI x1), some (vI x2), some (vI x3), some (vR o_3), some (vI r_14), some (vI 0), some (vI 0)] = [some (vR (some (2, 0))), some (vI x1), some (vI x2), some (vI x3), some (vR (some (13, k_10))), some (vI r_14), some (vI 0), some (vI 0)] by rw [e_11]) rfl rfl)
      · have h := h.2 (c)
        refine r_iconst 28 dX11_lied_27 rfl (InR_of rfl) ?_
        exact r_iret dX11_lied_28 rfl (.inl rfl) h.1 h.2
set_option maxRecDepth 4000 in
theorem xX11_lied_47 {l : Launch} {G : Gt} {d : Nat} {M M' : Mem} {r : Option Vl} {x1 : Int} {x2 : Int} {x3 : Int} {k4 : Nat} {x5 : Int} {x6 : Int} {x7 : Int} (hS : Sh M.2.1) (h : 
    ((M.1 4 0 0) ≤ x7 → r = some (vI x6) ∧ M' = M) ∧ (¬ ((M.1 4 0 0) ≤ x7) → ∃ (r_3 : Int) (M_1 : Mem), Cl l G d mX11_fitFor [vR (some (2, 0)), vR (some (13, k4)), vI x2, vI x3, vI x3, vI x7] M (some (vI r_3)) M_1 ∧ Sh M_1.2.1 ∧ (∃ (k_6 : Nat) (M_4 : Mem), Cl l G d mX6_on [vR (some (6, 0)), vI x3] M_1 (some (vR (some (14, k_6)))) M_4 ∧ (∃ (r_9 : Int) (M_7 : Mem), Cl l G d mX11_seenBy [vR (some (2, 0)), vI x7, vR (some (14, k_6))] M_4 (some (vI r_9)) M_7 ∧ (((¬ (r_3 = (aAnd x5 r_9)) → ((0 ≤ x7 ∧ x7 < 32)))) ∧ (InR (x7 + 1)) ∧ Ex l G (d + 1) mX11_lied 47 [some (vR (some (2, 0))), some (vI x1), some (vI x2), some (vI x3), some (vR (some (13, k4))), some (vI x5), some (vI (if r_3 = (aAnd x5 r_9) then x6 else (aOr x6 (aShl 1 x7)) : Int)), some (vI (x7 + 1))] [] M_7 r M'))))) : Ex l G (d + 1) mX11_lied 47 [some (vR (some (2, 0))), some (vI x1), some (vI x2), some (vI x3), some (vR (some (13, k4))), some (vI x5), some (vI x6), some (vI x7)] [] M r M' := by
  refine r_iload 49 dX11_lied_47 rfl rfl ?_
  refine r_aload_n 50 dX11_lied_49 rfl rfl ?_
  refine g_R 53 dX11_lied_50 rfl rfl rfl fr_11_12 (sh_11_0 hS) ?_
  refine g_I 56 dX11_lied_53 rfl rfl rfl fi_11_105 rfl ?_
  refine r_icmp_ge 59 105 dX11_lied_56 rfl rfl (fun c => ?_) (fun c => ?_)
  · have h := h.1 (c)
    refine r_iload 107 dX11_lied_105 rfl rfl ?_
    exact r_iret dX11_lied_107 rfl (.inl rfl) h.1 h.2
  · have h := h.2 (c)
    refine r_aload_n 60 dX11_lied_59 rfl rfl ?_
    refine r_aload 62 dX11_lied_60 rfl rfl ?_
    refine r_iload_n 63 dX11_lied_62 rfl rfl ?_
    refine r_iload_n 64 dX11_lied_63 rfl rfl ?_
    refine r_iload_n 65 dX11_lied_64 rfl rfl ?_
    refine r_iload 67 dX11_lied_65 rfl rfl ?_
    obtain ⟨r_3, M_1, hc_2, hS, h⟩ := h
    refine v_1 (ci := 11) (C := (RX11, TX11, 14)) [vR (some (13, k4)), vI x2, vI x3, vI x3, vI x7] [] 70 dX11_lied_67 rfl rfl rfl rfl rfl mo_X11_fitFor ml_11_184 rfl rfl hc_2 ?_
    refine r_iload 72 dX11_lied_70 rfl rfl ?_
    refine r_aload_n 73 dX11_lied_72 rfl rfl ?_
    refine r_iload 75 dX11_lied_73 rfl rfl ?_
    refine r_aload_n 76 dX11_lied_75 rfl rfl ?_
    refine g_R 79 dX11_lied_76 rfl rfl rfl fr_11_21 (sh_11_1 hS) ?_
    refine r_iload_n 80 dX11_lied_79 rfl rfl ?_
    obtain ⟨k_6, M_4, hc_5, h⟩ := h
    refine v_1 (ci := 6) (C := (RX6, TX6, 3)) [vI x3] [vI x7, vR (some (2, 0)), vI x5, vI r_3] 83 dX11_lied_80 rfl rfl rfl rfl rfl mo_X6_on ml_11_158 rfl rfl hc_5 ?_
    obtain ⟨r_9, M_7, hc_8, h⟩ := h
    refine v_1 (ci := 11) (C := (RX11, TX11, 14)) [vI x7, vR (some (14, k_6))] [vI x5, vI r_3] 86 dX11_lied_83 rfl rfl rfl rfl rfl mo_X11_seenBy ml_11_174 rfl rfl hc_8 ?_
    refine r_iand 87 dX11_lied_86 rfl ?_
    obtain ⟨h0, h⟩ := h
    have hJ_10 : Ex l G (d + 1) mX11_lied 99 [some (vR (some (2, 0))), some (vI x1), some (vI x2), some (vI x3), some (vR (some (13, k4))), some (vI x5), some (vI (if r_3 = (aAnd x5 r_9) then x6 else (aOr x6 (aShl 1 x7)) : Int)), some (vI x7)] [] M_7 r M' := by
      obtain ⟨o_13, h⟩ := h
      refine r_iinc (ls' := [some (vR (some (2, 0))), some (vI x1), some (vI x2), some (vI x3), some (vR (some (13, k4))), some (vI x5), some (vI (if r_3 = (aAnd x5 r_9) then x6 else (aOr x6 (aShl 1 x7)) : Int)), some (vI (x7 + 1))]) 102 dX11_lied_99 rfl rfl rfl rfl o_13 rfl ?_
      refine r_goto 47 dX11_lied_102 rfl ?_
      exact h
    have h := h0
    refine r_icmp_eq 90 99 dX11_lied_87 rfl rfl (fun c => ?_) (fun c => ?_)
    · have c_11 := c
      exact (Ex.at hJ_10 (show [some (vR (some (2, 0))), some (vI x1), some (vI x2), some (vI x3), some (vR (some (13, k4))), some (vI x5), some (vI x6), some (vI x7)] = [some (vR (some (2, 0))), some (vI x1), some (vI x2), some (vI x3), some (vR (some (13, k4))), some (vI x5), some (vI (if r_3 = (aAnd x5 r_9) then x6 else (aOr x6 (aShl 1 x7)) : Int)), some (vI x7)] by simp only [if_pos c_11]) rfl rfl)
    · have c_11 := c
      have h := h c_11
      have o_12 := h
      refine r_iload 92 dX11_lied_90 rfl rfl ?_
      refine r_iconst 93 dX11_lied_92 rfl (InR_of rfl) ?_
      refine r_iload 95 dX11_lied_93 rfl rfl ?_
      refine r_ishl 96 dX11_lied_95 rfl o_12 ?_
      refine r_ior 97 dX11_lied_96 rfl ?_
      refine r_istore (ls' := [some (vR (some (2, 0))), some (vI x1), some (vI x2), some (vI x3), some (vR (some (13, k4))), some (vI x5), some (vI (aOr x6 (aShl 1 x7))), some (vI x7)]) 99 dX11_lied_97 rfl rfl rfl rfl ?_
      exact (Ex.at hJ_10 (show [some (vR (some (2, 0))), some (vI x1), some (vI x2), some (vI x3), some (vR (some (13, k4))), some (vI x5), some (vI (aOr x6 (aShl 1 x7))), some (vI x7)] = [some (vR (some (2, 0))), some (vI x1), some (vI x2), some (vI x3), some (vR (some (13, k4))), some (vI x5), some (vI (if r_3 = (aAnd x5 r_9) then x6 else (aOr x6 (aShl 1 x7)) : Int)), some (vI x7)] by simp only [if_neg c_11]) rfl rfl)

set_option maxRecDepth 4000 in
theorem xX11_mends_0 {l : Launch} {G : Gt} {d : Nat} {M M' : Mem} {r : Option Vl} {x1 : Int} {x2 : Int} {x3 : Int} {x4 : Int} (h : 
    ∃ (o_3 : Option Nm) (M_1 : Mem), Cl l G d mX11_coverOf [vR (some (2, 0)), vI x1] M (some (vR o_3)) M_1 ∧ ((o_3 = none → r = some (vI (-1)) ∧ M' = M_1) ∧ (¬ (o_3 = none) → ∃ (r_6 : Int) (M_4 : Mem), Cl l G d mX11_isPerson [vR (some (2, 0)), vI x2] M_1 (some (vI r_6)) M_4 ∧ ((r_6 = 0 → r = some (vI (-1)) ∧ M' = M_4) ∧ (¬ (r_6 = 0) → ∃ (r_9 : Int) (M_7 : Mem), Cl l G d mX11_isPerson [vR (some (2, 0)), vI x3] M_4 (some (vI r_9)) M_7 ∧ ((r_9 = 0 → r = some (vI (-1)) ∧ M' = M_7) ∧ (¬ (r_9 = 0) → ∃ (r_12 : Int) (M_10 : Mem), Cl l G d mX11_isDay [vI x4] M_7 (some (vI r_12)) M_10 ∧ Sh M_10.2.1 ∧ ((¬ r_12 = 0 → ∃ (k_15 : Nat) (M_13 : Mem), Cl l G d mX6_on [vR (some (6, 0)), vI x4] M_10 (some (vR (some (14, k_15)))) M_13 ∧ Sh M_13.2.1 ∧ (∃ (r_18 : Int) (M_16 : Mem), Cl l G d mX11_everybody [vR (some (2, 0))] M_13 (some (vI r_18)) M_16 ∧ (∃ k_19 : Nat, o_3 = some (13, k_19) ∧ (∃ (r_23 : Int) (M_21 : Mem), Cl l G d mX3_evaluate [vR (some (8, 0)), vR (some (13, k_19)), vI x2, vR (some (14, k_15)), vI r_18] M_16 (some (vI r_23)) M_21 ∧ (((0 ≤ x3 ∧ x3 < 32)) ∧ ((¬ r_23 = (aShl 1 x3) → Ex l G (d + 1) mX11_mends 88 [some (vR (some (2, 0))), some (vI x1), some (vI x2), some (vI x3), some (vI x4), some (vR (some (13, k_19))), some (vR (some (14, k_15))), some (vI r_23), some (vI (-2)), some (vI 0), some (vI 0), none, none, none, none] [] M_21 r M') ∧ (¬ (¬ r_23 = (aShl 1 x3)) → r = some (vI 32) ∧ M' = M_21))))))) ∧ (¬ (¬ r_12 = 0) → r = some (vI (-1)) ∧ M' = M_10))))))))) : Cl l G (d + 1) mX11_mends [vR (some (2, 0)), vI x1, vI x2, vI x3, vI x4] M r M' := by
  show Ex l G (d + 1) mX11_mends 0 [some (vR (some (2, 0))), some (vI x1), some (vI x2), some (vI x3), some (vI x4), none, none, none, none, none, none, none, none, none, none] [] M r M'
  refine r_aload_n 1 dX11_mends_0 rfl rfl ?_
  refine r_iload_n 2 dX11_mends_1 rfl rfl ?_
  obtain ⟨o_3, M_1, hc_2, h⟩ := h
  refine v_1 (ci := 11) (C := (RX11, TX11, 14)) [vI x1] [] 5 dX11_mends_2 rfl rfl rfl rfl rfl mo_X11_coverOf ml_11_181 rfl rfl hc_2 ?_
  refine r_astore (ls' := [some (vR (some (2, 0))), some (vI x1), some (vI x2), some (vI x3), some (vI x4), some (vR o_3), none, none, none, none, none, none, none, none, none]) 7 dX11_mends_5 rfl rfl rfl rfl ?_
  refine r_aload 9 dX11_mends_7 rfl rfl ?_
  refine r_ifnull 12 36 dX11_mends_9 rfl rfl (fun c => ?_) (fun c => ?_)
  · have h := h.1 (c)
    refine r_iconst 37 dX11_mends_36 rfl (InR_of rfl) ?_
    exact r_iret dX11_mends_37 rfl (.inl rfl) h.1 h.2
  · have h := h.2 (c)
    refine r_aload_n 13 dX11_mends_12 rfl rfl ?_
    refine r_iload_n 14 dX11_mends_13 rfl rfl ?_
    obtain ⟨r_6, M_4, hc_5, h⟩ := h
    refine v_1 (ci := 11) (C := (RX11, TX11, 14)) [vI x2] [] 17 dX11_mends_14 rfl rfl rfl rfl rfl mo_X11_isPerson ml_11_121 rfl rfl hc_5 ?_
    refine r_if_eq 20 36 dX11_mends_17 rfl rfl (fun c => ?_) (fun c => ?_)
    · have h := h.1 (c)
      refine r_iconst 37 dX11_mends_36 rfl (InR_of rfl) ?_
      exact r_iret dX11_mends_37 rfl (.inl rfl) h.1 h.2
    · have h := h.2 (c)
      refine r_aload_n 21 dX11_mends_20 rfl rfl ?_
      refine r_iload_n 22 dX11_mends_21 rfl rfl ?_
      obtain ⟨r_9, M_7, hc_8, h⟩ := h
      refine v_1 (ci := 11) (C := (RX11, TX11, 14)) [vI x3] [] 25 dX11_mends_22 rfl rfl rfl rfl rfl mo_X11_isPerson ml_11_121 rfl rfl hc_8 ?_
      refine r_if_eq 28 36 dX11_mends_25 rfl rfl (fun c => ?_) (fun c => ?_)
      · have h := h.1 (c)
        refine r_iconst 37 dX11_mends_36 rfl (InR_of rfl) ?_
        exact r_iret dX11_mends_37 rfl (.inl rfl) h.1 h.2
      · have h := h.2 (c)
        refine r_iload 30 dX11_mends_28 rfl rfl ?_
        obtain ⟨r_12, M_10, hc_11, hS, h⟩ := h
        refine c_1 [vI x4] [] 33 dX11_mends_30 rfl rfl mo_X11_isDay ml_11_118 rfl rfl hc_11 ?_
        refine r_if_ne 36 38 dX11_mends_33 rfl rfl (fun c => ?_) (fun c => ?_)
        · have h := h.1 (c)
          refine r_aload_n 39 dX11_mends_38 rfl rfl ?_
          refine g_R 42 dX11_mends_39 rfl rfl rfl fr_11_21 (sh_11_1 hS) ?_
          refine r_iload 44 dX11_mends_42 rfl rfl ?_
          obtain ⟨k_15, M_13, hc_14, hS, h⟩ := h
          refine v_1 (ci := 6) (C := (RX6, TX6, 3)) [vI x4] [] 47 dX11_mends_44 rfl rfl rfl rfl rfl mo_X6_on ml_11_158 rfl rfl hc_14 ?_
          refine r_astore (ls' := [some (vR (some (2, 0))), some (vI x1), some (vI x2), some (vI x3), some (vI x4), some (vR o_3), some (vR (some (14, k_15))), none, none, none, none, none, none, none, none]) 49 dX11_mends_47 rfl rfl rfl rfl ?_
          refine r_aload_n 50 dX11_mends_49 rfl rfl ?_
          refine g_R 53 dX11_mends_50 rfl rfl rfl fr_11_35 (sh_11_3 hS) ?_
          refine r_aload 55 dX11_mends_53 rfl rfl ?_
          refine r_iload_n 56 dX11_mends_55 rfl rfl ?_
          refine r_aload 58 dX11_mends_56 rfl rfl ?_
          refine r_aload_n 59 dX11_mends_58 rfl rfl ?_
          obtain ⟨r_18, M_16, hc_17, h⟩ := h
          refine v_1 (ci := 11) (C := (RX11, TX11, 14)) [] [vR (some (14, k_15)), vI x2, vR o_3, vR (some (8, 0))] 62 dX11_mends_59 rfl rfl rfl rfl rfl mo_X11_everybody ml_11_194 rfl rfl hc_17 ?_
          obtain ⟨k_19, e_20, h⟩ := h
          refine Ex.at (st2 := [vI r_18, vR (some (14, k_15)), vI x2, vR (some (13, k_19)), vR (some (8, 0))]) ?_ rfl (show [vI r_18, vR (some (14, k_15)), vI x2, vR o_3, vR (some (8, 0))] = [vI r_18, vR (some (14, k_15)), vI x2, vR (some (13, k_19)), vR (some (8, 0))] by rw [e_20]) rfl
          obtain ⟨r_23, M_21, hc_22, h⟩ := h
          refine v_1 (ci := 3) (C := (RX3, TX3, 4)) [vR (some (13, k_19)), vI x2, vR (some (14, k_15)), vI r_18] [] 65 dX11_mends_62 rfl rfl rfl rfl rfl mo_X3_evaluate ml_11_198 rfl rfl hc_22 ?_
          obtain ⟨o_24, h⟩ := h
          refine r_istore (ls' := [some (vR (some (2, 0))), some (vI x1), some (vI x2), some (vI x3), some (vI x4), some (vR o_3), some (vR (some (14, k_15))), some (vI r_23), none, none, none, none, none, none, none]) 67 dX11_mends_65 rfl rfl rfl rfl ?_
          refine r_iload 69 dX11_mends_67 rfl rfl ?_
          refine r_iconst 70 dX11_mends_69 rfl (InR_of rfl) ?_
          refine r_iload_n 71 dX11_mends_70 rfl rfl ?_
          refine r_ishl 72 dX11_mends_71 rfl o_24 ?_
          refine r_icmp_ne 75 78 dX11_mends_72 rfl rfl (fun c => ?_) (fun c => ?_)
          · have h := h.1 (c)
            refine r_bipush 80 dX11_mends_78 rfl rfl ?_
            refine r_istore (ls' := [some (vR (some (2, 0))), some (vI x1), some (vI x2), some (vI x3), some (vI x4), some (vR o_3), some (vR (some (14, k_15))), some (vI r_23), some (vI (-2)), none, none, none, none, none, none]) 82 dX11_mends_80 rfl rfl rfl rfl ?_
            refine r_iconst 83 dX11_mends_82 rfl (InR_of rfl) ?_
            refine r_istore (ls' := [some (vR (some (2, 0))), some (vI x1), some (vI x2), some (vI x3), some (vI x4), some (vR o_3), some (vR (some (14, k_15))), some (vI r_23), some (vI (-2)), some (vI 0), none, none, none, none, none]) 85 dX11_mends_83 rfl rfl rfl rfl ?_
            refine r_iconst 86 dX11_mends_85 rfl (InR_of rfl) ?_
            refine r_istore (ls' := [some (vR (some (2, 0))), some (vI x1), some (vI x2), some (vI x3), some (vI x4), some (vR o_3), some (vR (some (14, k_15))), some (vI r_23), some (vI (-2)), some (vI 0), some (vI 0), none, none, none, none]) 88 dX11_mends_86 rfl rfl rfl rfl ?_
            exact (Ex.at h (show [some (vR (some (2, 0))), some (vI x1), some (vI x2), some (vI x3), some (vI x4), some (vR o_3), some (vR (some (14, k_15))), some (vI r_23), some (vI (-2)), some (vI 0), some (vI 0), none, none, none, none] = [some (vR (some (2, 0))), some (vI x1), some (vI x2), some (vI x3), some (vI x4), some (vR (some (13, k_19))), some (vR (some (14, k_15))), some (vI r_23), some (vI (-2)), some (vI 0), some (vI 0), none, none, none, none] by rw [e_20]) rfl rfl)
          · have h := h.2 (c)
            refine r_bipush 77 dX11_mends_75 rfl rfl ?_
            exact r_iret dX11_mends_77 rfl (.inl rfl) h.1 h.2
        · have h := h.2 (c)
          refine r_iconst 37 dX11_mends_36 rfl (InR_of rfl) ?_
          exact r_iret dX11_mends_37 rfl (.inl rfl) h.1 h.2
set_option maxRecDepth 4000 in
theorem xX11_mends_88 {l : Launch} {G : Gt} {d : Nat} {M M' : Mem} {r : Option Vl} {x1 : Int} {x2 : Int} {x3 : Int} {x4 : Int} {k5 : Nat} {k6 : Nat} {x7 : Int} {x8 : Int} {x9 : Int} {x10 : Int} (h : 
    (32 ≤ x10 → r = some (vI x8) ∧ M' = M) ∧ (¬ (32 ≤ x10) → ((¬ ((if x10 < 16 then 0 else 1 : Int) = 0) → (InR (x10 - 16)))) ∧ (∃ (r_8 : Int) (M_6 : Mem), Cl l G d mX7_wordHolders [vR (some (14, k6)), vI (if (if x10 < 16 then 0 else 1 : Int) = 0 then x10 else (x10 - 16) : Int), vI x2] M (some (vI r_8)) M_6 ∧ Sh M_6.2.1 ∧ ((((if x10 < 16 then 0 else 1 : Int) = 0 → ((0 ≤ x10 ∧ x10 < 17))) ∧ (¬ ((if x10 < 16 then 0 else 1 : Int) = 0) → (InR (x10 - 16) ∧ (0 ≤ (x10 - 16) ∧ (x10 - 16) < 17) ∧ InR ((M_6.1 37 0 (x10 - 16).toNat) + (M_6.1 37 0 16))))) ∧ ((0 ≤ x3 ∧ x3 < 32)) ∧ (InR (x10 + 1)) ∧ Ex l G (d + 1) mX11_mends 88 [some (vR (some (2, 0))), some (vI x1), some (vI x2), some (vI x3), some (vI x4), some (vR (some (13, k5))), some (vR (some (14, k6))), some (vI x7), some (vI (if (if ¬ (aAnd x7 (if (if x10 < 16 then 0 else 1 : Int) = 0 then r_8 else (aXor r_8 (-1)) : Int)) = (aShl 1 x3) then 0 else 1 : Int) = 0 then x8 else (if x8 = (-2) then x10 else (if x9 ≤ (if (if x10 < 16 then 0 else 1 : Int) = 0 then (M_6.1 37 0 x10.toNat) else ((M_6.1 37 0 (x10 - 16).toNat) + (M_6.1 37 0 16)) : Int) then x8 else x10 : Int) : Int) : Int)), some (vI (if (if ¬ (aAnd x7 (if (if x10 < 16 then 0 else 1 : Int) = 0 then r_8 else (aXor r_8 (-1)) : Int)) = (aShl 1 x3) then 0 else 1 : Int) = 0 then x9 else (if x8 = (-2) then (if (if x10 < 16 then 0 else 1 : Int) = 0 then (M_6.1 37 0 x10.toNat) else ((M_6.1 37 0 (x10 - 16).toNat) + (M_6.1 37 0 16)) : Int) else (if x9 ≤ (if (if x10 < 16 then 0 else 1 : Int) = 0 then (M_6.1 37 0 x10.toNat) else ((M_6.1 37 0 (x10 - 16).toNat) + (M_6.1 37 0 16)) : Int) then x9 else (if (if x10 < 16 then 0 else 1 : Int) = 0 then (M_6.1 37 0 x10.toNat) else ((M_6.1 37 0 (x10 - 16).toNat) + (M_6.1 37 0 16)) : Int) : Int) : Int) : Int)), some (vI (x10 + 1)), none, none, none, none] [] M_6 r M')))) : Ex l G (d + 1) mX11_mends 88 [some (vR (some (2, 0))), some (vI x1), some (vI x2), some (vI x3), some (vI x4), some (vR (some (13, k5))), some (vR (some (14, k6))), some (vI x7), some (vI x8), some (vI x9), some (vI x10), none, none, none, none] [] M r M' := by
  refine r_iload 90 dX11_mends_88 rfl rfl ?_
  refine r_bipush 92 dX11_mends_90 rfl rfl ?_
  refine r_icmp_ge 95 239 dX11_mends_92 rfl rfl (fun c => ?_) (fun c => ?_)
  · have h := h.1 (c)
    refine r_iload 241 dX11_mends_239 rfl rfl ?_
    exact r_iret dX11_mends_241 rfl (.inl rfl) h.1 h.2
  · have h := h.2 (c)
    refine r_iload 97 dX11_mends_95 rfl rfl ?_
    refine r_bipush 99 dX11_mends_97 rfl rfl ?_
    have hJ_1 : Ex l G (d + 1) mX11_mends 107 [some (vR (some (2, 0))), some (vI x1), some (vI x2), some (vI x3), some (vI x4), some (vR (some (13, k5))), some (vR (some (14, k6))), some (vI x7), some (vI x8), some (vI x9), some (vI x10), none, none, none, none] [vI (if x10 < 16 then 0 else 1 : Int)] M r M' := by
      refine r_istore (ls' := [some (vR (some (2, 0))), some (vI x1), some (vI x2), some (vI x3), some (vI x4), some (vR (some (13, k5))), some (vR (some (14, k6))), some (vI x7), some (vI x8), some (vI x9), some (vI x10), some (vI (if x10 < 16 then 0 else 1 : Int)), none, none, none]) 109 dX11_mends_107 rfl rfl rfl rfl ?_
      refine r_aload 111 dX11_mends_109 rfl rfl ?_
      refine r_iload 113 dX11_mends_111 rfl rfl ?_
      obtain ⟨h0, h⟩ := h
      have hJ_3 : Ex l G (d + 1) mX11_mends 126 [some (vR (some (2, 0))), some (vI x1), some (vI x2), some (vI x3), some (vI x4), some (vR (some (13, k5))), some (vR (some (14, k6))), some (vI x7), some (vI x8), some (vI x9), some (vI x10), some (vI (if x10 < 16 then 0 else 1 : Int)), none, none, none] [vI (if (if x10 < 16 then 0 else 1 : Int) = 0 then x10 else (x10 - 16) : Int), vR (some (14, k6))] M r M' := by
        refine r_iload_n 127 dX11_mends_126 rfl rfl ?_
        obtain ⟨r_8, M_6, hc_7, hS, h⟩ := h
        refine v_1 (ci := 7) (C := (RX7, TX7, 5)) [vI (if (if x10 < 16 then 0 else 1 : Int) = 0 then x10 else (x10 - 16) : Int), vI x2] [] 130 dX11_mends_127 rfl rfl rfl rfl rfl mo_X7_wordHolders ml_11_202 rfl rfl hc_7 ?_
        refine r_istore (ls' := [some (vR (some (2, 0))), some (vI x1), some (vI x2), some (vI x3), some (vI x4), some (vR (some (13, k5))), some (vR (some (14, k6))), some (vI x7), some (vI x8), some (vI x9), some (vI x10), some (vI (if x10 < 16 then 0 else 1 : Int)), some (vI r_8), none, none]) 132 dX11_mends_130 rfl rfl rfl rfl ?_
        refine r_iload 134 dX11_mends_132 rfl rfl ?_
        obtain ⟨h0, h⟩ := h
        have hJ_9 : Ex l G (d + 1) mX11_mends 174 [some (vR (some (2, 0))), some (vI x1), some (vI x2), some (vI x3), some (vI x4), some (vR (some (13, k5))), some (vR (some (14, k6))), some (vI x7), some (vI x8), some (vI x9), some (vI x10), some (vI (if x10 < 16 then 0 else 1 : Int)), some (vI r_8), none, none] [vI (if (if x10 < 16 then 0 else 1 : Int) = 0 then (M_6.1 37 0 x10.toNat) else ((M_6.1 37 0 (x10 - 16).toNat) + (M_6.1 37 0 16)) : Int)] M_6 r M' := by
          refine r_istore (ls' := [some (vR (some (2, 0))), some (vI x1), some (vI x2), some (vI x3), some (vI x4), some (vR (some (13, k5))), some (vR (some (14, k6))), some (vI x7), some (vI x8), some (vI x9), some (vI x10), some (vI (if x10 < 16 then 0 else 1 : Int)), some (vI r_8), some (vI (if (if x10 < 16 then 0 else 1 : Int) = 0 then (M_6.1 37 0 x10.toNat) else ((M_6.1 37 0 (x10 - 16).toNat) + (M_6.1 37 0 16)) : Int)), none]) 176 dX11_mends_174 rfl rfl rfl rfl ?_
          refine r_iload 178 dX11_mends_176 rfl rfl ?_
          refine r_iload 180 dX11_mends_178 rfl rfl ?_
          have hJ_15 : Ex l G (d + 1) mX11_mends 192 [some (vR (some (2, 0))), some (vI x1), some (vI x2), some (vI x3), some (vI x4), some (vR (some (13, k5))), some (vR (some (14, k6))), some (vI x7), some (vI x8), some (vI x9), some (vI x10), some (vI (if x10 < 16 then 0 else 1 : Int)), some (vI r_8), some (vI (if (if x10 < 16 then 0 else 1 : Int) = 0 then (M_6.1 37 0 x10.toNat) else ((M_6.1 37 0 (x10 - 16).toNat) + (M_6.1 37 0 16)) : Int)), none] [vI (if (if x10 < 16 then 0 else 1 : Int) = 0 then r_8 else (aXor r_8 (-1)) : Int), vI x7] M_6 r M' := by
            obtain ⟨o_17, h⟩ := h
            refine r_iand 193 dX11_mends_192 rfl ?_
            refine r_iconst 194 dX11_mends_193 rfl (InR_of rfl) ?_
            refine r_iload_n 195 dX11_mends_194 rfl rfl ?_
            refine r_ishl 196 dX11_mends_195 rfl o_17 ?_
            have hJ_18 : Ex l G (d + 1) mX11_mends 204 [some (vR (some (2, 0))), some (vI x1), some (vI x2), some (vI x3), some (vI x4), some (vR (some (13, k5))), some (vR (some (14, k6))), some (vI x7), some (vI x8), some (vI x9), some (vI x10), some (vI (if x10 < 16 then 0 else 1 : Int)), some (vI r_8), some (vI (if (if x10 < 16 then 0 else 1 : Int) = 0 then (M_6.1 37 0 x10.toNat) else ((M_6.1 37 0 (x10 - 16).toNat) + (M_6.1 37 0 16)) : Int)), none] [vI (if ¬ (aAnd x7 (if (if x10 < 16 then 0 else 1 : Int) = 0 then r_8 else (aXor r_8 (-1)) : Int)) = (aShl 1 x3) then 0 else 1 : Int)] M_6 r M' := by
              refine r_istore (ls' := [some (vR (some (2, 0))), some (vI x1), some (vI x2), some (vI x3), some (vI x4), some (vR (some (13, k5))), some (vR (some (14, k6))), some (vI x7), some (vI x8), some (vI x9), some (vI x10), some (vI (if x10 < 16 then 0 else 1 : Int)), some (vI r_8), some (vI (if (if x10 < 16 then 0 else 1 : Int) = 0 then (M_6.1 37 0 x10.toNat) else ((M_6.1 37 0 (x10 - 16).toNat) + (M_6.1 37 0 16)) : Int)), some (vI (if ¬ (aAnd x7 (if (if x10 < 16 then 0 else 1 : Int) = 0 then r_8 else (aXor r_8 (-1)) : Int)) = (aShl 1 x3) then 0 else 1 : Int))]) 206 dX11_mends_204 rfl rfl rfl rfl ?_
              refine r_iload 208 dX11_mends_206 rfl rfl ?_
              have hJ_20 : Ex l G (d + 1) mX11_mends 233 [some (vR (some (2, 0))), some (vI x1), some (vI x2), some (vI x3), some (vI x4), some (vR (some (13, k5))), some (vR (some (14, k6))), some (vI x7), some (vI (if (if ¬ (aAnd x7 (if (if x10 < 16 then 0 else 1 : Int) = 0 then r_8 else (aXor r_8 (-1)) : Int)) = (aShl 1 x3) then 0 else 1 : Int) = 0 then x8 else (if x8 = (-2) then x10 else (if x9 ≤ (if (if x10 < 16 then 0 else 1 : Int) = 0 then (M_6.1 37 0 x10.toNat) else ((M_6.1 37 0 (x10 - 16).toNat) + (M_6.1 37 0 16)) : Int) then x8 else x10 : Int) : Int) : Int)), some (vI (if (if ¬ (aAnd x7 (if (if x10 < 16 then 0 else 1 : Int) = 0 then r_8 else (aXor r_8 (-1)) : Int)) = (aShl 1 x3) then 0 else 1 : Int) = 0 then x9 else (if x8 = (-2) then (if (if x10 < 16 then 0 else 1 : Int) = 0 then (M_6.1 37 0 x10.toNat) else ((M_6.1 37 0 (x10 - 16).toNat) + (M_6.1 37 0 16)) : Int) else (if x9 ≤ (if (if x10 < 16 then 0 else 1 : Int) = 0 then (M_6.1 37 0 x10.toNat) else ((M_6.1 37 0 (x10 - 16).toNat) + (M_6.1 37 0 16)) : Int) then x9 else (if (if x10 < 16 then 0 else 1 : Int) = 0 then (M_6.1 37 0 x10.toNat) else ((M_6.1 37 0 (x10 - 16).toNat) + (M_6.1 37 0 16)) : Int) : Int) : Int) : Int)), some (vI x10), some (vI (if x10 < 16 then 0 else 1 : Int)), some (vI r_8), some (vI (if (if x10 < 16 then 0 else 1 : Int) = 0 then (M_6.1 37 0 x10.toNat) else ((M_6.1 37 0 (x10 - 16).toNat) + (M_6.1 37 0 16)) : Int)), some (vI (if ¬ (aAnd x7 (if (if x10 < 16 then 0 else 1 : Int) = 0 then r_8 else (aXor r_8 (-1)) : Int)) = (aShl 1 x3) then 0 else 1 : Int))] [] M_6 r M' := by
                obtain ⟨o_24, h⟩ := h
                refine r_iinc (ls' := [some (vR (some (2, 0))), some (vI x1), some (vI x2), some (vI x3), some (vI x4), some (vR (some (13, k5))), some (vR (some (14, k6))), some (vI x7), some (vI (if (if ¬ (aAnd x7 (if (if x10 < 16 then 0 else 1 : Int) = 0 then r_8 else (aXor r_8 (-1)) : Int)) = (aShl 1 x3) then 0 else 1 : Int) = 0 then x8 else (if x8 = (-2) then x10 else (if x9 ≤ (if (if x10 < 16 then 0 else 1 : Int) = 0 then (M_6.1 37 0 x10.toNat) else ((M_6.1 37 0 (x10 - 16).toNat) + (M_6.1 37 0 16)) : Int) then x8 else x10 : Int) : Int) : Int)), some (vI (if (if ¬ (aAnd x7 (if (if x10 < 16 then 0 else 1 : Int) = 0 then r_8 else (aXor r_8 (-1)) : Int)) = (aShl 1 x3) then 0 else 1 : Int) = 0 then x9 else (if x8 = (-2) then (if (if x10 < 16 then 0 else 1 : Int) = 0 then (M_6.1 37 0 x10.toNat) else ((M_6.1 37 0 (x10 - 16).toNat) + (M_6.1 37 0 16)) : Int) else (if x9 ≤ (if (if x10 < 16 then 0 else 1 : Int) = 0 then (M_6.1 37 0 x10.toNat) else ((M_6.1 37 0 (x10 - 16).toNat) + (M_6.1 37 0 16)) : Int) then x9 else (if (if x10 < 16 then 0 else 1 : Int) = 0 then (M_6.1 37 0 x10.toNat) else ((M_6.1 37 0 (x10 - 16).toNat) + (M_6.1 37 0 16)) : Int) : Int) : Int) : Int)), some (vI (x10 + 1)), some (vI (if x10 < 16 then 0 else 1 : Int)), some (vI r_8), some (vI (if (if x10 < 16 then 0 else 1 : Int) = 0 then (M_6.1 37 0 x10.toNat) else ((M_6.1 37 0 (x10 - 16).toNat) + (M_6.1 37 0 16)) : Int)), some (vI (if ¬ (aAnd x7 (if (if x10 < 16 then 0 else 1 : Int) = 0 then r_8 else (aXor r_8 (-1)) : Int)) = (aShl 1 x3) then 0 else 1 : Int))]) 236 dX11_mends_233 rfl rfl rfl rfl o_24 rfl ?_
                refine r_goto 88 dX11_mends_236 rfl ?_
                exact Ex.weak h ⟨rfl, rfl, rfl, rfl, rfl, rfl, rfl, rfl, rfl, rfl, rfl, trivial⟩
              refine r_if_eq 211 233 dX11_mends_208 rfl rfl (fun c => ?_) (fun c => ?_)
              · have c_21 := c
                exact (Ex.at hJ_20 (show [some (vR (some (2, 0))), some (vI x1), some (vI x2), some (vI x3), some (vI x4), some (vR (some (13, k5))), some (vR (some (14, k6))), some (vI x7), some (vI x8), some (vI x9), some (vI x10), some (vI (if x10 < 16 then 0 else 1 : Int)), some (vI r_8), some (vI (if (if x10 < 16 then 0 else 1 : Int) = 0 then (M_6.1 37 0 x10.toNat) else ((M_6.1 37 0 (x10 - 16).toNat) + (M_6.1 37 0 16)) : Int)), some (vI (if ¬ (aAnd x7 (if (if x10 < 16 then 0 else 1 : Int) = 0 then r_8 else (aXor r_8 (-1)) : Int)) = (aShl 1 x3) then 0 else 1 : Int))] = [some (vR (some (2, 0))), some (vI x1), some (vI x2), some (vI x3), some (vI x4), some (vR (some (13, k5))), some (vR (some (14, k6))), some (vI x7), some (vI (if (if ¬ (aAnd x7 (if (if x10 < 16 then 0 else 1 : Int) = 0 then r_8 else (aXor r_8 (-1)) : Int)) = (aShl 1 x3) then 0 else 1 : Int) = 0 then x8 else (if x8 = (-2) then x10 else (if x9 ≤ (if (if x10 < 16 then 0 else 1 : Int) = 0 then (M_6.1 37 0 x10.toNat) else ((M_6.1 37 0 (x10 - 16).toNat) + (M_6.1 37 0 16)) : Int) then x8 else x10 : Int) : Int) : Int)), some (vI (if (if ¬ (aAnd x7 (if (if x10 < 16 then 0 else 1 : Int) = 0 then r_8 else (aXor r_8 (-1)) : Int)) = (aShl 1 x3) then 0 else 1 : Int) = 0 then x9 else (if x8 = (-2) then (if (if x10 < 16 then 0 else 1 : Int) = 0 then (M_6.1 37 0 x10.toNat) else ((M_6.1 37 0 (x10 - 16).toNat) + (M_6.1 37 0 16)) : Int) else (if x9 ≤ (if (if x10 < 16 then 0 else 1 : Int) = 0 then (M_6.1 37 0 x10.toNat) else ((M_6.1 37 0 (x10 - 16).toNat) + (M_6.1 37 0 16)) : Int) then x9 else (if (if x10 < 16 then 0 else 1 : Int) = 0 then (M_6.1 37 0 x10.toNat) else ((M_6.1 37 0 (x10 - 16).toNat) + (M_6.1 37 0 16)) : Int) : Int) : Int) : Int)), some (vI x10), some (vI (if x10 < 16 then 0 else 1 : Int)), some (vI r_8), some (vI (if (if x10 < 16 then 0 else 1 : Int) = 0 then (M_6.1 37 0 x10.toNat) else ((M_6.1 37 0 (x10 - 16).toNat) + (M_6.1 37 0 16)) : Int)), some (vI (if ¬ (aAnd x7 (if (if x10 < 16 then 0 else 1 : Int) = 0 then r_8 else (aXor r_8 (-1)) : Int)) = (aShl 1 x3) then 0 else 1 : Int))] by simp only [if_pos c_21]) rfl rfl)
              · have c_21 := c
                refine r_iload 213 dX11_mends_211 rfl rfl ?_
                refine r_bipush 215 dX11_mends_213 rfl rfl ?_
                refine r_icmp_eq 218 225 dX11_mends_215 rfl rfl (fun c => ?_) (fun c => ?_)
                · have c_22 := c
                  refine r_iload 227 dX11_mends_225 rfl rfl ?_
                  refine r_istore (ls' := [some (vR (some (2, 0))), some (vI x1), some (vI x2), some (vI x3), some (vI x4), some (vR (some (13, k5))), some (vR (some (14, k6))), some (vI x7), some (vI x10), some (vI x9), some (vI x10), some (vI (if x10 < 16 then 0 else 1 : Int)), some (vI r_8), some (vI (if (if x10 < 16 then 0 else 1 : Int) = 0 then (M_6.1 37 0 x10.toNat) else ((M_6.1 37 0 (x10 - 16).toNat) + (M_6.1 37 0 16)) : Int)), some (vI (if ¬ (aAnd x7 (if (if x10 < 16 then 0 else 1 : Int) = 0 then r_8 else (aXor r_8 (-1)) : Int)) = (aShl 1 x3) then 0 else 1 : Int))]) 229 dX11_mends_227 rfl rfl rfl rfl ?_
                  refine r_iload 231 dX11_mends_229 rfl rfl ?_
                  refine r_istore (ls' := [some (vR (some (2, 0))), some (vI x1), some (vI x2), some (vI x3), some (vI x4), some (vR (some (13, k5))), some (vR (some (14, k6))), some (vI x7), some (vI x10), some (vI (if (if x10 < 16 then 0 else 1 : Int) = 0 then (M_6.1 37 0 x10.toNat) else ((M_6.1 37 0 (x10 - 16).toNat) + (M_6.1 37 0 16)) : Int)), some (vI x10), some (vI (if x10 < 16 then 0 else 1 : Int)), some (vI r_8), some (vI (if (if x10 < 16 then 0 else 1 : Int) = 0 then (M_6.1 37 0 x10.toNat) else ((M_6.1 37 0 (x10 - 16).toNat) + (M_6.1 37 0 16)) : Int)), some (vI (if ¬ (aAnd x7 (if (if x10 < 16 then 0 else 1 : Int) = 0 then r_8 else (aXor r_8 (-1)) : Int)) = (aShl 1 x3) then 0 else 1 : Int))]) 233 dX11_mends_231 rfl rfl rfl rfl ?_
                  exact (Ex.at hJ_20 (show [some (vR (some (2, 0))), some (vI x1), some (vI x2), some (vI x3), some (vI x4), some (vR (some (13, k5))), some (vR (some (14, k6))), some (vI x7), some (vI x10), some (vI (if (if x10 < 16 then 0 else 1 : Int) = 0 then (M_6.1 37 0 x10.toNat) else ((M_6.1 37 0 (x10 - 16).toNat) + (M_6.1 37 0 16)) : Int)), some (vI x10), some (vI (if x10 < 16 then 0 else 1 : Int)), some (vI r_8), some (vI (if (if x10 < 16 then 0 else 1 : Int) = 0 then (M_6.1 37 0 x10.toNat) else ((M_6.1 37 0 (x10 - 16).toNat) + (M_6.1 37 0 16)) : Int)), some (vI (if ¬ (aAnd x7 (if (if x10 < 16 then 0 else 1 : Int) = 0 then r_8 else (aXor r_8 (-1)) : Int)) = (aShl 1 x3) then 0 else 1 : Int))] = [some (vR (some (2, 0))), some (vI x1), some (vI x2), some (vI x3), some (vI x4), some (vR (some (13, k5))), some (vR (some (14, k6))), some (vI x7), some (vI (if (if ¬ (aAnd x7 (if (if x10 < 16 then 0 else 1 : Int) = 0 then r_8 else (aXor r_8 (-1)) : Int)) = (aShl 1 x3) then 0 else 1 : Int) = 0 then x8 else (if x8 = (-2) then x10 else (if x9 ≤ (if (if x10 < 16 then 0 else 1 : Int) = 0 then (M_6.1 37 0 x10.toNat) else ((M_6.1 37 0 (x10 - 16).toNat) + (M_6.1 37 0 16)) : Int) then x8 else x10 : Int) : Int) : Int)), some (vI (if (if ¬ (aAnd x7 (if (if x10 < 16 then 0 else 1 : Int) = 0 then r_8 else (aXor r_8 (-1)) : Int)) = (aShl 1 x3) then 0 else 1 : Int) = 0 then x9 else (if x8 = (-2) then (if (if x10 < 16 then 0 else 1 : Int) = 0 then (M_6.1 37 0 x10.toNat) else ((M_6.1 37 0 (x10 - 16).toNat) + (M_6.1 37 0 16)) : Int) else (if x9 ≤ (if (if x10 < 16 then 0 else 1 : Int) = 0 then (M_6.1 37 0 x10.toNat) else ((M_6.1 37 0 (x10 - 16).toNat) + (M_6.1 37 0 16)) : Int) then x9 else (if (if x10 < 16 then 0 else 1 : Int) = 0 then (M_6.1 37 0 x10.toNat) else ((M_6.1 37 0 (x10 - 16).toNat) + (M_6.1 37 0 16)) : Int) : Int) : Int) : Int)), some (vI x10), some (vI (if x10 < 16 then 0 else 1 : Int)), some (vI r_8), some (vI (if (if x10 < 16 then 0 else 1 : Int) = 0 then (M_6.1 37 0 x10.toNat) else ((M_6.1 37 0 (x10 - 16).toNat) + (M_6.1 37 0 16)) : Int)), some (vI (if ¬ (aAnd x7 (if (if x10 < 16 then 0 else 1 : Int) = 0 then r_8 else (aXor r_8 (-1)) : Int)) = (aShl 1 x3) then 0 else 1 : Int))] by simp only [if_neg c_21, if_pos c_22]) rfl rfl)
                · have c_22 := c
                  refine r_iload 220 dX11_mends_218 rfl rfl ?_
                  refine r_iload 222 dX11_mends_220 rfl rfl ?_
                  refine r_icmp_ge 225 233 dX11_mends_222 rfl rfl (fun c => ?_) (fun c => ?_)
                  · have c_23 := c
                    exact (Ex.at hJ_20 (show [some (vR (some (2, 0))), some (vI x1), some (vI x2), some (vI x3), some (vI x4), some (vR (some (13, k5))), some (vR (some (14, k6))), some (vI x7), some (vI x8), some (vI x9), some (vI x10), some (vI (if x10 < 16 then 0 else 1 : Int)), some (vI r_8), some (vI (if (if x10 < 16 then 0 else 1 : Int) = 0 then (M_6.1 37 0 x10.toNat) else ((M_6.1 37 0 (x10 - 16).toNat) + (M_6.1 37 0 16)) : Int)), some (vI (if ¬ (aAnd x7 (if (if x10 < 16 then 0 else 1 : Int) = 0 then r_8 else (aXor r_8 (-1)) : Int)) = (aShl 1 x3) then 0 else 1 : Int))] = [some (vR (some (2, 0))), some (vI x1), some (vI x2), some (vI x3), some (vI x4), some (vR (some (13, k5))), some (vR (some (14, k6))), some (vI x7), some (vI (if (if ¬ (aAnd x7 (if (if x10 < 16 then 0 else 1 : Int) = 0 then r_8 else (aXor r_8 (-1)) : Int)) = (aShl 1 x3) then 0 else 1 : Int) = 0 then x8 else (if x8 = (-2) then x10 else (if x9 ≤ (if (if x10 < 16 then 0 else 1 : Int) = 0 then (M_6.1 37 0 x10.toNat) else ((M_6.1 37 0 (x10 - 16).toNat) + (M_6.1 37 0 16)) : Int) then x8 else x10 : Int) : Int) : Int)), some (vI (if (if ¬ (aAnd x7 (if (if x10 < 16 then 0 else 1 : Int) = 0 then r_8 else (aXor r_8 (-1)) : Int)) = (aShl 1 x3) then 0 else 1 : Int) = 0 then x9 else (if x8 = (-2) then (if (if x10 < 16 then 0 else 1 : Int) = 0 then (M_6.1 37 0 x10.toNat) else ((M_6.1 37 0 (x10 - 16).toNat) + (M_6.1 37 0 16)) : Int) else (if x9 ≤ (if (if x10 < 16 then 0 else 1 : Int) = 0 then (M_6.1 37 0 x10.toNat) else ((M_6.1 37 0 (x10 - 16).toNat) + (M_6.1 37 0 16)) : Int) then x9 else (if (if x10 < 16 then 0 else 1 : Int) = 0 then (M_6.1 37 0 x10.toNat) else ((M_6.1 37 0 (x10 - 16).toNat) + (M_6.1 37 0 16)) : Int) : Int) : Int) : Int)), some (vI x10), some (vI (if x10 < 16 then 0 else 1 : Int)), some (vI r_8), some (vI (if (if x10 < 16 then 0 else 1 : Int) = 0 then (M_6.1 37 0 x10.toNat) else ((M_6.1 37 0 (x10 - 16).toNat) + (M_6.1 37 0 16)) : Int)), some (vI (if ¬ (aAnd x7 (if (if x10 < 16 then 0 else 1 : Int) = 0 then r_8 else (aXor r_8 (-1)) : Int)) = (aShl 1 x3) then 0 else 1 : Int))] by simp only [if_neg c_21, if_neg c_22, if_pos c_23]) rfl rfl)
                  · have c_23 := c
                    refine r_iload 227 dX11_mends_225 rfl rfl ?_
                    refine r_istore (ls' := [some (vR (some (2, 0))), some (vI x1), some (vI x2), some (vI x3), some (vI x4), some (vR (some (13, k5))), some (vR (some (14, k6))), some (vI x7), some (vI x10), some (vI x9), some (vI x10), some (vI (if x10 < 16 then 0 else 1 : Int)), some (vI r_8), some (vI (if (if x10 < 16 then 0 else 1 : Int) = 0 then (M_6.1 37 0 x10.toNat) else ((M_6.1 37 0 (x10 - 16).toNat) + (M_6.1 37 0 16)) : Int)), some (vI (if ¬ (aAnd x7 (if (if x10 < 16 then 0 else 1 : Int) = 0 then r_8 else (aXor r_8 (-1)) : Int)) = (aShl 1 x3) then 0 else 1 : Int))]) 229 dX11_mends_227 rfl rfl rfl rfl ?_
                    refine r_iload 231 dX11_mends_229 rfl rfl ?_
                    refine r_istore (ls' := [some (vR (some (2, 0))), some (vI x1), some (vI x2), some (vI x3), some (vI x4), some (vR (some (13, k5))), some (vR (some (14, k6))), some (vI x7), some (vI x10), some (vI (if (if x10 < 16 then 0 else 1 : Int) = 0 then (M_6.1 37 0 x10.toNat) else ((M_6.1 37 0 (x10 - 16).toNat) + (M_6.1 37 0 16)) : Int)), some (vI x10), some (vI (if x10 < 16 then 0 else 1 : Int)), some (vI r_8), some (vI (if (if x10 < 16 then 0 else 1 : Int) = 0 then (M_6.1 37 0 x10.toNat) else ((M_6.1 37 0 (x10 - 16).toNat) + (M_6.1 37 0 16)) : Int)), some (vI (if ¬ (aAnd x7 (if (if x10 < 16 then 0 else 1 : Int) = 0 then r_8 else (aXor r_8 (-1)) : Int)) = (aShl 1 x3) then 0 else 1 : Int))]) 233 dX11_mends_231 rfl rfl rfl rfl ?_
                    exact (Ex.at hJ_20 (show [some (vR (some (2, 0))), some (vI x1), some (vI x2), some (vI x3), some (vI x4), some (vR (some (13, k5))), some (vR (some (14, k6))), some (vI x7), some (vI x10), some (vI (if (if x10 < 16 then 0 else 1 : Int) = 0 then (M_6.1 37 0 x10.toNat) else ((M_6.1 37 0 (x10 - 16).toNat) + (M_6.1 37 0 16)) : Int)), some (vI x10), some (vI (if x10 < 16 then 0 else 1 : Int)), some (vI r_8), some (vI (if (if x10 < 16 then 0 else 1 : Int) = 0 then (M_6.1 37 0 x10.toNat) else ((M_6.1 37 0 (x10 - 16).toNat) + (M_6.1 37 0 16)) : Int)), some (vI (if ¬ (aAnd x7 (if (if x10 < 16 then 0 else 1 : Int) = 0 then r_8 else (aXor r_8 (-1)) : Int)) = (aShl 1 x3) then 0 else 1 : Int))] = [some (vR (some (2, 0))), some (vI x1), some (vI x2), some (vI x3), some (vI x4), some (vR (some (13, k5))), some (vR (some (14, k6))), some (vI x7), some (vI (if (if ¬ (aAnd x7 (if (if x10 < 16 then 0 else 1 : Int) = 0 then r_8 else (aXor r_8 (-1)) : Int)) = (aShl 1 x3) then 0 else 1 : Int) = 0 then x8 else (if x8 = (-2) then x10 else (if x9 ≤ (if (if x10 < 16 then 0 else 1 : Int) = 0 then (M_6.1 37 0 x10.toNat) else ((M_6.1 37 0 (x10 - 16).toNat) + (M_6.1 37 0 16)) : Int) then x8 else x10 : Int) : Int) : Int)), some (vI (if (if ¬ (aAnd x7 (if (if x10 < 16 then 0 else 1 : Int) = 0 then r_8 else (aXor r_8 (-1)) : Int)) = (aShl 1 x3) then 0 else 1 : Int) = 0 then x9 else (if x8 = (-2) then (if (if x10 < 16 then 0 else 1 : Int) = 0 then (M_6.1 37 0 x10.toNat) else ((M_6.1 37 0 (x10 - 16).toNat) + (M_6.1 37 0 16)) : Int) else (if x9 ≤ (if (if x10 < 16 then 0 else 1 : Int) = 0 then (M_6.1 37 0 x10.toNat) else ((M_6.1 37 0 (x10 - 16).toNat) + (M_6.1 37 0 16)) : Int) then x9 else (if (if x10 < 16 then 0 else 1 : Int) = 0 then (M_6.1 37 0 x10.toNat) else ((M_6.1 37 0 (x10 - 16).toNat) + (M_6.1 37 0 16)) : Int) : Int) : Int) : Int)), some (vI x10), some (vI (if x10 < 16 then 0 else 1 : Int)), some (vI r_8), some (vI (if (if x10 < 16 then 0 else 1 : Int) = 0 then (M_6.1 37 0 x10.toNat) else ((M_6.1 37 0 (x10 - 16).toNat) + (M_6.1 37 0 16)) : Int)), some (vI (if ¬ (aAnd x7 (if (if x10 < 16 then 0 else 1 : Int) = 0 then r_8 else (aXor r_8 (-1)) : Int)) = (aShl 1 x3) then 0 else 1 : Int))] by simp only [if_neg c_21, if_neg c_22, if_neg c_23]) rfl rfl)
            refine r_icmp_ne 199 203 dX11_mends_196 rfl rfl (fun c => ?_) (fun c => ?_)
            · have c_19 := c
              refine r_iconst 204 dX11_mends_203 rfl (InR_of rfl) ?_
              exact (Ex.at hJ_18 rfl (show [vI 0] = [vI (if ¬ (aAnd x7 (if (if x10 < 16 then 0 else 1 : Int) = 0 then r_8 else (aXor r_8 (-1)) : Int)) = (aShl 1 x3) then 0 else 1 : Int)] by simp only [if_pos c_19]) rfl)
            · have c_19 := c
              refine r_iconst 200 dX11_mends_199 rfl (InR_of rfl) ?_
              refine r_goto 204 dX11_mends_200 rfl ?_
              exact (Ex.at hJ_18 rfl (show [vI 1] = [vI (if ¬ (aAnd x7 (if (if x10 < 16 then 0 else 1 : Int) = 0 then r_8 else (aXor r_8 (-1)) : Int)) = (aShl 1 x3) then 0 else 1 : Int)] by simp only [if_neg c_19]) rfl)
          refine r_if_eq 183 190 dX11_mends_180 rfl rfl (fun c => ?_) (fun c => ?_)
          · have c_16 := c
            refine r_iload 192 dX11_mends_190 rfl rfl ?_
            exact (Ex.at hJ_15 rfl (show [vI r_8, vI x7] = [vI (if (if x10 < 16 then 0 else 1 : Int) = 0 then r_8 else (aXor r_8 (-1)) : Int), vI x7] by simp only [if_pos c_16]) rfl)
          · have c_16 := c
            refine r_iload 185 dX11_mends_183 rfl rfl ?_
            refine r_iconst 186 dX11_mends_185 rfl (InR_of rfl) ?_
            refine r_ixor 187 dX11_mends_186 rfl ?_
            refine r_goto 192 dX11_mends_187 rfl ?_
            exact (Ex.at hJ_15 rfl (show [vI (aXor r_8 (-1)), vI x7] = [vI (if (if x10 < 16 then 0 else 1 : Int) = 0 then r_8 else (aXor r_8 (-1)) : Int), vI x7] by simp only [if_neg c_16]) rfl)
        have h := h0
        refine r_if_eq 137 164 dX11_mends_134 rfl rfl (fun c => ?_) (fun c => ?_)
        · have c_10 := c
          have h := h.1 c_10
          have o_11 := h
          refine r_aload_n 165 dX11_mends_164 rfl rfl ?_
          refine g_R 168 dX11_mends_165 rfl rfl rfl fr_11_12 (sh_11_0 hS) ?_
          refine g_R 171 dX11_mends_168 rfl rfl rfl fr_11_138 (sh_8_7 hS _) ?_
          refine r_iload 173 dX11_mends_171 rfl rfl ?_
          refine a_I 17 174 dX11_mends_173 rfl rfl rfl rfl o_11 rfl ?_
          exact (Ex.at hJ_9 rfl (show [vI (M_6.1 37 0 x10.toNat)] = [vI (if (if x10 < 16 then 0 else 1 : Int) = 0 then (M_6.1 37 0 x10.toNat) else ((M_6.1 37 0 (x10 - 16).toNat) + (M_6.1 37 0 16)) : Int)] by simp only [if_pos c_10]) rfl)
        · have c_10 := c
          have h := h.2 c_10
          obtain ⟨o_12, o_13, o_14⟩ := h
          refine r_aload_n 138 dX11_mends_137 rfl rfl ?_
          refine g_R 141 dX11_mends_138 rfl rfl rfl fr_11_12 (sh_11_0 hS) ?_
          refine g_R 144 dX11_mends_141 rfl rfl rfl fr_11_138 (sh_8_7 hS _) ?_
          refine r_iload 146 dX11_mends_144 rfl rfl ?_
          refine r_bipush 148 dX11_mends_146 rfl rfl ?_
          refine r_isub 149 dX11_mends_148 rfl o_12 ?_
          refine a_I 17 150 dX11_mends_149 rfl rfl rfl rfl o_13 rfl ?_
          refine r_aload_n 151 dX11_mends_150 rfl rfl ?_
          refine g_R 154 dX11_mends_151 rfl rfl rfl fr_11_12 (sh_11_0 hS) ?_
          refine g_R 157 dX11_mends_154 rfl rfl rfl fr_11_138 (sh_8_7 hS _) ?_
          refine r_bipush 159 dX11_mends_157 rfl rfl ?_
          refine a_I 17 160 dX11_mends_159 rfl rfl rfl rfl ⟨by decide, by decide⟩ rfl ?_
          refine r_iadd 161 dX11_mends_160 rfl o_14 ?_
          refine r_goto 174 dX11_mends_161 rfl ?_
          exact (Ex.at hJ_9 rfl (show [vI ((M_6.1 37 0 (x10 - 16).toNat) + (M_6.1 37 0 16))] = [vI (if (if x10 < 16 then 0 else 1 : Int) = 0 then (M_6.1 37 0 x10.toNat) else ((M_6.1 37 0 (x10 - 16).toNat) + (M_6.1 37 0 16)) : Int)] by simp only [if_neg c_10]) rfl)
      have h := h0
      refine r_if_eq 116 124 dX11_mends_113 rfl rfl (fun c => ?_) (fun c => ?_)
      · have c_4 := c
        refine r_iload 126 dX11_mends_124 rfl rfl ?_
        exact (Ex.at hJ_3 rfl (show [vI x10, vR (some (14, k6))] = [vI (if (if x10 < 16 then 0 else 1 : Int) = 0 then x10 else (x10 - 16) : Int), vR (some (14, k6))] by simp only [if_pos c_4]) rfl)
      · have c_4 := c
        have h := h c_4
        have o_5 := h
        refine r_iload 118 dX11_mends_116 rfl rfl ?_
        refine r_bipush 120 dX11_mends_118 rfl rfl ?_
        refine r_isub 121 dX11_mends_120 rfl o_5 ?_
        refine r_goto 126 dX11_mends_121 rfl ?_
        exact (Ex.at hJ_3 rfl (show [vI (x10 - 16), vR (some (14, k6))] = [vI (if (if x10 < 16 then 0 else 1 : Int) = 0 then x10 else (x10 - 16) : Int), vR (some (14, k6))] by simp only [if_neg c_4]) rfl)
    refine r_icmp_lt 102 106 dX11_mends_99 rfl rfl (fun c => ?_) (fun c => ?_)
    · have c_2 := c
      refine r_iconst 107 dX11_mends_106 rfl (InR_of rfl) ?_
      exact (Ex.at hJ_1 rfl (show [vI 0] = [vI (if x10 < 16 then 0 else 1 : Int)] by simp only [if_pos c_2]) rfl)
    · have c_2 := c
      refine r_iconst 103 dX11_mends_102 rfl (InR_of rfl) ?_
      refine r_goto 107 dX11_mends_103 rfl ?_
      exact (Ex.at hJ_1 rfl (show [vI 1] = [vI (if x10 < 16 then 0 else 1 : Int)] by simp only [if_neg c_2]) rfl)

set_option maxRecDepth 4000 in
theorem xX11_asked_0 {l : Launch} {G : Gt} {d : Nat} {M M' : Mem} {r : Option Vl} {x1 : Int} {x2 : Int} {x3 : Int} {x4 : Int} {x5 : Int} {x6 : Int} (h : 
    ∃ (o_3 : Option Nm) (M_1 : Mem), Cl l G d mX11_coverOf [vR (some (2, 0)), vI x1] M (some (vR o_3)) M_1 ∧ ((o_3 = none → r = some (vI (-2)) ∧ M' = M_1) ∧ (¬ (o_3 = none) → ∃ (r_6 : Int) (M_4 : Mem), Cl l G d mX11_isPerson [vR (some (2, 0)), vI x2] M_1 (some (vI r_6)) M_4 ∧ ((r_6 = 0 → r = some (vI (-2)) ∧ M' = M_4) ∧ (¬ (r_6 = 0) → ∃ (r_9 : Int) (M_7 : Mem), Cl l G d mX11_isDay [vI x3] M_4 (some (vI r_9)) M_7 ∧ ((r_9 = 0 → r = some (vI (-2)) ∧ M' = M_7) ∧ (¬ (r_9 = 0) → ∃ (r_12 : Int) (M_10 : Mem), Cl l G d mX11_isDay [vI x4] M_7 (some (vI r_12)) M_10 ∧ ((¬ r_12 = 0 → ∃ (r_15 : Int) (M_13 : Mem), Cl l G d mX11_isPlace [vI x5] M_10 (some (vI r_15)) M_13 ∧ Sh M_13.2.1 ∧ ((r_15 = 0 → r = some (vI (-2)) ∧ M' = M_13) ∧ (¬ (r_15 = 0) → (x6 < 0 → r = some (vI (-2)) ∧ M' = M_13) ∧ (¬ (x6 < 0) → (x6 ≤ 2 → ∃ k_16 : Nat, o_3 = some (13, k_16) ∧ (∃ (M_18 : Mem), Cl l G d mX0_ask [vR (some (9, 0)), vR (some (13, k_16)), vI x2, vI x3, vI x4, vI x5] M_13 none M_18 ∧ Sh M_18.2.1 ∧ ((¬ x6 = 0 → r = some (vI (if ¬ x6 = 1 then (M_18.1 9 0 6) else (M_18.1 9 0 5) : Int)) ∧ M' = M_18) ∧ (¬ (¬ x6 = 0) → r = some (vI (M_18.1 9 0 4)) ∧ M' = M_18)))) ∧ (¬ (x6 ≤ 2) → r = some (vI (-2)) ∧ M' = M_13))))) ∧ (¬ (¬ r_12 = 0) → r = some (vI (-2)) ∧ M' = M_10))))))))) : Cl l G (d + 1) mX11_asked [vR (some (2, 0)), vI x1, vI x2, vI x3, vI x4, vI x5, vI x6] M r M' := by
  show Ex l G (d + 1) mX11_asked 0 [some (vR (some (2, 0))), some (vI x1), some (vI x2), some (vI x3), some (vI x4), some (vI x5), some (vI x6), none] [] M r M'
  refine r_aload_n 1 dX11_asked_0 rfl rfl ?_
  refine r_iload_n 2 dX11_asked_1 rfl rfl ?_
  obtain ⟨o_3, M_1, hc_2, h⟩ := h
  refine v_1 (ci := 11) (C := (RX11, TX11, 14)) [vI x1] [] 5 dX11_asked_2 rfl rfl rfl rfl rfl mo_X11_coverOf ml_11_181 rfl rfl hc_2 ?_
  refine r_astore (ls' := [some (vR (some (2, 0))), some (vI x1), some (vI x2), some (vI x3), some (vI x4), some (vI x5), some (vI x6), some (vR o_3)]) 7 dX11_asked_5 rfl rfl rfl rfl ?_
  refine r_aload 9 dX11_asked_7 rfl rfl ?_
  refine r_ifnull 12 35 dX11_asked_9 rfl rfl (fun c => ?_) (fun c => ?_)
  · have h := h.1 (c)
    refine r_bipush 37 dX11_asked_35 rfl rfl ?_
    exact r_iret dX11_asked_37 rfl (.inl rfl) h.1 h.2
  · have h := h.2 (c)
    refine r_aload_n 13 dX11_asked_12 rfl rfl ?_
    refine r_iload_n 14 dX11_asked_13 rfl rfl ?_
    obtain ⟨r_6, M_4, hc_5, h⟩ := h
    refine v_1 (ci := 11) (C := (RX11, TX11, 14)) [vI x2] [] 17 dX11_asked_14 rfl rfl rfl rfl rfl mo_X11_isPerson ml_11_121 rfl rfl hc_5 ?_
    refine r_if_eq 20 35 dX11_asked_17 rfl rfl (fun c => ?_) (fun c => ?_)
    · have h := h.1 (c)
      refine r_bipush 37 dX11_asked_35 rfl rfl ?_
      exact r_iret dX11_asked_37 rfl (.inl rfl) h.1 h.2
    · have h := h.2 (c)
      refine r_iload_n 21 dX11_asked_20 rfl rfl ?_
      obtain ⟨r_9, M_7, hc_8, h⟩ := h
      refine c_1 [vI x3] [] 24 dX11_asked_21 rfl rfl mo_X11_isDay ml_11_118 rfl rfl hc_8 ?_
      refine r_if_eq 27 35 dX11_asked_24 rfl rfl (fun c => ?_) (fun c => ?_)
      · have h := h.1 (c)
        refine r_bipush 37 dX11_asked_35 rfl rfl ?_
        exact r_iret dX11_asked_37 rfl (.inl rfl) h.1 h.2
      · have h := h.2 (c)
        refine r_iload 29 dX11_asked_27 rfl rfl ?_
        obtain ⟨r_12, M_10, hc_11, h⟩ := h
        refine c_1 [vI x4] [] 32 dX11_asked_29 rfl rfl mo_X11_isDay ml_11_118 rfl rfl hc_11 ?_
        refine r_if_ne 35 38 dX11_asked_32 rfl rfl (fun c => ?_) (fun c => ?_)
        · have h := h.1 (c)
          refine r_iload 40 dX11_asked_38 rfl rfl ?_
          obtain ⟨r_15, M_13, hc_14, hS, h⟩ := h
          refine c_1 [vI x5] [] 43 dX11_asked_40 rfl rfl mo_X11_isPlace ml_11_90 rfl rfl hc_14 ?_
          refine r_if_eq 46 57 dX11_asked_43 rfl rfl (fun c => ?_) (fun c => ?_)
          · have h := h.1 (c)
            refine r_bipush 59 dX11_asked_57 rfl rfl ?_
            exact r_iret dX11_asked_59 rfl (.inl rfl) h.1 h.2
          · have h := h.2 (c)
            refine r_iload 48 dX11_asked_46 rfl rfl ?_
            refine r_if_lt 51 57 dX11_asked_48 rfl rfl (fun c => ?_) (fun c => ?_)
            · have h := h.1 (c)
              refine r_bipush 59 dX11_asked_57 rfl rfl ?_
              exact r_iret dX11_asked_59 rfl (.inl rfl) h.1 h.2
            · have h := h.2 (c)
              refine r_iload 53 dX11_asked_51 rfl rfl ?_
              refine r_iconst 54 dX11_asked_53 rfl (InR_of rfl) ?_
              refine r_icmp_le 57 60 dX11_asked_54 rfl rfl (fun c => ?_) (fun c => ?_)
              · have h := h.1 (c)
                refine r_aload_n 61 dX11_asked_60 rfl rfl ?_
                refine g_R 64 dX11_asked_61 rfl rfl rfl fr_11_44 (sh_11_4 hS) ?_
                refine r_aload 66 dX11_asked_64 rfl rfl ?_
                refine r_iload_n 67 dX11_asked_66 rfl rfl ?_
                refine r_iload_n 68 dX11_asked_67 rfl rfl ?_
                refine r_iload 70 dX11_asked_68 rfl rfl ?_
                refine r_iload 72 dX11_asked_70 rfl rfl ?_
                obtain ⟨k_16, e_17, h⟩ := h
                refine Ex.at (st2 := [vI x5, vI x4, vI x3, vI x2, vR (some (13, k_16)), vR (some (9, 0))]) ?_ rfl (show [vI x5, vI x4, vI x3, vI x2, vR o_3, vR (some (9, 0))] = [vI x5, vI x4, vI x3, vI x2, vR (some (13, k_16)), vR (some (9, 0))] by rw [e_17]) rfl
                obtain ⟨M_18, hc_19, hS, h⟩ := h
                refine v_0 (ci := 0) (C := (RX0, TX0, 13)) [vR (some (13, k_16)), vI x2, vI x3, vI x4, vI x5] [] 75 dX11_asked_72 rfl rfl rfl rfl rfl mo_X0_ask ml_11_205 rfl rfl hc_19 ?_
                refine r_iload 77 dX11_asked_75 rfl rfl ?_
                refine r_if_ne 80 88 dX11_asked_77 rfl rfl (fun c => ?_) (fun c => ?_)
                · have h := h.1 (c)
                  refine r_iload 90 dX11_asked_88 rfl rfl ?_
                  refine r_iconst 91 dX11_asked_90 rfl (InR_of rfl) ?_
                  have hJ_20 : Ex l G (d + 1) mX11_asked 111 [some (vR (some (2, 0))), some (vI x1), some (vI x2), some (vI x3), some (vI x4), some (vI x5), some (vI x6), some (vR o_3)] [vI (if ¬ x6 = 1 then (M_18.1 9 0 6) else (M_18.1 9 0 5) : Int)] M_18 r M' := by
                    exact r_iret dX11_asked_111 rfl (.inl rfl) h.1 h.2
                  refine r_icmp_ne 94 104 dX11_asked_91 rfl rfl (fun c => ?_) (fun c => ?_)
                  · have c_21 := c
                    refine r_aload_n 105 dX11_asked_104 rfl rfl ?_
                    refine g_R 108 dX11_asked_105 rfl rfl rfl fr_11_44 (sh_11_4 hS) ?_
                    refine g_I 111 dX11_asked_108 rfl rfl rfl fi_11_215 rfl ?_
                    exact (Ex.at hJ_20 rfl (show [vI (M_18.1 9 0 6)] = [vI (if ¬ x6 = 1 then (M_18.1 9 0 6) else (M_18.1 9 0 5) : Int)] by simp only [if_pos c_21]) rfl)
                  · have c_21 := c
                    refine r_aload_n 95 dX11_asked_94 rfl rfl ?_
                    refine g_R 98 dX11_asked_95 rfl rfl rfl fr_11_44 (sh_11_4 hS) ?_
                    refine g_I 101 dX11_asked_98 rfl rfl rfl fi_11_212 rfl ?_
                    refine r_goto 111 dX11_asked_101 rfl ?_
                    exact (Ex.at hJ_20 rfl (show [vI (M_18.1 9 0 5)] = [vI (if ¬ x6 = 1 then (M_18.1 9 0 6) else (M_18.1 9 0 5) : Int)] by simp only [if_neg c_21]) rfl)
                · have h := h.2 (c)
                  refine r_aload_n 81 dX11_asked_80 rfl rfl ?_
                  refine g_R 84 dX11_asked_81 rfl rfl rfl fr_11_44 (sh_11_4 hS) ?_
                  refine g_I 87 dX11_asked_84 rfl rfl rfl fi_11_209 rfl ?_
                  exact r_iret dX11_asked_87 rfl (.inl rfl) h.1 h.2
              · have h := h.2 (c)
                refine r_bipush 59 dX11_asked_57 rfl rfl ?_
                exact r_iret dX11_asked_59 rfl (.inl rfl) h.1 h.2
        · have h := h.2 (c)
          refine r_bipush 37 dX11_asked_35 rfl rfl ?_
          exact r_iret dX11_asked_37 rfl (.inl rfl) h.1 h.2

set_option maxRecDepth 4000 in
theorem xX11_letter_0 {l : Launch} {G : Gt} {d : Nat} {M M' : Mem} {r : Option Vl} {x1 : Int} {x2 : Int} {x3 : Int} {x4 : Int} (h : 
    ∃ (o_3 : Option Nm) (M_1 : Mem), Cl l G d mX11_coverOf [vR (some (2, 0)), vI x2] M (some (vR o_3)) M_1 ∧ Sh M_1.2.1 ∧ ((8 ≤ (M_1.1 4 0 8) → r = some (vI (-1)) ∧ M' = M_1) ∧ (¬ (8 ≤ (M_1.1 4 0 8)) → (¬ (o_3 = none) → ∃ (r_6 : Int) (M_4 : Mem), Cl l G d mX11_areTwo [vR (some (2, 0)), vI x1, vI x3] M_1 (some (vI r_6)) M_4 ∧ ((r_6 = 0 → r = some (vI (-1)) ∧ M' = M_4) ∧ (¬ (r_6 = 0) → ∃ (r_9 : Int) (M_7 : Mem), Cl l G d mX11_isPlace [vI x4] M_4 (some (vI r_9)) M_7 ∧ Sh M_7.2.1 ∧ ((¬ r_9 = 0 → ((0 ≤ (M_7.1 4 0 8) ∧ (M_7.1 4 0 8) < 8)) ∧ (∃ k_11 : Nat, (M_7.2.1 38 0 (M_7.1 4 0 8).toNat) = some (5, k_11) ∧ (∃ (M_13 : Mem), Cl l G d mX5_begin [vR (some (5, k_11)), vR o_3, vI x1, vI x3, vI x4, vI (M_7.1 4 0 10)] M_7 none M_13 ∧ Sh M_13.2.1 ∧ (InR ((M_13.1 4 0 8) + 1)) ∧ r = some (vI (M_13.1 4 0 8)) ∧ M' = ((upI M_13.1 4 0 8 ((M_13.1 4 0 8) + 1)), M_13.2.1, M_13.2.2)))) ∧ (¬ (¬ r_9 = 0) → r = some (vI (-1)) ∧ M' = M_7))))) ∧ (o_3 = none → r = some (vI (-1)) ∧ M' = M_1)))) : Cl l G (d + 1) mX11_letter [vR (some (2, 0)), vI x1, vI x2, vI x3, vI x4] M r M' := by
  show Ex l G (d + 1) mX11_letter 0 [some (vR (some (2, 0))), some (vI x1), some (vI x2), some (vI x3), some (vI x4), none] [] M r M'
  refine r_aload_n 1 dX11_letter_0 rfl rfl ?_
  refine r_iload_n 2 dX11_letter_1 rfl rfl ?_
  obtain ⟨o_3, M_1, hc_2, hS, h⟩ := h
  refine v_1 (ci := 11) (C := (RX11, TX11, 14)) [vI x2] [] 5 dX11_letter_2 rfl rfl rfl rfl rfl mo_X11_coverOf ml_11_181 rfl rfl hc_2 ?_
  refine r_astore (ls' := [some (vR (some (2, 0))), some (vI x1), some (vI x2), some (vI x3), some (vI x4), some (vR o_3)]) 7 dX11_letter_5 rfl rfl rfl rfl ?_
  refine r_aload_n 8 dX11_letter_7 rfl rfl ?_
  refine g_R 11 dX11_letter_8 rfl rfl rfl fr_11_12 (sh_11_0 hS) ?_
  refine g_I 14 dX11_letter_11 rfl rfl rfl fi_11_218 rfl ?_
  refine r_bipush 16 dX11_letter_14 rfl rfl ?_
  refine r_icmp_ge 19 24 dX11_letter_16 rfl rfl (fun c => ?_) (fun c => ?_)
  · have h := h.1 (c)
    refine r_iconst 25 dX11_letter_24 rfl (InR_of rfl) ?_
    exact r_iret dX11_letter_25 rfl (.inl rfl) h.1 h.2
  · have h := h.2 (c)
    refine r_aload 21 dX11_letter_19 rfl rfl ?_
    refine r_ifnonnull 24 26 dX11_letter_21 rfl rfl (fun c => ?_) (fun c => ?_)
    · have h := h.1 (c)
      refine r_aload_n 27 dX11_letter_26 rfl rfl ?_
      refine r_iload_n 28 dX11_letter_27 rfl rfl ?_
      refine r_iload_n 29 dX11_letter_28 rfl rfl ?_
      obtain ⟨r_6, M_4, hc_5, h⟩ := h
      refine v_1 (ci := 11) (C := (RX11, TX11, 14)) [vI x1, vI x3] [] 32 dX11_letter_29 rfl rfl rfl rfl rfl mo_X11_areTwo ml_11_124 rfl rfl hc_5 ?_
      refine r_if_eq 35 43 dX11_letter_32 rfl rfl (fun c => ?_) (fun c => ?_)
      · have h := h.1 (c)
        refine r_iconst 44 dX11_letter_43 rfl (InR_of rfl) ?_
        exact r_iret dX11_letter_44 rfl (.inl rfl) h.1 h.2
      · have h := h.2 (c)
        refine r_iload 37 dX11_letter_35 rfl rfl ?_
        obtain ⟨r_9, M_7, hc_8, hS, h⟩ := h
        refine c_1 [vI x4] [] 40 dX11_letter_37 rfl rfl mo_X11_isPlace ml_11_90 rfl rfl hc_8 ?_
        refine r_if_ne 43 45 dX11_letter_40 rfl rfl (fun c => ?_) (fun c => ?_)
        · have h := h.1 (c)
          obtain ⟨o_10, h⟩ := h
          refine r_aload_n 46 dX11_letter_45 rfl rfl ?_
          refine g_R 49 dX11_letter_46 rfl rfl rfl fr_11_12 (sh_11_0 hS) ?_
          refine g_R 52 dX11_letter_49 rfl rfl rfl fr_11_221 (sh_8_9 hS _) ?_
          refine r_aload_n 53 dX11_letter_52 rfl rfl ?_
          refine g_R 56 dX11_letter_53 rfl rfl rfl fr_11_12 (sh_11_0 hS) ?_
          refine g_I 59 dX11_letter_56 rfl rfl rfl fi_11_218 rfl ?_
          refine a_R (ci := 5) 8 60 dX11_letter_59 rfl rfl rfl rfl rfl o_10 rfl ?_
          refine r_aload 62 dX11_letter_60 rfl rfl ?_
          refine r_iload_n 63 dX11_letter_62 rfl rfl ?_
          refine r_iload_n 64 dX11_letter_63 rfl rfl ?_
          refine r_iload 66 dX11_letter_64 rfl rfl ?_
          refine r_aload_n 67 dX11_letter_66 rfl rfl ?_
          refine g_R 70 dX11_letter_67 rfl rfl rfl fr_11_12 (sh_11_0 hS) ?_
          refine g_I 73 dX11_letter_70 rfl rfl rfl fi_11_225 rfl ?_
          obtain ⟨k_11, e_12, h⟩ := h
          refine Ex.at (st2 := [vI (M_7.1 4 0 10), vI x4, vI x3, vI x1, vR o_3, vR (some (5, k_11))]) ?_ rfl (show [vI (M_7.1 4 0 10), vI x4, vI x3, vI x1, vR o_3, vR (M_7.2.1 38 0 (M_7.1 4 0 8).toNat)] = [vI (M_7.1 4 0 10), vI x4, vI x3, vI x1, vR o_3, vR (some (5, k_11))] by rw [e_12]) rfl
          obtain ⟨M_13, hc_14, hS, h⟩ := h
          refine v_0 (ci := 5) (C := (RX5, TX5, 12)) [vR o_3, vI x1, vI x3, vI x4, vI (M_7.1 4 0 10)] [] 76 dX11_letter_73 rfl rfl rfl rfl rfl mo_X5_begin ml_11_228 rfl rfl hc_14 ?_
          obtain ⟨o_15, h⟩ := h
          refine r_aload_n 77 dX11_letter_76 rfl rfl ?_
          refine g_R 80 dX11_letter_77 rfl rfl rfl fr_11_12 (sh_11_0 hS) ?_
          refine r_dup 81 dX11_letter_80 rfl rfl ?_
          refine g_I 84 dX11_letter_81 rfl rfl rfl fi_11_218 rfl ?_
          refine r_dup_x1 85 dX11_letter_84 rfl rfl ?_
          refine r_iconst 86 dX11_letter_85 rfl (InR_of rfl) ?_
          refine r_iadd 87 dX11_letter_86 rfl o_15 ?_
          refine p_I 90 dX11_letter_87 rfl rfl rfl rfl pf_11_218 (.inl rfl) rfl ?_
          exact r_iret dX11_letter_90 rfl (.inl rfl) h.1 h.2
        · have h := h.2 (c)
          refine r_iconst 44 dX11_letter_43 rfl (InR_of rfl) ?_
          exact r_iret dX11_letter_44 rfl (.inl rfl) h.1 h.2
    · have h := h.2 (c)
      refine r_iconst 25 dX11_letter_24 rfl (InR_of rfl) ?_
      exact r_iret dX11_letter_25 rfl (.inl rfl) h.1 h.2

set_option maxRecDepth 4000 in
theorem xX11_days_0 {l : Launch} {G : Gt} {d : Nat} {M M' : Mem} {r : Option Vl} {x1 : Int} (hS : Sh M.2.1) (h : 
    (x1 < 1 → r = some (vI (-1)) ∧ M' = M) ∧ (¬ (x1 < 1) → (60 < x1 → r = some (vI (-1)) ∧ M' = M) ∧ (¬ (60 < x1) → (InR ((M.1 4 0 10) + x1)) ∧ ((((M.1 4 0 10) + x1) ≤ 999 → Ex l G (d + 1) mX11_days 30 [some (vR (some (2, 0))), some (vI x1), some (vI 0)] [] M r M') ∧ (¬ (((M.1 4 0 10) + x1) ≤ 999) → r = some (vI (-1)) ∧ M' = M))))) : Cl l G (d + 1) mX11_days [vR (some (2, 0)), vI x1] M r M' := by
  show Ex l G (d + 1) mX11_days 0 [some (vR (some (2, 0))), some (vI x1), none] [] M r M'
  refine r_iload_n 1 dX11_days_0 rfl rfl ?_
  refine r_iconst 2 dX11_days_1 rfl (InR_of rfl) ?_
  refine r_icmp_lt 5 26 dX11_days_2 rfl rfl (fun c => ?_) (fun c => ?_)
  · have h := h.1 (c)
    refine r_iconst 27 dX11_days_26 rfl (InR_of rfl) ?_
    exact r_iret dX11_days_27 rfl (.inl rfl) h.1 h.2
  · have h := h.2 (c)
    refine r_iload_n 6 dX11_days_5 rfl rfl ?_
    refine r_bipush 8 dX11_days_6 rfl rfl ?_
    refine r_icmp_gt 11 26 dX11_days_8 rfl rfl (fun c => ?_) (fun c => ?_)
    · have h := h.1 (c)
      refine r_iconst 27 dX11_days_26 rfl (InR_of rfl) ?_
      exact r_iret dX11_days_27 rfl (.inl rfl) h.1 h.2
    · have h := h.2 (c)
      obtain ⟨o_1, h⟩ := h
      refine r_aload_n 12 dX11_days_11 rfl rfl ?_
      refine g_R 15 dX11_days_12 rfl rfl rfl fr_11_12 (sh_11_0 hS) ?_
      refine g_I 18 dX11_days_15 rfl rfl rfl fi_11_225 rfl ?_
      refine r_iload_n 19 dX11_days_18 rfl rfl ?_
      refine r_iadd 20 dX11_days_19 rfl o_1 ?_
      refine r_sipush 23 dX11_days_20 rfl rfl ?_
      refine r_icmp_le 26 28 dX11_days_23 rfl rfl (fun c => ?_) (fun c => ?_)
      · have h := h.1 (c)
        refine r_iconst 29 dX11_days_28 rfl (InR_of rfl) ?_
        refine r_istore_n (ls' := [some (vR (some (2, 0))), some (vI x1), some (vI 0)]) 30 dX11_days_29 rfl rfl rfl rfl ?_
        exact h
      · have h := h.2 (c)
        refine r_iconst 27 dX11_days_26 rfl (InR_of rfl) ?_
        exact r_iret dX11_days_27 rfl (.inl rfl) h.1 h.2
set_option maxRecDepth 4000 in
theorem xX11_days_30 {l : Launch} {G : Gt} {d : Nat} {M M' : Mem} {r : Option Vl} {x1 : Int} {x2 : Int} (hS : Sh M.2.1) (h : 
    (x1 ≤ x2 → ∃ (r_3 : Int) (M_1 : Mem), Cl l G d mX8_howManyAre [vR (some (4, 0)), vI 0] M (some (vI r_3)) M_1 ∧ r = some (vI r_3) ∧ M' = M_1) ∧ (¬ (x1 ≤ x2) → ∃ (M_4 : Mem), Cl l G d mX0_oneDay [vR (some (9, 0))] M none M_4 ∧ (InR (x2 + 1)) ∧ Ex l G (d + 1) mX11_days 30 [some (vR (some (2, 0))), some (vI x1), some (vI (x2 + 1))] [] M_4 r M')) : Ex l G (d + 1) mX11_days 30 [some (vR (some (2, 0))), some (vI x1), some (vI x2)] [] M r M' := by
  refine r_iload_n 31 dX11_days_30 rfl rfl ?_
  refine r_iload_n 32 dX11_days_31 rfl rfl ?_
  refine r_icmp_ge 35 48 dX11_days_32 rfl rfl (fun c => ?_) (fun c => ?_)
  · have h := h.1 (c)
    refine r_aload_n 49 dX11_days_48 rfl rfl ?_
    refine g_R 52 dX11_days_49 rfl rfl rfl fr_11_12 (sh_11_0 hS) ?_
    refine r_iconst 53 dX11_days_52 rfl (InR_of rfl) ?_
    obtain ⟨r_3, M_1, hc_2, h⟩ := h
    refine v_1 (ci := 8) (C := (RX8, TX8, 13)) [vI 0] [] 56 dX11_days_53 rfl rfl rfl rfl rfl mo_X8_howManyAre ml_11_234 rfl rfl hc_2 ?_
    exact r_iret dX11_days_56 rfl (.inl rfl) h.1 h.2
  · have h := h.2 (c)
    refine r_aload_n 36 dX11_days_35 rfl rfl ?_
    refine g_R 39 dX11_days_36 rfl rfl rfl fr_11_44 (sh_11_4 hS) ?_
    obtain ⟨M_4, hc_5, h⟩ := h
    refine v_0 (ci := 0) (C := (RX0, TX0, 13)) [] [] 42 dX11_days_39 rfl rfl rfl rfl rfl mo_X0_oneDay ml_11_231 rfl rfl hc_5 ?_
    obtain ⟨o_6, h⟩ := h
    refine r_iinc (ls' := [some (vR (some (2, 0))), some (vI x1), some (vI (x2 + 1))]) 45 dX11_days_42 rfl rfl rfl rfl o_6 rfl ?_
    refine r_goto 30 dX11_days_45 rfl ?_
    exact h

set_option maxRecDepth 4000 in
theorem xX11_letters_0 {l : Launch} {G : Gt} {d : Nat} {M M' : Mem} {r : Option Vl} {x1 : Int} {x2 : Int} (hS : Sh M.2.1) (h : 
    (x1 < 0 → r = some (vI (-2)) ∧ M' = M) ∧ (¬ (x1 < 0) → (x1 < (M.1 4 0 8) → ((0 ≤ x1 ∧ x1 < 8)) ∧ ((x2 < 0 ∨ 5 < x2 → r = some (vI (-2)) ∧ M' = M) ∧ (x2 = 0 → ∃ k_2 : Nat, (M.2.1 38 0 x1.toNat) = some (5, k_2) ∧ r = some (vI (M.1 5 k_2 5)) ∧ M' = M) ∧ (x2 = 1 → ∃ k_4 : Nat, (M.2.1 38 0 x1.toNat) = some (5, k_4) ∧ r = some (vI (M.1 5 k_4 6)) ∧ M' = M) ∧ (x2 = 2 → ∃ k_6 : Nat, (M.2.1 38 0 x1.toNat) = some (5, k_6) ∧ r = some (vI (M.1 5 k_6 7)) ∧ M' = M) ∧ (x2 = 3 → ∃ k_8 : Nat, (M.2.1 38 0 x1.toNat) = some (5, k_8) ∧ r = some (vI (M.1 5 k_8 8)) ∧ M' = M) ∧ (x2 = 4 → ∃ k_10 : Nat, (M.2.1 38 0 x1.toNat) = some (5, k_10) ∧ (∃ (r_14 : Int) (M_12 : Mem), Cl l G d mX5_isRight [vR (some (5, k_10))] M (some (vI r_14)) M_12 ∧ r = some (vI (if r_14 = 0 then 0 else 1 : Int)) ∧ M' = M_12)) ∧ (x2 = 5 → ∃ k_17 : Nat, (M.2.1 38 0 x1.toNat) = some (5, k_17) ∧ r = some (vI (M.1 5 k_17 9)) ∧ M' = M))) ∧ (¬ (x1 < (M.1 4 0 8)) → r = some (vI (-2)) ∧ M' = M))) : Cl l G (d + 1) mX11_letters [vR (some (2, 0)), vI x1, vI x2] M r M' := by
  show Ex l G (d + 1) mX11_letters 0 [some (vR (some (2, 0))), some (vI x1), some (vI x2), none] [] M r M'
  refine r_iload_n 1 dX11_letters_0 rfl rfl ?_
  refine r_if_lt 4 15 dX11_letters_1 rfl rfl (fun c => ?_) (fun c => ?_)
  · have h := h.1 (c)
    refine r_bipush 17 dX11_letters_15 rfl rfl ?_
    exact r_iret dX11_letters_17 rfl (.inl rfl) h.1 h.2
  · have h := h.2 (c)
    refine r_iload_n 5 dX11_letters_4 rfl rfl ?_
    refine r_aload_n 6 dX11_letters_5 rfl rfl ?_
    refine g_R 9 dX11_letters_6 rfl rfl rfl fr_11_12 (sh_11_0 hS) ?_
    refine g_I 12 dX11_letters_9 rfl rfl rfl fi_11_218 rfl ?_
    refine r_icmp_lt 15 18 dX11_letters_12 rfl rfl (fun c => ?_) (fun c => ?_)
    · have h := h.1 (c)
      obtain ⟨o_1, h⟩ := h
      refine r_aload_n 19 dX11_letters_18 rfl rfl ?_
      refine g_R 22 dX11_letters_19 rfl rfl rfl fr_11_12 (sh_11_0 hS) ?_
      refine g_R 25 dX11_letters_22 rfl rfl rfl fr_11_221 (sh_8_9 hS _) ?_
      refine r_iload_n 26 dX11_letters_25 rfl rfl ?_
      refine a_R (ci := 5) 8 27 dX11_letters_26 rfl rfl rfl rfl rfl o_1 rfl ?_
      refine r_astore_n (ls' := [some (vR (some (2, 0))), some (vI x1), some (vI x2), some (vR (M.2.1 38 0 x1.toNat))]) 28 dX11_letters_27 rfl rfl rfl rfl ?_
      refine r_iload_n 29 dX11_letters_28 rfl rfl ?_
      by_cases hsw : x2 < 0 ∨ 5 < x2
      · have h := h.1 hsw
        refine r_tswOut 106 dX11_letters_29 hsw rfl ?_
        refine r_bipush 108 dX11_letters_106 rfl rfl ?_
        exact r_iret dX11_letters_108 rfl (.inl rfl) h.1 h.2
      · have hsw2 : x2 = 0 ∨ x2 = 1 ∨ x2 = 2 ∨ x2 = 3 ∨ x2 = 4 ∨ x2 = 5 := by omega
        rcases hsw2 with c | c | c | c | c | c
        · have h := h.2.1 c
          refine r_tswIn 68 dX11_letters_29 0 c rfl rfl rfl ?_
          refine r_aload_n 69 dX11_letters_68 rfl rfl ?_
          obtain ⟨k_2, e_3, h⟩ := h
          refine g_I 72 dX11_letters_69 rfl e_3 rfl fi_11_237 rfl ?_
          exact r_iret dX11_letters_72 rfl (.inl rfl) h.1 h.2
        · have h := h.2.2.1 c
          refine r_tswIn 73 dX11_letters_29 1 c rfl rfl rfl ?_
          refine r_aload_n 74 dX11_letters_73 rfl rfl ?_
          obtain ⟨k_4, e_5, h⟩ := h
          refine g_I 77 dX11_letters_74 rfl e_5 rfl fi_11_240 rfl ?_
          exact r_iret dX11_letters_77 rfl (.inl rfl) h.1 h.2
        · have h := h.2.2.2.1 c
          refine r_tswIn 78 dX11_letters_29 2 c rfl rfl rfl ?_
          refine r_aload_n 79 dX11_letters_78 rfl rfl ?_
          obtain ⟨k_6, e_7, h⟩ := h
          refine g_I 82 dX11_letters_79 rfl e_7 rfl fi_11_243 rfl ?_
          exact r_iret dX11_letters_82 rfl (.inl rfl) h.1 h.2
        · have h := h.2.2.2.2.1 c
          refine r_tswIn 83 dX11_letters_29 3 c rfl rfl rfl ?_
          refine r_aload_n 84 dX11_letters_83 rfl rfl ?_
          obtain ⟨k_8, e_9, h⟩ := h
          refine g_I 87 dX11_letters_84 rfl e_9 rfl fi_11_246 rfl ?_
          exact r_iret dX11_letters_87 rfl (.inl rfl) h.1 h.2
        · have h := h.2.2.2.2.2.1 c
          refine r_tswIn 88 dX11_letters_29 4 c rfl rfl rfl ?_
          refine r_aload_n 89 dX11_letters_88 rfl rfl ?_
          obtain ⟨k_10, e_11, h⟩ := h
          refine Ex.at (st2 := [vR (some (5, k_10))]) ?_ rfl (show [vR (M.2.1 38 0 x1.toNat)] = [vR (some (5, k_10))] by rw [e_11]) rfl
          obtain ⟨r_14, M_12, hc_13, h⟩ := h
          refine v_1 (ci := 5) (C := (RX5, TX5, 12)) [] [] 92 dX11_letters_89 rfl rfl rfl rfl rfl mo_X5_isRight ml_11_249 rfl rfl hc_13 ?_
          have hJ_15 : Ex l G (d + 1) mX11_letters 100 [some (vR (some (2, 0))), some (vI x1), some (vI x2), some (vR (M.2.1 38 0 x1.toNat))] [vI (if r_14 = 0 then 0 else 1 : Int)] M_12 r M' := by
            exact r_iret dX11_letters_100 rfl (.inl rfl) h.1 h.2
          refine r_if_eq 95 99 dX11_letters_92 rfl rfl (fun c => ?_) (fun c => ?_)
          · have c_16 := c
            refine r_iconst 100 dX11_letters_99 rfl (InR_of rfl) ?_
            exact (Ex.at hJ_15 rfl (show [vI 0] = [vI (if r_14 = 0 then 0 else 1 : Int)] by simp only [if_pos c_16]) rfl)
          · have c_16 := c
            refine r_iconst 96 dX11_letters_95 rfl (InR_of rfl) ?_
            refine r_goto 100 dX11_letters_96 rfl ?_
            exact (Ex.at hJ_15 rfl (show [vI 1] = [vI (if r_14 = 0 then 0 else 1 : Int)] by simp only [if_neg c_16]) rfl)
        · have h := h.2.2.2.2.2.2 c
          refine r_tswIn 101 dX11_letters_29 5 c rfl rfl rfl ?_
          refine r_aload_n 102 dX11_letters_101 rfl rfl ?_
          obtain ⟨k_17, e_18, h⟩ := h
          refine g_I 105 dX11_letters_102 rfl e_18 rfl fi_11_253 rfl ?_
          exact r_iret dX11_letters_105 rfl (.inl rfl) h.1 h.2
    · have h := h.2 (c)
      refine r_bipush 17 dX11_letters_15 rfl rfl ?_
      exact r_iret dX11_letters_17 rfl (.inl rfl) h.1 h.2

set_option maxRecDepth 4000 in
theorem xX11_sure_0 {l : Launch} {G : Gt} {d : Nat} {M M' : Mem} {r : Option Vl} {x1 : Int} {x2 : Int} {x3 : Int} {x4 : Int} {x5 : Int} {x6 : Int} (h : 
    ∃ (o_3 : Option Nm) (M_1 : Mem), Cl l G d mX11_coverOf [vR (some (2, 0)), vI x2] M (some (vR o_3)) M_1 ∧ ((o_3 = none → r = some (vI (-1)) ∧ M' = M_1) ∧ (¬ (o_3 = none) → ∃ (r_6 : Int) (M_4 : Mem), Cl l G d mX11_areTwo [vR (some (2, 0)), vI x1, vI x3] M_1 (some (vI r_6)) M_4 ∧ ((r_6 = 0 → r = some (vI (-1)) ∧ M' = M_4) ∧ (¬ (r_6 = 0) → ∃ (r_9 : Int) (M_7 : Mem), Cl l G d mX11_isPlace [vI x4] M_4 (some (vI r_9)) M_7 ∧ ((r_9 = 0 → r = some (vI (-1)) ∧ M' = M_7) ∧ (¬ (r_9 = 0) → ∃ (r_12 : Int) (M_10 : Mem), Cl l G d mX11_isDay [vI x5] M_7 (some (vI r_12)) M_10 ∧ Sh M_10.2.1 ∧ ((¬ r_12 = 0 → (x6 < 0 → r = some (vI (-1)) ∧ M' = M_10) ∧ (¬ (x6 < 0) → (x6 ≤ 1 → ∃ (M_13 : Mem), Cl l G d mX5_begin [vR (some (5, 8)), vR o_3, vI x1, vI x3, vI x4, vI x5] M_10 none M_13 ∧ Sh M_13.2.1 ∧ (∃ (M_15 : Mem), Cl l G d mX9_spread [vR (some (10, 0)), vR (some (5, 8)), vR (some (9, 0)), vR (some (34, 0))] M_13 none M_15 ∧ Sh M_15.2.1 ∧ (∃ (M_17 : Mem), Cl l G d mX9_judge [vR (some (10, 0)), vI x3, vR (some (34, 0))] M_15 none M_17 ∧ Sh M_17.2.1 ∧ ((¬ x6 = 0 → ∃ (r_21 : Int) (M_19 : Mem), Cl l G d mX9_soonFrom [vR (some (10, 0)), vI x4] M_17 (some (vI r_21)) M_19 ∧ r = some (vI r_21) ∧ M' = M_19) ∧ (¬ (¬ x6 = 0) → ∃ (r_24 : Int) (M_22 : Mem), Cl l G d mX9_sureFrom [vR (some (10, 0)), vI x4] M_17 (some (vI r_24)) M_22 ∧ r = some (vI r_24) ∧ M' = M_22))))) ∧ (¬ (x6 ≤ 1) → r = some (vI (-1)) ∧ M' = M_10))) ∧ (¬ (¬ r_12 = 0) → r = some (vI (-1)) ∧ M' = M_10))))))))) : Cl l G (d + 1) mX11_sure [vR (some (2, 0)), vI x1, vI x2, vI x3, vI x4, vI x5, vI x6] M r M' := by
  show Ex l G (d + 1) mX11_sure 0 [some (vR (some (2, 0))), some (vI x1), some (vI x2), some (vI x3), some (vI x4), some (vI x5), some (vI x6), none] [] M r M'
  refine r_aload_n 1 dX11_sure_0 rfl rfl ?_
  refine r_iload_n 2 dX11_sure_1 rfl rfl ?_
  obtain ⟨o_3, M_1, hc_2, h⟩ := h
  refine v_1 (ci := 11) (C := (RX11, TX11, 14)) [vI x2] [] 5 dX11_sure_2 rfl rfl rfl rfl rfl mo_X11_coverOf ml_11_181 rfl rfl hc_2 ?_
  refine r_astore (ls' := [some (vR (some (2, 0))), some (vI x1), some (vI x2), some (vI x3), some (vI x4), some (vI x5), some (vI x6), some (vR o_3)]) 7 dX11_sure_5 rfl rfl rfl rfl ?_
  refine r_aload 9 dX11_sure_7 rfl rfl ?_
  refine r_ifnull 12 37 dX11_sure_9 rfl rfl (fun c => ?_) (fun c => ?_)
  · have h := h.1 (c)
    refine r_iconst 38 dX11_sure_37 rfl (InR_of rfl) ?_
    exact r_iret dX11_sure_38 rfl (.inl rfl) h.1 h.2
  · have h := h.2 (c)
    refine r_aload_n 13 dX11_sure_12 rfl rfl ?_
    refine r_iload_n 14 dX11_sure_13 rfl rfl ?_
    refine r_iload_n 15 dX11_sure_14 rfl rfl ?_
    obtain ⟨r_6, M_4, hc_5, h⟩ := h
    refine v_1 (ci := 11) (C := (RX11, TX11, 14)) [vI x1, vI x3] [] 18 dX11_sure_15 rfl rfl rfl rfl rfl mo_X11_areTwo ml_11_124 rfl rfl hc_5 ?_
    refine r_if_eq 21 37 dX11_sure_18 rfl rfl (fun c => ?_) (fun c => ?_)
    · have h := h.1 (c)
      refine r_iconst 38 dX11_sure_37 rfl (InR_of rfl) ?_
      exact r_iret dX11_sure_38 rfl (.inl rfl) h.1 h.2
    · have h := h.2 (c)
      refine r_iload 23 dX11_sure_21 rfl rfl ?_
      obtain ⟨r_9, M_7, hc_8, h⟩ := h
      refine c_1 [vI x4] [] 26 dX11_sure_23 rfl rfl mo_X11_isPlace ml_11_90 rfl rfl hc_8 ?_
      refine r_if_eq 29 37 dX11_sure_26 rfl rfl (fun c => ?_) (fun c => ?_)
      · have h := h.1 (c)
        refine r_iconst 38 dX11_sure_37 rfl (InR_of rfl) ?_
        exact r_iret dX11_sure_38 rfl (.inl rfl) h.1 h.2
      · have h := h.2 (c)
        refine r_iload 31 dX11_sure_29 rfl rfl ?_
        obtain ⟨r_12, M_10, hc_11, hS, h⟩ := h
        refine c_1 [vI x5] [] 34 dX11_sure_31 rfl rfl mo_X11_isDay ml_11_118 rfl rfl hc_11 ?_
        refine r_if_ne 37 39 dX11_sure_34 rfl rfl (fun c => ?_) (fun c => ?_)
        · have h := h.1 (c)
          refine r_iload 41 dX11_sure_39 rfl rfl ?_
          refine r_if_lt 44 50 dX11_sure_41 rfl rfl (fun c => ?_) (fun c => ?_)
          · have h := h.1 (c)
            refine r_iconst 51 dX11_sure_50 rfl (InR_of rfl) ?_
            exact r_iret dX11_sure_51 rfl (.inl rfl) h.1 h.2
          · have h := h.2 (c)
            refine r_iload 46 dX11_sure_44 rfl rfl ?_
            refine r_iconst 47 dX11_sure_46 rfl (InR_of rfl) ?_
            refine r_icmp_le 50 52 dX11_sure_47 rfl rfl (fun c => ?_) (fun c => ?_)
            · have h := h.1 (c)
              refine r_aload_n 53 dX11_sure_52 rfl rfl ?_
              refine g_R 56 dX11_sure_53 rfl rfl rfl fr_11_72 (sh_11_8 hS) ?_
              refine r_aload 58 dX11_sure_56 rfl rfl ?_
              refine r_iload_n 59 dX11_sure_58 rfl rfl ?_
              refine r_iload_n 60 dX11_sure_59 rfl rfl ?_
              refine r_iload 62 dX11_sure_60 rfl rfl ?_
              refine r_iload 64 dX11_sure_62 rfl rfl ?_
              obtain ⟨M_13, hc_14, hS, h⟩ := h
              refine v_0 (ci := 5) (C := (RX5, TX5, 12)) [vR o_3, vI x1, vI x3, vI x4, vI x5] [] 67 dX11_sure_64 rfl rfl rfl rfl rfl mo_X5_begin ml_11_228 rfl rfl hc_14 ?_
              refine r_aload_n 68 dX11_sure_67 rfl rfl ?_
              refine g_R 71 dX11_sure_68 rfl rfl rfl fr_11_51 (sh_11_5 hS) ?_
              refine r_aload_n 72 dX11_sure_71 rfl rfl ?_
              refine g_R 75 dX11_sure_72 rfl rfl rfl fr_11_72 (sh_11_8 hS) ?_
              refine r_aload_n 76 dX11_sure_75 rfl rfl ?_
              refine g_R 79 dX11_sure_76 rfl rfl rfl fr_11_44 (sh_11_4 hS) ?_
              refine r_aload_n 80 dX11_sure_79 rfl rfl ?_
              refine g_R 83 dX11_sure_80 rfl rfl rfl fr_11_12 (sh_11_0 hS) ?_
              refine g_R 86 dX11_sure_83 rfl rfl rfl fr_11_98 (sh_8_3 hS _) ?_
              obtain ⟨M_15, hc_16, hS, h⟩ := h
              refine v_0 (ci := 9) (C := (RX9, TX9, 5)) [vR (some (5, 8)), vR (some (9, 0)), vR (some (34, 0))] [] 89 dX11_sure_86 rfl rfl rfl rfl rfl mo_X9_spread ml_11_256 rfl rfl hc_16 ?_
              refine r_aload_n 90 dX11_sure_89 rfl rfl ?_
              refine g_R 93 dX11_sure_90 rfl rfl rfl fr_11_51 (sh_11_5 hS) ?_
              refine r_iload_n 94 dX11_sure_93 rfl rfl ?_
              refine r_aload_n 95 dX11_sure_94 rfl rfl ?_
              refine g_R 98 dX11_sure_95 rfl rfl rfl fr_11_12 (sh_11_0 hS) ?_
              refine g_R 101 dX11_sure_98 rfl rfl rfl fr_11_98 (sh_8_3 hS _) ?_
              obtain ⟨M_17, hc_18, hS, h⟩ := h
              refine v_0 (ci := 9) (C := (RX9, TX9, 5)) [vI x3, vR (some (34, 0))] [] 104 dX11_sure_101 rfl rfl rfl rfl rfl mo_X9_judge ml_11_260 rfl rfl hc_18 ?_
              refine r_iload 106 dX11_sure_104 rfl rfl ?_
              refine r_if_ne 109 121 dX11_sure_106 rfl rfl (fun c => ?_) (fun c => ?_)
              · have h := h.1 (c)
                refine r_aload_n 122 dX11_sure_121 rfl rfl ?_
                refine g_R 125 dX11_sure_122 rfl rfl rfl fr_11_51 (sh_11_5 hS) ?_
                refine r_iload 127 dX11_sure_125 rfl rfl ?_
                obtain ⟨r_21, M_19, hc_20, h⟩ := h
                refine v_1 (ci := 9) (C := (RX9, TX9, 5)) [vI x4] [] 130 dX11_sure_127 rfl rfl rfl rfl rfl mo_X9_soonFrom ml_11_267 rfl rfl hc_20 ?_
                exact r_iret dX11_sure_130 rfl (.inl rfl) h.1 h.2
              · have h := h.2 (c)
                refine r_aload_n 110 dX11_sure_109 rfl rfl ?_
                refine g_R 113 dX11_sure_110 rfl rfl rfl fr_11_51 (sh_11_5 hS) ?_
                refine r_iload 115 dX11_sure_113 rfl rfl ?_
                obtain ⟨r_24, M_22, hc_23, h⟩ := h
                refine v_1 (ci := 9) (C := (RX9, TX9, 5)) [vI x4] [] 118 dX11_sure_115 rfl rfl rfl rfl rfl mo_X9_sureFrom ml_11_264 rfl rfl hc_23 ?_
                refine r_goto 130 dX11_sure_118 rfl ?_
                exact r_iret dX11_sure_130 rfl (.inl rfl) h.1 h.2
            · have h := h.2 (c)
              refine r_iconst 51 dX11_sure_50 rfl (InR_of rfl) ?_
              exact r_iret dX11_sure_51 rfl (.inl rfl) h.1 h.2
        · have h := h.2 (c)
          refine r_iconst 38 dX11_sure_37 rfl (InR_of rfl) ?_
          exact r_iret dX11_sure_38 rfl (.inl rfl) h.1 h.2

set_option maxRecDepth 4000 in
theorem xX11_rings_0 {l : Launch} {G : Gt} {d : Nat} {M M' : Mem} {r : Option Vl} {x1 : Int} {x2 : Int} {x3 : Int} {x4 : Int} (h : 
    ∃ (o_3 : Option Nm) (M_1 : Mem), Cl l G d mX11_coverOf [vR (some (2, 0)), vI x1] M (some (vR o_3)) M_1 ∧ ((o_3 = none → r = some (vI (-1)) ∧ M' = M_1) ∧ (¬ (o_3 = none) → ∃ (r_6 : Int) (M_4 : Mem), Cl l G d mX11_isPerson [vR (some (2, 0)), vI x2] M_1 (some (vI r_6)) M_4 ∧ ((r_6 = 0 → r = some (vI (-1)) ∧ M' = M_4) ∧ (¬ (r_6 = 0) → ∃ (r_9 : Int) (M_7 : Mem), Cl l G d mX11_isDay [vI x3] M_4 (some (vI r_9)) M_7 ∧ ((r_9 = 0 → r = some (vI (-1)) ∧ M' = M_7) ∧ (¬ (r_9 = 0) → (x4 < 0 → r = some (vI (-1)) ∧ M' = M_7) ∧ (¬ (x4 < 0) → (x4 ≤ 1 → (∀ M_10 : Mem, newM M_7 18 8 8 = M_10 → Ex l G (d + 1) mX11_rings 49 [some (vR (some (2, 0))), some (vI x1), some (vI x2), some (vI x3), some (vI x4), some (vR o_3), some (vR (some (18, cCnt M_7.2.2 18))), some (vI 0), none, none, none] [] M_10 r M')) ∧ (¬ (x4 ≤ 1) → r = some (vI (-1)) ∧ M' = M_7))))))))) : Cl l G (d + 1) mX11_rings [vR (some (2, 0)), vI x1, vI x2, vI x3, vI x4] M r M' := by
  show Ex l G (d + 1) mX11_rings 0 [some (vR (some (2, 0))), some (vI x1), some (vI x2), some (vI x3), some (vI x4), none, none, none, none, none, none] [] M r M'
  refine r_aload_n 1 dX11_rings_0 rfl rfl ?_
  refine r_iload_n 2 dX11_rings_1 rfl rfl ?_
  obtain ⟨o_3, M_1, hc_2, h⟩ := h
  refine v_1 (ci := 11) (C := (RX11, TX11, 14)) [vI x1] [] 5 dX11_rings_2 rfl rfl rfl rfl rfl mo_X11_coverOf ml_11_181 rfl rfl hc_2 ?_
  refine r_astore (ls' := [some (vR (some (2, 0))), some (vI x1), some (vI x2), some (vI x3), some (vI x4), some (vR o_3), none, none, none, none, none]) 7 dX11_rings_5 rfl rfl rfl rfl ?_
  refine r_aload 9 dX11_rings_7 rfl rfl ?_
  refine r_ifnull 12 38 dX11_rings_9 rfl rfl (fun c => ?_) (fun c => ?_)
  · have h := h.1 (c)
    refine r_iconst 39 dX11_rings_38 rfl (InR_of rfl) ?_
    exact r_iret dX11_rings_39 rfl (.inl rfl) h.1 h.2
  · have h := h.2 (c)
    refine r_aload_n 13 dX11_rings_12 rfl rfl ?_
    refine r_iload_n 14 dX11_rings_13 rfl rfl ?_
    obtain ⟨r_6, M_4, hc_5, h⟩ := h
    refine v_1 (ci := 11) (C := (RX11, TX11, 14)) [vI x2] [] 17 dX11_rings_14 rfl rfl rfl rfl rfl mo_X11_isPerson ml_11_121 rfl rfl hc_5 ?_
    refine r_if_eq 20 38 dX11_rings_17 rfl rfl (fun c => ?_) (fun c => ?_)
    · have h := h.1 (c)
      refine r_iconst 39 dX11_rings_38 rfl (InR_of rfl) ?_
      exact r_iret dX11_rings_39 rfl (.inl rfl) h.1 h.2
    · have h := h.2 (c)
      refine r_iload_n 21 dX11_rings_20 rfl rfl ?_
      obtain ⟨r_9, M_7, hc_8, h⟩ := h
      refine c_1 [vI x3] [] 24 dX11_rings_21 rfl rfl mo_X11_isDay ml_11_118 rfl rfl hc_8 ?_
      refine r_if_eq 27 38 dX11_rings_24 rfl rfl (fun c => ?_) (fun c => ?_)
      · have h := h.1 (c)
        refine r_iconst 39 dX11_rings_38 rfl (InR_of rfl) ?_
        exact r_iret dX11_rings_39 rfl (.inl rfl) h.1 h.2
      · have h := h.2 (c)
        refine r_iload 29 dX11_rings_27 rfl rfl ?_
        refine r_if_lt 32 38 dX11_rings_29 rfl rfl (fun c => ?_) (fun c => ?_)
        · have h := h.1 (c)
          refine r_iconst 39 dX11_rings_38 rfl (InR_of rfl) ?_
          exact r_iret dX11_rings_39 rfl (.inl rfl) h.1 h.2
        · have h := h.2 (c)
          refine r_iload 34 dX11_rings_32 rfl rfl ?_
          refine r_iconst 35 dX11_rings_34 rfl (InR_of rfl) ?_
          refine r_icmp_le 38 40 dX11_rings_35 rfl rfl (fun c => ?_) (fun c => ?_)
          · have h := h.1 (c)
            refine r_bipush 42 dX11_rings_40 rfl rfl ?_
            refine r_newa (f := 18) (k := 1) (n := 8) 44 dX11_rings_42 rfl rfl rfl (by decide) (inT1 (List.mem_of_getElem? (i := 104) rfl) rfl) rfl (by decide) (.inl rfl) ?_
            generalize hM_10 : newM M_7 18 8 8 = M_10
            have h := h M_10 hM_10
            refine r_astore (ls' := [some (vR (some (2, 0))), some (vI x1), some (vI x2), some (vI x3), some (vI x4), some (vR o_3), some (vR (some (18, cCnt M_7.2.2 18))), none, none, none, none]) 46 dX11_rings_44 rfl rfl rfl rfl ?_
            refine r_iconst 47 dX11_rings_46 rfl (InR_of rfl) ?_
            refine r_istore (ls' := [some (vR (some (2, 0))), some (vI x1), some (vI x2), some (vI x3), some (vI x4), some (vR o_3), some (vR (some (18, cCnt M_7.2.2 18))), some (vI 0), none, none, none]) 49 dX11_rings_47 rfl rfl rfl rfl ?_
            exact h
          · have h := h.2 (c)
            refine r_iconst 39 dX11_rings_38 rfl (InR_of rfl) ?_
            exact r_iret dX11_rings_39 rfl (.inl rfl) h.1 h.2
set_option maxRecDepth 4000 in
theorem xX11_rings_49 {l : Launch} {G : Gt} {d : Nat} {M M' : Mem} {r : Option Vl} {x1 : Int} {x2 : Int} {x3 : Int} {x4 : Int} {o5 : Option Nm} {k6 : Nat} {x7 : Int} (hS : Sh M.2.1) (h : 
    (8 ≤ x7 → Ex l G (d + 1) mX11_rings 112 [some (vR (some (2, 0))), some (vI x1), some (vI x2), some (vI x3), some (vI x4), some (vR o5), some (vR (some (18, k6))), some (vI 0), some (vI 0), some (vI 0), none] [] M r M') ∧ (¬ (8 ≤ x7) → ∃ k_1 : Nat, o5 = some (13, k_1) ∧ (∃ (M_3 : Mem), Cl l G d mX0_ask [vR (some (9, 0)), vR (some (13, k_1)), vI x2, vI x3, vI x3, vI x7] M none M_3 ∧ Sh M_3.2.1 ∧ ((0 ≤ x7 ∧ x7 < 8) ∧ InR (x7 + 1)) ∧ Ex l G (d + 1) mX11_rings 49 [some (vR (some (2, 0))), some (vI x1), some (vI x2), some (vI x3), some (vI x4), some (vR (some (13, k_1))), some (vR (some (18, k6))), some (vI (x7 + 1)), none, none, none] [] ((upI M_3.1 18 k6 x7.toNat (if ¬ (M_3.1 9 0 4) = 1 then (-1) else (M_3.1 9 0 5) : Int)), M_3.2.1, M_3.2.2) r M'))) : Ex l G (d + 1) mX11_rings 49 [some (vR (some (2, 0))), some (vI x1), some (vI x2), some (vI x3), some (vI x4), some (vR o5), some (vR (some (18, k6))), some (vI x7), none, none, none] [] M r M' := by
  refine r_iload 51 dX11_rings_49 rfl rfl ?_
  refine r_bipush 53 dX11_rings_51 rfl rfl ?_
  refine r_icmp_ge 56 103 dX11_rings_53 rfl rfl (fun c => ?_) (fun c => ?_)
  · have h := h.1 (c)
    refine r_iconst 104 dX11_rings_103 rfl (InR_of rfl) ?_
    refine r_istore (ls' := [some (vR (some (2, 0))), some (vI x1), some (vI x2), some (vI x3), some (vI x4), some (vR o5), some (vR (some (18, k6))), some (vI 0), none, none, none]) 106 dX11_rings_104 rfl rfl rfl rfl ?_
    refine r_iconst 107 dX11_rings_106 rfl (InR_of rfl) ?_
    refine r_istore (ls' := [some (vR (some (2, 0))), some (vI x1), some (vI x2), some (vI x3), some (vI x4), some (vR o5), some (vR (some (18, k6))), some (vI 0), some (vI 0), none, none]) 109 dX11_rings_107 rfl rfl rfl rfl ?_
    refine r_iconst 110 dX11_rings_109 rfl (InR_of rfl) ?_
    refine r_istore (ls' := [some (vR (some (2, 0))), some (vI x1), some (vI x2), some (vI x3), some (vI x4), some (vR o5), some (vR (some (18, k6))), some (vI 0), some (vI 0), some (vI 0), none]) 112 dX11_rings_110 rfl rfl rfl rfl ?_
    exact h
  · have h := h.2 (c)
    refine r_aload_n 57 dX11_rings_56 rfl rfl ?_
    refine g_R 60 dX11_rings_57 rfl rfl rfl fr_11_44 (sh_11_4 hS) ?_
    refine r_aload 62 dX11_rings_60 rfl rfl ?_
    refine r_iload_n 63 dX11_rings_62 rfl rfl ?_
    refine r_iload_n 64 dX11_rings_63 rfl rfl ?_
    refine r_iload_n 65 dX11_rings_64 rfl rfl ?_
    refine r_iload 67 dX11_rings_65 rfl rfl ?_
    obtain ⟨k_1, e_2, h⟩ := h
    refine Ex.at (st2 := [vI x7, vI x3, vI x3, vI x2, vR (some (13, k_1)), vR (some (9, 0))]) ?_ rfl (show [vI x7, vI x3, vI x3, vI x2, vR o5, vR (some (9, 0))] = [vI x7, vI x3, vI x3, vI x2, vR (some (13, k_1)), vR (some (9, 0))] by rw [e_2]) rfl
    obtain ⟨M_3, hc_4, hS, h⟩ := h
    refine v_0 (ci := 0) (C := (RX0, TX0, 13)) [vR (some (13, k_1)), vI x2, vI x3, vI x3, vI x7] [] 70 dX11_rings_67 rfl rfl rfl rfl rfl mo_X0_ask ml_11_205 rfl rfl hc_4 ?_
    refine r_aload 72 dX11_rings_70 rfl rfl ?_
    refine r_iload 74 dX11_rings_72 rfl rfl ?_
    refine r_aload_n 75 dX11_rings_74 rfl rfl ?_
    refine g_R 78 dX11_rings_75 rfl rfl rfl fr_11_44 (sh_11_4 hS) ?_
    refine g_I 81 dX11_rings_78 rfl rfl rfl fi_11_209 rfl ?_
    refine r_iconst 82 dX11_rings_81 rfl (InR_of rfl) ?_
    have hJ_5 : Ex l G (d + 1) mX11_rings 96 [some (vR (some (2, 0))), some (vI x1), some (vI x2), some (vI x3), some (vI x4), some (vR o5), some (vR (some (18, k6))), some (vI x7), none, none, none] [vI (if ¬ (M_3.1 9 0 4) = 1 then (-1) else (M_3.1 9 0 5) : Int), vI x7, vR (some (18, k6))] M_3 r M' := by
      obtain ⟨⟨o_7, o_8⟩, h⟩ := h
      refine s_I 8 97 dX11_rings_96 rfl rfl (by decide) rfl rfl o_7 ?_
      refine r_iinc (ls' := [some (vR (some (2, 0))), some (vI x1), some (vI x2), some (vI x3), some (vI x4), some (vR o5), some (vR (some (18, k6))), some (vI (x7 + 1)), none, none, none]) 100 dX11_rings_97 rfl rfl rfl rfl o_8 rfl ?_
      refine r_goto 49 dX11_rings_100 rfl ?_
      exact (Ex.at h (show [some (vR (some (2, 0))), some (vI x1), some (vI x2), some (vI x3), some (vI x4), some (vR o5), some (vR (some (18, k6))), some (vI (x7 + 1)), none, none, none] = [some (vR (some (2, 0))), some (vI x1), some (vI x2), some (vI x3), some (vI x4), some (vR (some (13, k_1))), some (vR (some (18, k6))), some (vI (x7 + 1)), none, none, none] by rw [e_2]) rfl rfl)
    refine r_icmp_ne 85 95 dX11_rings_82 rfl rfl (fun c => ?_) (fun c => ?_)
    · have c_6 := c
      refine r_iconst 96 dX11_rings_95 rfl (InR_of rfl) ?_
      exact (Ex.at hJ_5 rfl (show [vI (-1), vI x7, vR (some (18, k6))] = [vI (if ¬ (M_3.1 9 0 4) = 1 then (-1) else (M_3.1 9 0 5) : Int), vI x7, vR (some (18, k6))] by simp only [if_pos c_6]) rfl)
    · have c_6 := c
      refine r_aload_n 86 dX11_rings_85 rfl rfl ?_
      refine g_R 89 dX11_rings_86 rfl rfl rfl fr_11_44 (sh_11_4 hS) ?_
      refine g_I 92 dX11_rings_89 rfl rfl rfl fi_11_212 rfl ?_
      refine r_goto 96 dX11_rings_92 rfl ?_
      exact (Ex.at hJ_5 rfl (show [vI (M_3.1 9 0 5), vI x7, vR (some (18, k6))] = [vI (if ¬ (M_3.1 9 0 4) = 1 then (-1) else (M_3.1 9 0 5) : Int), vI x7, vR (some (18, k6))] by simp only [if_neg c_6]) rfl)
set_option maxRecDepth 4000 in
theorem xX11_rings_112 {l : Launch} {G : Gt} {d : Nat} {M M' : Mem} {r : Option Vl} {x1 : Int} {x2 : Int} {x3 : Int} {x4 : Int} {o5 : Option Nm} {k6 : Nat} {x7 : Int} {x8 : Int} {x9 : Int} (h : 
    (8 ≤ x9 → r = some (vI (if ¬ x4 = 0 then x8 else x7 : Int)) ∧ M' = M) ∧ (¬ (8 ≤ x9) → ∃ (r_5 : Int) (M_3 : Mem), Cl l G d mX11_daysOfRound [vR (some (2, 0)), vR (some (18, k6)), vI x9] M (some (vI r_5)) M_3 ∧ (((¬ (r_5 ≤ 0) → ((0 ≤ x9 ∧ x9 < 32)))) ∧ (InR (x9 + 1)) ∧ Ex l G (d + 1) mX11_rings 112 [some (vR (some (2, 0))), some (vI x1), some (vI x2), some (vI x3), some (vI x4), some (vR o5), some (vR (some (18, k6))), some (vI (if r_5 ≤ 0 then x7 else (aOr x7 (aShl 1 x9)) : Int)), some (vI (if r_5 ≤ 0 then x8 else (if ¬ x8 = 0 then (if r_5 < x8 then r_5 else x8 : Int) else r_5 : Int) : Int)), some (vI (x9 + 1)), none] [] M_3 r M'))) : Ex l G (d + 1) mX11_rings 112 [some (vR (some (2, 0))), some (vI x1), some (vI x2), some (vI x3), some (vI x4), some (vR o5), some (vR (some (18, k6))), some (vI x7), some (vI x8), some (vI x9), none] [] M r M' := by
  refine r_iload 114 dX11_rings_112 rfl rfl ?_
  refine r_bipush 116 dX11_rings_114 rfl rfl ?_
  refine r_icmp_ge 119 168 dX11_rings_116 rfl rfl (fun c => ?_) (fun c => ?_)
  · have h := h.1 (c)
    refine r_iload 170 dX11_rings_168 rfl rfl ?_
    have hJ_1 : Ex l G (d + 1) mX11_rings 180 [some (vR (some (2, 0))), some (vI x1), some (vI x2), some (vI x3), some (vI x4), some (vR o5), some (vR (some (18, k6))), some (vI x7), some (vI x8), some (vI x9), none] [vI (if ¬ x4 = 0 then x8 else x7 : Int)] M r M' := by
      exact r_iret dX11_rings_180 rfl (.inl rfl) h.1 h.2
    refine r_if_ne 173 178 dX11_rings_170 rfl rfl (fun c => ?_) (fun c => ?_)
    · have c_2 := c
      refine r_iload 180 dX11_rings_178 rfl rfl ?_
      exact (Ex.at hJ_1 rfl (show [vI x8] = [vI (if ¬ x4 = 0 then x8 else x7 : Int)] by simp only [if_pos c_2]) rfl)
    · have c_2 := c
      refine r_iload 175 dX11_rings_173 rfl rfl ?_
      refine r_goto 180 dX11_rings_175 rfl ?_
      exact (Ex.at hJ_1 rfl (show [vI x7] = [vI (if ¬ x4 = 0 then x8 else x7 : Int)] by simp only [if_neg c_2]) rfl)
  · have h := h.2 (c)
    refine r_aload_n 120 dX11_rings_119 rfl rfl ?_
    refine r_aload 122 dX11_rings_120 rfl rfl ?_
    refine r_iload 124 dX11_rings_122 rfl rfl ?_
    obtain ⟨r_5, M_3, hc_4, h⟩ := h
    refine v_1 (ci := 11) (C := (RX11, TX11, 14)) [vR (some (18, k6)), vI x9] [] 127 dX11_rings_124 rfl rfl rfl rfl rfl mo_X11_daysOfRound ml_11_270 rfl rfl hc_4 ?_
    refine r_istore (ls' := [some (vR (some (2, 0))), some (vI x1), some (vI x2), some (vI x3), some (vI x4), some (vR o5), some (vR (some (18, k6))), some (vI x7), some (vI x8), some (vI x9), some (vI r_5)]) 129 dX11_rings_127 rfl rfl rfl rfl ?_
    refine r_iload 131 dX11_rings_129 rfl rfl ?_
    obtain ⟨h0, h⟩ := h
    have hJ_6 : Ex l G (d + 1) mX11_rings 162 [some (vR (some (2, 0))), some (vI x1), some (vI x2), some (vI x3), some (vI x4), some (vR o5), some (vR (some (18, k6))), some (vI (if r_5 ≤ 0 then x7 else (aOr x7 (aShl 1 x9)) : Int)), some (vI (if r_5 ≤ 0 then x8 else (if ¬ x8 = 0 then (if r_5 < x8 then r_5 else x8 : Int) else r_5 : Int) : Int)), some (vI x9), some (vI r_5)] [] M_3 r M' := by
      obtain ⟨o_10, h⟩ := h
      refine r_iinc (ls' := [some (vR (some (2, 0))), some (vI x1), some (vI x2), some (vI x3), some (vI x4), some (vR o5), some (vR (some (18, k6))), some (vI (if r_5 ≤ 0 then x7 else (aOr x7 (aShl 1 x9)) : Int)), some (vI (if r_5 ≤ 0 then x8 else (if ¬ x8 = 0 then (if r_5 < x8 then r_5 else x8 : Int) else r_5 : Int) : Int)), some (vI (x9 + 1)), some (vI r_5)]) 165 dX11_rings_162 rfl rfl rfl rfl o_10 rfl ?_
      refine r_goto 112 dX11_rings_165 rfl ?_
      exact Ex.weak h ⟨rfl, rfl, rfl, rfl, rfl, rfl, rfl, rfl, rfl, rfl, trivial⟩
    have h := h0
    refine r_if_le 134 162 dX11_rings_131 rfl rfl (fun c => ?_) (fun c => ?_)
    · have c_7 := c
      exact (Ex.at hJ_6 (show [some (vR (some (2, 0))), some (vI x1), some (vI x2), some (vI x3), some (vI x4), some (vR o5), some (vR (some (18, k6))), some (vI x7), some (vI x8), some (vI x9), some (vI r_5)] = [some (vR (some (2, 0))), some (vI x1), some (vI x2), some (vI x3), some (vI x4), some (vR o5), some (vR (some (18, k6))), some (vI (if r_5 ≤ 0 then x7 else (aOr x7 (aShl 1 x9)) : Int)), some (vI (if r_5 ≤ 0 then x8 else (if ¬ x8 = 0 then (if r_5 < x8 then r_5 else x8 : Int) else r_5 : Int) : Int)), some (vI x9), some (vI r_5)] by simp only [if_pos c_7]) rfl rfl)
    · have c_7 := c
      have h := h c_7
      have o_8 := h
      refine r_iload 136 dX11_rings_134 rfl rfl ?_
      refine r_iconst 137 dX11_rings_136 rfl (InR_of rfl) ?_
      refine r_iload 139 dX11_rings_137 rfl rfl ?_
      refine r_ishl 140 dX11_rings_139 rfl o_8 ?_
      refine r_ior 141 dX11_rings_140 rfl ?_
      refine r_istore (ls' := [some (vR (some (2, 0))), some (vI x1), some (vI x2), some (vI x3), some (vI x4), some (vR o5), some (vR (some (18, k6))), some (vI (aOr x7 (aShl 1 x9))), some (vI x8), some (vI x9), some (vI r_5)]) 143 dX11_rings_141 rfl rfl rfl rfl ?_
      refine r_iload 145 dX11_rings_143 rfl rfl ?_
      refine r_if_ne 148 153 dX11_rings_145 rfl rfl (fun c => ?_) (fun c => ?_)
      · have c_9 := c
        refine r_iload 155 dX11_rings_153 rfl rfl ?_
        refine r_iload 157 dX11_rings_155 rfl rfl ?_
        refine r_min 160 dX11_rings_157 rfl (inT4 (List.mem_of_getElem? (i := 60) rfl) rfl) rfl ?_
        refine r_istore (ls' := [some (vR (some (2, 0))), some (vI x1), some (vI x2), some (vI x3), some (vI x4), some (vR o5), some (vR (some (18, k6))), some (vI (aOr x7 (aShl 1 x9))), some (vI (if r_5 < x8 then r_5 else x8 : Int)), some (vI x9), some (vI r_5)]) 162 dX11_rings_160 rfl rfl rfl rfl ?_
        exact (Ex.at hJ_6 (show [some (vR (some (2, 0))), some (vI x1), some (vI x2), some (vI x3), some (vI x4), some (vR o5), some (vR (some (18, k6))), some (vI (aOr x7 (aShl 1 x9))), some (vI (if r_5 < x8 then r_5 else x8 : Int)), some (vI x9), some (vI r_5)] = [some (vR (some (2, 0))), some (vI x1), some (vI x2), some (vI x3), some (vI x4), some (vR o5), some (vR (some (18, k6))), some (vI (if r_5 ≤ 0 then x7 else (aOr x7 (aShl 1 x9)) : Int)), some (vI (if r_5 ≤ 0 then x8 else (if ¬ x8 = 0 then (if r_5 < x8 then r_5 else x8 : Int) else r_5 : Int) : Int)), some (vI x9), some (vI r_5)] by simp only [if_neg c_7, if_pos c_9]) rfl rfl)
      · have c_9 := c
        refine r_iload 150 dX11_rings_148 rfl rfl ?_
        refine r_goto 160 dX11_rings_150 rfl ?_
        refine r_istore (ls' := [some (vR (some (2, 0))), some (vI x1), some (vI x2), some (vI x3), some (vI x4), some (vR o5), some (vR (some (18, k6))), some (vI (aOr x7 (aShl 1 x9))), some (vI r_5), some (vI x9), some (vI r_5)]) 162 dX11_rings_160 rfl rfl rfl rfl ?_
        exact (Ex.at hJ_6 (show [some (vR (some (2, 0))), some (vI x1), some (vI x2), some (vI x3), some (vI x4), some (vR o5), some (vR (some (18, k6))), some (vI (aOr x7 (aShl 1 x9))), some (vI r_5), some (vI x9), some (vI r_5)] = [some (vR (some (2, 0))), some (vI x1), some (vI x2), some (vI x3), some (vI x4), some (vR o5), some (vR (some (18, k6))), some (vI (if r_5 ≤ 0 then x7 else (aOr x7 (aShl 1 x9)) : Int)), some (vI (if r_5 ≤ 0 then x8 else (if ¬ x8 = 0 then (if r_5 < x8 then r_5 else x8 : Int) else r_5 : Int) : Int)), some (vI x9), some (vI r_5)] by simp only [if_neg c_7, if_neg c_9]) rfl rfl)

set_option maxRecDepth 4000 in
theorem xX11_told_0 {l : Launch} {G : Gt} {d : Nat} {M M' : Mem} {r : Option Vl} {x1 : Int} (hS : Sh M.2.1) (h : 
    (¬ x1 = (-1) → ∃ (r_3 : Int) (M_1 : Mem), Cl l G d mX11_isPlace [vI x1] M (some (vI r_3)) M_1 ∧ Sh M_1.2.1 ∧ ((r_3 = 0 → r = some (vI (-2)) ∧ M' = M_1) ∧ (¬ (r_3 = 0) → ((M_1.1 4 0 11) < 20 → ((0 ≤ (M_1.1 4 0 11) ∧ (M_1.1 4 0 11) < 20) ∧ InR ((M_1.1 4 0 11) + 1)) ∧ r = some (vI ((M_1.1 4 0 11) + 1)) ∧ M' = ((upI (upI M_1.1 39 0 (M_1.1 4 0 11).toNat x1) 4 0 11 ((M_1.1 4 0 11) + 1)), M_1.2.1, M_1.2.2)) ∧ (¬ ((M_1.1 4 0 11) < 20) → r = some (vI (-2)) ∧ M' = M_1)))) ∧ (¬ (¬ x1 = (-1)) → r = some (vI 0) ∧ M' = ((upI M.1 4 0 11 0), M.2.1, M.2.2))) : Cl l G (d + 1) mX11_told [vR (some (2, 0)), vI x1] M r M' := by
  show Ex l G (d + 1) mX11_told 0 [some (vR (some (2, 0))), some (vI x1)] [] M r M'
  refine r_iload_n 1 dX11_told_0 rfl rfl ?_
  refine r_iconst 2 dX11_told_1 rfl (InR_of rfl) ?_
  refine r_icmp_ne 5 15 dX11_told_2 rfl rfl (fun c => ?_) (fun c => ?_)
  · have h := h.1 (c)
    refine r_iload_n 16 dX11_told_15 rfl rfl ?_
    obtain ⟨r_3, M_1, hc_2, hS, h⟩ := h
    refine c_1 [vI x1] [] 19 dX11_told_16 rfl rfl mo_X11_isPlace ml_11_90 rfl rfl hc_2 ?_
    refine r_if_eq 22 34 dX11_told_19 rfl rfl (fun c => ?_) (fun c => ?_)
    · have h := h.1 (c)
      refine r_bipush 36 dX11_told_34 rfl rfl ?_
      exact r_iret dX11_told_36 rfl (.inl rfl) h.1 h.2
    · have h := h.2 (c)
      refine r_aload_n 23 dX11_told_22 rfl rfl ?_
      refine g_R 26 dX11_told_23 rfl rfl rfl fr_11_12 (sh_11_0 hS) ?_
      refine g_I 29 dX11_told_26 rfl rfl rfl fi_11_273 rfl ?_
      refine r_bipush 31 dX11_told_29 rfl rfl ?_
      refine r_icmp_lt 34 37 dX11_told_31 rfl rfl (fun c => ?_) (fun c => ?_)
      · have h := h.1 (c)
        obtain ⟨⟨o_4, o_5⟩, h⟩ := h
        refine r_aload_n 38 dX11_told_37 rfl rfl ?_
        refine g_R 41 dX11_told_38 rfl rfl rfl fr_11_12 (sh_11_0 hS) ?_
        refine g_R 44 dX11_told_41 rfl rfl rfl fr_11_276 (sh_8_12 hS _) ?_
        refine r_aload_n 45 dX11_told_44 rfl rfl ?_
        refine g_R 48 dX11_told_45 rfl rfl rfl fr_11_12 (sh_11_0 hS) ?_
        refine g_I 51 dX11_told_48 rfl rfl rfl fi_11_273 rfl ?_
        refine r_iload_n 52 dX11_told_51 rfl rfl ?_
        refine s_I 20 53 dX11_told_52 rfl rfl (by decide) rfl rfl o_4 ?_
        refine r_aload_n 54 dX11_told_53 rfl rfl ?_
        refine g_R 57 dX11_told_54 rfl rfl rfl fr_11_12 (mR_0 (sh_11_0 hS)) ?_
        refine r_dup 58 dX11_told_57 rfl rfl ?_
        refine g_I 61 dX11_told_58 rfl rfl rfl fi_11_273 (mI_0 (upI_f rfl)) ?_
        refine r_iconst 62 dX11_told_61 rfl (InR_of rfl) ?_
        refine r_iadd 63 dX11_told_62 rfl o_5 ?_
        refine p_I 66 dX11_told_63 rfl rfl rfl rfl pf_11_273 (.inl rfl) rfl ?_
        refine r_aload_n 67 dX11_told_66 rfl rfl ?_
        refine g_R 70 dX11_told_67 rfl rfl rfl fr_11_12 (mR_0 (sh_11_0 hS)) ?_
        refine g_I 73 dX11_told_70 rfl rfl rfl fi_11_273 (mI_0 (upI_s)) ?_
        exact r_iret dX11_told_73 rfl (.inl rfl) h.1 h.2
      · have h := h.2 (c)
        refine r_bipush 36 dX11_told_34 rfl rfl ?_
        exact r_iret dX11_told_36 rfl (.inl rfl) h.1 h.2
  · have h := h.2 (c)
    refine r_aload_n 6 dX11_told_5 rfl rfl ?_
    refine g_R 9 dX11_told_6 rfl rfl rfl fr_11_12 (sh_11_0 hS) ?_
    refine r_iconst 10 dX11_told_9 rfl (InR_of rfl) ?_
    refine p_I 13 dX11_told_10 rfl rfl rfl rfl pf_11_273 (.inl rfl) rfl ?_
    refine r_iconst 14 dX11_told_13 rfl (InR_of rfl) ?_
    exact r_iret dX11_told_14 rfl (.inl rfl) h.1 h.2

set_option maxRecDepth 4000 in
theorem xX11_judged_0 {l : Launch} {G : Gt} {d : Nat} {M M' : Mem} {r : Option Vl} {x1 : Int} {x2 : Int} {x3 : Int} {x4 : Int} (h : 
    ∃ (o_3 : Option Nm) (M_1 : Mem), Cl l G d mX11_coverOf [vR (some (2, 0)), vI x1] M (some (vR o_3)) M_1 ∧ ((o_3 = none → r = some (vI (-1)) ∧ M' = M_1) ∧ (¬ (o_3 = none) → ∃ (r_6 : Int) (M_4 : Mem), Cl l G d mX11_isPerson [vR (some (2, 0)), vI x2] M_1 (some (vI r_6)) M_4 ∧ ((r_6 = 0 → r = some (vI (-1)) ∧ M' = M_4) ∧ (¬ (r_6 = 0) → ∃ (r_9 : Int) (M_7 : Mem), Cl l G d mX11_isPlace [vI x3] M_4 (some (vI r_9)) M_7 ∧ ((r_9 = 0 → r = some (vI (-1)) ∧ M' = M_7) ∧ (¬ (r_9 = 0) → ∃ (r_12 : Int) (M_10 : Mem), Cl l G d mX11_isDay [vI x4] M_7 (some (vI r_12)) M_10 ∧ Sh M_10.2.1 ∧ ((¬ r_12 = 0 → ∃ (M_13 : Mem), Cl l G d mX5_begin [vR (some (5, 8)), vR o_3, vI x2, vI (-1), vI x3, vI x4] M_10 none M_13 ∧ Ex l G (d + 1) mX11_judged 54 [some (vR (some (2, 0))), some (vI x1), some (vI x2), some (vI x3), some (vI x4), some (vR o_3), some (vI 0), none] [] M_13 r M') ∧ (¬ (¬ r_12 = 0) → r = some (vI (-1)) ∧ M' = M_10))))))))) : Cl l G (d + 1) mX11_judged [vR (some (2, 0)), vI x1, vI x2, vI x3, vI x4] M r M' := by
  show Ex l G (d + 1) mX11_judged 0 [some (vR (some (2, 0))), some (vI x1), some (vI x2), some (vI x3), some (vI x4), none, none, none] [] M r M'
  refine r_aload_n 1 dX11_judged_0 rfl rfl ?_
  refine r_iload_n 2 dX11_judged_1 rfl rfl ?_
  obtain ⟨o_3, M_1, hc_2, h⟩ := h
  refine v_1 (ci := 11) (C := (RX11, TX11, 14)) [vI x1] [] 5 dX11_judged_2 rfl rfl rfl rfl rfl mo_X11_coverOf ml_11_181 rfl rfl hc_2 ?_
  refine r_astore (ls' := [some (vR (some (2, 0))), some (vI x1), some (vI x2), some (vI x3), some (vI x4), some (vR o_3), none, none]) 7 dX11_judged_5 rfl rfl rfl rfl ?_
  refine r_aload 9 dX11_judged_7 rfl rfl ?_
  refine r_ifnull 12 35 dX11_judged_9 rfl rfl (fun c => ?_) (fun c => ?_)
  · have h := h.1 (c)
    refine r_iconst 36 dX11_judged_35 rfl (InR_of rfl) ?_
    exact r_iret dX11_judged_36 rfl (.inl rfl) h.1 h.2
  · have h := h.2 (c)
    refine r_aload_n 13 dX11_judged_12 rfl rfl ?_
    refine r_iload_n 14 dX11_judged_13 rfl rfl ?_
    obtain ⟨r_6, M_4, hc_5, h⟩ := h
    refine v_1 (ci := 11) (C := (RX11, TX11, 14)) [vI x2] [] 17 dX11_judged_14 rfl rfl rfl rfl rfl mo_X11_isPerson ml_11_121 rfl rfl hc_5 ?_
    refine r_if_eq 20 35 dX11_judged_17 rfl rfl (fun c => ?_) (fun c => ?_)
    · have h := h.1 (c)
      refine r_iconst 36 dX11_judged_35 rfl (InR_of rfl) ?_
      exact r_iret dX11_judged_36 rfl (.inl rfl) h.1 h.2
    · have h := h.2 (c)
      refine r_iload_n 21 dX11_judged_20 rfl rfl ?_
      obtain ⟨r_9, M_7, hc_8, h⟩ := h
      refine c_1 [vI x3] [] 24 dX11_judged_21 rfl rfl mo_X11_isPlace ml_11_90 rfl rfl hc_8 ?_
      refine r_if_eq 27 35 dX11_judged_24 rfl rfl (fun c => ?_) (fun c => ?_)
      · have h := h.1 (c)
        refine r_iconst 36 dX11_judged_35 rfl (InR_of rfl) ?_
        exact r_iret dX11_judged_36 rfl (.inl rfl) h.1 h.2
      · have h := h.2 (c)
        refine r_iload 29 dX11_judged_27 rfl rfl ?_
        obtain ⟨r_12, M_10, hc_11, hS, h⟩ := h
        refine c_1 [vI x4] [] 32 dX11_judged_29 rfl rfl mo_X11_isDay ml_11_118 rfl rfl hc_11 ?_
        refine r_if_ne 35 37 dX11_judged_32 rfl rfl (fun c => ?_) (fun c => ?_)
        · have h := h.1 (c)
          refine r_aload_n 38 dX11_judged_37 rfl rfl ?_
          refine g_R 41 dX11_judged_38 rfl rfl rfl fr_11_72 (sh_11_8 hS) ?_
          refine r_aload 43 dX11_judged_41 rfl rfl ?_
          refine r_iload_n 44 dX11_judged_43 rfl rfl ?_
          refine r_iconst 45 dX11_judged_44 rfl (InR_of rfl) ?_
          refine r_iload_n 46 dX11_judged_45 rfl rfl ?_
          refine r_iload 48 dX11_judged_46 rfl rfl ?_
          obtain ⟨M_13, hc_14, h⟩ := h
          refine v_0 (ci := 5) (C := (RX5, TX5, 12)) [vR o_3, vI x2, vI (-1), vI x3, vI x4] [] 51 dX11_judged_48 rfl rfl rfl rfl rfl mo_X5_begin ml_11_228 rfl rfl hc_14 ?_
          refine r_iconst 52 dX11_judged_51 rfl (InR_of rfl) ?_
          refine r_istore (ls' := [some (vR (some (2, 0))), some (vI x1), some (vI x2), some (vI x3), some (vI x4), some (vR o_3), some (vI 0), none]) 54 dX11_judged_52 rfl rfl rfl rfl ?_
          exact h
        · have h := h.2 (c)
          refine r_iconst 36 dX11_judged_35 rfl (InR_of rfl) ?_
          exact r_iret dX11_judged_36 rfl (.inl rfl) h.1 h.2
set_option maxRecDepth 4000 in
theorem xX11_judged_54 {l : Launch} {G : Gt} {d : Nat} {M M' : Mem} {r : Option Vl} {x1 : Int} {x2 : Int} {x3 : Int} {x4 : Int} {o5 : Option Nm} {x6 : Int} (hS : Sh M.2.1) (h : 
    ((M.1 4 0 11) ≤ x6 → r = some (vI (-2)) ∧ M' = M) ∧ (¬ ((M.1 4 0 11) ≤ x6) → ∃ (r_3 : Int) (M_1 : Mem), Cl l G d mX0_askOn [vR (some (9, 0)), vR (some (5, 8))] M (some (vI r_3)) M_1 ∧ Sh M_1.2.1 ∧ (((0 ≤ x6 ∧ x6 < 20)) ∧ ((¬ r_3 = (M_1.1 39 0 x6.toNat) → r = some (vI x6) ∧ M' = M_1) ∧ (¬ (¬ r_3 = (M_1.1 39 0 x6.toNat)) → ∃ (r_7 : Int) (M_5 : Mem), Cl l G d mX0_comesInTime [vR (some (9, 0)), vR (some (5, 8)), vI r_3] M_1 (some (vI r_7)) M_5 ∧ Sh M_5.2.1 ∧ ((¬ r_7 = 0 → ∃ (M_8 : Mem), Cl l G d mX0_goTo [vR (some (9, 0)), vR (some (5, 8)), vI r_3] M_5 none M_8 ∧ (InR (x6 + 1)) ∧ Ex l G (d + 1) mX11_judged 54 [some (vR (some (2, 0))), some (vI x1), some (vI x2), some (vI x3), some (vI x4), some (vR o5), some (vI (x6 + 1)), none] [] M_8 r M') ∧ (¬ (¬ r_7 = 0) → r = some (vI x6) ∧ M' = M_5))))))) : Ex l G (d + 1) mX11_judged 54 [some (vR (some (2, 0))), some (vI x1), some (vI x2), some (vI x3), some (vI x4), some (vR o5), some (vI x6), none] [] M r M' := by
  refine r_iload 56 dX11_judged_54 rfl rfl ?_
  refine r_aload_n 57 dX11_judged_56 rfl rfl ?_
  refine g_R 60 dX11_judged_57 rfl rfl rfl fr_11_12 (sh_11_0 hS) ?_
  refine g_I 63 dX11_judged_60 rfl rfl rfl fi_11_273 rfl ?_
  refine r_icmp_ge 66 132 dX11_judged_63 rfl rfl (fun c => ?_) (fun c => ?_)
  · have h := h.1 (c)
    refine r_bipush 134 dX11_judged_132 rfl rfl ?_
    exact r_iret dX11_judged_134 rfl (.inl rfl) h.1 h.2
  · have h := h.2 (c)
    refine r_aload_n 67 dX11_judged_66 rfl rfl ?_
    refine g_R 70 dX11_judged_67 rfl rfl rfl fr_11_44 (sh_11_4 hS) ?_
    refine r_aload_n 71 dX11_judged_70 rfl rfl ?_
    refine g_R 74 dX11_judged_71 rfl rfl rfl fr_11_72 (sh_11_8 hS) ?_
    obtain ⟨r_3, M_1, hc_2, hS, h⟩ := h
    refine v_1 (ci := 0) (C := (RX0, TX0, 13)) [vR (some (5, 8))] [] 77 dX11_judged_74 rfl rfl rfl rfl rfl mo_X0_askOn ml_11_279 rfl rfl hc_2 ?_
    obtain ⟨o_4, h⟩ := h
    refine r_istore (ls' := [some (vR (some (2, 0))), some (vI x1), some (vI x2), some (vI x3), some (vI x4), some (vR o5), some (vI x6), some (vI r_3)]) 79 dX11_judged_77 rfl rfl rfl rfl ?_
    refine r_iload 81 dX11_judged_79 rfl rfl ?_
    refine r_aload_n 82 dX11_judged_81 rfl rfl ?_
    refine g_R 85 dX11_judged_82 rfl rfl rfl fr_11_12 (sh_11_0 hS) ?_
    refine g_R 88 dX11_judged_85 rfl rfl rfl fr_11_276 (sh_8_12 hS _) ?_
    refine r_iload 90 dX11_judged_88 rfl rfl ?_
    refine a_I 20 91 dX11_judged_90 rfl rfl rfl rfl o_4 rfl ?_
    refine r_icmp_ne 94 110 dX11_judged_91 rfl rfl (fun c => ?_) (fun c => ?_)
    · have h := h.1 (c)
      refine r_iload 112 dX11_judged_110 rfl rfl ?_
      exact r_iret dX11_judged_112 rfl (.inl rfl) h.1 h.2
    · have h := h.2 (c)
      refine r_aload_n 95 dX11_judged_94 rfl rfl ?_
      refine g_R 98 dX11_judged_95 rfl rfl rfl fr_11_44 (sh_11_4 hS) ?_
      refine r_aload_n 99 dX11_judged_98 rfl rfl ?_
      refine g_R 102 dX11_judged_99 rfl rfl rfl fr_11_72 (sh_11_8 hS) ?_
      refine r_iload 104 dX11_judged_102 rfl rfl ?_
      obtain ⟨r_7, M_5, hc_6, hS, h⟩ := h
      refine v_1 (ci := 0) (C := (RX0, TX0, 13)) [vR (some (5, 8)), vI r_3] [] 107 dX11_judged_104 rfl rfl rfl rfl rfl mo_X0_comesInTime ml_11_283 rfl rfl hc_6 ?_
      refine r_if_ne 110 113 dX11_judged_107 rfl rfl (fun c => ?_) (fun c => ?_)
      · have h := h.1 (c)
        refine r_aload_n 114 dX11_judged_113 rfl rfl ?_
        refine g_R 117 dX11_judged_114 rfl rfl rfl fr_11_44 (sh_11_4 hS) ?_
        refine r_aload_n 118 dX11_judged_117 rfl rfl ?_
        refine g_R 121 dX11_judged_118 rfl rfl rfl fr_11_72 (sh_11_8 hS) ?_
        refine r_iload 123 dX11_judged_121 rfl rfl ?_
        obtain ⟨M_8, hc_9, h⟩ := h
        refine v_0 (ci := 0) (C := (RX0, TX0, 13)) [vR (some (5, 8)), vI r_3] [] 126 dX11_judged_123 rfl rfl rfl rfl rfl mo_X0_goTo ml_11_287 rfl rfl hc_9 ?_
        obtain ⟨o_10, h⟩ := h
        refine r_iinc (ls' := [some (vR (some (2, 0))), some (vI x1), some (vI x2), some (vI x3), some (vI x4), some (vR o5), some (vI (x6 + 1)), some (vI r_3)]) 129 dX11_judged_126 rfl rfl rfl rfl o_10 rfl ?_
        refine r_goto 54 dX11_judged_129 rfl ?_
        exact Ex.weak h ⟨rfl, rfl, rfl, rfl, rfl, rfl, rfl, trivial⟩
      · have h := h.2 (c)
        refine r_iload 112 dX11_judged_110 rfl rfl ?_
        exact r_iret dX11_judged_112 rfl (.inl rfl) h.1 h.2

set_option maxRecDepth 4000 in
theorem xX11_ends_0 {l : Launch} {G : Gt} {d : Nat} {M M' : Mem} {r : Option Vl} {x1 : Int} {x2 : Int} {x3 : Int} {x4 : Int} {x5 : Int} (h : 
    ∃ (o_3 : Option Nm) (M_1 : Mem), Cl l G d mX11_coverOf [vR (some (2, 0)), vI x2] M (some (vR o_3)) M_1 ∧ ((o_3 = none → r = some (vI (-2)) ∧ M' = M_1) ∧ (¬ (o_3 = none) → ∃ (r_6 : Int) (M_4 : Mem), Cl l G d mX11_isPerson [vR (some (2, 0)), vI x1] M_1 (some (vI r_6)) M_4 ∧ ((r_6 = 0 → r = some (vI (-2)) ∧ M' = M_4) ∧ (¬ (r_6 = 0) → ∃ (r_9 : Int) (M_7 : Mem), Cl l G d mX11_isPlace [vI x3] M_4 (some (vI r_9)) M_7 ∧ ((r_9 = 0 → r = some (vI (-2)) ∧ M' = M_7) ∧ (¬ (r_9 = 0) → ∃ (r_12 : Int) (M_10 : Mem), Cl l G d mX11_isDay [vI x4] M_7 (some (vI r_12)) M_10 ∧ Sh M_10.2.1 ∧ ((¬ r_12 = 0 → (x5 < 0 → r = some (vI (-2)) ∧ M' = M_10) ∧ (¬ (x5 < 0) → (x5 ≤ 4 → ∃ (M_13 : Mem), Cl l G d mX5_begin [vR (some (5, 8)), vR o_3, vI x1, vI (-1), vI x3, vI x4] M_10 none M_13 ∧ Sh M_13.2.1 ∧ (∃ (M_15 : Mem), Cl l G d mX0_goToEnd [vR (some (9, 0)), vR (some (5, 8))] M_13 none M_15 ∧ Sh M_15.2.1 ∧ ((x5 < 0 ∨ 3 < x5 → r = some (vI (M_15.1 5 8 10)) ∧ M' = M_15) ∧ (x5 = 0 → r = some (vI (M_15.1 5 8 5)) ∧ M' = M_15) ∧ (x5 = 1 → r = some (vI (M_15.1 5 8 8)) ∧ M' = M_15) ∧ (x5 = 2 → r = some (vI (M_15.1 5 8 7)) ∧ M' = M_15) ∧ (x5 = 3 → r = some (vI (M_15.1 5 8 6)) ∧ M' = M_15)))) ∧ (¬ (x5 ≤ 4) → r = some (vI (-2)) ∧ M' = M_10))) ∧ (¬ (¬ r_12 = 0) → r = some (vI (-2)) ∧ M' = M_10))))))))) : Cl l G (d + 1) mX11_ends [vR (some (2, 0)), vI x1, vI x2, vI x3, vI x4, vI x5] M r M' := by
  show Ex l G (d + 1) mX11_ends 0 [some (vR (some (2, 0))), some (vI x1), some (vI x2), some (vI x3), some (vI x4), some (vI x5), none] [] M r M'
  refine r_aload_n 1 dX11_ends_0 rfl rfl ?_
  refine r_iload_n 2 dX11_ends_1 rfl rfl ?_
  obtain ⟨o_3, M_1, hc_2, h⟩ := h
  refine v_1 (ci := 11) (C := (RX11, TX11, 14)) [vI x2] [] 5 dX11_ends_2 rfl rfl rfl rfl rfl mo_X11_coverOf ml_11_181 rfl rfl hc_2 ?_
  refine r_astore (ls' := [some (vR (some (2, 0))), some (vI x1), some (vI x2), some (vI x3), some (vI x4), some (vI x5), some (vR o_3)]) 7 dX11_ends_5 rfl rfl rfl rfl ?_
  refine r_aload 9 dX11_ends_7 rfl rfl ?_
  refine r_ifnull 12 35 dX11_ends_9 rfl rfl (fun c => ?_) (fun c => ?_)
  · have h := h.1 (c)
    refine r_bipush 37 dX11_ends_35 rfl rfl ?_
    exact r_iret dX11_ends_37 rfl (.inl rfl) h.1 h.2
  · have h := h.2 (c)
    refine r_aload_n 13 dX11_ends_12 rfl rfl ?_
    refine r_iload_n 14 dX11_ends_13 rfl rfl ?_
    obtain ⟨r_6, M_4, hc_5, h⟩ := h
    refine v_1 (ci := 11) (C := (RX11, TX11, 14)) [vI x1] [] 17 dX11_ends_14 rfl rfl rfl rfl rfl mo_X11_isPerson ml_11_121 rfl rfl hc_5 ?_
    refine r_if_eq 20 35 dX11_ends_17 rfl rfl (fun c => ?_) (fun c => ?_)
    · have h := h.1 (c)
      refine r_bipush 37 dX11_ends_35 rfl rfl ?_
      exact r_iret dX11_ends_37 rfl (.inl rfl) h.1 h.2
    · have h := h.2 (c)
      refine r_iload_n 21 dX11_ends_20 rfl rfl ?_
      obtain ⟨r_9, M_7, hc_8, h⟩ := h
      refine c_1 [vI x3] [] 24 dX11_ends_21 rfl rfl mo_X11_isPlace ml_11_90 rfl rfl hc_8 ?_
      refine r_if_eq 27 35 dX11_ends_24 rfl rfl (fun c => ?_) (fun c => ?_)
      · have h := h.1 (c)
        refine r_bipush 37 dX11_ends_35 rfl rfl ?_
        exact r_iret dX11_ends_37 rfl (.inl rfl) h.1 h.2
      · have h := h.2 (c)
        refine r_iload 29 dX11_ends_27 rfl rfl ?_
        obtain ⟨r_12, M_10, hc_11, hS, h⟩ := h
        refine c_1 [vI x4] [] 32 dX11_ends_29 rfl rfl mo_X11_isDay ml_11_118 rfl rfl hc_11 ?_
        refine r_if_ne 35 38 dX11_ends_32 rfl rfl (fun c => ?_) (fun c => ?_)
        · have h := h.1 (c)
          refine r_iload 40 dX11_ends_38 rfl rfl ?_
          refine r_if_lt 43 49 dX11_ends_40 rfl rfl (fun c => ?_) (fun c => ?_)
          · have h := h.1 (c)
            refine r_bipush 51 dX11_ends_49 rfl rfl ?_
            exact r_iret dX11_ends_51 rfl (.inl rfl) h.1 h.2
          · have h := h.2 (c)
            refine r_iload 45 dX11_ends_43 rfl rfl ?_
            refine r_iconst 46 dX11_ends_45 rfl (InR_of rfl) ?_
            refine r_icmp_le 49 52 dX11_ends_46 rfl rfl (fun c => ?_) (fun c => ?_)
            · have h := h.1 (c)
              refine r_aload_n 53 dX11_ends_52 rfl rfl ?_
              refine g_R 56 dX11_ends_53 rfl rfl rfl fr_11_72 (sh_11_8 hS) ?_
              refine r_aload 58 dX11_ends_56 rfl rfl ?_
              refine r_iload_n 59 dX11_ends_58 rfl rfl ?_
              refine r_iconst 60 dX11_ends_59 rfl (InR_of rfl) ?_
              refine r_iload_n 61 dX11_ends_60 rfl rfl ?_
              refine r_iload 63 dX11_ends_61 rfl rfl ?_
              obtain ⟨M_13, hc_14, hS, h⟩ := h
              refine v_0 (ci := 5) (C := (RX5, TX5, 12)) [vR o_3, vI x1, vI (-1), vI x3, vI x4] [] 66 dX11_ends_63 rfl rfl rfl rfl rfl mo_X5_begin ml_11_228 rfl rfl hc_14 ?_
              refine r_aload_n 67 dX11_ends_66 rfl rfl ?_
              refine g_R 70 dX11_ends_67 rfl rfl rfl fr_11_44 (sh_11_4 hS) ?_
              refine r_aload_n 71 dX11_ends_70 rfl rfl ?_
              refine g_R 74 dX11_ends_71 rfl rfl rfl fr_11_72 (sh_11_8 hS) ?_
              obtain ⟨M_15, hc_16, hS, h⟩ := h
              refine v_0 (ci := 0) (C := (RX0, TX0, 13)) [vR (some (5, 8))] [] 77 dX11_ends_74 rfl rfl rfl rfl rfl mo_X0_goToEnd ml_11_291 rfl rfl hc_16 ?_
              refine r_iload 79 dX11_ends_77 rfl rfl ?_
              by_cases hsw : x5 < 0 ∨ 3 < x5
              · have h := h.1 hsw
                refine r_tswOut 140 dX11_ends_79 hsw rfl ?_
                refine r_aload_n 141 dX11_ends_140 rfl rfl ?_
                refine g_R 144 dX11_ends_141 rfl rfl rfl fr_11_72 (sh_11_8 hS) ?_
                refine g_I 147 dX11_ends_144 rfl rfl rfl fi_11_295 rfl ?_
                exact r_iret dX11_ends_147 rfl (.inl rfl) h.1 h.2
              · have hsw2 : x5 = 0 ∨ x5 = 1 ∨ x5 = 2 ∨ x5 = 3 := by omega
                rcases hsw2 with c | c | c | c
                · have h := h.2.1 c
                  refine r_tswIn 108 dX11_ends_79 0 c rfl rfl rfl ?_
                  refine r_aload_n 109 dX11_ends_108 rfl rfl ?_
                  refine g_R 112 dX11_ends_109 rfl rfl rfl fr_11_72 (sh_11_8 hS) ?_
                  refine g_I 115 dX11_ends_112 rfl rfl rfl fi_11_237 rfl ?_
                  exact r_iret dX11_ends_115 rfl (.inl rfl) h.1 h.2
                · have h := h.2.2.1 c
                  refine r_tswIn 116 dX11_ends_79 1 c rfl rfl rfl ?_
                  refine r_aload_n 117 dX11_ends_116 rfl rfl ?_
                  refine g_R 120 dX11_ends_117 rfl rfl rfl fr_11_72 (sh_11_8 hS) ?_
                  refine g_I 123 dX11_ends_120 rfl rfl rfl fi_11_246 rfl ?_
                  exact r_iret dX11_ends_123 rfl (.inl rfl) h.1 h.2
                · have h := h.2.2.2.1 c
                  refine r_tswIn 124 dX11_ends_79 2 c rfl rfl rfl ?_
                  refine r_aload_n 125 dX11_ends_124 rfl rfl ?_
                  refine g_R 128 dX11_ends_125 rfl rfl rfl fr_11_72 (sh_11_8 hS) ?_
                  refine g_I 131 dX11_ends_128 rfl rfl rfl fi_11_243 rfl ?_
                  exact r_iret dX11_ends_131 rfl (.inl rfl) h.1 h.2
                · have h := h.2.2.2.2 c
                  refine r_tswIn 132 dX11_ends_79 3 c rfl rfl rfl ?_
                  refine r_aload_n 133 dX11_ends_132 rfl rfl ?_
                  refine g_R 136 dX11_ends_133 rfl rfl rfl fr_11_72 (sh_11_8 hS) ?_
                  refine g_I 139 dX11_ends_136 rfl rfl rfl fi_11_240 rfl ?_
                  exact r_iret dX11_ends_139 rfl (.inl rfl) h.1 h.2
            · have h := h.2 (c)
              refine r_bipush 51 dX11_ends_49 rfl rfl ?_
              exact r_iret dX11_ends_51 rfl (.inl rfl) h.1 h.2
        · have h := h.2 (c)
          refine r_bipush 37 dX11_ends_35 rfl rfl ?_
          exact r_iret dX11_ends_37 rfl (.inl rfl) h.1 h.2

set_option maxRecDepth 4000 in
theorem xX11_needs_0 {l : Launch} {G : Gt} {d : Nat} {M M' : Mem} {r : Option Vl} {x1 : Int} {x2 : Int} {x3 : Int} {x4 : Int} {x5 : Int} {x6 : Int} (h : 
    ∃ (o_3 : Option Nm) (M_1 : Mem), Cl l G d mX11_coverOf [vR (some (2, 0)), vI x2] M (some (vR o_3)) M_1 ∧ ((o_3 = none → r = some (vI (-1)) ∧ M' = M_1) ∧ (¬ (o_3 = none) → ∃ (r_6 : Int) (M_4 : Mem), Cl l G d mX11_areTwo [vR (some (2, 0)), vI x1, vI x3] M_1 (some (vI r_6)) M_4 ∧ ((r_6 = 0 → r = some (vI (-1)) ∧ M' = M_4) ∧ (¬ (r_6 = 0) → ∃ (r_9 : Int) (M_7 : Mem), Cl l G d mX11_isPlace [vI x4] M_4 (some (vI r_9)) M_7 ∧ ((r_9 = 0 → r = some (vI (-1)) ∧ M' = M_7) ∧ (¬ (r_9 = 0) → ∃ (r_12 : Int) (M_10 : Mem), Cl l G d mX11_isDay [vI x5] M_7 (some (vI r_12)) M_10 ∧ Sh M_10.2.1 ∧ ((¬ r_12 = 0 → (x6 < 0 → r = some (vI (-1)) ∧ M' = M_10) ∧ (¬ (x6 < 0) → (x6 ≤ 2 → ∃ (M_13 : Mem), Cl l G d mX5_begin [vR (some (5, 8)), vR o_3, vI x1, vI x3, vI x4, vI x5] M_10 none M_13 ∧ Sh M_13.2.1 ∧ (∃ (r_17 : Int) (M_15 : Mem), Cl l G d mX0_findNeeds [vR (some (9, 0)), vR (some (5, 8))] M_13 (some (vI r_17)) M_15 ∧ Sh M_15.2.1 ∧ ((¬ x6 = 0 → r = some (vI (if ¬ x6 = 1 then (M_15.1 9 0 11) else (M_15.1 9 0 10) : Int)) ∧ M' = M_15) ∧ (¬ (¬ x6 = 0) → r = some (vI r_17) ∧ M' = M_15)))) ∧ (¬ (x6 ≤ 2) → r = some (vI (-1)) ∧ M' = M_10))) ∧ (¬ (¬ r_12 = 0) → r = some (vI (-1)) ∧ M' = M_10))))))))) : Cl l G (d + 1) mX11_needs [vR (some (2, 0)), vI x1, vI x2, vI x3, vI x4, vI x5, vI x6] M r M' := by
  show Ex l G (d + 1) mX11_needs 0 [some (vR (some (2, 0))), some (vI x1), some (vI x2), some (vI x3), some (vI x4), some (vI x5), some (vI x6), none, none] [] M r M'
  refine r_aload_n 1 dX11_needs_0 rfl rfl ?_
  refine r_iload_n 2 dX11_needs_1 rfl rfl ?_
  obtain ⟨o_3, M_1, hc_2, h⟩ := h
  refine v_1 (ci := 11) (C := (RX11, TX11, 14)) [vI x2] [] 5 dX11_needs_2 rfl rfl rfl rfl rfl mo_X11_coverOf ml_11_181 rfl rfl hc_2 ?_
  refine r_astore (ls' := [some (vR (some (2, 0))), some (vI x1), some (vI x2), some (vI x3), some (vI x4), some (vI x5), some (vI x6), some (vR o_3), none]) 7 dX11_needs_5 rfl rfl rfl rfl ?_
  refine r_aload 9 dX11_needs_7 rfl rfl ?_
  refine r_ifnull 12 37 dX11_needs_9 rfl rfl (fun c => ?_) (fun c => ?_)
  · have h := h.1 (c)
    refine r_iconst 38 dX11_needs_37 rfl (InR_of rfl) ?_
    exact r_iret dX11_needs_38 rfl (.inl rfl) h.1 h.2
  · have h := h.2 (c)
    refine r_aload_n 13 dX11_needs_12 rfl rfl ?_
    refine r_iload_n 14 dX11_needs_13 rfl rfl ?_
    refine r_iload_n 15 dX11_needs_14 rfl rfl ?_
    obtain ⟨r_6, M_4, hc_5, h⟩ := h
    refine v_1 (ci := 11) (C := (RX11, TX11, 14)) [vI x1, vI x3] [] 18 dX11_needs_15 rfl rfl rfl rfl rfl mo_X11_areTwo ml_11_124 rfl rfl hc_5 ?_
    refine r_if_eq 21 37 dX11_needs_18 rfl rfl (fun c => ?_) (fun c => ?_)
    · have h := h.1 (c)
      refine r_iconst 38 dX11_needs_37 rfl (InR_of rfl) ?_
      exact r_iret dX11_needs_38 rfl (.inl rfl) h.1 h.2
    · have h := h.2 (c)
      refine r_iload 23 dX11_needs_21 rfl rfl ?_
      obtain ⟨r_9, M_7, hc_8, h⟩ := h
      refine c_1 [vI x4] [] 26 dX11_needs_23 rfl rfl mo_X11_isPlace ml_11_90 rfl rfl hc_8 ?_
      refine r_if_eq 29 37 dX11_needs_26 rfl rfl (fun c => ?_) (fun c => ?_)
      · have h := h.1 (c)
        refine r_iconst 38 dX11_needs_37 rfl (InR_of rfl) ?_
        exact r_iret dX11_needs_38 rfl (.inl rfl) h.1 h.2
      · have h := h.2 (c)
        refine r_iload 31 dX11_needs_29 rfl rfl ?_
        obtain ⟨r_12, M_10, hc_11, hS, h⟩ := h
        refine c_1 [vI x5] [] 34 dX11_needs_31 rfl rfl mo_X11_isDay ml_11_118 rfl rfl hc_11 ?_
        refine r_if_ne 37 39 dX11_needs_34 rfl rfl (fun c => ?_) (fun c => ?_)
        · have h := h.1 (c)
          refine r_iload 41 dX11_needs_39 rfl rfl ?_
          refine r_if_lt 44 50 dX11_needs_41 rfl rfl (fun c => ?_) (fun c => ?_)
          · have h := h.1 (c)
            refine r_iconst 51 dX11_needs_50 rfl (InR_of rfl) ?_
            exact r_iret dX11_needs_51 rfl (.inl rfl) h.1 h.2
          · have h := h.2 (c)
            refine r_iload 46 dX11_needs_44 rfl rfl ?_
            refine r_iconst 47 dX11_needs_46 rfl (InR_of rfl) ?_
            refine r_icmp_le 50 52 dX11_needs_47 rfl rfl (fun c => ?_) (fun c => ?_)
            · have h := h.1 (c)
              refine r_aload_n 53 dX11_needs_52 rfl rfl ?_
              refine g_R 56 dX11_needs_53 rfl rfl rfl fr_11_72 (sh_11_8 hS) ?_
              refine r_aload 58 dX11_needs_56 rfl rfl ?_
              refine r_iload_n 59 dX11_needs_58 rfl rfl ?_
              refine r_iload_n 60 dX11_needs_59 rfl rfl ?_
              refine r_iload 62 dX11_needs_60 rfl rfl ?_
              refine r_iload 64 dX11_needs_62 rfl rfl ?_
              obtain ⟨M_13, hc_14, hS, h⟩ := h
              refine v_0 (ci := 5) (C := (RX5, TX5, 12)) [vR o_3, vI x1, vI x3, vI x4, vI x5] [] 67 dX11_needs_64 rfl rfl rfl rfl rfl mo_X5_begin ml_11_228 rfl rfl hc_14 ?_
              refine r_aload_n 68 dX11_needs_67 rfl rfl ?_
              refine g_R 71 dX11_needs_68 rfl rfl rfl fr_11_44 (sh_11_4 hS) ?_
              refine r_aload_n 72 dX11_needs_71 rfl rfl ?_
              refine g_R 75 dX11_needs_72 rfl rfl rfl fr_11_72 (sh_11_8 hS) ?_
              obtain ⟨r_17, M_15, hc_16, hS, h⟩ := h
              refine v_1 (ci := 0) (C := (RX0, TX0, 13)) [vR (some (5, 8))] [] 78 dX11_needs_75 rfl rfl rfl rfl rfl mo_X0_findNeeds ml_11_298 rfl rfl hc_16 ?_
              refine r_istore (ls' := [some (vR (some (2, 0))), some (vI x1), some (vI x2), some (vI x3), some (vI x4), some (vI x5), some (vI x6), some (vR o_3), some (vI r_17)]) 80 dX11_needs_78 rfl rfl rfl rfl ?_
              refine r_iload 82 dX11_needs_80 rfl rfl ?_
              refine r_if_ne 85 88 dX11_needs_82 rfl rfl (fun c => ?_) (fun c => ?_)
              · have h := h.1 (c)
                refine r_iload 90 dX11_needs_88 rfl rfl ?_
                refine r_iconst 91 dX11_needs_90 rfl (InR_of rfl) ?_
                have hJ_18 : Ex l G (d + 1) mX11_needs 111 [some (vR (some (2, 0))), some (vI x1), some (vI x2), some (vI x3), some (vI x4), some (vI x5), some (vI x6), some (vR o_3), some (vI r_17)] [vI (if ¬ x6 = 1 then (M_15.1 9 0 11) else (M_15.1 9 0 10) : Int)] M_15 r M' := by
                  exact r_iret dX11_needs_111 rfl (.inl rfl) h.1 h.2
                refine r_icmp_ne 94 104 dX11_needs_91 rfl rfl (fun c => ?_) (fun c => ?_)
                · have c_19 := c
                  refine r_aload_n 105 dX11_needs_104 rfl rfl ?_
                  refine g_R 108 dX11_needs_105 rfl rfl rfl fr_11_44 (sh_11_4 hS) ?_
                  refine g_I 111 dX11_needs_108 rfl rfl rfl fi_11_304 rfl ?_
                  exact (Ex.at hJ_18 rfl (show [vI (M_15.1 9 0 11)] = [vI (if ¬ x6 = 1 then (M_15.1 9 0 11) else (M_15.1 9 0 10) : Int)] by simp only [if_pos c_19]) rfl)
                · have c_19 := c
                  refine r_aload_n 95 dX11_needs_94 rfl rfl ?_
                  refine g_R 98 dX11_needs_95 rfl rfl rfl fr_11_44 (sh_11_4 hS) ?_
                  refine g_I 101 dX11_needs_98 rfl rfl rfl fi_11_301 rfl ?_
                  refine r_goto 111 dX11_needs_101 rfl ?_
                  exact (Ex.at hJ_18 rfl (show [vI (M_15.1 9 0 10)] = [vI (if ¬ x6 = 1 then (M_15.1 9 0 11) else (M_15.1 9 0 10) : Int)] by simp only [if_neg c_19]) rfl)
              · have h := h.2 (c)
                refine r_iload 87 dX11_needs_85 rfl rfl ?_
                exact r_iret dX11_needs_87 rfl (.inl rfl) h.1 h.2
            · have h := h.2 (c)
              refine r_iconst 51 dX11_needs_50 rfl (InR_of rfl) ?_
              exact r_iret dX11_needs_51 rfl (.inl rfl) h.1 h.2
        · have h := h.2 (c)
          refine r_iconst 38 dX11_needs_37 rfl (InR_of rfl) ?_
          exact r_iret dX11_needs_38 rfl (.inl rfl) h.1 h.2

set_option maxRecDepth 4000 in
theorem xX11_copies_0 {l : Launch} {G : Gt} {d : Nat} {M M' : Mem} {r : Option Vl} {x1 : Int} {x2 : Int} {x3 : Int} {x4 : Int} {x5 : Int} {x6 : Int} {x7 : Int} (h : 
    ∃ (o_3 : Option Nm) (M_1 : Mem), Cl l G d mX11_coverOf [vR (some (2, 0)), vI x2] M (some (vR o_3)) M_1 ∧ ((o_3 = none → r = some (vI (-1)) ∧ M' = M_1) ∧ (¬ (o_3 = none) → ∃ (r_6 : Int) (M_4 : Mem), Cl l G d mX11_areTwo [vR (some (2, 0)), vI x1, vI x3] M_1 (some (vI r_6)) M_4 ∧ ((r_6 = 0 → r = some (vI (-1)) ∧ M' = M_4) ∧ (¬ (r_6 = 0) → ∃ (r_9 : Int) (M_7 : Mem), Cl l G d mX11_isPlace [vI x4] M_4 (some (vI r_9)) M_7 ∧ ((r_9 = 0 → r = some (vI (-1)) ∧ M' = M_7) ∧ (¬ (r_9 = 0) → ∃ (r_12 : Int) (M_10 : Mem), Cl l G d mX11_isPlace [vI x5] M_7 (some (vI r_12)) M_10 ∧ ((¬ r_12 = 0 → ∃ (r_15 : Int) (M_13 : Mem), Cl l G d mX11_isDay [vI x6] M_10 (some (vI r_15)) M_13 ∧ ((r_15 = 0 → r = some (vI (-1)) ∧ M' = M_13) ∧ (¬ (r_15 = 0) → (x7 < 0 → r = some (vI (-1)) ∧ M' = M_13) ∧ (¬ (x7 < 0) → (x7 ≤ 1 → ∃ k_16 : Nat, o_3 = some (13, k_16) ∧ (∃ (r_20 : Int) (M_18 : Mem), Cl l G d mX11_dayRight [vR (some (2, 0)), vR (some (13, k_16)), vI x1, vI x3, vI x4, vI x6] M_13 (some (vI r_20)) M_18 ∧ (∃ (r_23 : Int) (M_21 : Mem), Cl l G d mX11_dayRight [vR (some (2, 0)), vR (some (13, k_16)), vI x1, vI x3, vI x5, vI x6] M_18 (some (vI r_23)) M_21 ∧ ((¬ r_20 = (-2) → (¬ x7 = 0 → r = some (vI (if ¬ (if ¬ r_20 = r_23 then (if r_23 = (-2) then 0 else (if r_20 = (-2) then 1 else (if r_23 ≤ r_20 then 1 else 0 : Int) : Int) : Int) else 2 : Int) = 1 then r_20 else r_23 : Int)) ∧ M' = M_21) ∧ (¬ (¬ x7 = 0) → r = some (vI (if ¬ r_20 = r_23 then (if r_23 = (-2) then 0 else (if r_20 = (-2) then 1 else (if r_23 ≤ r_20 then 1 else 0 : Int) : Int) : Int) else 2 : Int)) ∧ M' = M_21)) ∧ (¬ (¬ r_20 = (-2)) → (¬ r_23 = (-2) → (¬ x7 = 0 → r = some (vI (if ¬ (if ¬ r_20 = r_23 then (if r_23 = (-2) then 0 else (if r_20 = (-2) then 1 else (if r_23 ≤ r_20 then 1 else 0 : Int) : Int) : Int) else 2 : Int) = 1 then r_20 else r_23 : Int)) ∧ M' = M_21) ∧ (¬ (¬ x7 = 0) → r = some (vI (if ¬ r_20 = r_23 then (if r_23 = (-2) then 0 else (if r_20 = (-2) then 1 else (if r_23 ≤ r_20 then 1 else 0 : Int) : Int) : Int) else 2 : Int)) ∧ M' = M_21)) ∧ (¬ (¬ r_23 = (-2)) → r = some (vI (-2)) ∧ M' = M_21)))))) ∧ (¬ (x7 ≤ 1) → r = some (vI (-1)) ∧ M' = M_13))))) ∧ (¬ (¬ r_12 = 0) → r = some (vI (-1)) ∧ M' = M_10))))))))) : Cl l G (d + 1) mX11_copies [vR (some (2, 0)), vI x1, vI x2, vI x3, vI x4, vI x5, vI x6, vI x7] M r M' := by
  show Ex l G (d + 1) mX11_copies 0 [some (vR (some (2, 0))), some (vI x1), some (vI x2), some (vI x3), some (vI x4), some (vI x5), some (vI x6), some (vI x7), none, none, none, none] [] M r M'
  refine r_aload_n 1 dX11_copies_0 rfl rfl ?_
  refine r_iload_n 2 dX11_copies_1 rfl rfl ?_
  obtain ⟨o_3, M_1, hc_2, h⟩ := h
  refine v_1 (ci := 11) (C := (RX11, TX11, 14)) [vI x2] [] 5 dX11_copies_2 rfl rfl rfl rfl rfl mo_X11_coverOf ml_11_181 rfl rfl hc_2 ?_
  refine r_astore (ls' := [some (vR (some (2, 0))), some (vI x1), some (vI x2), some (vI x3), some (vI x4), some (vI x5), some (vI x6), some (vI x7), some (vR o_3), none, none, none]) 7 dX11_copies_5 rfl rfl rfl rfl ?_
  refine r_aload 9 dX11_copies_7 rfl rfl ?_
  refine r_ifnull 12 37 dX11_copies_9 rfl rfl (fun c => ?_) (fun c => ?_)
  · have h := h.1 (c)
    refine r_iconst 38 dX11_copies_37 rfl (InR_of rfl) ?_
    exact r_iret dX11_copies_38 rfl (.inl rfl) h.1 h.2
  · have h := h.2 (c)
    refine r_aload_n 13 dX11_copies_12 rfl rfl ?_
    refine r_iload_n 14 dX11_copies_13 rfl rfl ?_
    refine r_iload_n 15 dX11_copies_14 rfl rfl ?_
    obtain ⟨r_6, M_4, hc_5, h⟩ := h
    refine v_1 (ci := 11) (C := (RX11, TX11, 14)) [vI x1, vI x3] [] 18 dX11_copies_15 rfl rfl rfl rfl rfl mo_X11_areTwo ml_11_124 rfl rfl hc_5 ?_
    refine r_if_eq 21 37 dX11_copies_18 rfl rfl (fun c => ?_) (fun c => ?_)
    · have h := h.1 (c)
      refine r_iconst 38 dX11_copies_37 rfl (InR_of rfl) ?_
      exact r_iret dX11_copies_38 rfl (.inl rfl) h.1 h.2
    · have h := h.2 (c)
      refine r_iload 23 dX11_copies_21 rfl rfl ?_
      obtain ⟨r_9, M_7, hc_8, h⟩ := h
      refine c_1 [vI x4] [] 26 dX11_copies_23 rfl rfl mo_X11_isPlace ml_11_90 rfl rfl hc_8 ?_
      refine r_if_eq 29 37 dX11_copies_26 rfl rfl (fun c => ?_) (fun c => ?_)
      · have h := h.1 (c)
        refine r_iconst 38 dX11_copies_37 rfl (InR_of rfl) ?_
        exact r_iret dX11_copies_38 rfl (.inl rfl) h.1 h.2
      · have h := h.2 (c)
        refine r_iload 31 dX11_copies_29 rfl rfl ?_
        obtain ⟨r_12, M_10, hc_11, h⟩ := h
        refine c_1 [vI x5] [] 34 dX11_copies_31 rfl rfl mo_X11_isPlace ml_11_90 rfl rfl hc_11 ?_
        refine r_if_ne 37 39 dX11_copies_34 rfl rfl (fun c => ?_) (fun c => ?_)
        · have h := h.1 (c)
          refine r_iload 41 dX11_copies_39 rfl rfl ?_
          obtain ⟨r_15, M_13, hc_14, h⟩ := h
          refine c_1 [vI x6] [] 44 dX11_copies_41 rfl rfl mo_X11_isDay ml_11_118 rfl rfl hc_14 ?_
          refine r_if_eq 47 58 dX11_copies_44 rfl rfl (fun c => ?_) (fun c => ?_)
          · have h := h.1 (c)
            refine r_iconst 59 dX11_copies_58 rfl (InR_of rfl) ?_
            exact r_iret dX11_copies_59 rfl (.inl rfl) h.1 h.2
          · have h := h.2 (c)
            refine r_iload 49 dX11_copies_47 rfl rfl ?_
            refine r_if_lt 52 58 dX11_copies_49 rfl rfl (fun c => ?_) (fun c => ?_)
            · have h := h.1 (c)
              refine r_iconst 59 dX11_copies_58 rfl (InR_of rfl) ?_
              exact r_iret dX11_copies_59 rfl (.inl rfl) h.1 h.2
            · have h := h.2 (c)
              refine r_iload 54 dX11_copies_52 rfl rfl ?_
              refine r_iconst 55 dX11_copies_54 rfl (InR_of rfl) ?_
              refine r_icmp_le 58 60 dX11_copies_55 rfl rfl (fun c => ?_) (fun c => ?_)
              · have h := h.1 (c)
                refine r_aload_n 61 dX11_copies_60 rfl rfl ?_
                refine r_aload 63 dX11_copies_61 rfl rfl ?_
                refine r_iload_n 64 dX11_copies_63 rfl rfl ?_
                refine r_iload_n 65 dX11_copies_64 rfl rfl ?_
                refine r_iload 67 dX11_copies_65 rfl rfl ?_
                refine r_iload 69 dX11_copies_67 rfl rfl ?_
                obtain ⟨k_16, e_17, h⟩ := h
                refine Ex.at (st2 := [vI x6, vI x4, vI x3, vI x1, vR (some (13, k_16)), vR (some (2, 0))]) ?_ rfl (show [vI x6, vI x4, vI x3, vI x1, vR o_3, vR (some (2, 0))] = [vI x6, vI x4, vI x3, vI x1, vR (some (13, k_16)), vR (some (2, 0))] by rw [e_17]) rfl
                obtain ⟨r_20, M_18, hc_19, h⟩ := h
                refine v_1 (ci := 11) (C := (RX11, TX11, 14)) [vR (some (13, k_16)), vI x1, vI x3, vI x4, vI x6] [] 72 dX11_copies_69 rfl rfl rfl rfl rfl mo_X11_dayRight ml_11_307 rfl rfl hc_19 ?_
                refine r_istore (ls' := [some (vR (some (2, 0))), some (vI x1), some (vI x2), some (vI x3), some (vI x4), some (vI x5), some (vI x6), some (vI x7), some (vR o_3), some (vI r_20), none, none]) 74 dX11_copies_72 rfl rfl rfl rfl ?_
                refine r_aload_n 75 dX11_copies_74 rfl rfl ?_
                refine r_aload 77 dX11_copies_75 rfl rfl ?_
                refine r_iload_n 78 dX11_copies_77 rfl rfl ?_
                refine r_iload_n 79 dX11_copies_78 rfl rfl ?_
                refine r_iload 81 dX11_copies_79 rfl rfl ?_
                refine r_iload 83 dX11_copies_81 rfl rfl ?_
                refine Ex.at (st2 := [vI x6, vI x5, vI x3, vI x1, vR (some (13, k_16)), vR (some (2, 0))]) ?_ rfl (show [vI x6, vI x5, vI x3, vI x1, vR o_3, vR (some (2, 0))] = [vI x6, vI x5, vI x3, vI x1, vR (some (13, k_16)), vR (some (2, 0))] by rw [e_17]) rfl
                obtain ⟨r_23, M_21, hc_22, h⟩ := h
                refine v_1 (ci := 11) (C := (RX11, TX11, 14)) [vR (some (13, k_16)), vI x1, vI x3, vI x5, vI x6] [] 86 dX11_copies_83 rfl rfl rfl rfl rfl mo_X11_dayRight ml_11_307 rfl rfl hc_22 ?_
                refine r_istore (ls' := [some (vR (some (2, 0))), some (vI x1), some (vI x2), some (vI x3), some (vI x4), some (vI x5), some (vI x6), some (vI x7), some (vR o_3), some (vI r_20), some (vI r_23), none]) 88 dX11_copies_86 rfl rfl rfl rfl ?_
                refine r_iload 90 dX11_copies_88 rfl rfl ?_
                refine r_bipush 92 dX11_copies_90 rfl rfl ?_
                refine r_icmp_ne 95 105 dX11_copies_92 rfl rfl (fun c => ?_) (fun c => ?_)
                · have h := h.1 (c)
                  refine r_iload 107 dX11_copies_105 rfl rfl ?_
                  refine r_iload 109 dX11_copies_107 rfl rfl ?_
                  have hJ_24 : Ex l G (d + 1) mX11_copies 146 [some (vR (some (2, 0))), some (vI x1), some (vI x2), some (vI x3), some (vI x4), some (vI x5), some (vI x6), some (vI x7), some (vR o_3), some (vI r_20), some (vI r_23), some (vI (if ¬ r_20 = r_23 then (if r_23 = (-2) then 0 else (if r_20 = (-2) then 1 else (if r_23 ≤ r_20 then 1 else 0 : Int) : Int) : Int) else 2 : Int))] [] M_21 r M' := by
                    refine r_iload 148 dX11_copies_146 rfl rfl ?_
                    refine r_if_ne 151 154 dX11_copies_148 rfl rfl (fun c => ?_) (fun c => ?_)
                    · have h := h.1 (c)
                      refine r_iload 156 dX11_copies_154 rfl rfl ?_
                      refine r_iconst 157 dX11_copies_156 rfl (InR_of rfl) ?_
                      have hJ_29 : Ex l G (d + 1) mX11_copies 167 [some (vR (some (2, 0))), some (vI x1), some (vI x2), some (vI x3), some (vI x4), some (vI x5), some (vI x6), some (vI x7), some (vR o_3), some (vI r_20), some (vI r_23), some (vI (if ¬ r_20 = r_23 then (if r_23 = (-2) then 0 else (if r_20 = (-2) then 1 else (if r_23 ≤ r_20 then 1 else 0 : Int) : Int) : Int) else 2 : Int))] [vI (if ¬ (if ¬ r_20 = r_23 then (if r_23 = (-2) then 0 else (if r_20 = (-2) then 1 else (if r_23 ≤ r_20 then 1 else 0 : Int) : Int) : Int) else 2 : Int) = 1 then r_20 else r_23 : Int)] M_21 r M' := by
                        exact r_iret dX11_copies_167 rfl (.inl rfl) h.1 h.2
                      refine r_icmp_ne 160 165 dX11_copies_157 rfl rfl (fun c => ?_) (fun c => ?_)
                      · have c_30 := c
                        refine r_iload 167 dX11_copies_165 rfl rfl ?_
                        exact (Ex.at hJ_29 rfl (show [vI r_20] = [vI (if ¬ (if ¬ r_20 = r_23 then (if r_23 = (-2) then 0 else (if r_20 = (-2) then 1 else (if r_23 ≤ r_20 then 1 else 0 : Int) : Int) : Int) else 2 : Int) = 1 then r_20 else r_23 : Int)] by simp only [if_pos c_30]) rfl)
                      · have c_30 := c
                        refine r_iload 162 dX11_copies_160 rfl rfl ?_
                        refine r_goto 167 dX11_copies_162 rfl ?_
                        exact (Ex.at hJ_29 rfl (show [vI r_23] = [vI (if ¬ (if ¬ r_20 = r_23 then (if r_23 = (-2) then 0 else (if r_20 = (-2) then 1 else (if r_23 ≤ r_20 then 1 else 0 : Int) : Int) : Int) else 2 : Int) = 1 then r_20 else r_23 : Int)] by simp only [if_neg c_30]) rfl)
                    · have h := h.2 (c)
                      refine r_iload 153 dX11_copies_151 rfl rfl ?_
                      exact r_iret dX11_copies_153 rfl (.inl rfl) h.1 h.2
                  refine r_icmp_ne 112 118 dX11_copies_109 rfl rfl (fun c => ?_) (fun c => ?_)
                  · have c_25 := c
                    refine r_iload 120 dX11_copies_118 rfl rfl ?_
                    refine r_bipush 122 dX11_copies_120 rfl rfl ?_
                    refine r_icmp_eq 125 139 dX11_copies_122 rfl rfl (fun c => ?_) (fun c => ?_)
                    · have c_26 := c
                      refine r_iconst 140 dX11_copies_139 rfl (InR_of rfl) ?_
                      refine r_goto 144 dX11_copies_140 rfl ?_
                      refine r_istore (ls' := [some (vR (some (2, 0))), some (vI x1), some (vI x2), some (vI x3), some (vI x4), some (vI x5), some (vI x6), some (vI x7), some (vR o_3), some (vI r_20), some (vI r_23), some (vI 0)]) 146 dX11_copies_144 rfl rfl rfl rfl ?_
                      exact (Ex.at hJ_24 (show [some (vR (some (2, 0))), some (vI x1), some (vI x2), some (vI x3), some (vI x4), some (vI x5), some (vI x6), some (vI x7), some (vR o_3), some (vI r_20), some (vI r_23), some (vI 0)] = [some (vR (some (2, 0))), some (vI x1), some (vI x2), some (vI x3), some (vI x4), some (vI x5), some (vI x6), some (vI x7), some (vR o_3), some (vI r_20), some (vI r_23), some (vI (if ¬ r_20 = r_23 then (if r_23 = (-2) then 0 else (if r_20 = (-2) then 1 else (if r_23 ≤ r_20 then 1 else 0 : Int) : Int) : Int) else 2 : Int))] by simp only [if_pos c_25, if_pos c_26]) rfl rfl)
                    · have c_26 := c
                      refine r_iload 127 dX11_copies_125 rfl rfl ?_
                      refine r_bipush 129 dX11_copies_127 rfl rfl ?_
                      refine r_icmp_eq 132 143 dX11_copies_129 rfl rfl (fun c => ?_) (fun c => ?_)
                      · have c_27 := c
                        refine r_iconst 144 dX11_copies_143 rfl (InR_of rfl) ?_
                        refine r_istore (ls' := [some (vR (some (2, 0))), some (vI x1), some (vI x2), some (vI x3), some (vI x4), some (vI x5), some (vI x6), some (vI x7), some (vR o_3), some (vI r_20), some (vI r_23), some (vI 1)]) 146 dX11_copies_144 rfl rfl rfl rfl ?_
                        exact (Ex.at hJ_24 (show [some (vR (some (2, 0))), some (vI x1), some (vI x2), some (vI x3), some (vI x4), some (vI x5), some (vI x6), some (vI x7), some (vR o_3), some (vI r_20), some (vI r_23), some (vI 1)] = [some (vR (some (2, 0))), some (vI x1), some (vI x2), some (vI x3), some (vI x4), some (vI x5), some (vI x6), some (vI x7), some (vR o_3), some (vI r_20), some (vI r_23), some (vI (if ¬ r_20 = r_23 then (if r_23 = (-2) then 0 else (if r_20 = (-2) then 1 else (if r_23 ≤ r_20 then 1 else 0 : Int) : Int) : Int) else 2 : Int))] by simp only [if_pos c_25, if_neg c_26, if_pos c_27]) rfl rfl)
                      · have c_27 := c
                        refine r_iload 134 dX11_copies_132 rfl rfl ?_
                        refine r_iload 136 dX11_copies_134 rfl rfl ?_
                        refine r_icmp_ge 139 143 dX11_copies_136 rfl rfl (fun c => ?_) (fun c => ?_)
                        · have c_28 := c
                          refine r_iconst 144 dX11_copies_143 rfl (InR_of rfl) ?_
                          refine r_istore (ls' := [some (vR (some (2, 0))), some (vI x1), some (vI x2), some (vI x3), some (vI x4), some (vI x5), some (vI x6), some (vI x7), some (vR o_3), some (vI r_20), some (vI r_23), some (vI 1)]) 146 dX11_copies_144 rfl rfl rfl rfl ?_
                          exact (Ex.at hJ_24 (show [some (vR (some (2, 0))), some (vI x1), some (vI x2), some (vI x3), some (vI x4), some (vI x5), some (vI x6), some (vI x7), some (vR o_3), some (vI r_20), some (vI r_23), some (vI 1)] = [some (vR (some (2, 0))), some (vI x1), some (vI x2), some (vI x3), some (vI x4), some (vI x5), some (vI x6), some (vI x7), some (vR o_3), some (vI r_20), some (vI r_23), some (vI (if ¬ r_20 = r_23 then (if r_23 = (-2) then 0 else (if r_20 = (-2) then 1 else (if r_23 ≤ r_20 then 1 else 0 : Int) : Int) : Int) else 2 : Int))] by simp only [if_pos c_25, if_neg c_26, if_neg c_27, if_pos c_28]) rfl rfl)
                        · have c_28 := c
                          refine r_iconst 140 dX11_copies_139 rfl (InR_of rfl) ?_
                          refine r_goto 144 dX11_copies_140 rfl ?_
                          refine r_istore (ls' := [some (vR (some (2, 0))), some (vI x1), some (vI x2), some (vI x3), some (vI x4), some (vI x5), some (vI x6), some (vI x7), some (vR o_3), some (vI r_20), some (vI r_23), some (vI 0)]) 146 dX11_copies_144 rfl rfl rfl rfl ?_
                          exact (Ex.at hJ_24 (show [some (vR (some (2, 0))), some (vI x1), some (vI x2), some (vI x3), some (vI x4), some (vI x5), some (vI x6), some (vI x7), some (vR o_3), some (vI r_20), some (vI r_23), some (vI 0)] = [some (vR (some (2, 0))), some (vI x1), some (vI x2), some (vI x3), some (vI x4), some (vI x5), some (vI x6), some (vI x7), some (vR o_3), some (vI r_20), some (vI r_23), some (vI (if ¬ r_20 = r_23 then (if r_23 = (-2) then 0 else (if r_20 = (-2) then 1 else (if r_23 ≤ r_20 then 1 else 0 : Int) : Int) : Int) else 2 : Int))] by simp only [if_pos c_25, if_neg c_26, if_neg c_27, if_neg c_28]) rfl rfl)
                  · have c_25 := c
                    refine r_iconst 113 dX11_copies_112 rfl (InR_of rfl) ?_
                    refine r_istore (ls' := [some (vR (some (2, 0))), some (vI x1), some (vI x2), some (vI x3), some (vI x4), some (vI x5), some (vI x6), some (vI x7), some (vR o_3), some (vI r_20), some (vI r_23), some (vI 2)]) 115 dX11_copies_113 rfl rfl rfl rfl ?_
                    refine r_goto 146 dX11_copies_115 rfl ?_
                    exact (Ex.at hJ_24 (show [some (vR (some (2, 0))), some (vI x1), some (vI x2), some (vI x3), some (vI x4), some (vI x5), some (vI x6), some (vI x7), some (vR o_3), some (vI r_20), some (vI r_23), some (vI 2)] = [some (vR (some (2, 0))), some (vI x1), some (vI x2), some (vI x3), some (vI x4), some (vI x5), some (vI x6), some (vI x7), some (vR o_3), some (vI r_20), some (vI r_23), some (vI (if ¬ r_20 = r_23 then (if r_23 = (-2) then 0 else (if r_20 = (-2) then 1 else (if r_23 ≤ r_20 then 1 else 0 : Int) : Int) : Int) else 2 : Int))] by simp only [if_neg c_25]) rfl rfl)
                · have h := h.2 (c)
                  refine r_iload 97 dX11_copies_95 rfl rfl ?_
                  refine r_bipush 99 dX11_copies_97 rfl rfl ?_
                  refine r_icmp_ne 102 105 dX11_copies_99 rfl rfl (fun c => ?_) (fun c => ?_)
                  · have h := h.1 (c)
                    refine r_iload 107 dX11_copies_105 rfl rfl ?_
                    refine r_iload 109 dX11_copies_107 rfl rfl ?_
                    have hJ_31 : Ex l G (d + 1) mX11_copies 146 [some (vR (some (2, 0))), some (vI x1), some (vI x2), some (vI x3), some (vI x4), some (vI x5), some (vI x6), some (vI x7), some (vR o_3), some (vI r_20), some (vI r_23), some (vI (if ¬ r_20 = r_23 then (if r_23 = (-2) then 0 else (if r_20 = (-2) then 1 else (if r_23 ≤ r_20 then 1 else 0 : Int) : Int) : Int) else 2 : Int))] [] M_21 r M' := by
                      refine r_iload 148 dX11_copies_146 rfl rfl ?_
                      refine r_if_ne 151 154 dX11_copies_148 rfl rfl (fun c => ?_) (fun c => ?_)
                      · have h := h.1 (c)
                        refine r_iload 156 dX11_copies_154 rfl rfl ?_
                        refine r_iconst 157 dX11_copies_156 rfl (InR_of rfl) ?_
                        have hJ_36 : Ex l G (d + 1) mX11_copies 167 [some (vR (some (2, 0))), some (vI x1), some (vI x2), some (vI x3), some (vI x4), some (vI x5), some (vI x6), some (vI x7), some (vR o_3), some (vI r_20), some (vI r_23), some (vI (if ¬ r_20 = r_23 then (if r_23 = (-2) then 0 else (if r_20 = (-2) then 1 else (if r_23 ≤ r_20 then 1 else 0 : Int) : Int) : Int) else 2 : Int))] [vI (if ¬ (if ¬ r_20 = r_23 then (if r_23 = (-2) then 0 else (if r_20 = (-2) then 1 else (if r_23 ≤ r_20 then 1 else 0 : Int) : Int) : Int) else 2 : Int) = 1 then r_20 else r_23 : Int)] M_21 r M' := by
                          exact r_iret dX11_copies_167 rfl (.inl rfl) h.1 h.2
                        refine r_icmp_ne 160 165 dX11_copies_157 rfl rfl (fun c => ?_) (fun c => ?_)
                        · have c_37 := c
                          refine r_iload 167 dX11_copies_165 rfl rfl ?_
                          exact (Ex.at hJ_36 rfl (show [vI r_20] = [vI (if ¬ (if ¬ r_20 = r_23 then (if r_23 = (-2) then 0 else (if r_20 = (-2) then 1 else (if r_23 ≤ r_20 then 1 else 0 : Int) : Int) : Int) else 2 : Int) = 1 then r_20 else r_23 : Int)] by simp only [if_pos c_37]) rfl)
                        · have c_37 := c
                          refine r_iload 162 dX11_copies_160 rfl rfl ?_
                          refine r_goto 167 dX11_copies_162 rfl ?_
                          exact (Ex.at hJ_36 rfl (show [vI r_23] = [vI (if ¬ (if ¬ r_20 = r_23 then (if r_23 = (-2) then 0 else (if r_20 = (-2) then 1 else (if r_23 ≤ r_20 then 1 else 0 : Int) : Int) : Int) else 2 : Int) = 1 then r_20 else r_23 : Int)] by simp only [if_neg c_37]) rfl)
                      · have h := h.2 (c)
                        refine r_iload 153 dX11_copies_151 rfl rfl ?_
                        exact r_iret dX11_copies_153 rfl (.inl rfl) h.1 h.2
                    refine r_icmp_ne 112 118 dX11_copies_109 rfl rfl (fun c => ?_) (fun c => ?_)
                    · have c_32 := c
                      refine r_iload 120 dX11_copies_118 rfl rfl ?_
                      refine r_bipush 122 dX11_copies_120 rfl rfl ?_
                      refine r_icmp_eq 125 139 dX11_copies_122 rfl rfl (fun c => ?_) (fun c => ?_)
                      · have c_33 := c
                        refine r_iconst 140 dX11_copies_139 rfl (InR_of rfl) ?_
                        refine r_goto 144 dX11_copies_140 rfl ?_
                        refine r_istore (ls' := [some (vR (some (2, 0))), some (vI x1), some (vI x2), some (vI x3), some (vI x4), some (vI x5), some (vI x6), some (vI x7), some (vR o_3), some (vI r_20), some (vI r_23), some (vI 0)]) 146 dX11_copies_144 rfl rfl rfl rfl ?_
                        exact (Ex.at hJ_31 (show [some (vR (some (2, 0))), some (vI x1), some (vI x2), some (vI x3), some (vI x4), some (vI x5), some (vI x6), some (vI x7), some (vR o_3), some (vI r_20), some (vI r_23), some (vI 0)] = [some (vR (some (2, 0))), some (vI x1), some (vI x2), some (vI x3), some (vI x4), some (vI x5), some (vI x6), some (vI x7), some (vR o_3), some (vI r_20), some (vI r_23), some (vI (if ¬ r_20 = r_23 then (if r_23 = (-2) then 0 else (if r_20 = (-2) then 1 else (if r_23 ≤ r_20 then 1 else 0 : Int) : Int) : Int) else 2 : Int))] by simp only [if_pos c_32, if_pos c_33]) rfl rfl)
                      · have c_33 := c
                        refine r_iload 127 dX11_copies_125 rfl rfl ?_
                        refine r_bipush 129 dX11_copies_127 rfl rfl ?_
                        refine r_icmp_eq 132 143 dX11_copies_129 rfl rfl (fun c => ?_) (fun c => ?_)
                        · have c_34 := c
                          refine r_iconst 144 dX11_copies_143 rfl (InR_of rfl) ?_
                          refine r_istore (ls' := [some (vR (some (2, 0))), some (vI x1), some (vI x2), some (vI x3), some (vI x4), some (vI x5), some (vI x6), some (vI x7), some (vR o_3), some (vI r_20), some (vI r_23), some (vI 1)]) 146 dX11_copies_144 rfl rfl rfl rfl ?_
                          exact (Ex.at hJ_31 (show [some (vR (some (2, 0))), some (vI x1), some (vI x2), some (vI x3), some (vI x4), some (vI x5), some (vI x6), some (vI x7), some (vR o_3), some (vI r_20), some (vI r_23), some (vI 1)] = [some (vR (some (2, 0))), some (vI x1), some (vI x2), some (vI x3), some (vI x4), some (vI x5), some (vI x6), some (vI x7), some (vR o_3), some (vI r_20), some (vI r_23), some (vI (if ¬ r_20 = r_23 then (if r_23 = (-2) then 0 else (if r_20 = (-2) then 1 else (if r_23 ≤ r_20 then 1 else 0 : Int) : Int) : Int) else 2 : Int))] by simp only [if_pos c_32, if_neg c_33, if_pos c_34]) rfl rfl)
                        · have c_34 := c
                          refine r_iload 134 dX11_copies_132 rfl rfl ?_
                          refine r_iload 136 dX11_copies_134 rfl rfl ?_
                          refine r_icmp_ge 139 143 dX11_copies_136 rfl rfl (fun c => ?_) (fun c => ?_)
                          · have c_35 := c
                            refine r_iconst 144 dX11_copies_143 rfl (InR_of rfl) ?_
                            refine r_istore (ls' := [some (vR (some (2, 0))), some (vI x1), some (vI x2), some (vI x3), some (vI x4), some (vI x5), some (vI x6), some (vI x7), some (vR o_3), some (vI r_20), some (vI r_23), some (vI 1)]) 146 dX11_copies_144 rfl rfl rfl rfl ?_
                            exact (Ex.at hJ_31 (show [some (vR (some (2, 0))), some (vI x1), some (vI x2), some (vI x3), some (vI x4), some (vI x5), some (vI x6), some (vI x7), some (vR o_3), some (vI r_20), some (vI r_23), some (vI 1)] = [some (vR (some (2, 0))), some (vI x1), some (vI x2), some (vI x3), some (vI x4), some (vI x5), some (vI x6), some (vI x7), some (vR o_3), some (vI r_20), some (vI r_23), some (vI (if ¬ r_20 = r_23 then (if r_23 = (-2) then 0 else (if r_20 = (-2) then 1 else (if r_23 ≤ r_20 then 1 else 0 : Int) : Int) : Int) else 2 : Int))] by simp only [if_pos c_32, if_neg c_33, if_neg c_34, if_pos c_35]) rfl rfl)
                          · have c_35 := c
                            refine r_iconst 140 dX11_copies_139 rfl (InR_of rfl) ?_
                            refine r_goto 144 dX11_copies_140 rfl ?_
                            refine r_istore (ls' := [some (vR (some (2, 0))), some (vI x1), some (vI x2), some (vI x3), some (vI x4), some (vI x5), some (vI x6), some (vI x7), some (vR o_3), some (vI r_20), some (vI r_23), some (vI 0)]) 146 dX11_copies_144 rfl rfl rfl rfl ?_
                            exact (Ex.at hJ_31 (show [some (vR (some (2, 0))), some (vI x1), some (vI x2), some (vI x3), some (vI x4), some (vI x5), some (vI x6), some (vI x7), some (vR o_3), some (vI r_20), some (vI r_23), some (vI 0)] = [some (vR (some (2, 0))), some (vI x1), some (vI x2), some (vI x3), some (vI x4), some (vI x5), some (vI x6), some (vI x7), some (vR o_3), some (vI r_20), some (vI r_23), some (vI (if ¬ r_20 = r_23 then (if r_23 = (-2) then 0 else (if r_20 = (-2) then 1 else (if r_23 ≤ r_20 then 1 else 0 : Int) : Int) : Int) else 2 : Int))] by simp only [if_pos c_32, if_neg c_33, if_neg c_34, if_neg c_35]) rfl rfl)
                    · have c_32 := c
                      refine r_iconst 113 dX11_copies_112 rfl (InR_of rfl) ?_
                      refine r_istore (ls' := [some (vR (some (2, 0))), some (vI x1), some (vI x2), some (vI x3), some (vI x4), some (vI x5), some (vI x6), some (vI x7), some (vR o_3), some (vI r_20), some (vI r_23), some (vI 2)]) 115 dX11_copies_113 rfl rfl rfl rfl ?_
                      refine r_goto 146 dX11_copies_115 rfl ?_
                      exact (Ex.at hJ_31 (show [some (vR (some (2, 0))), some (vI x1), some (vI x2), some (vI x3), some (vI x4), some (vI x5), some (vI x6), some (vI x7), some (vR o_3), some (vI r_20), some (vI r_23), some (vI 2)] = [some (vR (some (2, 0))), some (vI x1), some (vI x2), some (vI x3), some (vI x4), some (vI x5), some (vI x6), some (vI x7), some (vR o_3), some (vI r_20), some (vI r_23), some (vI (if ¬ r_20 = r_23 then (if r_23 = (-2) then 0 else (if r_20 = (-2) then 1 else (if r_23 ≤ r_20 then 1 else 0 : Int) : Int) : Int) else 2 : Int))] by simp only [if_neg c_32]) rfl rfl)
                  · have h := h.2 (c)
                    refine r_bipush 104 dX11_copies_102 rfl rfl ?_
                    exact r_iret dX11_copies_104 rfl (.inl rfl) h.1 h.2
              · have h := h.2 (c)
                refine r_iconst 59 dX11_copies_58 rfl (InR_of rfl) ?_
                exact r_iret dX11_copies_59 rfl (.inl rfl) h.1 h.2
        · have h := h.2 (c)
          refine r_iconst 38 dX11_copies_37 rfl (InR_of rfl) ?_
          exact r_iret dX11_copies_38 rfl (.inl rfl) h.1 h.2

set_option maxRecDepth 4000 in
theorem xX11_often_0 {l : Launch} {G : Gt} {d : Nat} {M M' : Mem} {r : Option Vl}  (h : 
    (∀ M_1 : Mem, newM M 19 12 12 = M_1 → Ex l G (d + 1) mX11_often 7 [some (vR (some (2, 0))), some (vR (some (19, cCnt M.2.2 19))), some (vI 0), none] [] M_1 r M')) : Cl l G (d + 1) mX11_often [vR (some (2, 0))] M r M' := by
  show Ex l G (d + 1) mX11_often 0 [some (vR (some (2, 0))), none, none, none] [] M r M'
  refine r_bipush 2 dX11_often_0 rfl rfl ?_
  refine r_newa (f := 19) (k := 1) (n := 12) 4 dX11_often_2 rfl rfl rfl (by decide) (inT1 (List.mem_of_getElem? (i := 104) rfl) rfl) rfl (by decide) (.inl rfl) ?_
  generalize hM_1 : newM M 19 12 12 = M_1
  have h := h M_1 hM_1
  refine r_astore_n (ls' := [some (vR (some (2, 0))), some (vR (some (19, cCnt M.2.2 19))), none, none]) 5 dX11_often_4 rfl rfl rfl rfl ?_
  refine r_iconst 6 dX11_often_5 rfl (InR_of rfl) ?_
  refine r_istore_n (ls' := [some (vR (some (2, 0))), some (vR (some (19, cCnt M.2.2 19))), some (vI 0), none]) 7 dX11_often_6 rfl rfl rfl rfl ?_
  exact h
set_option maxRecDepth 4000 in
theorem xX11_often_7 {l : Launch} {G : Gt} {d : Nat} {M M' : Mem} {r : Option Vl} {k1 : Nat} {x2 : Int} (hS : Sh M.2.1) (h : 
    ((M.1 4 0 8) ≤ x2 → Ex l G (d + 1) mX11_often 57 [some (vR (some (2, 0))), some (vR (some (19, k1))), some (vI (-2)), some (vI 0)] [] M r M') ∧ (¬ ((M.1 4 0 8) ≤ x2) → ((0 ≤ x2 ∧ x2 < 8)) ∧ (∃ k_2 : Nat, (M.2.1 38 0 x2.toNat) = some (5, k_2) ∧ (∃ (r_6 : Int) (M_4 : Mem), Cl l G d mX11_isPerson [vR (some (2, 0)), vI (M.1 5 k_2 8)] M (some (vI r_6)) M_4 ∧ ((r_6 = 0 → (InR (x2 + 1)) ∧ Ex l G (d + 1) mX11_often 7 [some (vR (some (2, 0))), some (vR (some (19, k1))), some (vI (x2 + 1)), none] [] M_4 r M') ∧ (¬ (r_6 = 0) → ((0 ≤ (M.1 5 k_2 8) ∧ (M.1 5 k_2 8) < 12) ∧ InR ((M_4.1 19 k1 (M.1 5 k_2 8).toNat) + 1) ∧ (0 ≤ (M.1 5 k_2 8) ∧ (M.1 5 k_2 8) < 12) ∧ InR (x2 + 1)) ∧ Ex l G (d + 1) mX11_often 7 [some (vR (some (2, 0))), some (vR (some (19, k1))), some (vI (x2 + 1)), none] [] ((upI M_4.1 19 k1 (M.1 5 k_2 8).toNat ((M_4.1 19 k1 (M.1 5 k_2 8).toNat) + 1)), M_4.2.1, M_4.2.2) r M')))))) : Ex l G (d + 1) mX11_often 7 [some (vR (some (2, 0))), some (vR (some (19, k1))), some (vI x2), none] [] M r M' := by
  refine r_iload_n 8 dX11_often_7 rfl rfl ?_
  refine r_aload_n 9 dX11_often_8 rfl rfl ?_
  refine g_R 12 dX11_often_9 rfl rfl rfl fr_11_12 (sh_11_0 hS) ?_
  refine g_I 15 dX11_often_12 rfl rfl rfl fi_11_218 rfl ?_
  refine r_icmp_ge 18 52 dX11_often_15 rfl rfl (fun c => ?_) (fun c => ?_)
  · have h := h.1 (c)
    refine r_bipush 54 dX11_often_52 rfl rfl ?_
    refine r_istore_n (ls' := [some (vR (some (2, 0))), some (vR (some (19, k1))), some (vI (-2)), none]) 55 dX11_often_54 rfl rfl rfl rfl ?_
    refine r_iconst 56 dX11_often_55 rfl (InR_of rfl) ?_
    refine r_istore_n (ls' := [some (vR (some (2, 0))), some (vR (some (19, k1))), some (vI (-2)), some (vI 0)]) 57 dX11_often_56 rfl rfl rfl rfl ?_
    exact h
  · have h := h.2 (c)
    obtain ⟨o_1, h⟩ := h
    refine r_aload_n 19 dX11_often_18 rfl rfl ?_
    refine g_R 22 dX11_often_19 rfl rfl rfl fr_11_12 (sh_11_0 hS) ?_
    refine g_R 25 dX11_often_22 rfl rfl rfl fr_11_221 (sh_8_9 hS _) ?_
    refine r_iload_n 26 dX11_often_25 rfl rfl ?_
    refine a_R (ci := 5) 8 27 dX11_often_26 rfl rfl rfl rfl rfl o_1 rfl ?_
    obtain ⟨k_2, e_3, h⟩ := h
    refine g_I 30 dX11_often_27 rfl e_3 rfl fi_11_246 rfl ?_
    refine r_istore_n (ls' := [some (vR (some (2, 0))), some (vR (some (19, k1))), some (vI x2), some (vI (M.1 5 k_2 8))]) 31 dX11_often_30 rfl rfl rfl rfl ?_
    refine r_aload_n 32 dX11_often_31 rfl rfl ?_
    refine r_iload_n 33 dX11_often_32 rfl rfl ?_
    obtain ⟨r_6, M_4, hc_5, h⟩ := h
    refine v_1 (ci := 11) (C := (RX11, TX11, 14)) [vI (M.1 5 k_2 8)] [] 36 dX11_often_33 rfl rfl rfl rfl rfl mo_X11_isPerson ml_11_121 rfl rfl hc_5 ?_
    refine r_if_eq 39 46 dX11_often_36 rfl rfl (fun c => ?_) (fun c => ?_)
    · have h := h.1 (c)
      obtain ⟨o_7, h⟩ := h
      refine r_iinc (ls' := [some (vR (some (2, 0))), some (vR (some (19, k1))), some (vI (x2 + 1)), some (vI (M.1 5 k_2 8))]) 49 dX11_often_46 rfl rfl rfl rfl o_7 rfl ?_
      refine r_goto 7 dX11_often_49 rfl ?_
      exact Ex.weak h ⟨rfl, rfl, rfl, trivial⟩
    · have h := h.2 (c)
      obtain ⟨⟨o_8, o_9, o_10, o_11⟩, h⟩ := h
      refine r_aload_n 40 dX11_often_39 rfl rfl ?_
      refine r_iload_n 41 dX11_often_40 rfl rfl ?_
      refine r_dup2 42 dX11_often_41 rfl rfl ?_
      refine a_I 12 43 dX11_often_42 rfl rfl rfl rfl o_8 rfl ?_
      refine r_iconst 44 dX11_often_43 rfl (InR_of rfl) ?_
      refine r_iadd 45 dX11_often_44 rfl o_9 ?_
      refine s_I 12 46 dX11_often_45 rfl rfl (by decide) rfl rfl o_10 ?_
      refine r_iinc (ls' := [some (vR (some (2, 0))), some (vR (some (19, k1))), some (vI (x2 + 1)), some (vI (M.1 5 k_2 8))]) 49 dX11_often_46 rfl rfl rfl rfl o_11 rfl ?_
      refine r_goto 7 dX11_often_49 rfl ?_
      exact Ex.weak h ⟨rfl, rfl, rfl, trivial⟩
set_option maxRecDepth 4000 in
theorem xX11_often_57 {l : Launch} {G : Gt} {d : Nat} {M M' : Mem} {r : Option Vl} {k1 : Nat} {x2 : Int} {x3 : Int} (hS : Sh M.2.1) (h : 
    ((M.1 4 0 0) ≤ x3 → r = some (vI x2) ∧ M' = M) ∧ (¬ ((M.1 4 0 0) ≤ x3) → ((0 ≤ x3 ∧ x3 < 12)) ∧ (((¬ x2 = (-2) → ((0 ≤ x2 ∧ x2 < 12)))) ∧ (InR (x3 + 1)) ∧ Ex l G (d + 1) mX11_often 57 [some (vR (some (2, 0))), some (vR (some (19, k1))), some (vI (if (M.1 19 k1 x3.toNat) ≤ (if ¬ x2 = (-2) then (M.1 19 k1 x2.toNat) else 0 : Int) then x2 else x3 : Int)), some (vI (x3 + 1))] [] M r M'))) : Ex l G (d + 1) mX11_often 57 [some (vR (some (2, 0))), some (vR (some (19, k1))), some (vI x2), some (vI x3)] [] M r M' := by
  refine r_iload_n 58 dX11_often_57 rfl rfl ?_
  refine r_aload_n 59 dX11_often_58 rfl rfl ?_
  refine g_R 62 dX11_often_59 rfl rfl rfl fr_11_12 (sh_11_0 hS) ?_
  refine g_I 65 dX11_often_62 rfl rfl rfl fi_11_105 rfl ?_
  refine r_icmp_ge 68 95 dX11_often_65 rfl rfl (fun c => ?_) (fun c => ?_)
  · have h := h.1 (c)
    refine r_iload_n 96 dX11_often_95 rfl rfl ?_
    exact r_iret dX11_often_96 rfl (.inl rfl) h.1 h.2
  · have h := h.2 (c)
    obtain ⟨o_1, h⟩ := h
    refine r_aload_n 69 dX11_often_68 rfl rfl ?_
    refine r_iload_n 70 dX11_often_69 rfl rfl ?_
    refine a_I 12 71 dX11_often_70 rfl rfl rfl rfl o_1 rfl ?_
    refine r_iload_n 72 dX11_often_71 rfl rfl ?_
    refine r_bipush 74 dX11_often_72 rfl rfl ?_
    obtain ⟨h0, h⟩ := h
    have hJ_2 : Ex l G (d + 1) mX11_often 84 [some (vR (some (2, 0))), some (vR (some (19, k1))), some (vI x2), some (vI x3)] [vI (if ¬ x2 = (-2) then (M.1 19 k1 x2.toNat) else 0 : Int), vI (M.1 19 k1 x3.toNat)] M r M' := by
      have hJ_5 : Ex l G (d + 1) mX11_often 89 [some (vR (some (2, 0))), some (vR (some (19, k1))), some (vI (if (M.1 19 k1 x3.toNat) ≤ (if ¬ x2 = (-2) then (M.1 19 k1 x2.toNat) else 0 : Int) then x2 else x3 : Int)), some (vI x3)] [] M r M' := by
        obtain ⟨o_7, h⟩ := h
        refine r_iinc (ls' := [some (vR (some (2, 0))), some (vR (some (19, k1))), some (vI (if (M.1 19 k1 x3.toNat) ≤ (if ¬ x2 = (-2) then (M.1 19 k1 x2.toNat) else 0 : Int) then x2 else x3 : Int)), some (vI (x3 + 1))]) 92 dX11_often_89 rfl rfl rfl rfl o_7 rfl ?_
        refine r_goto 57 dX11_often_92 rfl ?_
        exact h
      refine r_icmp_le 87 89 dX11_often_84 rfl rfl (fun c => ?_) (fun c => ?_)
      · have c_6 := c
        exact (Ex.at hJ_5 (show [some (vR (some (2, 0))), some (vR (some (19, k1))), some (vI x2), some (vI x3)] = [some (vR (some (2, 0))), some (vR (some (19, k1))), some (vI (if (M.1 19 k1 x3.toNat) ≤ (if ¬ x2 = (-2) then (M.1 19 k1 x2.toNat) else 0 : Int) then x2 else x3 : Int)), some (vI x3)] by simp only [if_pos c_6]) rfl rfl)
      · have c_6 := c
        refine r_iload_n 88 dX11_often_87 rfl rfl ?_
        refine r_istore_n (ls' := [some (vR (some (2, 0))), some (vR (some (19, k1))), some (vI x3), some (vI x3)]) 89 dX11_often_88 rfl rfl rfl rfl ?_
        exact (Ex.at hJ_5 (show [some (vR (some (2, 0))), some (vR (some (19, k1))), some (vI x3), some (vI x3)] = [some (vR (some (2, 0))), some (vR (some (19, k1))), some (vI (if (M.1 19 k1 x3.toNat) ≤ (if ¬ x2 = (-2) then (M.1 19 k1 x2.toNat) else 0 : Int) then x2 else x3 : Int)), some (vI x3)] by simp only [if_neg c_6]) rfl rfl)
    have h := h0
    refine r_icmp_ne 77 81 dX11_often_74 rfl rfl (fun c => ?_) (fun c => ?_)
    · have c_3 := c
      have h := h c_3
      have o_4 := h
      refine r_aload_n 82 dX11_often_81 rfl rfl ?_
      refine r_iload_n 83 dX11_often_82 rfl rfl ?_
      refine a_I 12 84 dX11_often_83 rfl rfl rfl rfl o_4 rfl ?_
      exact (Ex.at hJ_2 rfl (show [vI (M.1 19 k1 x2.toNat), vI (M.1 19 k1 x3.toNat)] = [vI (if ¬ x2 = (-2) then (M.1 19 k1 x2.toNat) else 0 : Int), vI (M.1 19 k1 x3.toNat)] by simp only [if_pos c_3]) rfl)
    · have c_3 := c
      refine r_iconst 78 dX11_often_77 rfl (InR_of rfl) ?_
      refine r_goto 84 dX11_often_78 rfl ?_
      exact (Ex.at hJ_2 rfl (show [vI 0, vI (M.1 19 k1 x3.toNat)] = [vI (if ¬ x2 = (-2) then (M.1 19 k1 x2.toNat) else 0 : Int), vI (M.1 19 k1 x3.toNat)] by simp only [if_neg c_3]) rfl)

set_option maxRecDepth 4000 in
theorem xX11_cheapest_0 {l : Launch} {G : Gt} {d : Nat} {M M' : Mem} {r : Option Vl} {x1 : Int} {x2 : Int} {x3 : Int} {x4 : Int} {x5 : Int} (h : 
    ∃ (r_3 : Int) (M_1 : Mem), Cl l G d mX11_areTwo [vR (some (2, 0)), vI x1, vI x2] M (some (vI r_3)) M_1 ∧ ((r_3 = 0 → r = some (vI (-1)) ∧ M' = M_1) ∧ (¬ (r_3 = 0) → ∃ (r_6 : Int) (M_4 : Mem), Cl l G d mX11_isSpan [vI x3, vI x4] M_1 (some (vI r_6)) M_4 ∧ ((r_6 = 0 → r = some (vI (-1)) ∧ M' = M_4) ∧ (¬ (r_6 = 0) → (x5 < 0 → r = some (vI (-1)) ∧ M' = M_4) ∧ (¬ (x5 < 0) → (x5 ≤ 4 → Ex l G (d + 1) mX11_cheapest 40 [some (vR (some (2, 0))), some (vI x1), some (vI x2), some (vI x3), some (vI x4), some (vI x5), some (vI (-1)), some (vI 0), some (vI x3), none, none, none, none] [] M_4 r M') ∧ (¬ (x5 ≤ 4) → r = some (vI (-1)) ∧ M' = M_4))))))) : Cl l G (d + 1) mX11_cheapest [vR (some (2, 0)), vI x1, vI x2, vI x3, vI x4, vI x5] M r M' := by
  show Ex l G (d + 1) mX11_cheapest 0 [some (vR (some (2, 0))), some (vI x1), some (vI x2), some (vI x3), some (vI x4), some (vI x5), none, none, none, none, none, none, none] [] M r M'
  refine r_aload_n 1 dX11_cheapest_0 rfl rfl ?_
  refine r_iload_n 2 dX11_cheapest_1 rfl rfl ?_
  refine r_iload_n 3 dX11_cheapest_2 rfl rfl ?_
  obtain ⟨r_3, M_1, hc_2, h⟩ := h
  refine v_1 (ci := 11) (C := (RX11, TX11, 14)) [vI x1, vI x2] [] 6 dX11_cheapest_3 rfl rfl rfl rfl rfl mo_X11_areTwo ml_11_124 rfl rfl hc_2 ?_
  refine r_if_eq 9 29 dX11_cheapest_6 rfl rfl (fun c => ?_) (fun c => ?_)
  · have h := h.1 (c)
    refine r_iconst 30 dX11_cheapest_29 rfl (InR_of rfl) ?_
    exact r_iret dX11_cheapest_30 rfl (.inl rfl) h.1 h.2
  · have h := h.2 (c)
    refine r_iload_n 10 dX11_cheapest_9 rfl rfl ?_
    refine r_iload 12 dX11_cheapest_10 rfl rfl ?_
    obtain ⟨r_6, M_4, hc_5, h⟩ := h
    refine c_1 [vI x3, vI x4] [] 15 dX11_cheapest_12 rfl rfl mo_X11_isSpan ml_11_310 rfl rfl hc_5 ?_
    refine r_if_eq 18 29 dX11_cheapest_15 rfl rfl (fun c => ?_) (fun c => ?_)
    · have h := h.1 (c)
      refine r_iconst 30 dX11_cheapest_29 rfl (InR_of rfl) ?_
      exact r_iret dX11_cheapest_30 rfl (.inl rfl) h.1 h.2
    · have h := h.2 (c)
      refine r_iload 20 dX11_cheapest_18 rfl rfl ?_
      refine r_if_lt 23 29 dX11_cheapest_20 rfl rfl (fun c => ?_) (fun c => ?_)
      · have h := h.1 (c)
        refine r_iconst 30 dX11_cheapest_29 rfl (InR_of rfl) ?_
        exact r_iret dX11_cheapest_30 rfl (.inl rfl) h.1 h.2
      · have h := h.2 (c)
        refine r_iload 25 dX11_cheapest_23 rfl rfl ?_
        refine r_iconst 26 dX11_cheapest_25 rfl (InR_of rfl) ?_
        refine r_icmp_le 29 31 dX11_cheapest_26 rfl rfl (fun c => ?_) (fun c => ?_)
        · have h := h.1 (c)
          refine r_iconst 32 dX11_cheapest_31 rfl (InR_of rfl) ?_
          refine r_istore (ls' := [some (vR (some (2, 0))), some (vI x1), some (vI x2), some (vI x3), some (vI x4), some (vI x5), some (vI (-1)), none, none, none, none, none, none]) 34 dX11_cheapest_32 rfl rfl rfl rfl ?_
          refine r_iconst 35 dX11_cheapest_34 rfl (InR_of rfl) ?_
          refine r_istore (ls' := [some (vR (some (2, 0))), some (vI x1), some (vI x2), some (vI x3), some (vI x4), some (vI x5), some (vI (-1)), some (vI 0), none, none, none, none, none]) 37 dX11_cheapest_35 rfl rfl rfl rfl ?_
          refine r_iload_n 38 dX11_cheapest_37 rfl rfl ?_
          refine r_istore (ls' := [some (vR (some (2, 0))), some (vI x1), some (vI x2), some (vI x3), some (vI x4), some (vI x5), some (vI (-1)), some (vI 0), some (vI x3), none, none, none, none]) 40 dX11_cheapest_38 rfl rfl rfl rfl ?_
          exact h
        · have h := h.2 (c)
          refine r_iconst 30 dX11_cheapest_29 rfl (InR_of rfl) ?_
          exact r_iret dX11_cheapest_30 rfl (.inl rfl) h.1 h.2
set_option maxRecDepth 4000 in
theorem xX11_cheapest_40 {l : Launch} {G : Gt} {d : Nat} {M M' : Mem} {r : Option Vl} {x1 : Int} {x2 : Int} {x3 : Int} {x4 : Int} {x5 : Int} {x6 : Int} {x7 : Int} {x8 : Int} (hS : Sh M.2.1) (h : 
    (x4 < x8 → ∃ (M_1 : Mem), Cl l G d mX4_clear [vR (some (11, 0))] M none M_1 ∧ Ex l G (d + 1) mX11_cheapest 119 [some (vR (some (2, 0))), some (vI x1), some (vI x2), some (vI x3), some (vI x4), some (vI x5), some (vI x6), some (vI x7), some (vI 65535), some (vI (aAnd (aOr x6 (aXor x7 (-1))) 65535)), some (vI (aAnd (aAnd (aOr x6 (aXor x7 (-1))) 65535) (aXor x7 (-1)))), some (vI x3), none] [] M_1 r M') ∧ (¬ (x4 < x8) → ∃ (k_5 : Nat) (M_3 : Mem), Cl l G d mX6_on [vR (some (6, 0)), vI x8] M (some (vR (some (14, k_5)))) M_3 ∧ (∃ (r_8 : Int) (M_6 : Mem), Cl l G d mX7_wordsOf [vR (some (14, k_5)), vI x2, vI x1] M_3 (some (vI r_8)) M_6 ∧ (InR (x8 + 1)) ∧ Ex l G (d + 1) mX11_cheapest 40 [some (vR (some (2, 0))), some (vI x1), some (vI x2), some (vI x3), some (vI x4), some (vI x5), some (vI (aAnd x6 r_8)), some (vI (aOr x7 r_8)), some (vI (x8 + 1)), none, none, none, none] [] M_6 r M'))) : Ex l G (d + 1) mX11_cheapest 40 [some (vR (some (2, 0))), some (vI x1), some (vI x2), some (vI x3), some (vI x4), some (vI x5), some (vI x6), some (vI x7), some (vI x8), none, none, none, none] [] M r M' := by
  refine r_iload 42 dX11_cheapest_40 rfl rfl ?_
  refine r_iload 44 dX11_cheapest_42 rfl rfl ?_
  refine r_icmp_gt 47 83 dX11_cheapest_44 rfl rfl (fun c => ?_) (fun c => ?_)
  · have h := h.1 (c)
    refine r_ldcw (n := 65535) 86 dX11_cheapest_83 rfl (inT5 (List.mem_of_getElem? (i := 16) rfl) rfl) (by decide +kernel) (InR_of rfl) ?_
    refine r_istore (ls' := [some (vR (some (2, 0))), some (vI x1), some (vI x2), some (vI x3), some (vI x4), some (vI x5), some (vI x6), some (vI x7), some (vI 65535), none, none, none, none]) 88 dX11_cheapest_86 rfl rfl rfl rfl ?_
    refine r_iload 90 dX11_cheapest_88 rfl rfl ?_
    refine r_iload 92 dX11_cheapest_90 rfl rfl ?_
    refine r_iconst 93 dX11_cheapest_92 rfl (InR_of rfl) ?_
    refine r_ixor 94 dX11_cheapest_93 rfl ?_
    refine r_ior 95 dX11_cheapest_94 rfl ?_
    refine r_iload 97 dX11_cheapest_95 rfl rfl ?_
    refine r_iand 98 dX11_cheapest_97 rfl ?_
    refine r_istore (ls' := [some (vR (some (2, 0))), some (vI x1), some (vI x2), some (vI x3), some (vI x4), some (vI x5), some (vI x6), some (vI x7), some (vI 65535), some (vI (aAnd (aOr x6 (aXor x7 (-1))) 65535)), none, none, none]) 100 dX11_cheapest_98 rfl rfl rfl rfl ?_
    refine r_iload 102 dX11_cheapest_100 rfl rfl ?_
    refine r_iload 104 dX11_cheapest_102 rfl rfl ?_
    refine r_iconst 105 dX11_cheapest_104 rfl (InR_of rfl) ?_
    refine r_ixor 106 dX11_cheapest_105 rfl ?_
    refine r_iand 107 dX11_cheapest_106 rfl ?_
    refine r_istore (ls' := [some (vR (some (2, 0))), some (vI x1), some (vI x2), some (vI x3), some (vI x4), some (vI x5), some (vI x6), some (vI x7), some (vI 65535), some (vI (aAnd (aOr x6 (aXor x7 (-1))) 65535)), some (vI (aAnd (aAnd (aOr x6 (aXor x7 (-1))) 65535) (aXor x7 (-1)))), none, none]) 109 dX11_cheapest_107 rfl rfl rfl rfl ?_
    refine r_aload_n 110 dX11_cheapest_109 rfl rfl ?_
    refine g_R 113 dX11_cheapest_110 rfl rfl rfl fr_11_58 (sh_11_6 hS) ?_
    obtain ⟨M_1, hc_2, h⟩ := h
    refine v_0 (ci := 4) (C := (RX4, TX4, 8)) [] [] 116 dX11_cheapest_113 rfl rfl rfl rfl rfl mo_X4_clear ml_11_317 rfl rfl hc_2 ?_
    refine r_iload_n 117 dX11_cheapest_116 rfl rfl ?_
    refine r_istore (ls' := [some (vR (some (2, 0))), some (vI x1), some (vI x2), some (vI x3), some (vI x4), some (vI x5), some (vI x6), some (vI x7), some (vI 65535), some (vI (aAnd (aOr x6 (aXor x7 (-1))) 65535)), some (vI (aAnd (aAnd (aOr x6 (aXor x7 (-1))) 65535) (aXor x7 (-1)))), some (vI x3), none]) 119 dX11_cheapest_117 rfl rfl rfl rfl ?_
    exact h
  · have h := h.2 (c)
    refine r_aload_n 48 dX11_cheapest_47 rfl rfl ?_
    refine g_R 51 dX11_cheapest_48 rfl rfl rfl fr_11_21 (sh_11_1 hS) ?_
    refine r_iload 53 dX11_cheapest_51 rfl rfl ?_
    obtain ⟨k_5, M_3, hc_4, h⟩ := h
    refine v_1 (ci := 6) (C := (RX6, TX6, 3)) [vI x8] [] 56 dX11_cheapest_53 rfl rfl rfl rfl rfl mo_X6_on ml_11_158 rfl rfl hc_4 ?_
    refine r_iload_n 57 dX11_cheapest_56 rfl rfl ?_
    refine r_iload_n 58 dX11_cheapest_57 rfl rfl ?_
    obtain ⟨r_8, M_6, hc_7, h⟩ := h
    refine v_1 (ci := 7) (C := (RX7, TX7, 5)) [vI x2, vI x1] [] 61 dX11_cheapest_58 rfl rfl rfl rfl rfl mo_X7_wordsOf ml_11_313 rfl rfl hc_7 ?_
    obtain ⟨o_9, h⟩ := h
    refine r_istore (ls' := [some (vR (some (2, 0))), some (vI x1), some (vI x2), some (vI x3), some (vI x4), some (vI x5), some (vI x6), some (vI x7), some (vI x8), some (vI r_8), none, none, none]) 63 dX11_cheapest_61 rfl rfl rfl rfl ?_
    refine r_iload 65 dX11_cheapest_63 rfl rfl ?_
    refine r_iload 67 dX11_cheapest_65 rfl rfl ?_
    refine r_iand 68 dX11_cheapest_67 rfl ?_
    refine r_istore (ls' := [some (vR (some (2, 0))), some (vI x1), some (vI x2), some (vI x3), some (vI x4), some (vI x5), some (vI (aAnd x6 r_8)), some (vI x7), some (vI x8), some (vI r_8), none, none, none]) 70 dX11_cheapest_68 rfl rfl rfl rfl ?_
    refine r_iload 72 dX11_cheapest_70 rfl rfl ?_
    refine r_iload 74 dX11_cheapest_72 rfl rfl ?_
    refine r_ior 75 dX11_cheapest_74 rfl ?_
    refine r_istore (ls' := [some (vR (some (2, 0))), some (vI x1), some (vI x2), some (vI x3), some (vI x4), some (vI x5), some (vI (aAnd x6 r_8)), some (vI (aOr x7 r_8)), some (vI x8), some (vI r_8), none, none, none]) 77 dX11_cheapest_75 rfl rfl rfl rfl ?_
    refine r_iinc (ls' := [some (vR (some (2, 0))), some (vI x1), some (vI x2), some (vI x3), some (vI x4), some (vI x5), some (vI (aAnd x6 r_8)), some (vI (aOr x7 r_8)), some (vI (x8 + 1)), some (vI r_8), none, none, none]) 80 dX11_cheapest_77 rfl rfl rfl rfl o_9 rfl ?_
    refine r_goto 40 dX11_cheapest_80 rfl ?_
    exact Ex.weak h ⟨rfl, rfl, rfl, rfl, rfl, rfl, rfl, rfl, rfl, trivial⟩
set_option maxRecDepth 4000 in
theorem xX11_cheapest_119 {l : Launch} {G : Gt} {d : Nat} {M M' : Mem} {r : Option Vl} {x1 : Int} {x2 : Int} {x3 : Int} {x4 : Int} {x5 : Int} {x6 : Int} {x7 : Int} {x8 : Int} {x9 : Int} {x10 : Int} {x11 : Int} (hS : Sh M.2.1) (h : 
    (x4 < x11 → (x5 ≤ 2 → Ex l G (d + 1) mX11_cheapest 194 [some (vR (some (2, 0))), some (vI x1), some (vI x2), some (vI x3), some (vI x4), some (vI x5), some (vI x6), some (vI x7), some (vI x8), some (vI x9), some (vI x10), some (vI 0), none] [] M r M') ∧ (¬ (x5 ≤ 2) → r = some (vI (-2)) ∧ M' = M)) ∧ (¬ (x4 < x11) → ∃ (k_3 : Nat) (M_1 : Mem), Cl l G d mX6_on [vR (some (6, 0)), vI x11] M (some (vR (some (14, k_3)))) M_1 ∧ (∃ (r_6 : Int) (M_4 : Mem), Cl l G d mX11_addUnlikeWords [vR (some (2, 0)), vR (some (14, k_3)), vI x1, vI x2, vI x9] M_1 (some (vI r_6)) M_4 ∧ ((r_6 = (-1) → (InR (x11 + 1)) ∧ Ex l G (d + 1) mX11_cheapest 119 [some (vR (some (2, 0))), some (vI x1), some (vI x2), some (vI x3), some (vI x4), some (vI x5), some (vI x6), some (vI x7), some (vI x8), some (vI x9), some (vI x10), some (vI (x11 + 1)), none] [] M_4 r M') ∧ (¬ (r_6 = (-1)) → r = some (vI (if ¬ x5 = 3 then (if ¬ x5 = 4 then (-2) else r_6 : Int) else x11 : Int)) ∧ M' = M_4))))) : Ex l G (d + 1) mX11_cheapest 119 [some (vR (some (2, 0))), some (vI x1), some (vI x2), some (vI x3), some (vI x4), some (vI x5), some (vI x6), some (vI x7), some (vI x8), some (vI x9), some (vI x10), some (vI x11), none] [] M r M' := by
  refine r_iload 121 dX11_cheapest_119 rfl rfl ?_
  refine r_iload 123 dX11_cheapest_121 rfl rfl ?_
  refine r_icmp_gt 126 182 dX11_cheapest_123 rfl rfl (fun c => ?_) (fun c => ?_)
  · have h := h.1 (c)
    refine r_iload 184 dX11_cheapest_182 rfl rfl ?_
    refine r_iconst 185 dX11_cheapest_184 rfl (InR_of rfl) ?_
    refine r_icmp_le 188 191 dX11_cheapest_185 rfl rfl (fun c => ?_) (fun c => ?_)
    · have h := h.1 (c)
      refine r_iconst 192 dX11_cheapest_191 rfl (InR_of rfl) ?_
      refine r_istore (ls' := [some (vR (some (2, 0))), some (vI x1), some (vI x2), some (vI x3), some (vI x4), some (vI x5), some (vI x6), some (vI x7), some (vI x8), some (vI x9), some (vI x10), some (vI 0), none]) 194 dX11_cheapest_192 rfl rfl rfl rfl ?_
      exact h
    · have h := h.2 (c)
      refine r_bipush 190 dX11_cheapest_188 rfl rfl ?_
      exact r_iret dX11_cheapest_190 rfl (.inl rfl) h.1 h.2
  · have h := h.2 (c)
    refine r_aload_n 127 dX11_cheapest_126 rfl rfl ?_
    refine r_aload_n 128 dX11_cheapest_127 rfl rfl ?_
    refine g_R 131 dX11_cheapest_128 rfl rfl rfl fr_11_21 (sh_11_1 hS) ?_
    refine r_iload 133 dX11_cheapest_131 rfl rfl ?_
    obtain ⟨k_3, M_1, hc_2, h⟩ := h
    refine v_1 (ci := 6) (C := (RX6, TX6, 3)) [vI x11] [vR (some (2, 0))] 136 dX11_cheapest_133 rfl rfl rfl rfl rfl mo_X6_on ml_11_158 rfl rfl hc_2 ?_
    refine r_iload_n 137 dX11_cheapest_136 rfl rfl ?_
    refine r_iload_n 138 dX11_cheapest_137 rfl rfl ?_
    refine r_iload 140 dX11_cheapest_138 rfl rfl ?_
    obtain ⟨r_6, M_4, hc_5, h⟩ := h
    refine v_1 (ci := 11) (C := (RX11, TX11, 14)) [vR (some (14, k_3)), vI x1, vI x2, vI x9] [] 143 dX11_cheapest_140 rfl rfl rfl rfl rfl mo_X11_addUnlikeWords ml_11_320 rfl rfl hc_5 ?_
    refine r_istore (ls' := [some (vR (some (2, 0))), some (vI x1), some (vI x2), some (vI x3), some (vI x4), some (vI x5), some (vI x6), some (vI x7), some (vI x8), some (vI x9), some (vI x10), some (vI x11), some (vI r_6)]) 145 dX11_cheapest_143 rfl rfl rfl rfl ?_
    refine r_iload 147 dX11_cheapest_145 rfl rfl ?_
    refine r_iconst 148 dX11_cheapest_147 rfl (InR_of rfl) ?_
    refine r_icmp_eq 151 176 dX11_cheapest_148 rfl rfl (fun c => ?_) (fun c => ?_)
    · have h := h.1 (c)
      obtain ⟨o_7, h⟩ := h
      refine r_iinc (ls' := [some (vR (some (2, 0))), some (vI x1), some (vI x2), some (vI x3), some (vI x4), some (vI x5), some (vI x6), some (vI x7), some (vI x8), some (vI x9), some (vI x10), some (vI (x11 + 1)), some (vI r_6)]) 179 dX11_cheapest_176 rfl rfl rfl rfl o_7 rfl ?_
      refine r_goto 119 dX11_cheapest_179 rfl ?_
      exact Ex.weak h ⟨rfl, rfl, rfl, rfl, rfl, rfl, rfl, rfl, rfl, rfl, rfl, rfl, trivial⟩
    · have h := h.2 (c)
      refine r_iload 153 dX11_cheapest_151 rfl rfl ?_
      refine r_iconst 154 dX11_cheapest_153 rfl (InR_of rfl) ?_
      have hJ_8 : Ex l G (d + 1) mX11_cheapest 175 [some (vR (some (2, 0))), some (vI x1), some (vI x2), some (vI x3), some (vI x4), some (vI x5), some (vI x6), some (vI x7), some (vI x8), some (vI x9), some (vI x10), some (vI x11), some (vI r_6)] [vI (if ¬ x5 = 3 then (if ¬ x5 = 4 then (-2) else r_6 : Int) else x11 : Int)] M_4 r M' := by
        exact r_iret dX11_cheapest_175 rfl (.inl rfl) h.1 h.2
      refine r_icmp_ne 157 162 dX11_cheapest_154 rfl rfl (fun c => ?_) (fun c => ?_)
      · have c_9 := c
        refine r_iload 164 dX11_cheapest_162 rfl rfl ?_
        refine r_iconst 165 dX11_cheapest_164 rfl (InR_of rfl) ?_
        refine r_icmp_ne 168 173 dX11_cheapest_165 rfl rfl (fun c => ?_) (fun c => ?_)
        · have c_10 := c
          refine r_bipush 175 dX11_cheapest_173 rfl rfl ?_
          exact (Ex.at hJ_8 rfl (show [vI (-2)] = [vI (if ¬ x5 = 3 then (if ¬ x5 = 4 then (-2) else r_6 : Int) else x11 : Int)] by simp only [if_pos c_9, if_pos c_10]) rfl)
        · have c_10 := c
          refine r_iload 170 dX11_cheapest_168 rfl rfl ?_
          refine r_goto 175 dX11_cheapest_170 rfl ?_
          exact (Ex.at hJ_8 rfl (show [vI r_6] = [vI (if ¬ x5 = 3 then (if ¬ x5 = 4 then (-2) else r_6 : Int) else x11 : Int)] by simp only [if_pos c_9, if_neg c_10]) rfl)
      · have c_9 := c
        refine r_iload 159 dX11_cheapest_157 rfl rfl ?_
        refine r_goto 175 dX11_cheapest_159 rfl ?_
        exact (Ex.at hJ_8 rfl (show [vI x11] = [vI (if ¬ x5 = 3 then (if ¬ x5 = 4 then (-2) else r_6 : Int) else x11 : Int)] by simp only [if_neg c_9]) rfl)
set_option maxRecDepth 4000 in
theorem xX11_cheapest_194 {l : Launch} {G : Gt} {d : Nat} {M M' : Mem} {r : Option Vl} {x1 : Int} {x2 : Int} {x3 : Int} {x4 : Int} {x5 : Int} {x6 : Int} {x7 : Int} {x8 : Int} {x9 : Int} {x10 : Int} {x11 : Int} (hS : Sh M.2.1) (h : 
    (16 ≤ x11 → ∃ (M_1 : Mem), Cl l G d mX4_solve [vR (some (11, 0))] M none M_1 ∧ Sh M_1.2.1 ∧ ((¬ x5 = 0 → r = some (vI (if ¬ x5 = 1 then (aAnd (M_1.1 11 0 5) x10) else (M_1.1 11 0 5) : Int)) ∧ M' = M_1) ∧ (¬ (¬ x5 = 0) → r = some (vI (M_1.1 11 0 6)) ∧ M' = M_1))) ∧ (¬ (16 ≤ x11) → ∃ (r_7 : Int) (M_5 : Mem), Cl l G d mX11_hasBit [vI x10, vI x11] M (some (vI r_7)) M_5 ∧ Sh M_5.2.1 ∧ ((0 ≤ x11 ∧ x11 < 17) ∧ InR ((M_5.1 37 0 x11.toNat) + (if r_7 = 0 then 0 else (M_5.1 37 0 16) : Int)) ∧ (0 ≤ x11 ∧ x11 < 16) ∧ InR (x11 + 1)) ∧ Ex l G (d + 1) mX11_cheapest 194 [some (vR (some (2, 0))), some (vI x1), some (vI x2), some (vI x3), some (vI x4), some (vI x5), some (vI x6), some (vI x7), some (vI x8), some (vI x9), some (vI x10), some (vI (x11 + 1)), none] [] ((upI M_5.1 27 0 x11.toNat ((M_5.1 37 0 x11.toNat) + (if r_7 = 0 then 0 else (M_5.1 37 0 16) : Int))), M_5.2.1, M_5.2.2) r M')) : Ex l G (d + 1) mX11_cheapest 194 [some (vR (some (2, 0))), some (vI x1), some (vI x2), some (vI x3), some (vI x4), some (vI x5), some (vI x6), some (vI x7), some (vI x8), some (vI x9), some (vI x10), some (vI x11), none] [] M r M' := by
  refine r_iload 196 dX11_cheapest_194 rfl rfl ?_
  refine r_bipush 198 dX11_cheapest_196 rfl rfl ?_
  refine r_icmp_ge 201 256 dX11_cheapest_198 rfl rfl (fun c => ?_) (fun c => ?_)
  · have h := h.1 (c)
    refine r_aload_n 257 dX11_cheapest_256 rfl rfl ?_
    refine g_R 260 dX11_cheapest_257 rfl rfl rfl fr_11_58 (sh_11_6 hS) ?_
    obtain ⟨M_1, hc_2, hS, h⟩ := h
    refine v_0 (ci := 4) (C := (RX4, TX4, 8)) [] [] 263 dX11_cheapest_260 rfl rfl rfl rfl rfl mo_X4_solve ml_11_327 rfl rfl hc_2 ?_
    refine r_iload 265 dX11_cheapest_263 rfl rfl ?_
    refine r_if_ne 268 276 dX11_cheapest_265 rfl rfl (fun c => ?_) (fun c => ?_)
    · have h := h.1 (c)
      refine r_iload 278 dX11_cheapest_276 rfl rfl ?_
      refine r_iconst 279 dX11_cheapest_278 rfl (InR_of rfl) ?_
      have hJ_3 : Ex l G (d + 1) mX11_cheapest 302 [some (vR (some (2, 0))), some (vI x1), some (vI x2), some (vI x3), some (vI x4), some (vI x5), some (vI x6), some (vI x7), some (vI x8), some (vI x9), some (vI x10), some (vI x11), none] [vI (if ¬ x5 = 1 then (aAnd (M_1.1 11 0 5) x10) else (M_1.1 11 0 5) : Int)] M_1 r M' := by
        exact r_iret dX11_cheapest_302 rfl (.inl rfl) h.1 h.2
      refine r_icmp_ne 282 292 dX11_cheapest_279 rfl rfl (fun c => ?_) (fun c => ?_)
      · have c_4 := c
        refine r_aload_n 293 dX11_cheapest_292 rfl rfl ?_
        refine g_R 296 dX11_cheapest_293 rfl rfl rfl fr_11_58 (sh_11_6 hS) ?_
        refine g_I 299 dX11_cheapest_296 rfl rfl rfl fi_11_333 rfl ?_
        refine r_iload 301 dX11_cheapest_299 rfl rfl ?_
        refine r_iand 302 dX11_cheapest_301 rfl ?_
        exact (Ex.at hJ_3 rfl (show [vI (aAnd (M_1.1 11 0 5) x10)] = [vI (if ¬ x5 = 1 then (aAnd (M_1.1 11 0 5) x10) else (M_1.1 11 0 5) : Int)] by simp only [if_pos c_4]) rfl)
      · have c_4 := c
        refine r_aload_n 283 dX11_cheapest_282 rfl rfl ?_
        refine g_R 286 dX11_cheapest_283 rfl rfl rfl fr_11_58 (sh_11_6 hS) ?_
        refine g_I 289 dX11_cheapest_286 rfl rfl rfl fi_11_333 rfl ?_
        refine r_goto 302 dX11_cheapest_289 rfl ?_
        exact (Ex.at hJ_3 rfl (show [vI (M_1.1 11 0 5)] = [vI (if ¬ x5 = 1 then (aAnd (M_1.1 11 0 5) x10) else (M_1.1 11 0 5) : Int)] by simp only [if_neg c_4]) rfl)
    · have h := h.2 (c)
      refine r_aload_n 269 dX11_cheapest_268 rfl rfl ?_
      refine g_R 272 dX11_cheapest_269 rfl rfl rfl fr_11_58 (sh_11_6 hS) ?_
      refine g_I 275 dX11_cheapest_272 rfl rfl rfl fi_11_330 rfl ?_
      exact r_iret dX11_cheapest_275 rfl (.inl rfl) h.1 h.2
  · have h := h.2 (c)
    refine r_iload 203 dX11_cheapest_201 rfl rfl ?_
    refine r_iload 205 dX11_cheapest_203 rfl rfl ?_
    obtain ⟨r_7, M_5, hc_6, hS, h⟩ := h
    refine c_1 [vI x10, vI x11] [] 208 dX11_cheapest_205 rfl rfl mo_X11_hasBit ml_11_135 rfl rfl hc_6 ?_
    have hJ_8 : Ex l G (d + 1) mX11_cheapest 225 [some (vR (some (2, 0))), some (vI x1), some (vI x2), some (vI x3), some (vI x4), some (vI x5), some (vI x6), some (vI x7), some (vI x8), some (vI x9), some (vI x10), some (vI x11), none] [vI (if r_7 = 0 then 0 else (M_5.1 37 0 16) : Int)] M_5 r M' := by
      obtain ⟨⟨o_10, o_11, o_12, o_13⟩, h⟩ := h
      refine r_istore (ls' := [some (vR (some (2, 0))), some (vI x1), some (vI x2), some (vI x3), some (vI x4), some (vI x5), some (vI x6), some (vI x7), some (vI x8), some (vI x9), some (vI x10), some (vI x11), some (vI (if r_7 = 0 then 0 else (M_5.1 37 0 16) : Int))]) 227 dX11_cheapest_225 rfl rfl rfl rfl ?_
      refine r_aload_n 228 dX11_cheapest_227 rfl rfl ?_
      refine g_R 231 dX11_cheapest_228 rfl rfl rfl fr_11_58 (sh_11_6 hS) ?_
      refine g_R 234 dX11_cheapest_231 rfl rfl rfl fr_11_324 (sh_4_2 hS) ?_
      refine r_iload 236 dX11_cheapest_234 rfl rfl ?_
      refine r_aload_n 237 dX11_cheapest_236 rfl rfl ?_
      refine g_R 240 dX11_cheapest_237 rfl rfl rfl fr_11_12 (sh_11_0 hS) ?_
      refine g_R 243 dX11_cheapest_240 rfl rfl rfl fr_11_138 (sh_8_7 hS _) ?_
      refine r_iload 245 dX11_cheapest_243 rfl rfl ?_
      refine a_I 17 246 dX11_cheapest_245 rfl rfl rfl rfl o_10 rfl ?_
      refine r_iload 248 dX11_cheapest_246 rfl rfl ?_
      refine r_iadd 249 dX11_cheapest_248 rfl o_11 ?_
      refine s_I 16 250 dX11_cheapest_249 rfl rfl (by decide) rfl rfl o_12 ?_
      refine r_iinc (ls' := [some (vR (some (2, 0))), some (vI x1), some (vI x2), some (vI x3), some (vI x4), some (vI x5), some (vI x6), some (vI x7), some (vI x8), some (vI x9), some (vI x10), some (vI (x11 + 1)), some (vI (if r_7 = 0 then 0 else (M_5.1 37 0 16) : Int))]) 253 dX11_cheapest_250 rfl rfl rfl rfl o_13 rfl ?_
      refine r_goto 194 dX11_cheapest_253 rfl ?_
      exact Ex.weak h ⟨rfl, rfl, rfl, rfl, rfl, rfl, rfl, rfl, rfl, rfl, rfl, rfl, trivial⟩
    refine r_if_eq 211 224 dX11_cheapest_208 rfl rfl (fun c => ?_) (fun c => ?_)
    · have c_9 := c
      refine r_iconst 225 dX11_cheapest_224 rfl (InR_of rfl) ?_
      exact (Ex.at hJ_8 rfl (show [vI 0] = [vI (if r_7 = 0 then 0 else (M_5.1 37 0 16) : Int)] by simp only [if_pos c_9]) rfl)
    · have c_9 := c
      refine r_aload_n 212 dX11_cheapest_211 rfl rfl ?_
      refine g_R 215 dX11_cheapest_212 rfl rfl rfl fr_11_12 (sh_11_0 hS) ?_
      refine g_R 218 dX11_cheapest_215 rfl rfl rfl fr_11_138 (sh_8_7 hS _) ?_
      refine r_bipush 220 dX11_cheapest_218 rfl rfl ?_
      refine a_I 17 221 dX11_cheapest_220 rfl rfl rfl rfl ⟨by decide, by decide⟩ rfl ?_
      refine r_goto 225 dX11_cheapest_221 rfl ?_
      exact (Ex.at hJ_8 rfl (show [vI (M_5.1 37 0 16)] = [vI (if r_7 = 0 then 0 else (M_5.1 37 0 16) : Int)] by simp only [if_neg c_9]) rfl)

set_option maxRecDepth 4000 in
theorem xX11_apart_0 {l : Launch} {G : Gt} {d : Nat} {M M' : Mem} {r : Option Vl} {x1 : Int} {x2 : Int} {x3 : Int} (h : 
    ∃ (r_3 : Int) (M_1 : Mem), Cl l G d mX11_isSpan [vI x1, vI x2] M (some (vI r_3)) M_1 ∧ Sh M_1.2.1 ∧ ((r_3 = 0 → r = some (vI (-1)) ∧ M' = M_1) ∧ (¬ (r_3 = 0) → (x3 < 0 → r = some (vI (-1)) ∧ M' = M_1) ∧ (¬ (x3 < 0) → (x3 ≤ 1 → ∃ (M_4 : Mem), Cl l G d mX4_clear [vR (some (11, 0))] M_1 none M_4 ∧ Ex l G (d + 1) mX11_apart 32 [some (vR (some (2, 0))), some (vI x1), some (vI x2), some (vI x3), some (vR none), some (vI x1), none] [] M_4 r M') ∧ (¬ (x3 ≤ 1) → r = some (vI (-1)) ∧ M' = M_1))))) : Cl l G (d + 1) mX11_apart [vR (some (2, 0)), vI x1, vI x2, vI x3] M r M' := by
  show Ex l G (d + 1) mX11_apart 0 [some (vR (some (2, 0))), some (vI x1), some (vI x2), some (vI x3), none, none, none] [] M r M'
  refine r_iload_n 1 dX11_apart_0 rfl rfl ?_
  refine r_iload_n 2 dX11_apart_1 rfl rfl ?_
  obtain ⟨r_3, M_1, hc_2, hS, h⟩ := h
  refine c_1 [vI x1, vI x2] [] 5 dX11_apart_2 rfl rfl mo_X11_isSpan ml_11_310 rfl rfl hc_2 ?_
  refine r_if_eq 8 17 dX11_apart_5 rfl rfl (fun c => ?_) (fun c => ?_)
  · have h := h.1 (c)
    refine r_iconst 18 dX11_apart_17 rfl (InR_of rfl) ?_
    exact r_iret dX11_apart_18 rfl (.inl rfl) h.1 h.2
  · have h := h.2 (c)
    refine r_iload_n 9 dX11_apart_8 rfl rfl ?_
    refine r_if_lt 12 17 dX11_apart_9 rfl rfl (fun c => ?_) (fun c => ?_)
    · have h := h.1 (c)
      refine r_iconst 18 dX11_apart_17 rfl (InR_of rfl) ?_
      exact r_iret dX11_apart_18 rfl (.inl rfl) h.1 h.2
    · have h := h.2 (c)
      refine r_iload_n 13 dX11_apart_12 rfl rfl ?_
      refine r_iconst 14 dX11_apart_13 rfl (InR_of rfl) ?_
      refine r_icmp_le 17 19 dX11_apart_14 rfl rfl (fun c => ?_) (fun c => ?_)
      · have h := h.1 (c)
        refine r_aload_n 20 dX11_apart_19 rfl rfl ?_
        refine g_R 23 dX11_apart_20 rfl rfl rfl fr_11_58 (sh_11_6 hS) ?_
        obtain ⟨M_4, hc_5, h⟩ := h
        refine v_0 (ci := 4) (C := (RX4, TX4, 8)) [] [] 26 dX11_apart_23 rfl rfl rfl rfl rfl mo_X4_clear ml_11_317 rfl rfl hc_5 ?_
        refine r_null 27 dX11_apart_26 rfl ?_
        refine r_astore (ls' := [some (vR (some (2, 0))), some (vI x1), some (vI x2), some (vI x3), some (vR none), none, none]) 29 dX11_apart_27 rfl rfl rfl rfl ?_
        refine r_iload_n 30 dX11_apart_29 rfl rfl ?_
        refine r_istore (ls' := [some (vR (some (2, 0))), some (vI x1), some (vI x2), some (vI x3), some (vR none), some (vI x1), none]) 32 dX11_apart_30 rfl rfl rfl rfl ?_
        exact h
      · have h := h.2 (c)
        refine r_iconst 18 dX11_apart_17 rfl (InR_of rfl) ?_
        exact r_iret dX11_apart_18 rfl (.inl rfl) h.1 h.2
set_option maxRecDepth 4000 in
theorem xX11_apart_32 {l : Launch} {G : Gt} {d : Nat} {M M' : Mem} {r : Option Vl} {x1 : Int} {x2 : Int} {x3 : Int} {o4 : Option Nm} {x5 : Int} (hS : Sh M.2.1) (h : 
    (x2 < x5 → (¬ x3 = 1 → ((M.1 11 0 4) = 0 → ∃ (M_1 : Mem), Cl l G d mJ7_fill_53178 [vR (some (27, 0)), vI 0] M none M_1 ∧ Sh M_1.2.1 ∧ (∃ (M_3 : Mem), Cl l G d mX4_solve [vR (some (11, 0))] M_1 none M_3 ∧ Sh M_3.2.1 ∧ r = some (vI (M_3.1 11 0 5)) ∧ M' = M_3)) ∧ (¬ ((M.1 11 0 4) = 0) → r = some (vI (-2)) ∧ M' = M)) ∧ (¬ (¬ x3 = 1) → r = some (vI (M.1 11 0 3)) ∧ M' = M)) ∧ (¬ (x2 < x5) → ∃ (k_7 : Nat) (M_5 : Mem), Cl l G d mX6_on [vR (some (6, 0)), vI x5] M (some (vR (some (14, k_7)))) M_5 ∧ (((∀ w, o4 = some w → 2 ≤ w.1)) ∧ ((some (14, k_7) = o4 → (InR (x5 + 1)) ∧ Ex l G (d + 1) mX11_apart 32 [some (vR (some (2, 0))), some (vI x1), some (vI x2), some (vI x3), some (vR (some (14, k_7))), some (vI (x5 + 1)), none] [] M_5 r M') ∧ (¬ (some (14, k_7) = o4) → ∃ (M_10 : Mem), Cl l G d mX11_addUnlikeMarks [vR (some (2, 0)), vR (some (14, k_7))] M_5 none M_10 ∧ (InR (x5 + 1)) ∧ Ex l G (d + 1) mX11_apart 32 [some (vR (some (2, 0))), some (vI x1), some (vI x2), some (vI x3), some (vR (some (14, k_7))), some (vI (x5 + 1)), none] [] M_10 r M'))))) : Ex l G (d + 1) mX11_apart 32 [some (vR (some (2, 0))), some (vI x1), some (vI x2), some (vI x3), some (vR o4), some (vI x5), none] [] M r M' := by
  refine r_iload 34 dX11_apart_32 rfl rfl ?_
  refine r_iload_n 35 dX11_apart_34 rfl rfl ?_
  refine r_icmp_gt 38 72 dX11_apart_35 rfl rfl (fun c => ?_) (fun c => ?_)
  · have h := h.1 (c)
    refine r_iload_n 73 dX11_apart_72 rfl rfl ?_
    refine r_iconst 74 dX11_apart_73 rfl (InR_of rfl) ?_
    refine r_icmp_ne 77 85 dX11_apart_74 rfl rfl (fun c => ?_) (fun c => ?_)
    · have h := h.1 (c)
      refine r_aload_n 86 dX11_apart_85 rfl rfl ?_
      refine g_R 89 dX11_apart_86 rfl rfl rfl fr_11_58 (sh_11_6 hS) ?_
      refine g_I 92 dX11_apart_89 rfl rfl rfl fi_11_343 rfl ?_
      refine r_if_eq 95 98 dX11_apart_92 rfl rfl (fun c => ?_) (fun c => ?_)
      · have h := h.1 (c)
        refine r_aload_n 99 dX11_apart_98 rfl rfl ?_
        refine g_R 102 dX11_apart_99 rfl rfl rfl fr_11_58 (sh_11_6 hS) ?_
        refine g_R 105 dX11_apart_102 rfl rfl rfl fr_11_324 (sh_4_2 hS) ?_
        refine r_iconst 106 dX11_apart_105 rfl (InR_of rfl) ?_
        obtain ⟨M_1, hc_2, hS, h⟩ := h
        refine c_0 [vR (some (27, 0)), vI 0] [] 109 dX11_apart_106 rfl rfl mo_J7_fill_53178 ml_11_347 rfl rfl hc_2 ?_
        refine r_aload_n 110 dX11_apart_109 rfl rfl ?_
        refine g_R 113 dX11_apart_110 rfl rfl rfl fr_11_58 (sh_11_6 hS) ?_
        obtain ⟨M_3, hc_4, hS, h⟩ := h
        refine v_0 (ci := 4) (C := (RX4, TX4, 8)) [] [] 116 dX11_apart_113 rfl rfl rfl rfl rfl mo_X4_solve ml_11_327 rfl rfl hc_4 ?_
        refine r_aload_n 117 dX11_apart_116 rfl rfl ?_
        refine g_R 120 dX11_apart_117 rfl rfl rfl fr_11_58 (sh_11_6 hS) ?_
        refine g_I 123 dX11_apart_120 rfl rfl rfl fi_11_333 rfl ?_
        exact r_iret dX11_apart_123 rfl (.inl rfl) h.1 h.2
      · have h := h.2 (c)
        refine r_bipush 97 dX11_apart_95 rfl rfl ?_
        exact r_iret dX11_apart_97 rfl (.inl rfl) h.1 h.2
    · have h := h.2 (c)
      refine r_aload_n 78 dX11_apart_77 rfl rfl ?_
      refine g_R 81 dX11_apart_78 rfl rfl rfl fr_11_58 (sh_11_6 hS) ?_
      refine g_I 84 dX11_apart_81 rfl rfl rfl fi_11_340 rfl ?_
      exact r_iret dX11_apart_84 rfl (.inl rfl) h.1 h.2
  · have h := h.2 (c)
    refine r_aload_n 39 dX11_apart_38 rfl rfl ?_
    refine g_R 42 dX11_apart_39 rfl rfl rfl fr_11_21 (sh_11_1 hS) ?_
    refine r_iload 44 dX11_apart_42 rfl rfl ?_
    obtain ⟨k_7, M_5, hc_6, h⟩ := h
    refine v_1 (ci := 6) (C := (RX6, TX6, 3)) [vI x5] [] 47 dX11_apart_44 rfl rfl rfl rfl rfl mo_X6_on ml_11_158 rfl rfl hc_6 ?_
    obtain ⟨o_8, h⟩ := h
    refine r_astore (ls' := [some (vR (some (2, 0))), some (vI x1), some (vI x2), some (vI x3), some (vR o4), some (vI x5), some (vR (some (14, k_7)))]) 49 dX11_apart_47 rfl rfl rfl rfl ?_
    refine r_aload 51 dX11_apart_49 rfl rfl ?_
    refine r_aload 53 dX11_apart_51 rfl rfl ?_
    refine r_acmp_eq 56 62 dX11_apart_53 rfl rfl (fun w hw => by cases hw; exact Nat.le_of_ble_eq_true rfl) o_8 (fun c => ?_) (fun c => ?_)
    · have h := h.1 (c)
      obtain ⟨o_9, h⟩ := h
      refine r_aload 64 dX11_apart_62 rfl rfl ?_
      refine r_astore (ls' := [some (vR (some (2, 0))), some (vI x1), some (vI x2), some (vI x3), some (vR (some (14, k_7))), some (vI x5), some (vR (some (14, k_7)))]) 66 dX11_apart_64 rfl rfl rfl rfl ?_
      refine r_iinc (ls' := [some (vR (some (2, 0))), some (vI x1), some (vI x2), some (vI x3), some (vR (some (14, k_7))), some (vI (x5 + 1)), some (vR (some (14, k_7)))]) 69 dX11_apart_66 rfl rfl rfl rfl o_9 rfl ?_
      refine r_goto 32 dX11_apart_69 rfl ?_
      exact Ex.weak h ⟨rfl, rfl, rfl, rfl, rfl, rfl, trivial⟩
    · have h := h.2 (c)
      refine r_aload_n 57 dX11_apart_56 rfl rfl ?_
      refine r_aload 59 dX11_apart_57 rfl rfl ?_
      obtain ⟨M_10, hc_11, h⟩ := h
      refine v_0 (ci := 11) (C := (RX11, TX11, 14)) [vR (some (14, k_7))] [] 62 dX11_apart_59 rfl rfl rfl rfl rfl mo_X11_addUnlikeMarks ml_11_336 rfl rfl hc_11 ?_
      obtain ⟨o_12, h⟩ := h
      refine r_aload 64 dX11_apart_62 rfl rfl ?_
      refine r_astore (ls' := [some (vR (some (2, 0))), some (vI x1), some (vI x2), some (vI x3), some (vR (some (14, k_7))), some (vI x5), some (vR (some (14, k_7)))]) 66 dX11_apart_64 rfl rfl rfl rfl ?_
      refine r_iinc (ls' := [some (vR (some (2, 0))), some (vI x1), some (vI x2), some (vI x3), some (vR (some (14, k_7))), some (vI (x5 + 1)), some (vR (some (14, k_7)))]) 69 dX11_apart_66 rfl rfl rfl rfl o_12 rfl ?_
      refine r_goto 32 dX11_apart_69 rfl ?_
      exact Ex.weak h ⟨rfl, rfl, rfl, rfl, rfl, rfl, trivial⟩

set_option maxRecDepth 4000 in
theorem xX11_chain_0 {l : Launch} {G : Gt} {d : Nat} {M M' : Mem} {r : Option Vl} {x1 : Int} {x2 : Int} (h : 
    ∃ (r_3 : Int) (M_1 : Mem), Cl l G d mX11_isPerson [vR (some (2, 0)), vI x1] M (some (vI r_3)) M_1 ∧ ((r_3 = 0 → r = some (vI (-1)) ∧ M' = M_1) ∧ (¬ (r_3 = 0) → ∃ (r_6 : Int) (M_4 : Mem), Cl l G d mX11_isPerson [vR (some (2, 0)), vI x2] M_1 (some (vI r_6)) M_4 ∧ ((¬ r_6 = 0 → ((0 ≤ x1 ∧ x1 < 32)) ∧ Ex l G (d + 1) mX11_chain 25 [some (vR (some (2, 0))), some (vI x1), some (vI x2), some (vI (aShl 1 x1)), some (vI 0)] [] M_4 r M') ∧ (¬ (¬ r_6 = 0) → r = some (vI (-1)) ∧ M' = M_4))))) : Cl l G (d + 1) mX11_chain [vR (some (2, 0)), vI x1, vI x2] M r M' := by
  show Ex l G (d + 1) mX11_chain 0 [some (vR (some (2, 0))), some (vI x1), some (vI x2), none, none] [] M r M'
  refine r_aload_n 1 dX11_chain_0 rfl rfl ?_
  refine r_iload_n 2 dX11_chain_1 rfl rfl ?_
  obtain ⟨r_3, M_1, hc_2, h⟩ := h
  refine v_1 (ci := 11) (C := (RX11, TX11, 14)) [vI x1] [] 5 dX11_chain_2 rfl rfl rfl rfl rfl mo_X11_isPerson ml_11_121 rfl rfl hc_2 ?_
  refine r_if_eq 8 16 dX11_chain_5 rfl rfl (fun c => ?_) (fun c => ?_)
  · have h := h.1 (c)
    refine r_iconst 17 dX11_chain_16 rfl (InR_of rfl) ?_
    exact r_iret dX11_chain_17 rfl (.inl rfl) h.1 h.2
  · have h := h.2 (c)
    refine r_aload_n 9 dX11_chain_8 rfl rfl ?_
    refine r_iload_n 10 dX11_chain_9 rfl rfl ?_
    obtain ⟨r_6, M_4, hc_5, h⟩ := h
    refine v_1 (ci := 11) (C := (RX11, TX11, 14)) [vI x2] [] 13 dX11_chain_10 rfl rfl rfl rfl rfl mo_X11_isPerson ml_11_121 rfl rfl hc_5 ?_
    refine r_if_ne 16 18 dX11_chain_13 rfl rfl (fun c => ?_) (fun c => ?_)
    · have h := h.1 (c)
      obtain ⟨o_7, h⟩ := h
      refine r_iconst 19 dX11_chain_18 rfl (InR_of rfl) ?_
      refine r_iload_n 20 dX11_chain_19 rfl rfl ?_
      refine r_ishl 21 dX11_chain_20 rfl o_7 ?_
      refine r_istore_n (ls' := [some (vR (some (2, 0))), some (vI x1), some (vI x2), some (vI (aShl 1 x1)), none]) 22 dX11_chain_21 rfl rfl rfl rfl ?_
      refine r_iconst 23 dX11_chain_22 rfl (InR_of rfl) ?_
      refine r_istore (ls' := [some (vR (some (2, 0))), some (vI x1), some (vI x2), some (vI (aShl 1 x1)), some (vI 0)]) 25 dX11_chain_23 rfl rfl rfl rfl ?_
      exact h
    · have h := h.2 (c)
      refine r_iconst 17 dX11_chain_16 rfl (InR_of rfl) ?_
      exact r_iret dX11_chain_17 rfl (.inl rfl) h.1 h.2
set_option maxRecDepth 4000 in
theorem xX11_chain_25 {l : Launch} {G : Gt} {d : Nat} {M M' : Mem} {r : Option Vl} {x1 : Int} {x2 : Int} {x3 : Int} {x4 : Int} (h : 
    (12 ≤ x4 → r = some (vI (-2)) ∧ M' = M) ∧ (¬ (12 ≤ x4) → ∃ (r_3 : Int) (M_1 : Mem), Cl l G d mX11_hasBit [vI x3, vI x2] M (some (vI r_3)) M_1 ∧ ((r_3 = 0 → ∃ (r_6 : Int) (M_4 : Mem), Cl l G d mX11_withKnown [vR (some (2, 0)), vI x3] M_1 (some (vI r_6)) M_4 ∧ (InR (x4 + 1)) ∧ Ex l G (d + 1) mX11_chain 25 [some (vR (some (2, 0))), some (vI x1), some (vI x2), some (vI r_6), some (vI (x4 + 1))] [] M_4 r M') ∧ (¬ (r_3 = 0) → r = some (vI x4) ∧ M' = M_1)))) : Ex l G (d + 1) mX11_chain 25 [some (vR (some (2, 0))), some (vI x1), some (vI x2), some (vI x3), some (vI x4)] [] M r M' := by
  refine r_iload 27 dX11_chain_25 rfl rfl ?_
  refine r_bipush 29 dX11_chain_27 rfl rfl ?_
  refine r_icmp_ge 32 55 dX11_chain_29 rfl rfl (fun c => ?_) (fun c => ?_)
  · have h := h.1 (c)
    refine r_bipush 57 dX11_chain_55 rfl rfl ?_
    exact r_iret dX11_chain_57 rfl (.inl rfl) h.1 h.2
  · have h := h.2 (c)
    refine r_iload_n 33 dX11_chain_32 rfl rfl ?_
    refine r_iload_n 34 dX11_chain_33 rfl rfl ?_
    obtain ⟨r_3, M_1, hc_2, h⟩ := h
    refine c_1 [vI x3, vI x2] [] 37 dX11_chain_34 rfl rfl mo_X11_hasBit ml_11_135 rfl rfl hc_2 ?_
    refine r_if_eq 40 43 dX11_chain_37 rfl rfl (fun c => ?_) (fun c => ?_)
    · have h := h.1 (c)
      refine r_aload_n 44 dX11_chain_43 rfl rfl ?_
      refine r_iload_n 45 dX11_chain_44 rfl rfl ?_
      obtain ⟨r_6, M_4, hc_5, h⟩ := h
      refine v_1 (ci := 11) (C := (RX11, TX11, 14)) [vI x3] [] 48 dX11_chain_45 rfl rfl rfl rfl rfl mo_X11_withKnown ml_11_353 rfl rfl hc_5 ?_
      obtain ⟨o_7, h⟩ := h
      refine r_istore_n (ls' := [some (vR (some (2, 0))), some (vI x1), some (vI x2), some (vI r_6), some (vI x4)]) 49 dX11_chain_48 rfl rfl rfl rfl ?_
      refine r_iinc (ls' := [some (vR (some (2, 0))), some (vI x1), some (vI x2), some (vI r_6), some (vI (x4 + 1))]) 52 dX11_chain_49 rfl rfl rfl rfl o_7 rfl ?_
      refine r_goto 25 dX11_chain_52 rfl ?_
      exact h
    · have h := h.2 (c)
      refine r_iload 42 dX11_chain_40 rfl rfl ?_
      exact r_iret dX11_chain_42 rfl (.inl rfl) h.1 h.2

set_option maxRecDepth 4000 in
theorem xX11_circle_0 {l : Launch} {G : Gt} {d : Nat} {M M' : Mem} {r : Option Vl} {x1 : Int} (h : 
    ∃ (r_3 : Int) (M_1 : Mem), Cl l G d mX11_isPerson [vR (some (2, 0)), vI x1] M (some (vI r_3)) M_1 ∧ ((¬ r_3 = 0 → ((0 ≤ x1 ∧ x1 < 32)) ∧ Ex l G (d + 1) mX11_circle 16 [some (vR (some (2, 0))), some (vI x1), some (vI (aShl 1 x1)), some (vI 0)] [] M_1 r M') ∧ (¬ (¬ r_3 = 0) → r = some (vI (-1)) ∧ M' = M_1))) : Cl l G (d + 1) mX11_circle [vR (some (2, 0)), vI x1] M r M' := by
  show Ex l G (d + 1) mX11_circle 0 [some (vR (some (2, 0))), some (vI x1), none, none] [] M r M'
  refine r_aload_n 1 dX11_circle_0 rfl rfl ?_
  refine r_iload_n 2 dX11_circle_1 rfl rfl ?_
  obtain ⟨r_3, M_1, hc_2, h⟩ := h
  refine v_1 (ci := 11) (C := (RX11, TX11, 14)) [vI x1] [] 5 dX11_circle_2 rfl rfl rfl rfl rfl mo_X11_isPerson ml_11_121 rfl rfl hc_2 ?_
  refine r_if_ne 8 10 dX11_circle_5 rfl rfl (fun c => ?_) (fun c => ?_)
  · have h := h.1 (c)
    obtain ⟨o_4, h⟩ := h
    refine r_iconst 11 dX11_circle_10 rfl (InR_of rfl) ?_
    refine r_iload_n 12 dX11_circle_11 rfl rfl ?_
    refine r_ishl 13 dX11_circle_12 rfl o_4 ?_
    refine r_istore_n (ls' := [some (vR (some (2, 0))), some (vI x1), some (vI (aShl 1 x1)), none]) 14 dX11_circle_13 rfl rfl rfl rfl ?_
    refine r_iconst 15 dX11_circle_14 rfl (InR_of rfl) ?_
    refine r_istore_n (ls' := [some (vR (some (2, 0))), some (vI x1), some (vI (aShl 1 x1)), some (vI 0)]) 16 dX11_circle_15 rfl rfl rfl rfl ?_
    exact h
  · have h := h.2 (c)
    refine r_iconst 9 dX11_circle_8 rfl (InR_of rfl) ?_
    exact r_iret dX11_circle_9 rfl (.inl rfl) h.1 h.2
set_option maxRecDepth 4000 in
theorem xX11_circle_16 {l : Launch} {G : Gt} {d : Nat} {M M' : Mem} {r : Option Vl} {x1 : Int} {x2 : Int} {x3 : Int} (h : 
    (12 ≤ x3 → r = some (vI x2) ∧ M' = M) ∧ (¬ (12 ≤ x3) → ∃ (r_3 : Int) (M_1 : Mem), Cl l G d mX11_withKnown [vR (some (2, 0)), vI x2] M (some (vI r_3)) M_1 ∧ (InR (x3 + 1)) ∧ Ex l G (d + 1) mX11_circle 16 [some (vR (some (2, 0))), some (vI x1), some (vI r_3), some (vI (x3 + 1))] [] M_1 r M')) : Ex l G (d + 1) mX11_circle 16 [some (vR (some (2, 0))), some (vI x1), some (vI x2), some (vI x3)] [] M r M' := by
  refine r_iload_n 17 dX11_circle_16 rfl rfl ?_
  refine r_bipush 19 dX11_circle_17 rfl rfl ?_
  refine r_icmp_ge 22 34 dX11_circle_19 rfl rfl (fun c => ?_) (fun c => ?_)
  · have h := h.1 (c)
    refine r_iload_n 35 dX11_circle_34 rfl rfl ?_
    exact r_iret dX11_circle_35 rfl (.inl rfl) h.1 h.2
  · have h := h.2 (c)
    refine r_aload_n 23 dX11_circle_22 rfl rfl ?_
    refine r_iload_n 24 dX11_circle_23 rfl rfl ?_
    obtain ⟨r_3, M_1, hc_2, h⟩ := h
    refine v_1 (ci := 11) (C := (RX11, TX11, 14)) [vI x2] [] 27 dX11_circle_24 rfl rfl rfl rfl rfl mo_X11_withKnown ml_11_353 rfl rfl hc_2 ?_
    obtain ⟨o_4, h⟩ := h
    refine r_istore_n (ls' := [some (vR (some (2, 0))), some (vI x1), some (vI r_3), some (vI x3)]) 28 dX11_circle_27 rfl rfl rfl rfl ?_
    refine r_iinc (ls' := [some (vR (some (2, 0))), some (vI x1), some (vI r_3), some (vI (x3 + 1))]) 31 dX11_circle_28 rfl rfl rfl rfl o_4 rfl ?_
    refine r_goto 16 dX11_circle_31 rfl ?_
    exact h

set_option maxRecDepth 4000 in
theorem xX11_strangers_0 {l : Launch} {G : Gt} {d : Nat} {M M' : Mem} {r : Option Vl} {x1 : Int} (h : 
    ∃ (r_3 : Int) (M_1 : Mem), Cl l G d mX11_isDay [vI x1] M (some (vI r_3)) M_1 ∧ Sh M_1.2.1 ∧ ((¬ r_3 = 0 → ∃ (k_6 : Nat) (M_4 : Mem), Cl l G d mX6_on [vR (some (6, 0)), vI x1] M_1 (some (vR (some (14, k_6)))) M_4 ∧ Ex l G (d + 1) mX11_strangers 23 [some (vR (some (2, 0))), some (vI x1), some (vR (some (14, k_6))), some (vI 0), some (vI 0), none, none] [] M_4 r M') ∧ (¬ (¬ r_3 = 0) → r = some (vI (-1)) ∧ M' = M_1))) : Cl l G (d + 1) mX11_strangers [vR (some (2, 0)), vI x1] M r M' := by
  show Ex l G (d + 1) mX11_strangers 0 [some (vR (some (2, 0))), some (vI x1), none, none, none, none, none] [] M r M'
  refine r_iload_n 1 dX11_strangers_0 rfl rfl ?_
  obtain ⟨r_3, M_1, hc_2, hS, h⟩ := h
  refine c_1 [vI x1] [] 4 dX11_strangers_1 rfl rfl mo_X11_isDay ml_11_118 rfl rfl hc_2 ?_
  refine r_if_ne 7 9 dX11_strangers_4 rfl rfl (fun c => ?_) (fun c => ?_)
  · have h := h.1 (c)
    refine r_aload_n 10 dX11_strangers_9 rfl rfl ?_
    refine g_R 13 dX11_strangers_10 rfl rfl rfl fr_11_21 (sh_11_1 hS) ?_
    refine r_iload_n 14 dX11_strangers_13 rfl rfl ?_
    obtain ⟨k_6, M_4, hc_5, h⟩ := h
    refine v_1 (ci := 6) (C := (RX6, TX6, 3)) [vI x1] [] 17 dX11_strangers_14 rfl rfl rfl rfl rfl mo_X6_on ml_11_158 rfl rfl hc_5 ?_
    refine r_astore_n (ls' := [some (vR (some (2, 0))), some (vI x1), some (vR (some (14, k_6))), none, none, none, none]) 18 dX11_strangers_17 rfl rfl rfl rfl ?_
    refine r_iconst 19 dX11_strangers_18 rfl (InR_of rfl) ?_
    refine r_istore_n (ls' := [some (vR (some (2, 0))), some (vI x1), some (vR (some (14, k_6))), some (vI 0), none, none, none]) 20 dX11_strangers_19 rfl rfl rfl rfl ?_
    refine r_iconst 21 dX11_strangers_20 rfl (InR_of rfl) ?_
    refine r_istore (ls' := [some (vR (some (2, 0))), some (vI x1), some (vR (some (14, k_6))), some (vI 0), some (vI 0), none, none]) 23 dX11_strangers_21 rfl rfl rfl rfl ?_
    exact h
  · have h := h.2 (c)
    refine r_iconst 8 dX11_strangers_7 rfl (InR_of rfl) ?_
    exact r_iret dX11_strangers_8 rfl (.inl rfl) h.1 h.2
set_option maxRecDepth 4000 in
theorem xX11_strangers_23 {l : Launch} {G : Gt} {d : Nat} {M M' : Mem} {r : Option Vl} {x1 : Int} {k2 : Nat} {x3 : Int} {x4 : Int} (hS : Sh M.2.1) (h : 
    ((M.1 4 0 0) ≤ x4 → r = some (vI x3) ∧ M' = M) ∧ (¬ ((M.1 4 0 0) ≤ x4) → Ex l G (d + 1) mX11_strangers 38 [some (vR (some (2, 0))), some (vI x1), some (vR (some (14, k2))), some (vI x3), some (vI x4), some (vI 0), none] [] M r M')) : Ex l G (d + 1) mX11_strangers 23 [some (vR (some (2, 0))), some (vI x1), some (vR (some (14, k2))), some (vI x3), some (vI x4), none, none] [] M r M' := by
  refine r_iload 25 dX11_strangers_23 rfl rfl ?_
  refine r_aload_n 26 dX11_strangers_25 rfl rfl ?_
  refine g_R 29 dX11_strangers_26 rfl rfl rfl fr_11_12 (sh_11_0 hS) ?_
  refine g_I 32 dX11_strangers_29 rfl rfl rfl fi_11_105 rfl ?_
  refine r_icmp_ge 35 107 dX11_strangers_32 rfl rfl (fun c => ?_) (fun c => ?_)
  · have h := h.1 (c)
    refine r_iload_n 108 dX11_strangers_107 rfl rfl ?_
    exact r_iret dX11_strangers_108 rfl (.inl rfl) h.1 h.2
  · have h := h.2 (c)
    refine r_iconst 36 dX11_strangers_35 rfl (InR_of rfl) ?_
    refine r_istore (ls' := [some (vR (some (2, 0))), some (vI x1), some (vR (some (14, k2))), some (vI x3), some (vI x4), some (vI 0), none]) 38 dX11_strangers_36 rfl rfl rfl rfl ?_
    exact h
set_option maxRecDepth 4000 in
theorem xX11_strangers_38 {l : Launch} {G : Gt} {d : Nat} {M M' : Mem} {r : Option Vl} {x1 : Int} {k2 : Nat} {x3 : Int} {x4 : Int} {x5 : Int} (h : 
    (x4 ≤ x5 → (InR (x4 + 1)) ∧ Ex l G (d + 1) mX11_strangers 23 [some (vR (some (2, 0))), some (vI x1), some (vR (some (14, k2))), some (vI x3), some (vI (x4 + 1)), none, none] [] M r M') ∧ (¬ (x4 ≤ x5) → ∃ (r_4 : Int) (M_2 : Mem), Cl l G d mX11_seenBy [vR (some (2, 0)), vI x4, vR (some (14, k2))] M (some (vI r_4)) M_2 ∧ (∃ (r_7 : Int) (M_5 : Mem), Cl l G d mX11_hasBit [vI r_4, vI x5] M_2 (some (vI r_7)) M_5 ∧ ((¬ r_7 = 0 → (InR (x3 + 0) ∧ InR (x5 + 1)) ∧ Ex l G (d + 1) mX11_strangers 38 [some (vR (some (2, 0))), some (vI x1), some (vR (some (14, k2))), some (vI (x3 + 0)), some (vI x4), some (vI (x5 + 1)), none] [] M_5 r M') ∧ (¬ (¬ r_7 = 0) → ∃ (r_12 : Int) (M_10 : Mem), Cl l G d mX11_seenBy [vR (some (2, 0)), vI x5, vR (some (14, k2))] M_5 (some (vI r_12)) M_10 ∧ (∃ (r_15 : Int) (M_13 : Mem), Cl l G d mX11_hasBit [vI r_12, vI x4] M_10 (some (vI r_15)) M_13 ∧ (InR (x3 + (if (if r_15 = 0 then 0 else 1 : Int) = 0 then 1 else 0 : Int)) ∧ InR (x5 + 1)) ∧ Ex l G (d + 1) mX11_strangers 38 [some (vR (some (2, 0))), some (vI x1), some (vR (some (14, k2))), some (vI (x3 + (if (if r_15 = 0 then 0 else 1 : Int) = 0 then 1 else 0 : Int))), some (vI x4), some (vI (x5 + 1)), none] [] M_13 r M')))))) : Ex l G (d + 1) mX11_strangers 38 [some (vR (some (2, 0))), some (vI x1), some (vR (some (14, k2))), some (vI x3), some (vI x4), some (vI x5), none] [] M r M' := by
  refine r_iload 40 dX11_strangers_38 rfl rfl ?_
  refine r_iload 42 dX11_strangers_40 rfl rfl ?_
  refine r_icmp_ge 45 101 dX11_strangers_42 rfl rfl (fun c => ?_) (fun c => ?_)
  · have h := h.1 (c)
    obtain ⟨o_1, h⟩ := h
    refine r_iinc (ls' := [some (vR (some (2, 0))), some (vI x1), some (vR (some (14, k2))), some (vI x3), some (vI (x4 + 1)), some (vI x5), none]) 104 dX11_strangers_101 rfl rfl rfl rfl o_1 rfl ?_
    refine r_goto 23 dX11_strangers_104 rfl ?_
    exact Ex.weak h ⟨rfl, rfl, rfl, rfl, rfl, trivial⟩
  · have h := h.2 (c)
    refine r_aload_n 46 dX11_strangers_45 rfl rfl ?_
    refine r_iload 48 dX11_strangers_46 rfl rfl ?_
    refine r_aload_n 49 dX11_strangers_48 rfl rfl ?_
    obtain ⟨r_4, M_2, hc_3, h⟩ := h
    refine v_1 (ci := 11) (C := (RX11, TX11, 14)) [vI x4, vR (some (14, k2))] [] 52 dX11_strangers_49 rfl rfl rfl rfl rfl mo_X11_seenBy ml_11_174 rfl rfl hc_3 ?_
    refine r_iload 54 dX11_strangers_52 rfl rfl ?_
    obtain ⟨r_7, M_5, hc_6, h⟩ := h
    refine c_1 [vI r_4, vI x5] [] 57 dX11_strangers_54 rfl rfl mo_X11_hasBit ml_11_135 rfl rfl hc_6 ?_
    refine r_if_ne 60 75 dX11_strangers_57 rfl rfl (fun c => ?_) (fun c => ?_)
    · have h := h.1 (c)
      obtain ⟨⟨o_8, o_9⟩, h⟩ := h
      refine r_iconst 76 dX11_strangers_75 rfl (InR_of rfl) ?_
      refine r_goto 80 dX11_strangers_76 rfl ?_
      refine r_istore (ls' := [some (vR (some (2, 0))), some (vI x1), some (vR (some (14, k2))), some (vI x3), some (vI x4), some (vI x5), some (vI 1)]) 82 dX11_strangers_80 rfl rfl rfl rfl ?_
      refine r_iload_n 83 dX11_strangers_82 rfl rfl ?_
      refine r_iload 85 dX11_strangers_83 rfl rfl ?_
      refine r_if_eq 88 92 dX11_strangers_85 rfl rfl (fun c => absurd c (by decide)) (fun _ => ?_)
      refine r_iconst 89 dX11_strangers_88 rfl (InR_of rfl) ?_
      refine r_goto 93 dX11_strangers_89 rfl ?_
      refine r_iadd 94 dX11_strangers_93 rfl o_8 ?_
      refine r_istore_n (ls' := [some (vR (some (2, 0))), some (vI x1), some (vR (some (14, k2))), some (vI (x3 + 0)), some (vI x4), some (vI x5), some (vI 1)]) 95 dX11_strangers_94 rfl rfl rfl rfl ?_
      refine r_iinc (ls' := [some (vR (some (2, 0))), some (vI x1), some (vR (some (14, k2))), some (vI (x3 + 0)), some (vI x4), some (vI (x5 + 1)), some (vI 1)]) 98 dX11_strangers_95 rfl rfl rfl rfl o_9 rfl ?_
      refine r_goto 38 dX11_strangers_98 rfl ?_
      exact Ex.weak h ⟨rfl, rfl, rfl, rfl, rfl, rfl, trivial⟩
    · have h := h.2 (c)
      refine r_aload_n 61 dX11_strangers_60 rfl rfl ?_
      refine r_iload 63 dX11_strangers_61 rfl rfl ?_
      refine r_aload_n 64 dX11_strangers_63 rfl rfl ?_
      obtain ⟨r_12, M_10, hc_11, h⟩ := h
      refine v_1 (ci := 11) (C := (RX11, TX11, 14)) [vI x5, vR (some (14, k2))] [] 67 dX11_strangers_64 rfl rfl rfl rfl rfl mo_X11_seenBy ml_11_174 rfl rfl hc_11 ?_
      refine r_iload 69 dX11_strangers_67 rfl rfl ?_
      obtain ⟨r_15, M_13, hc_14, h⟩ := h
      refine c_1 [vI r_12, vI x4] [] 72 dX11_strangers_69 rfl rfl mo_X11_hasBit ml_11_135 rfl rfl hc_14 ?_
      have hJ_16 : Ex l G (d + 1) mX11_strangers 80 [some (vR (some (2, 0))), some (vI x1), some (vR (some (14, k2))), some (vI x3), some (vI x4), some (vI x5), none] [vI (if r_15 = 0 then 0 else 1 : Int)] M_13 r M' := by
        refine r_istore (ls' := [some (vR (some (2, 0))), some (vI x1), some (vR (some (14, k2))), some (vI x3), some (vI x4), some (vI x5), some (vI (if r_15 = 0 then 0 else 1 : Int))]) 82 dX11_strangers_80 rfl rfl rfl rfl ?_
        refine r_iload_n 83 dX11_strangers_82 rfl rfl ?_
        refine r_iload 85 dX11_strangers_83 rfl rfl ?_
        have hJ_18 : Ex l G (d + 1) mX11_strangers 93 [some (vR (some (2, 0))), some (vI x1), some (vR (some (14, k2))), some (vI x3), some (vI x4), some (vI x5), some (vI (if r_15 = 0 then 0 else 1 : Int))] [vI (if (if r_15 = 0 then 0 else 1 : Int) = 0 then 1 else 0 : Int), vI x3] M_13 r M' := by
          obtain ⟨⟨o_20, o_21⟩, h⟩ := h
          refine r_iadd 94 dX11_strangers_93 rfl o_20 ?_
          refine r_istore_n (ls' := [some (vR (some (2, 0))), some (vI x1), some (vR (some (14, k2))), some (vI (x3 + (if (if r_15 = 0 then 0 else 1 : Int) = 0 then 1 else 0 : Int))), some (vI x4), some (vI x5), some (vI (if r_15 = 0 then 0 else 1 : Int))]) 95 dX11_strangers_94 rfl rfl rfl rfl ?_
          refine r_iinc (ls' := [some (vR (some (2, 0))), some (vI x1), some (vR (some (14, k2))), some (vI (x3 + (if (if r_15 = 0 then 0 else 1 : Int) = 0 then 1 else 0 : Int))), some (vI x4), some (vI (x5 + 1)), some (vI (if r_15 = 0 then 0 else 1 : Int))]) 98 dX11_strangers_95 rfl rfl rfl rfl o_21 rfl ?_
          refine r_goto 38 dX11_strangers_98 rfl ?_
          exact Ex.weak h ⟨rfl, rfl, rfl, rfl, rfl, rfl, trivial⟩
        refine r_if_eq 88 92 dX11_strangers_85 rfl rfl (fun c => ?_) (fun c => ?_)
        · have c_19 := c
          refine r_iconst 93 dX11_strangers_92 rfl (InR_of rfl) ?_
          exact (Ex.at hJ_18 rfl (show [vI 1, vI x3] = [vI (if (if r_15 = 0 then 0 else 1 : Int) = 0 then 1 else 0 : Int), vI x3] by simp only [if_pos c_19]) rfl)
        · have c_19 := c
          refine r_iconst 89 dX11_strangers_88 rfl (InR_of rfl) ?_
          refine r_goto 93 dX11_strangers_89 rfl ?_
          exact (Ex.at hJ_18 rfl (show [vI 0, vI x3] = [vI (if (if r_15 = 0 then 0 else 1 : Int) = 0 then 1 else 0 : Int), vI x3] by simp only [if_neg c_19]) rfl)
      refine r_if_eq 75 79 dX11_strangers_72 rfl rfl (fun c => ?_) (fun c => ?_)
      · have c_17 := c
        refine r_iconst 80 dX11_strangers_79 rfl (InR_of rfl) ?_
        exact (Ex.at hJ_16 rfl (show [vI 0] = [vI (if r_15 = 0 then 0 else 1 : Int)] by simp only [if_pos c_17]) rfl)
      · have c_17 := c
        refine r_iconst 76 dX11_strangers_75 rfl (InR_of rfl) ?_
        refine r_goto 80 dX11_strangers_76 rfl ?_
        exact (Ex.at hJ_16 rfl (show [vI 1] = [vI (if r_15 = 0 then 0 else 1 : Int)] by simp only [if_neg c_17]) rfl)

set_option maxRecDepth 4000 in
theorem xX11_count_0 {l : Launch} {G : Gt} {d : Nat} {M M' : Mem} {r : Option Vl} {x1 : Int} (hS : Sh M.2.1) (h : 
    (x1 < 0 ∨ 9 < x1 → r = some (vI (-1)) ∧ M' = M) ∧ (x1 = 0 → r = some (vI (M.1 4 0 0)) ∧ M' = M) ∧ (x1 = 1 → r = some (vI (M.1 4 0 2)) ∧ M' = M) ∧ (x1 = 2 → r = some (vI (M.1 4 0 4)) ∧ M' = M) ∧ (x1 = 3 → r = some (vI (M.1 2 0 10)) ∧ M' = M) ∧ (x1 = 4 → r = some (vI (M.1 4 0 8)) ∧ M' = M) ∧ (x1 = 5 → ∃ (r_3 : Int) (M_1 : Mem), Cl l G d mX8_howManyAre [vR (some (4, 0)), vI 0] M (some (vI r_3)) M_1 ∧ r = some (vI r_3) ∧ M' = M_1) ∧ (x1 = 6 → ∃ (r_6 : Int) (M_4 : Mem), Cl l G d mX8_howManyAreRight [vR (some (4, 0))] M (some (vI r_6)) M_4 ∧ r = some (vI r_6) ∧ M' = M_4) ∧ (x1 = 7 → r = some (vI (M.1 4 0 10)) ∧ M' = M) ∧ (x1 = 8 → r = some (vI (M.1 4 0 11)) ∧ M' = M) ∧ (x1 = 9 → r = some (vI (M.1 2 0 12)) ∧ M' = M)) : Cl l G (d + 1) mX11_count [vR (some (2, 0)), vI x1] M r M' := by
  show Ex l G (d + 1) mX11_count 0 [some (vR (some (2, 0))), some (vI x1)] [] M r M'
  refine r_iload_n 1 dX11_count_0 rfl rfl ?_
  by_cases hsw : x1 < 0 ∨ 9 < x1
  · have h := h.1 hsw
    refine r_tswOut 131 dX11_count_1 hsw rfl ?_
    refine r_iconst 132 dX11_count_131 rfl (InR_of rfl) ?_
    exact r_iret dX11_count_132 rfl (.inl rfl) h.1 h.2
  · have hsw2 : x1 = 0 ∨ x1 = 1 ∨ x1 = 2 ∨ x1 = 3 ∨ x1 = 4 ∨ x1 = 5 ∨ x1 = 6 ∨ x1 = 7 ∨ x1 = 8 ∨ x1 = 9 := by omega
    rcases hsw2 with c | c | c | c | c | c | c | c | c | c
    · have h := h.2.1 c
      refine r_tswIn 56 dX11_count_1 0 c rfl rfl rfl ?_
      refine r_aload_n 57 dX11_count_56 rfl rfl ?_
      refine g_R 60 dX11_count_57 rfl rfl rfl fr_11_12 (sh_11_0 hS) ?_
      refine g_I 63 dX11_count_60 rfl rfl rfl fi_11_105 rfl ?_
      exact r_iret dX11_count_63 rfl (.inl rfl) h.1 h.2
    · have h := h.2.2.1 c
      refine r_tswIn 64 dX11_count_1 1 c rfl rfl rfl ?_
      refine r_aload_n 65 dX11_count_64 rfl rfl ?_
      refine g_R 68 dX11_count_65 rfl rfl rfl fr_11_12 (sh_11_0 hS) ?_
      refine g_I 71 dX11_count_68 rfl rfl rfl fi_11_94 rfl ?_
      exact r_iret dX11_count_71 rfl (.inl rfl) h.1 h.2
    · have h := h.2.2.2.1 c
      refine r_tswIn 72 dX11_count_1 2 c rfl rfl rfl ?_
      refine r_aload_n 73 dX11_count_72 rfl rfl ?_
      refine g_R 76 dX11_count_73 rfl rfl rfl fr_11_12 (sh_11_0 hS) ?_
      refine g_I 79 dX11_count_76 rfl rfl rfl fi_11_115 rfl ?_
      exact r_iret dX11_count_79 rfl (.inl rfl) h.1 h.2
    · have h := h.2.2.2.2.1 c
      refine r_tswIn 80 dX11_count_1 3 c rfl rfl rfl ?_
      refine r_aload_n 81 dX11_count_80 rfl rfl ?_
      refine g_I 84 dX11_count_81 rfl rfl rfl fi_11_147 rfl ?_
      exact r_iret dX11_count_84 rfl (.inl rfl) h.1 h.2
    · have h := h.2.2.2.2.2.1 c
      refine r_tswIn 85 dX11_count_1 4 c rfl rfl rfl ?_
      refine r_aload_n 86 dX11_count_85 rfl rfl ?_
      refine g_R 89 dX11_count_86 rfl rfl rfl fr_11_12 (sh_11_0 hS) ?_
      refine g_I 92 dX11_count_89 rfl rfl rfl fi_11_218 rfl ?_
      exact r_iret dX11_count_92 rfl (.inl rfl) h.1 h.2
    · have h := h.2.2.2.2.2.2.1 c
      refine r_tswIn 93 dX11_count_1 5 c rfl rfl rfl ?_
      refine r_aload_n 94 dX11_count_93 rfl rfl ?_
      refine g_R 97 dX11_count_94 rfl rfl rfl fr_11_12 (sh_11_0 hS) ?_
      refine r_iconst 98 dX11_count_97 rfl (InR_of rfl) ?_
      obtain ⟨r_3, M_1, hc_2, h⟩ := h
      refine v_1 (ci := 8) (C := (RX8, TX8, 13)) [vI 0] [] 101 dX11_count_98 rfl rfl rfl rfl rfl mo_X8_howManyAre ml_11_234 rfl rfl hc_2 ?_
      exact r_iret dX11_count_101 rfl (.inl rfl) h.1 h.2
    · have h := h.2.2.2.2.2.2.2.1 c
      refine r_tswIn 102 dX11_count_1 6 c rfl rfl rfl ?_
      refine r_aload_n 103 dX11_count_102 rfl rfl ?_
      refine g_R 106 dX11_count_103 rfl rfl rfl fr_11_12 (sh_11_0 hS) ?_
      obtain ⟨r_6, M_4, hc_5, h⟩ := h
      refine v_1 (ci := 8) (C := (RX8, TX8, 13)) [] [] 109 dX11_count_106 rfl rfl rfl rfl rfl mo_X8_howManyAreRight ml_11_356 rfl rfl hc_5 ?_
      exact r_iret dX11_count_109 rfl (.inl rfl) h.1 h.2
    · have h := h.2.2.2.2.2.2.2.2.1 c
      refine r_tswIn 110 dX11_count_1 7 c rfl rfl rfl ?_
      refine r_aload_n 111 dX11_count_110 rfl rfl ?_
      refine g_R 114 dX11_count_111 rfl rfl rfl fr_11_12 (sh_11_0 hS) ?_
      refine g_I 117 dX11_count_114 rfl rfl rfl fi_11_225 rfl ?_
      exact r_iret dX11_count_117 rfl (.inl rfl) h.1 h.2
    · have h := h.2.2.2.2.2.2.2.2.2.1 c
      refine r_tswIn 118 dX11_count_1 8 c rfl rfl rfl ?_
      refine r_aload_n 119 dX11_count_118 rfl rfl ?_
      refine g_R 122 dX11_count_119 rfl rfl rfl fr_11_12 (sh_11_0 hS) ?_
      refine g_I 125 dX11_count_122 rfl rfl rfl fi_11_273 rfl ?_
      exact r_iret dX11_count_125 rfl (.inl rfl) h.1 h.2
    · have h := h.2.2.2.2.2.2.2.2.2.2 c
      refine r_tswIn 126 dX11_count_1 9 c rfl rfl rfl ?_
      refine r_aload_n 127 dX11_count_126 rfl rfl ?_
      refine g_I 130 dX11_count_127 rfl rfl rfl fi_11_141 rfl ?_
      exact r_iret dX11_count_130 rfl (.inl rfl) h.1 h.2

set_option maxRecDepth 4000 in
theorem xX11_image_0 {l : Launch} {G : Gt} {d : Nat} {M M' : Mem} {r : Option Vl} {x1 : Int} (hS : Sh M.2.1) (h : 
    (x1 < 0 → r = some (vI (-1)) ∧ M' = M) ∧ (¬ (x1 < 0) → (x1 < 4 → ((0 ≤ x1 ∧ x1 < 4)) ∧ ((¬ ((M.2.1 17 0 x1.toNat) = none) → ∃ k_2 : Nat, (M.2.1 17 0 x1.toNat) = some (4, k_2) ∧ (∃ (M_4 : Mem), Cl l G d mX8_copyFrom [vR (some (4, k_2)), vR (some (4, 0))] M none M_4 ∧ Sh M_4.2.1 ∧ r = some (vI (M_4.1 4 0 10)) ∧ M' = M_4)) ∧ ((M.2.1 17 0 x1.toNat) = none → (∀ M_6 : Mem, newM M 4 0 13 = M_6 → ∃ (M_7 : Mem), Cl l G d mX8_init [vR (some (4, cCnt M.2.2 4))] M_6 none M_7 ∧ Sh M_7.2.1 ∧ ((0 ≤ x1 ∧ x1 < 4)) ∧ (∃ (M_10 : Mem), Cl l G d mX8_copyFrom [vR (some (4, cCnt M.2.2 4)), vR (some (4, 0))] (M_7.1, (upR M_7.2.1 17 0 x1.toNat (some (4, cCnt M.2.2 4))), M_7.2.2) none M_10 ∧ Sh M_10.2.1 ∧ r = some (vI (M_10.1 4 0 10)) ∧ M' = M_10))))) ∧ (¬ (x1 < 4) → r = some (vI (-1)) ∧ M' = M))) : Cl l G (d + 1) mX11_image [vR (some (2, 0)), vI x1] M r M' := by
  show Ex l G (d + 1) mX11_image 0 [some (vR (some (2, 0))), some (vI x1), none] [] M r M'
  refine r_iload_n 1 dX11_image_0 rfl rfl ?_
  refine r_if_lt 4 9 dX11_image_1 rfl rfl (fun c => ?_) (fun c => ?_)
  · have h := h.1 (c)
    refine r_iconst 10 dX11_image_9 rfl (InR_of rfl) ?_
    exact r_iret dX11_image_10 rfl (.inl rfl) h.1 h.2
  · have h := h.2 (c)
    refine r_iload_n 5 dX11_image_4 rfl rfl ?_
    refine r_iconst 6 dX11_image_5 rfl (InR_of rfl) ?_
    refine r_icmp_lt 9 11 dX11_image_6 rfl rfl (fun c => ?_) (fun c => ?_)
    · have h := h.1 (c)
      obtain ⟨o_1, h⟩ := h
      refine r_aload_n 12 dX11_image_11 rfl rfl ?_
      refine g_R 15 dX11_image_12 rfl rfl rfl fr_11_86 (sh_11_13 hS) ?_
      refine r_iload_n 16 dX11_image_15 rfl rfl ?_
      refine a_R (ci := 8) 4 17 dX11_image_16 rfl rfl rfl rfl rfl o_1 rfl ?_
      refine r_astore_n (ls' := [some (vR (some (2, 0))), some (vI x1), some (vR (M.2.1 17 0 x1.toNat))]) 18 dX11_image_17 rfl rfl rfl rfl ?_
      refine r_aload_n 19 dX11_image_18 rfl rfl ?_
      refine r_ifnonnull 22 37 dX11_image_19 rfl rfl (fun c => ?_) (fun c => ?_)
      · have h := h.1 (c)
        refine r_aload_n 38 dX11_image_37 rfl rfl ?_
        refine r_aload_n 39 dX11_image_38 rfl rfl ?_
        refine g_R 42 dX11_image_39 rfl rfl rfl fr_11_12 (sh_11_0 hS) ?_
        obtain ⟨k_2, e_3, h⟩ := h
        refine Ex.at (st2 := [vR (some (4, 0)), vR (some (4, k_2))]) ?_ rfl (show [vR (some (4, 0)), vR (M.2.1 17 0 x1.toNat)] = [vR (some (4, 0)), vR (some (4, k_2))] by rw [e_3]) rfl
        obtain ⟨M_4, hc_5, hS, h⟩ := h
        refine v_0 (ci := 8) (C := (RX8, TX8, 13)) [vR (some (4, 0))] [] 45 dX11_image_42 rfl rfl rfl rfl rfl mo_X8_copyFrom ml_11_359 rfl rfl hc_5 ?_
        refine r_aload_n 46 dX11_image_45 rfl rfl ?_
        refine g_R 49 dX11_image_46 rfl rfl rfl fr_11_12 (sh_11_0 hS) ?_
        refine g_I 52 dX11_image_49 rfl rfl rfl fi_11_225 rfl ?_
        exact r_iret dX11_image_52 rfl (.inl rfl) h.1 h.2
      · have h := h.2 (c)
        refine r_new (f := 4) (ci := 8) (C := (RX8, TX8, 13)) 25 dX11_image_22 rfl rfl rfl rfl (inT1 (List.mem_of_getElem? (i := 30) rfl) rfl) (inT1 (List.mem_of_getElem? (i := 31) rfl) rfl) wi_8 ?_
        generalize hM_6 : newM M 4 0 13 = M_6
        have h := h M_6 hM_6
        refine r_dup 26 dX11_image_25 rfl rfl ?_
        obtain ⟨M_7, hc_8, hS, h⟩ := h
        refine r_callI [] [vR (some (4, cCnt M.2.2 4))] 29 dX11_image_26 rfl rfl rfl mo_X8_init ⟨rfl, rfl⟩ ml_11_11 rfl rfl hc_8 ?_
        obtain ⟨o_9, h⟩ := h
        refine r_astore_n (ls' := [some (vR (some (2, 0))), some (vI x1), some (vR (some (4, cCnt M.2.2 4)))]) 30 dX11_image_29 rfl rfl rfl rfl ?_
        refine r_aload_n 31 dX11_image_30 rfl rfl ?_
        refine g_R 34 dX11_image_31 rfl rfl rfl fr_11_86 (sh_11_13 hS) ?_
        refine r_iload_n 35 dX11_image_34 rfl rfl ?_
        refine r_aload_n 36 dX11_image_35 rfl rfl ?_
        refine s_R (ci := 8) 4 37 dX11_image_36 rfl rfl rfl rfl rfl rfl rfl rfl o_9 ?_
        refine r_aload_n 38 dX11_image_37 rfl rfl ?_
        refine r_aload_n 39 dX11_image_38 rfl rfl ?_
        refine g_R 42 dX11_image_39 rfl rfl rfl fr_11_12 (mR_0 ((upR_f rfl).trans (sh_11_0 hS))) ?_
        obtain ⟨M_10, hc_11, hS, h⟩ := h
        refine v_0 (ci := 8) (C := (RX8, TX8, 13)) [vR (some (4, 0))] [] 45 dX11_image_42 rfl rfl rfl rfl rfl mo_X8_copyFrom ml_11_359 rfl rfl hc_11 ?_
        refine r_aload_n 46 dX11_image_45 rfl rfl ?_
        refine g_R 49 dX11_image_46 rfl rfl rfl fr_11_12 (sh_11_0 hS) ?_
        refine g_I 52 dX11_image_49 rfl rfl rfl fi_11_225 rfl ?_
        exact r_iret dX11_image_52 rfl (.inl rfl) h.1 h.2
    · have h := h.2 (c)
      refine r_iconst 10 dX11_image_9 rfl (InR_of rfl) ?_
      exact r_iret dX11_image_10 rfl (.inl rfl) h.1 h.2

set_option maxRecDepth 4000 in
theorem xX11_back_0 {l : Launch} {G : Gt} {d : Nat} {M M' : Mem} {r : Option Vl} {x1 : Int} (hS : Sh M.2.1) (h : 
    (x1 < 0 → r = some (vI (-1)) ∧ M' = M) ∧ (¬ (x1 < 0) → (x1 < 4 → ((0 ≤ x1 ∧ x1 < 4)) ∧ ((¬ ((M.2.1 17 0 x1.toNat) = none) → ∃ (M_2 : Mem), Cl l G d mX8_copyFrom [vR (some (4, 0)), vR (M.2.1 17 0 x1.toNat)] M none M_2 ∧ (∃ (M_4 : Mem), Cl l G d mX11_forgetFacts [vR (some (2, 0)), vI (-1)] M_2 none M_4 ∧ Sh M_4.2.1 ∧ (∃ (M_6 : Mem), Cl l G d mX10_measure [vR (some (7, 0)), vR (some (34, 0))] M_4 none M_6 ∧ Sh M_6.2.1 ∧ r = some (vI (M_6.1 4 0 10)) ∧ M' = M_6))) ∧ ((M.2.1 17 0 x1.toNat) = none → r = some (vI (-1)) ∧ M' = M))) ∧ (¬ (x1 < 4) → r = some (vI (-1)) ∧ M' = M))) : Cl l G (d + 1) mX11_back [vR (some (2, 0)), vI x1] M r M' := by
  show Ex l G (d + 1) mX11_back 0 [some (vR (some (2, 0))), some (vI x1), none] [] M r M'
  refine r_iload_n 1 dX11_back_0 rfl rfl ?_
  refine r_if_lt 4 9 dX11_back_1 rfl rfl (fun c => ?_) (fun c => ?_)
  · have h := h.1 (c)
    refine r_iconst 10 dX11_back_9 rfl (InR_of rfl) ?_
    exact r_iret dX11_back_10 rfl (.inl rfl) h.1 h.2
  · have h := h.2 (c)
    refine r_iload_n 5 dX11_back_4 rfl rfl ?_
    refine r_iconst 6 dX11_back_5 rfl (InR_of rfl) ?_
    refine r_icmp_lt 9 11 dX11_back_6 rfl rfl (fun c => ?_) (fun c => ?_)
    · have h := h.1 (c)
      obtain ⟨o_1, h⟩ := h
      refine r_aload_n 12 dX11_back_11 rfl rfl ?_
      refine g_R 15 dX11_back_12 rfl rfl rfl fr_11_86 (sh_11_13 hS) ?_
      refine r_iload_n 16 dX11_back_15 rfl rfl ?_
      refine a_R (ci := 8) 4 17 dX11_back_16 rfl rfl rfl rfl rfl o_1 rfl ?_
      refine r_astore_n (ls' := [some (vR (some (2, 0))), some (vI x1), some (vR (M.2.1 17 0 x1.toNat))]) 18 dX11_back_17 rfl rfl rfl rfl ?_
      refine r_aload_n 19 dX11_back_18 rfl rfl ?_
      refine r_ifnonnull 22 24 dX11_back_19 rfl rfl (fun c => ?_) (fun c => ?_)
      · have h := h.1 (c)
        refine r_aload_n 25 dX11_back_24 rfl rfl ?_
        refine g_R 28 dX11_back_25 rfl rfl rfl fr_11_12 (sh_11_0 hS) ?_
        refine r_aload_n 29 dX11_back_28 rfl rfl ?_
        obtain ⟨M_2, hc_3, h⟩ := h
        refine v_0 (ci := 8) (C := (RX8, TX8, 13)) [vR (M.2.1 17 0 x1.toNat)] [] 32 dX11_back_29 rfl rfl rfl rfl rfl mo_X8_copyFrom ml_11_359 rfl rfl hc_3 ?_
        refine r_aload_n 33 dX11_back_32 rfl rfl ?_
        refine r_iconst 34 dX11_back_33 rfl (InR_of rfl) ?_
        obtain ⟨M_4, hc_5, hS, h⟩ := h
        refine v_0 (ci := 11) (C := (RX11, TX11, 14)) [vI (-1)] [] 37 dX11_back_34 rfl rfl rfl rfl rfl mo_X11_forgetFacts ml_11_111 rfl rfl hc_5 ?_
        refine r_aload_n 38 dX11_back_37 rfl rfl ?_
        refine g_R 41 dX11_back_38 rfl rfl rfl fr_11_28 (sh_11_2 hS) ?_
        refine r_aload_n 42 dX11_back_41 rfl rfl ?_
        refine g_R 45 dX11_back_42 rfl rfl rfl fr_11_12 (sh_11_0 hS) ?_
        refine g_R 48 dX11_back_45 rfl rfl rfl fr_11_98 (sh_8_3 hS _) ?_
        obtain ⟨M_6, hc_7, hS, h⟩ := h
        refine v_0 (ci := 10) (C := (RX10, TX10, 2)) [vR (some (34, 0))] [] 51 dX11_back_48 rfl rfl rfl rfl rfl mo_X10_measure ml_11_101 rfl rfl hc_7 ?_
        refine r_aload_n 52 dX11_back_51 rfl rfl ?_
        refine g_R 55 dX11_back_52 rfl rfl rfl fr_11_12 (sh_11_0 hS) ?_
        refine g_I 58 dX11_back_55 rfl rfl rfl fi_11_225 rfl ?_
        exact r_iret dX11_back_58 rfl (.inl rfl) h.1 h.2
      · have h := h.2 (c)
        refine r_iconst 23 dX11_back_22 rfl (InR_of rfl) ?_
        exact r_iret dX11_back_23 rfl (.inl rfl) h.1 h.2
    · have h := h.2 (c)
      refine r_iconst 10 dX11_back_9 rfl (InR_of rfl) ?_
      exact r_iret dX11_back_10 rfl (.inl rfl) h.1 h.2

set_option maxRecDepth 4000 in
theorem xX11_isPerson_0 {l : Launch} {G : Gt} {d : Nat} {M M' : Mem} {r : Option Vl} {x1 : Int} (hS : Sh M.2.1) (h : 
    (((if x1 < 0 then 0 else (if (M.1 4 0 0) ≤ x1 then 0 else 1 : Int) : Int) = 0 ∨ (if x1 < 0 then 0 else (if (M.1 4 0 0) ≤ x1 then 0 else 1 : Int) : Int) = 1)) ∧ r = some (vI (if x1 < 0 then 0 else (if (M.1 4 0 0) ≤ x1 then 0 else 1 : Int) : Int)) ∧ M' = M) : Cl l G d mX11_isPerson [vR (some (2, 0)), vI x1] M r M' := by
  show Ex l G d mX11_isPerson 0 [some (vR (some (2, 0))), some (vI x1)] [] M r M'
  refine r_iload_n 1 dX11_isPerson_0 rfl rfl ?_
  have hJ_1 : Ex l G d mX11_isPerson 20 [some (vR (some (2, 0))), some (vI x1)] [vI (if x1 < 0 then 0 else (if (M.1 4 0 0) ≤ x1 then 0 else 1 : Int) : Int)] M r M' := by
    obtain ⟨o_4, h⟩ := h
    exact r_iret dX11_isPerson_20 rfl (.inr ⟨rfl, o_4⟩) h.1 h.2
  refine r_if_lt 4 19 dX11_isPerson_1 rfl rfl (fun c => ?_) (fun c => ?_)
  · have c_2 := c
    refine r_iconst 20 dX11_isPerson_19 rfl (InR_of rfl) ?_
    exact (Ex.at hJ_1 rfl (show [vI 0] = [vI (if x1 < 0 then 0 else (if (M.1 4 0 0) ≤ x1 then 0 else 1 : Int) : Int)] by simp only [if_pos c_2]) rfl)
  · have c_2 := c
    refine r_iload_n 5 dX11_isPerson_4 rfl rfl ?_
    refine r_aload_n 6 dX11_isPerson_5 rfl rfl ?_
    refine g_R 9 dX11_isPerson_6 rfl rfl rfl fr_11_12 (sh_11_0 hS) ?_
    refine g_I 12 dX11_isPerson_9 rfl rfl rfl fi_11_105 rfl ?_
    refine r_icmp_ge 15 19 dX11_isPerson_12 rfl rfl (fun c => ?_) (fun c => ?_)
    · have c_3 := c
      refine r_iconst 20 dX11_isPerson_19 rfl (InR_of rfl) ?_
      exact (Ex.at hJ_1 rfl (show [vI 0] = [vI (if x1 < 0 then 0 else (if (M.1 4 0 0) ≤ x1 then 0 else 1 : Int) : Int)] by simp only [if_neg c_2, if_pos c_3]) rfl)
    · have c_3 := c
      refine r_iconst 16 dX11_isPerson_15 rfl (InR_of rfl) ?_
      refine r_goto 20 dX11_isPerson_16 rfl ?_
      exact (Ex.at hJ_1 rfl (show [vI 1] = [vI (if x1 < 0 then 0 else (if (M.1 4 0 0) ≤ x1 then 0 else 1 : Int) : Int)] by simp only [if_neg c_2, if_neg c_3]) rfl)

set_option maxRecDepth 4000 in
theorem xX11_areTwo_0 {l : Launch} {G : Gt} {d : Nat} {M M' : Mem} {r : Option Vl} {x1 : Int} {x2 : Int} (h : 
    ∃ (r_3 : Int) (M_1 : Mem), Cl l G d mX11_isPerson [vR (some (2, 0)), vI x1] M (some (vI r_3)) M_1 ∧ ((r_3 = 0 → r = some (vI 0) ∧ M' = M_1) ∧ (¬ (r_3 = 0) → ∃ (r_6 : Int) (M_4 : Mem), Cl l G d mX11_isPerson [vR (some (2, 0)), vI x2] M_1 (some (vI r_6)) M_4 ∧ ((((if r_6 = 0 then 0 else (if x1 = x2 then 0 else 1 : Int) : Int) = 0 ∨ (if r_6 = 0 then 0 else (if x1 = x2 then 0 else 1 : Int) : Int) = 1)) ∧ r = some (vI (if r_6 = 0 then 0 else (if x1 = x2 then 0 else 1 : Int) : Int)) ∧ M' = M_4)))) : Cl l G (d + 1) mX11_areTwo [vR (some (2, 0)), vI x1, vI x2] M r M' := by
  show Ex l G (d + 1) mX11_areTwo 0 [some (vR (some (2, 0))), some (vI x1), some (vI x2)] [] M r M'
  refine r_aload_n 1 dX11_areTwo_0 rfl rfl ?_
  refine r_iload_n 2 dX11_areTwo_1 rfl rfl ?_
  obtain ⟨r_3, M_1, hc_2, h⟩ := h
  refine v_1 (ci := 11) (C := (RX11, TX11, 14)) [vI x1] [] 5 dX11_areTwo_2 rfl rfl rfl rfl rfl mo_X11_isPerson ml_11_121 rfl rfl hc_2 ?_
  refine r_if_eq 8 25 dX11_areTwo_5 rfl rfl (fun c => ?_) (fun c => ?_)
  · have h := h.1 (c)
    refine r_iconst 26 dX11_areTwo_25 rfl (InR_of rfl) ?_
    exact r_iret dX11_areTwo_26 rfl (.inr ⟨rfl, (.inl rfl)⟩) h.1 h.2
  · have h := h.2 (c)
    refine r_aload_n 9 dX11_areTwo_8 rfl rfl ?_
    refine r_iload_n 10 dX11_areTwo_9 rfl rfl ?_
    obtain ⟨r_6, M_4, hc_5, h⟩ := h
    refine v_1 (ci := 11) (C := (RX11, TX11, 14)) [vI x2] [] 13 dX11_areTwo_10 rfl rfl rfl rfl rfl mo_X11_isPerson ml_11_121 rfl rfl hc_5 ?_
    have hJ_7 : Ex l G (d + 1) mX11_areTwo 26 [some (vR (some (2, 0))), some (vI x1), some (vI x2)] [vI (if r_6 = 0 then 0 else (if x1 = x2 then 0 else 1 : Int) : Int)] M_4 r M' := by
      obtain ⟨o_10, h⟩ := h
      exact r_iret dX11_areTwo_26 rfl (.inr ⟨rfl, o_10⟩) h.1 h.2
    refine r_if_eq 16 25 dX11_areTwo_13 rfl rfl (fun c => ?_) (fun c => ?_)
    · have c_8 := c
      refine r_iconst 26 dX11_areTwo_25 rfl (InR_of rfl) ?_
      exact (Ex.at hJ_7 rfl (show [vI 0] = [vI (if r_6 = 0 then 0 else (if x1 = x2 then 0 else 1 : Int) : Int)] by simp only [if_pos c_8]) rfl)
    · have c_8 := c
      refine r_iload_n 17 dX11_areTwo_16 rfl rfl ?_
      refine r_iload_n 18 dX11_areTwo_17 rfl rfl ?_
      refine r_icmp_eq 21 25 dX11_areTwo_18 rfl rfl (fun c => ?_) (fun c => ?_)
      · have c_9 := c
        refine r_iconst 26 dX11_areTwo_25 rfl (InR_of rfl) ?_
        exact (Ex.at hJ_7 rfl (show [vI 0] = [vI (if r_6 = 0 then 0 else (if x1 = x2 then 0 else 1 : Int) : Int)] by simp only [if_neg c_8, if_pos c_9]) rfl)
      · have c_9 := c
        refine r_iconst 22 dX11_areTwo_21 rfl (InR_of rfl) ?_
        refine r_goto 26 dX11_areTwo_22 rfl ?_
        exact (Ex.at hJ_7 rfl (show [vI 1] = [vI (if r_6 = 0 then 0 else (if x1 = x2 then 0 else 1 : Int) : Int)] by simp only [if_neg c_8, if_neg c_9]) rfl)

set_option maxRecDepth 4000 in
theorem xX11_isPlace_0 {l : Launch} {G : Gt} {d : Nat} {M M' : Mem} {r : Option Vl} {x0 : Int} (h : 
    (((if x0 < 0 then 0 else (if 8 ≤ x0 then 0 else 1 : Int) : Int) = 0 ∨ (if x0 < 0 then 0 else (if 8 ≤ x0 then 0 else 1 : Int) : Int) = 1)) ∧ r = some (vI (if x0 < 0 then 0 else (if 8 ≤ x0 then 0 else 1 : Int) : Int)) ∧ M' = M) : Cl l G d mX11_isPlace [vI x0] M r M' := by
  show Ex l G d mX11_isPlace 0 [some (vI x0)] [] M r M'
  refine r_iload_n 1 dX11_isPlace_0 rfl rfl ?_
  have hJ_1 : Ex l G d mX11_isPlace 15 [some (vI x0)] [vI (if x0 < 0 then 0 else (if 8 ≤ x0 then 0 else 1 : Int) : Int)] M r M' := by
    obtain ⟨o_4, h⟩ := h
    exact r_iret dX11_isPlace_15 rfl (.inr ⟨rfl, o_4⟩) h.1 h.2
  refine r_if_lt 4 14 dX11_isPlace_1 rfl rfl (fun c => ?_) (fun c => ?_)
  · have c_2 := c
    refine r_iconst 15 dX11_isPlace_14 rfl (InR_of rfl) ?_
    exact (Ex.at hJ_1 rfl (show [vI 0] = [vI (if x0 < 0 then 0 else (if 8 ≤ x0 then 0 else 1 : Int) : Int)] by simp only [if_pos c_2]) rfl)
  · have c_2 := c
    refine r_iload_n 5 dX11_isPlace_4 rfl rfl ?_
    refine r_bipush 7 dX11_isPlace_5 rfl rfl ?_
    refine r_icmp_ge 10 14 dX11_isPlace_7 rfl rfl (fun c => ?_) (fun c => ?_)
    · have c_3 := c
      refine r_iconst 15 dX11_isPlace_14 rfl (InR_of rfl) ?_
      exact (Ex.at hJ_1 rfl (show [vI 0] = [vI (if x0 < 0 then 0 else (if 8 ≤ x0 then 0 else 1 : Int) : Int)] by simp only [if_neg c_2, if_pos c_3]) rfl)
    · have c_3 := c
      refine r_iconst 11 dX11_isPlace_10 rfl (InR_of rfl) ?_
      refine r_goto 15 dX11_isPlace_11 rfl ?_
      exact (Ex.at hJ_1 rfl (show [vI 1] = [vI (if x0 < 0 then 0 else (if 8 ≤ x0 then 0 else 1 : Int) : Int)] by simp only [if_neg c_2, if_neg c_3]) rfl)

set_option maxRecDepth 4000 in
theorem xX11_isDay_0 {l : Launch} {G : Gt} {d : Nat} {M M' : Mem} {r : Option Vl} {x0 : Int} (h : 
    (((if x0 < 0 then 0 else (if 999 < x0 then 0 else 1 : Int) : Int) = 0 ∨ (if x0 < 0 then 0 else (if 999 < x0 then 0 else 1 : Int) : Int) = 1)) ∧ r = some (vI (if x0 < 0 then 0 else (if 999 < x0 then 0 else 1 : Int) : Int)) ∧ M' = M) : Cl l G d mX11_isDay [vI x0] M r M' := by
  show Ex l G d mX11_isDay 0 [some (vI x0)] [] M r M'
  refine r_iload_n 1 dX11_isDay_0 rfl rfl ?_
  have hJ_1 : Ex l G d mX11_isDay 16 [some (vI x0)] [vI (if x0 < 0 then 0 else (if 999 < x0 then 0 else 1 : Int) : Int)] M r M' := by
    obtain ⟨o_4, h⟩ := h
    exact r_iret dX11_isDay_16 rfl (.inr ⟨rfl, o_4⟩) h.1 h.2
  refine r_if_lt 4 15 dX11_isDay_1 rfl rfl (fun c => ?_) (fun c => ?_)
  · have c_2 := c
    refine r_iconst 16 dX11_isDay_15 rfl (InR_of rfl) ?_
    exact (Ex.at hJ_1 rfl (show [vI 0] = [vI (if x0 < 0 then 0 else (if 999 < x0 then 0 else 1 : Int) : Int)] by simp only [if_pos c_2]) rfl)
  · have c_2 := c
    refine r_iload_n 5 dX11_isDay_4 rfl rfl ?_
    refine r_sipush 8 dX11_isDay_5 rfl rfl ?_
    refine r_icmp_gt 11 15 dX11_isDay_8 rfl rfl (fun c => ?_) (fun c => ?_)
    · have c_3 := c
      refine r_iconst 16 dX11_isDay_15 rfl (InR_of rfl) ?_
      exact (Ex.at hJ_1 rfl (show [vI 0] = [vI (if x0 < 0 then 0 else (if 999 < x0 then 0 else 1 : Int) : Int)] by simp only [if_neg c_2, if_pos c_3]) rfl)
    · have c_3 := c
      refine r_iconst 12 dX11_isDay_11 rfl (InR_of rfl) ?_
      refine r_goto 16 dX11_isDay_12 rfl ?_
      exact (Ex.at hJ_1 rfl (show [vI 1] = [vI (if x0 < 0 then 0 else (if 999 < x0 then 0 else 1 : Int) : Int)] by simp only [if_neg c_2, if_neg c_3]) rfl)

set_option maxRecDepth 4000 in
theorem xX11_isSpan_0 {l : Launch} {G : Gt} {d : Nat} {M M' : Mem} {r : Option Vl} {x0 : Int} {x1 : Int} (h : 
    ∃ (r_3 : Int) (M_1 : Mem), Cl l G d mX11_isDay [vI x0] M (some (vI r_3)) M_1 ∧ ((r_3 = 0 → r = some (vI 0) ∧ M' = M_1) ∧ (¬ (r_3 = 0) → ∃ (r_6 : Int) (M_4 : Mem), Cl l G d mX11_isDay [vI x1] M_1 (some (vI r_6)) M_4 ∧ (((¬ (r_6 = 0) → (¬ (x1 < x0) → (InR (x1 - x0))))) ∧ ((((if r_6 = 0 then 0 else (if x1 < x0 then 0 else (if 31 ≤ (x1 - x0) then 0 else 1 : Int) : Int) : Int) = 0 ∨ (if r_6 = 0 then 0 else (if x1 < x0 then 0 else (if 31 ≤ (x1 - x0) then 0 else 1 : Int) : Int) : Int) = 1)) ∧ r = some (vI (if r_6 = 0 then 0 else (if x1 < x0 then 0 else (if 31 ≤ (x1 - x0) then 0 else 1 : Int) : Int) : Int)) ∧ M' = M_4))))) : Cl l G (d + 1) mX11_isSpan [vI x0, vI x1] M r M' := by
  show Ex l G (d + 1) mX11_isSpan 0 [some (vI x0), some (vI x1)] [] M r M'
  refine r_iload_n 1 dX11_isSpan_0 rfl rfl ?_
  obtain ⟨r_3, M_1, hc_2, h⟩ := h
  refine c_1 [vI x0] [] 4 dX11_isSpan_1 rfl rfl mo_X11_isDay ml_11_118 rfl rfl hc_2 ?_
  refine r_if_eq 7 31 dX11_isSpan_4 rfl rfl (fun c => ?_) (fun c => ?_)
  · have h := h.1 (c)
    refine r_iconst 32 dX11_isSpan_31 rfl (InR_of rfl) ?_
    exact r_iret dX11_isSpan_32 rfl (.inr ⟨rfl, (.inl rfl)⟩) h.1 h.2
  · have h := h.2 (c)
    refine r_iload_n 8 dX11_isSpan_7 rfl rfl ?_
    obtain ⟨r_6, M_4, hc_5, h⟩ := h
    refine c_1 [vI x1] [] 11 dX11_isSpan_8 rfl rfl mo_X11_isDay ml_11_118 rfl rfl hc_5 ?_
    obtain ⟨h0, h⟩ := h
    have hJ_7 : Ex l G (d + 1) mX11_isSpan 32 [some (vI x0), some (vI x1)] [vI (if r_6 = 0 then 0 else (if x1 < x0 then 0 else (if 31 ≤ (x1 - x0) then 0 else 1 : Int) : Int) : Int)] M_4 r M' := by
      obtain ⟨o_12, h⟩ := h
      exact r_iret dX11_isSpan_32 rfl (.inr ⟨rfl, o_12⟩) h.1 h.2
    have h := h0
    refine r_if_eq 14 31 dX11_isSpan_11 rfl rfl (fun c => ?_) (fun c => ?_)
    · have c_8 := c
      refine r_iconst 32 dX11_isSpan_31 rfl (InR_of rfl) ?_
      exact (Ex.at hJ_7 rfl (show [vI 0] = [vI (if r_6 = 0 then 0 else (if x1 < x0 then 0 else (if 31 ≤ (x1 - x0) then 0 else 1 : Int) : Int) : Int)] by simp only [if_pos c_8]) rfl)
    · have c_8 := c
      have h := h c_8
      refine r_iload_n 15 dX11_isSpan_14 rfl rfl ?_
      refine r_iload_n 16 dX11_isSpan_15 rfl rfl ?_
      refine r_icmp_gt 19 31 dX11_isSpan_16 rfl rfl (fun c => ?_) (fun c => ?_)
      · have c_9 := c
        refine r_iconst 32 dX11_isSpan_31 rfl (InR_of rfl) ?_
        exact (Ex.at hJ_7 rfl (show [vI 0] = [vI (if r_6 = 0 then 0 else (if x1 < x0 then 0 else (if 31 ≤ (x1 - x0) then 0 else 1 : Int) : Int) : Int)] by simp only [if_neg c_8, if_pos c_9]) rfl)
      · have c_9 := c
        have h := h c_9
        have o_10 := h
        refine r_iload_n 20 dX11_isSpan_19 rfl rfl ?_
        refine r_iload_n 21 dX11_isSpan_20 rfl rfl ?_
        refine r_isub 22 dX11_isSpan_21 rfl o_10 ?_
        refine r_bipush 24 dX11_isSpan_22 rfl rfl ?_
        refine r_icmp_ge 27 31 dX11_isSpan_24 rfl rfl (fun c => ?_) (fun c => ?_)
        · have c_11 := c
          refine r_iconst 32 dX11_isSpan_31 rfl (InR_of rfl) ?_
          exact (Ex.at hJ_7 rfl (show [vI 0] = [vI (if r_6 = 0 then 0 else (if x1 < x0 then 0 else (if 31 ≤ (x1 - x0) then 0 else 1 : Int) : Int) : Int)] by simp only [if_neg c_8, if_neg c_9, if_pos c_11]) rfl)
        · have c_11 := c
          refine r_iconst 28 dX11_isSpan_27 rfl (InR_of rfl) ?_
          refine r_goto 32 dX11_isSpan_28 rfl ?_
          exact (Ex.at hJ_7 rfl (show [vI 1] = [vI (if r_6 = 0 then 0 else (if x1 < x0 then 0 else (if 31 ≤ (x1 - x0) then 0 else 1 : Int) : Int) : Int)] by simp only [if_neg c_8, if_neg c_9, if_neg c_11]) rfl)

set_option maxRecDepth 4000 in
theorem xX11_hasBit_0 {l : Launch} {G : Gt} {d : Nat} {M M' : Mem} {r : Option Vl} {x0 : Int} {x1 : Int} (h : 
    ((0 ≤ x1 ∧ x1 < 32)) ∧ ((((if ¬ (aAnd (aShr x0 x1) 1) = 1 then 0 else 1 : Int) = 0 ∨ (if ¬ (aAnd (aShr x0 x1) 1) = 1 then 0 else 1 : Int) = 1)) ∧ r = some (vI (if ¬ (aAnd (aShr x0 x1) 1) = 1 then 0 else 1 : Int)) ∧ M' = M)) : Cl l G d mX11_hasBit [vI x0, vI x1] M r M' := by
  show Ex l G d mX11_hasBit 0 [some (vI x0), some (vI x1)] [] M r M'
  obtain ⟨o_1, h⟩ := h
  refine r_iload_n 1 dX11_hasBit_0 rfl rfl ?_
  refine r_iload_n 2 dX11_hasBit_1 rfl rfl ?_
  refine r_ishr 3 dX11_hasBit_2 rfl o_1 ?_
  refine r_iconst 4 dX11_hasBit_3 rfl (InR_of rfl) ?_
  refine r_iand 5 dX11_hasBit_4 rfl ?_
  refine r_iconst 6 dX11_hasBit_5 rfl (InR_of rfl) ?_
  have hJ_2 : Ex l G d mX11_hasBit 14 [some (vI x0), some (vI x1)] [vI (if ¬ (aAnd (aShr x0 x1) 1) = 1 then 0 else 1 : Int)] M r M' := by
    obtain ⟨o_4, h⟩ := h
    exact r_iret dX11_hasBit_14 rfl (.inr ⟨rfl, o_4⟩) h.1 h.2
  refine r_icmp_ne 9 13 dX11_hasBit_6 rfl rfl (fun c => ?_) (fun c => ?_)
  · have c_3 := c
    refine r_iconst 14 dX11_hasBit_13 rfl (InR_of rfl) ?_
    exact (Ex.at hJ_2 rfl (show [vI 0] = [vI (if ¬ (aAnd (aShr x0 x1) 1) = 1 then 0 else 1 : Int)] by simp only [if_pos c_3]) rfl)
  · have c_3 := c
    refine r_iconst 10 dX11_hasBit_9 rfl (InR_of rfl) ?_
    refine r_goto 14 dX11_hasBit_10 rfl ?_
    exact (Ex.at hJ_2 rfl (show [vI 1] = [vI (if ¬ (aAnd (aShr x0 x1) 1) = 1 then 0 else 1 : Int)] by simp only [if_neg c_3]) rfl)

set_option maxRecDepth 4000 in
theorem xX11_leastOf_0 {l : Launch} {G : Gt} {d : Nat} {M M' : Mem} {r : Option Vl} {x0 : Int} (h : 
    (¬ x0 = 0 → (InR (-x0) ∧ InR ((aAnd x0 (-x0)) - 1)) ∧ (∃ (r_5 : Int) (M_3 : Mem), Cl l G d mJ6_bitCount_0f7a4 [vI ((aAnd x0 (-x0)) - 1)] M (some (vI r_5)) M_3 ∧ r = some (vI r_5) ∧ M' = M_3)) ∧ (¬ (¬ x0 = 0) → r = some (vI (-1)) ∧ M' = M)) : Cl l G (d + 1) mX11_leastOf [vI x0] M r M' := by
  show Ex l G (d + 1) mX11_leastOf 0 [some (vI x0)] [] M r M'
  refine r_iload_n 1 dX11_leastOf_0 rfl rfl ?_
  refine r_if_ne 4 8 dX11_leastOf_1 rfl rfl (fun c => ?_) (fun c => ?_)
  · have h := h.1 (c)
    obtain ⟨⟨o_1, o_2⟩, h⟩ := h
    refine r_iload_n 9 dX11_leastOf_8 rfl rfl ?_
    refine r_iload_n 10 dX11_leastOf_9 rfl rfl ?_
    refine r_ineg 11 dX11_leastOf_10 rfl o_1 ?_
    refine r_iand 12 dX11_leastOf_11 rfl ?_
    refine r_iconst 13 dX11_leastOf_12 rfl (InR_of rfl) ?_
    refine r_isub 14 dX11_leastOf_13 rfl o_2 ?_
    obtain ⟨r_5, M_3, hc_4, h⟩ := h
    refine c_1 [vI ((aAnd x0 (-x0)) - 1)] [] 17 dX11_leastOf_14 rfl rfl mo_J6_bitCount_0f7a4 ml_11_362 rfl rfl hc_4 ?_
    exact r_iret dX11_leastOf_17 rfl (.inl rfl) h.1 h.2
  · have h := h.2 (c)
    refine r_iconst 5 dX11_leastOf_4 rfl (InR_of rfl) ?_
    refine r_goto 17 dX11_leastOf_5 rfl ?_
    exact r_iret dX11_leastOf_17 rfl (.inl rfl) h.1 h.2

set_option maxRecDepth 4000 in
theorem xX11_coverOf_0 {l : Launch} {G : Gt} {d : Nat} {M M' : Mem} {r : Option Vl} {x1 : Int} (hS : Sh M.2.1) (h : 
    (x1 < 0 → r = some (vR none) ∧ M' = M) ∧ (¬ (x1 < 0) → (x1 < (M.1 2 0 10) → ((0 ≤ x1 ∧ x1 < 8)) ∧ r = some (vR (M.2.1 15 0 x1.toNat)) ∧ M' = M) ∧ (¬ (x1 < (M.1 2 0 10)) → r = some (vR none) ∧ M' = M))) : Cl l G d mX11_coverOf [vR (some (2, 0)), vI x1] M r M' := by
  show Ex l G d mX11_coverOf 0 [some (vR (some (2, 0))), some (vI x1)] [] M r M'
  refine r_iload_n 1 dX11_coverOf_0 rfl rfl ?_
  refine r_if_lt 4 12 dX11_coverOf_1 rfl rfl (fun c => ?_) (fun c => ?_)
  · have h := h.1 (c)
    refine r_null 13 dX11_coverOf_12 rfl ?_
    refine r_goto 22 dX11_coverOf_13 rfl ?_
    exact r_aret dX11_coverOf_22 rfl rfl h.1 h.2
  · have h := h.2 (c)
    refine r_iload_n 5 dX11_coverOf_4 rfl rfl ?_
    refine r_aload_n 6 dX11_coverOf_5 rfl rfl ?_
    refine g_I 9 dX11_coverOf_6 rfl rfl rfl fi_11_147 rfl ?_
    refine r_icmp_lt 12 16 dX11_coverOf_9 rfl rfl (fun c => ?_) (fun c => ?_)
    · have h := h.1 (c)
      obtain ⟨o_1, h⟩ := h
      refine r_aload_n 17 dX11_coverOf_16 rfl rfl ?_
      refine g_R 20 dX11_coverOf_17 rfl rfl rfl fr_11_78 (sh_11_9 hS) ?_
      refine r_iload_n 21 dX11_coverOf_20 rfl rfl ?_
      refine a_R (ci := 1) 8 22 dX11_coverOf_21 rfl rfl rfl rfl rfl o_1 rfl ?_
      exact r_aret dX11_coverOf_22 rfl rfl h.1 h.2
    · have h := h.2 (c)
      refine r_null 13 dX11_coverOf_12 rfl ?_
      refine r_goto 22 dX11_coverOf_13 rfl ?_
      exact r_aret dX11_coverOf_22 rfl rfl h.1 h.2

set_option maxRecDepth 4000 in
theorem xX11_everybody_0 {l : Launch} {G : Gt} {d : Nat} {M M' : Mem} {r : Option Vl}  (hS : Sh M.2.1) (h : 
    ((0 ≤ (M.1 4 0 0) ∧ (M.1 4 0 0) < 32) ∧ InR ((aShl 1 (M.1 4 0 0)) - 1)) ∧ r = some (vI ((aShl 1 (M.1 4 0 0)) - 1)) ∧ M' = M) : Cl l G d mX11_everybody [vR (some (2, 0))] M r M' := by
  show Ex l G d mX11_everybody 0 [some (vR (some (2, 0)))] [] M r M'
  obtain ⟨⟨o_1, o_2⟩, h⟩ := h
  refine r_iconst 1 dX11_everybody_0 rfl (InR_of rfl) ?_
  refine r_aload_n 2 dX11_everybody_1 rfl rfl ?_
  refine g_R 5 dX11_everybody_2 rfl rfl rfl fr_11_12 (sh_11_0 hS) ?_
  refine g_I 8 dX11_everybody_5 rfl rfl rfl fi_11_105 rfl ?_
  refine r_ishl 9 dX11_everybody_8 rfl o_1 ?_
  refine r_iconst 10 dX11_everybody_9 rfl (InR_of rfl) ?_
  refine r_isub 11 dX11_everybody_10 rfl o_2 ?_
  exact r_iret dX11_everybody_11 rfl (.inl rfl) h.1 h.2

set_option maxRecDepth 4000 in
theorem xX11_seenBy_0 {l : Launch} {G : Gt} {d : Nat} {M M' : Mem} {r : Option Vl} {x1 : Int} {k2 : Nat} (hS : Sh M.2.1) (h : 
    ((0 ≤ x1 ∧ x1 < 12)) ∧ (∃ (r_4 : Int) (M_2 : Mem), Cl l G d mX7_seenFrom [vR (some (14, k2)), vI x1, vI (M.1 36 0 x1.toNat)] M (some (vI r_4)) M_2 ∧ r = some (vI r_4) ∧ M' = M_2)) : Cl l G (d + 1) mX11_seenBy [vR (some (2, 0)), vI x1, vR (some (14, k2))] M r M' := by
  show Ex l G (d + 1) mX11_seenBy 0 [some (vR (some (2, 0))), some (vI x1), some (vR (some (14, k2)))] [] M r M'
  obtain ⟨o_1, h⟩ := h
  refine r_aload_n 1 dX11_seenBy_0 rfl rfl ?_
  refine r_iload_n 2 dX11_seenBy_1 rfl rfl ?_
  refine r_aload_n 3 dX11_seenBy_2 rfl rfl ?_
  refine g_R 6 dX11_seenBy_3 rfl rfl rfl fr_11_12 (sh_11_0 hS) ?_
  refine g_R 9 dX11_seenBy_6 rfl rfl rfl fr_11_132 (sh_8_6 hS _) ?_
  refine r_iload_n 10 dX11_seenBy_9 rfl rfl ?_
  refine a_I 12 11 dX11_seenBy_10 rfl rfl rfl rfl o_1 rfl ?_
  obtain ⟨r_4, M_2, hc_3, h⟩ := h
  refine v_1 (ci := 7) (C := (RX7, TX7, 5)) [vI x1, vI (M.1 36 0 x1.toNat)] [] 14 dX11_seenBy_11 rfl rfl rfl rfl rfl mo_X7_seenFrom ml_11_367 rfl rfl hc_3 ?_
  exact r_iret dX11_seenBy_14 rfl (.inl rfl) h.1 h.2

set_option maxRecDepth 4000 in
theorem xX11_forgetFacts_0 {l : Launch} {G : Gt} {d : Nat} {M M' : Mem} {r : Option Vl} {x1 : Int} (hS : Sh M.2.1) (h : 
    ∃ (M_1 : Mem), Cl l G d mX6_keepUpTo [vR (some (6, 0)), vI x1] M none M_1 ∧ Sh M_1.2.1 ∧ (∃ (M_3 : Mem), Cl l G d mX3_forget [vR (some (8, 0))] M_1 none M_3 ∧ r = none ∧ M' = M_3)) : Cl l G (d + 1) mX11_forgetFacts [vR (some (2, 0)), vI x1] M r M' := by
  show Ex l G (d + 1) mX11_forgetFacts 0 [some (vR (some (2, 0))), some (vI x1)] [] M r M'
  refine r_aload_n 1 dX11_forgetFacts_0 rfl rfl ?_
  refine g_R 4 dX11_forgetFacts_1 rfl rfl rfl fr_11_21 (sh_11_1 hS) ?_
  refine r_iload_n 5 dX11_forgetFacts_4 rfl rfl ?_
  obtain ⟨M_1, hc_2, hS, h⟩ := h
  refine v_0 (ci := 6) (C := (RX6, TX6, 3)) [vI x1] [] 8 dX11_forgetFacts_5 rfl rfl rfl rfl rfl mo_X6_keepUpTo ml_11_370 rfl rfl hc_2 ?_
  refine r_aload_n 9 dX11_forgetFacts_8 rfl rfl ?_
  refine g_R 12 dX11_forgetFacts_9 rfl rfl rfl fr_11_35 (sh_11_3 hS) ?_
  obtain ⟨M_3, hc_4, h⟩ := h
  refine v_0 (ci := 3) (C := (RX3, TX3, 4)) [] [] 15 dX11_forgetFacts_12 rfl rfl rfl rfl rfl mo_X3_forget ml_11_373 rfl rfl hc_4 ?_
  exact r_vret dX11_forgetFacts_15 rfl h.1 h.2

set_option maxRecDepth 4000 in
theorem xX11_putBytes_0 {l : Launch} {G : Gt} {d : Nat} {M M' : Mem} {r : Option Vl} {x1 : Int} (h : 
    Ex l G d mX11_putBytes 3 [some (vR (some (2, 0))), some (vI x1), some (vI 24)] [] M r M') : Cl l G d mX11_putBytes [vR (some (2, 0)), vI x1] M r M' := by
  show Ex l G d mX11_putBytes 0 [some (vR (some (2, 0))), some (vI x1), none] [] M r M'
  refine r_bipush 2 dX11_putBytes_0 rfl rfl ?_
  refine r_istore_n (ls' := [some (vR (some (2, 0))), some (vI x1), some (vI 24)]) 3 dX11_putBytes_2 rfl rfl rfl rfl ?_
  exact h
set_option maxRecDepth 4000 in
theorem xX11_putBytes_3 {l : Launch} {G : Gt} {d : Nat} {M M' : Mem} {r : Option Vl} {x1 : Int} {x2 : Int} (hS : Sh M.2.1) (h : 
    (x2 < 0 → r = none ∧ M' = M) ∧ (¬ (x2 < 0) → (400 ≤ (M.1 2 0 12) → (InR (x2 + (-8))) ∧ Ex l G d mX11_putBytes 3 [some (vR (some (2, 0))), some (vI x1), some (vI (x2 + (-8)))] [] M r M') ∧ (¬ (400 ≤ (M.1 2 0 12)) → ((0 ≤ x2 ∧ x2 < 32) ∧ (0 ≤ (M.1 2 0 12) ∧ (M.1 2 0 12) < 400) ∧ InR ((M.1 2 0 12) + 1) ∧ InR (x2 + (-8))) ∧ Ex l G d mX11_putBytes 3 [some (vR (some (2, 0))), some (vI x1), some (vI (x2 + (-8)))] [] ((upI (upI M.1 16 0 (M.1 2 0 12).toNat (aAnd (aUshr x1 x2) 255)) 2 0 12 ((M.1 2 0 12) + 1)), M.2.1, M.2.2) r M'))) : Ex l G d mX11_putBytes 3 [some (vR (some (2, 0))), some (vI x1), some (vI x2)] [] M r M' := by
  refine r_iload_n 4 dX11_putBytes_3 rfl rfl ?_
  refine r_if_lt 7 49 dX11_putBytes_4 rfl rfl (fun c => ?_) (fun c => ?_)
  · have h := h.1 (c)
    exact r_vret dX11_putBytes_49 rfl h.1 h.2
  · have h := h.2 (c)
    refine r_aload_n 8 dX11_putBytes_7 rfl rfl ?_
    refine g_I 11 dX11_putBytes_8 rfl rfl rfl fi_11_141 rfl ?_
    refine r_sipush 14 dX11_putBytes_11 rfl rfl ?_
    refine r_icmp_ge 17 43 dX11_putBytes_14 rfl rfl (fun c => ?_) (fun c => ?_)
    · have h := h.1 (c)
      obtain ⟨o_1, h⟩ := h
      refine r_iinc (ls' := [some (vR (some (2, 0))), some (vI x1), some (vI (x2 + (-8)))]) 46 dX11_putBytes_43 rfl rfl rfl rfl o_1 rfl ?_
      refine r_goto 3 dX11_putBytes_46 rfl ?_
      exact h
    · have h := h.2 (c)
      obtain ⟨⟨o_2, o_3, o_4, o_5⟩, h⟩ := h
      refine r_aload_n 18 dX11_putBytes_17 rfl rfl ?_
      refine g_R 21 dX11_putBytes_18 rfl rfl rfl fr_11_82 (sh_11_11 hS) ?_
      refine r_aload_n 22 dX11_putBytes_21 rfl rfl ?_
      refine g_I 25 dX11_putBytes_22 rfl rfl rfl fi_11_141 rfl ?_
      refine r_iload_n 26 dX11_putBytes_25 rfl rfl ?_
      refine r_iload_n 27 dX11_putBytes_26 rfl rfl ?_
      refine r_iushr 28 dX11_putBytes_27 rfl o_2 ?_
      refine r_sipush 31 dX11_putBytes_28 rfl rfl ?_
      refine r_iand 32 dX11_putBytes_31 rfl ?_
      refine s_I 400 33 dX11_putBytes_32 rfl rfl (by decide) rfl rfl o_3 ?_
      refine r_aload_n 34 dX11_putBytes_33 rfl rfl ?_
      refine r_dup 35 dX11_putBytes_34 rfl rfl ?_
      refine g_I 38 dX11_putBytes_35 rfl rfl rfl fi_11_141 (mI_0 (upI_f rfl)) ?_
      refine r_iconst 39 dX11_putBytes_38 rfl (InR_of rfl) ?_
      refine r_iadd 40 dX11_putBytes_39 rfl o_4 ?_
      refine p_I 43 dX11_putBytes_40 rfl rfl rfl rfl pf_11_141 (.inl rfl) rfl ?_
      refine r_iinc (ls' := [some (vR (some (2, 0))), some (vI x1), some (vI (x2 + (-8)))]) 46 dX11_putBytes_43 rfl rfl rfl rfl o_5 rfl ?_
      refine r_goto 3 dX11_putBytes_46 rfl ?_
      exact h

set_option maxRecDepth 4000 in
theorem xX11_fitFor_0 {l : Launch} {G : Gt} {d : Nat} {M M' : Mem} {r : Option Vl} {k1 : Nat} {x2 : Int} {x3 : Int} {x4 : Int} {x5 : Int} (hS : Sh M.2.1) (h : 
    ∃ (k_3 : Nat) (M_1 : Mem), Cl l G d mX6_on [vR (some (6, 0)), vI x4] M (some (vR (some (14, k_3)))) M_1 ∧ Sh M_1.2.1 ∧ (((M_1.1 13 k1 3) = 0 → ∃ (k_6 : Nat) (M_4 : Mem), Cl l G d mX6_on [vR (some (6, 0)), vI x3] M_1 (some (vR (some (14, k_6)))) M_4 ∧ ((¬ x5 = (-1) → ∃ (r_9 : Int) (M_7 : Mem), Cl l G d mX11_seenBy [vR (some (2, 0)), vI x5, vR (some (14, k_3))] M_4 (some (vI r_9)) M_7 ∧ Sh M_7.2.1 ∧ (∃ (r_12 : Int) (M_10 : Mem), Cl l G d mX3_fit [vR (some (8, 0)), vR (some (13, k1)), vI x2, vR (some (14, k_6)), vI r_9] M_7 (some (vI r_12)) M_10 ∧ r = some (vI r_12) ∧ M' = M_10)) ∧ (¬ (¬ x5 = (-1)) → ∃ (r_15 : Int) (M_13 : Mem), Cl l G d mX11_everybody [vR (some (2, 0))] M_4 (some (vI r_15)) M_13 ∧ Sh M_13.2.1 ∧ (∃ (r_18 : Int) (M_16 : Mem), Cl l G d mX3_fit [vR (some (8, 0)), vR (some (13, k1)), vI x2, vR (some (14, k_6)), vI r_15] M_13 (some (vI r_18)) M_16 ∧ r = some (vI r_18) ∧ M' = M_16)))) ∧ (¬ ((M_1.1 13 k1 3) = 0) → (¬ x5 = (-1) → ∃ (r_21 : Int) (M_19 : Mem), Cl l G d mX11_seenBy [vR (some (2, 0)), vI x5, vR (some (14, k_3))] M_1 (some (vI r_21)) M_19 ∧ Sh M_19.2.1 ∧ (∃ (r_24 : Int) (M_22 : Mem), Cl l G d mX3_fit [vR (some (8, 0)), vR (some (13, k1)), vI x2, vR (some (14, k_3)), vI r_21] M_19 (some (vI r_24)) M_22 ∧ r = some (vI r_24) ∧ M' = M_22)) ∧ (¬ (¬ x5 = (-1)) → ∃ (r_27 : Int) (M_25 : Mem), Cl l G d mX11_everybody [vR (some (2, 0))] M_1 (some (vI r_27)) M_25 ∧ Sh M_25.2.1 ∧ (∃ (r_30 : Int) (M_28 : Mem), Cl l G d mX3_fit [vR (some (8, 0)), vR (some (13, k1)), vI x2, vR (some (14, k_3)), vI r_27] M_25 (some (vI r_30)) M_28 ∧ r = some (vI r_30) ∧ M' = M_28))))) : Cl l G (d + 1) mX11_fitFor [vR (some (2, 0)), vR (some (13, k1)), vI x2, vI x3, vI x4, vI x5] M r M' := by
  show Ex l G (d + 1) mX11_fitFor 0 [some (vR (some (2, 0))), some (vR (some (13, k1))), some (vI x2), some (vI x3), some (vI x4), some (vI x5), none, none, none] [] M r M'
  refine r_aload_n 1 dX11_fitFor_0 rfl rfl ?_
  refine g_R 4 dX11_fitFor_1 rfl rfl rfl fr_11_21 (sh_11_1 hS) ?_
  refine r_iload 6 dX11_fitFor_4 rfl rfl ?_
  obtain ⟨k_3, M_1, hc_2, hS, h⟩ := h
  refine v_1 (ci := 6) (C := (RX6, TX6, 3)) [vI x4] [] 9 dX11_fitFor_6 rfl rfl rfl rfl rfl mo_X6_on ml_11_158 rfl rfl hc_2 ?_
  refine r_astore (ls' := [some (vR (some (2, 0))), some (vR (some (13, k1))), some (vI x2), some (vI x3), some (vI x4), some (vI x5), some (vR (some (14, k_3))), none, none]) 11 dX11_fitFor_9 rfl rfl rfl rfl ?_
  refine r_aload_n 12 dX11_fitFor_11 rfl rfl ?_
  refine g_I 15 dX11_fitFor_12 rfl rfl rfl fi_11_376 rfl ?_
  refine r_if_eq 18 23 dX11_fitFor_15 rfl rfl (fun c => ?_) (fun c => ?_)
  · have h := h.1 (c)
    refine r_aload_n 24 dX11_fitFor_23 rfl rfl ?_
    refine g_R 27 dX11_fitFor_24 rfl rfl rfl fr_11_21 (sh_11_1 hS) ?_
    refine r_iload_n 28 dX11_fitFor_27 rfl rfl ?_
    obtain ⟨k_6, M_4, hc_5, h⟩ := h
    refine v_1 (ci := 6) (C := (RX6, TX6, 3)) [vI x3] [] 31 dX11_fitFor_28 rfl rfl rfl rfl rfl mo_X6_on ml_11_158 rfl rfl hc_5 ?_
    refine r_astore (ls' := [some (vR (some (2, 0))), some (vR (some (13, k1))), some (vI x2), some (vI x3), some (vI x4), some (vI x5), some (vR (some (14, k_3))), some (vR (some (14, k_6))), none]) 33 dX11_fitFor_31 rfl rfl rfl rfl ?_
    refine r_iload 35 dX11_fitFor_33 rfl rfl ?_
    refine r_iconst 36 dX11_fitFor_35 rfl (InR_of rfl) ?_
    refine r_icmp_ne 39 46 dX11_fitFor_36 rfl rfl (fun c => ?_) (fun c => ?_)
    · have h := h.1 (c)
      refine r_aload_n 47 dX11_fitFor_46 rfl rfl ?_
      refine r_iload 49 dX11_fitFor_47 rfl rfl ?_
      refine r_aload 51 dX11_fitFor_49 rfl rfl ?_
      obtain ⟨r_9, M_7, hc_8, hS, h⟩ := h
      refine v_1 (ci := 11) (C := (RX11, TX11, 14)) [vI x5, vR (some (14, k_3))] [] 54 dX11_fitFor_51 rfl rfl rfl rfl rfl mo_X11_seenBy ml_11_174 rfl rfl hc_8 ?_
      refine r_istore (ls' := [some (vR (some (2, 0))), some (vR (some (13, k1))), some (vI x2), some (vI x3), some (vI x4), some (vI x5), some (vR (some (14, k_3))), some (vR (some (14, k_6))), some (vI r_9)]) 56 dX11_fitFor_54 rfl rfl rfl rfl ?_
      refine r_aload_n 57 dX11_fitFor_56 rfl rfl ?_
      refine g_R 60 dX11_fitFor_57 rfl rfl rfl fr_11_35 (sh_11_3 hS) ?_
      refine r_aload_n 61 dX11_fitFor_60 rfl rfl ?_
      refine r_iload_n 62 dX11_fitFor_61 rfl rfl ?_
      refine r_aload 64 dX11_fitFor_62 rfl rfl ?_
      refine r_iload 66 dX11_fitFor_64 rfl rfl ?_
      obtain ⟨r_12, M_10, hc_11, h⟩ := h
      refine v_1 (ci := 3) (C := (RX3, TX3, 4)) [vR (some (13, k1)), vI x2, vR (some (14, k_6)), vI r_9] [] 69 dX11_fitFor_66 rfl rfl rfl rfl rfl mo_X3_fit ml_11_379 rfl rfl hc_11 ?_
      exact r_iret dX11_fitFor_69 rfl (.inl rfl) h.1 h.2
    · have h := h.2 (c)
      refine r_aload_n 40 dX11_fitFor_39 rfl rfl ?_
      obtain ⟨r_15, M_13, hc_14, hS, h⟩ := h
      refine v_1 (ci := 11) (C := (RX11, TX11, 14)) [] [] 43 dX11_fitFor_40 rfl rfl rfl rfl rfl mo_X11_everybody ml_11_194 rfl rfl hc_14 ?_
      refine r_goto 54 dX11_fitFor_43 rfl ?_
      refine r_istore (ls' := [some (vR (some (2, 0))), some (vR (some (13, k1))), some (vI x2), some (vI x3), some (vI x4), some (vI x5), some (vR (some (14, k_3))), some (vR (some (14, k_6))), some (vI r_15)]) 56 dX11_fitFor_54 rfl rfl rfl rfl ?_
      refine r_aload_n 57 dX11_fitFor_56 rfl rfl ?_
      refine g_R 60 dX11_fitFor_57 rfl rfl rfl fr_11_35 (sh_11_3 hS) ?_
      refine r_aload_n 61 dX11_fitFor_60 rfl rfl ?_
      refine r_iload_n 62 dX11_fitFor_61 rfl rfl ?_
      refine r_aload 64 dX11_fitFor_62 rfl rfl ?_
      refine r_iload 66 dX11_fitFor_64 rfl rfl ?_
      obtain ⟨r_18, M_16, hc_17, h⟩ := h
      refine v_1 (ci := 3) (C := (RX3, TX3, 4)) [vR (some (13, k1)), vI x2, vR (some (14, k_6)), vI r_15] [] 69 dX11_fitFor_66 rfl rfl rfl rfl rfl mo_X3_fit ml_11_379 rfl rfl hc_17 ?_
      exact r_iret dX11_fitFor_69 rfl (.inl rfl) h.1 h.2
  · have h := h.2 (c)
    refine r_aload 20 dX11_fitFor_18 rfl rfl ?_
    refine r_goto 31 dX11_fitFor_20 rfl ?_
    refine r_astore (ls' := [some (vR (some (2, 0))), some (vR (some (13, k1))), some (vI x2), some (vI x3), some (vI x4), some (vI x5), some (vR (some (14, k_3))), some (vR (some (14, k_3))), none]) 33 dX11_fitFor_31 rfl rfl rfl rfl ?_
    refine r_iload 35 dX11_fitFor_33 rfl rfl ?_
    refine r_iconst 36 dX11_fitFor_35 rfl (InR_of rfl) ?_
    refine r_icmp_ne 39 46 dX11_fitFor_36 rfl rfl (fun c => ?_) (fun c => ?_)
    · have h := h.1 (c)
      refine r_aload_n 47 dX11_fitFor_46 rfl rfl ?_
      refine r_iload 49 dX11_fitFor_47 rfl rfl ?_
      refine r_aload 51 dX11_fitFor_49 rfl rfl ?_
      obtain ⟨r_21, M_19, hc_20, hS, h⟩ := h
      refine v_1 (ci := 11) (C := (RX11, TX11, 14)) [vI x5, vR (some (14, k_3))] [] 54 dX11_fitFor_51 rfl rfl rfl rfl rfl mo_X11_seenBy ml_11_174 rfl rfl hc_20 ?_
      refine r_istore (ls' := [some (vR (some (2, 0))), some (vR (some (13, k1))), some (vI x2), some (vI x3), some (vI x4), some (vI x5), some (vR (some (14, k_3))), some (vR (some (14, k_3))), some (vI r_21)]) 56 dX11_fitFor_54 rfl rfl rfl rfl ?_
      refine r_aload_n 57 dX11_fitFor_56 rfl rfl ?_
      refine g_R 60 dX11_fitFor_57 rfl rfl rfl fr_11_35 (sh_11_3 hS) ?_
      refine r_aload_n 61 dX11_fitFor_60 rfl rfl ?_
      refine r_iload_n 62 dX11_fitFor_61 rfl rfl ?_
      refine r_aload 64 dX11_fitFor_62 rfl rfl ?_
      refine r_iload 66 dX11_fitFor_64 rfl rfl ?_
      obtain ⟨r_24, M_22, hc_23, h⟩ := h
      refine v_1 (ci := 3) (C := (RX3, TX3, 4)) [vR (some (13, k1)), vI x2, vR (some (14, k_3)), vI r_21] [] 69 dX11_fitFor_66 rfl rfl rfl rfl rfl mo_X3_fit ml_11_379 rfl rfl hc_23 ?_
      exact r_iret dX11_fitFor_69 rfl (.inl rfl) h.1 h.2
    · have h := h.2 (c)
      refine r_aload_n 40 dX11_fitFor_39 rfl rfl ?_
      obtain ⟨r_27, M_25, hc_26, hS, h⟩ := h
      refine v_1 (ci := 11) (C := (RX11, TX11, 14)) [] [] 43 dX11_fitFor_40 rfl rfl rfl rfl rfl mo_X11_everybody ml_11_194 rfl rfl hc_26 ?_
      refine r_goto 54 dX11_fitFor_43 rfl ?_
      refine r_istore (ls' := [some (vR (some (2, 0))), some (vR (some (13, k1))), some (vI x2), some (vI x3), some (vI x4), some (vI x5), some (vR (some (14, k_3))), some (vR (some (14, k_3))), some (vI r_27)]) 56 dX11_fitFor_54 rfl rfl rfl rfl ?_
      refine r_aload_n 57 dX11_fitFor_56 rfl rfl ?_
      refine g_R 60 dX11_fitFor_57 rfl rfl rfl fr_11_35 (sh_11_3 hS) ?_
      refine r_aload_n 61 dX11_fitFor_60 rfl rfl ?_
      refine r_iload_n 62 dX11_fitFor_61 rfl rfl ?_
      refine r_aload 64 dX11_fitFor_62 rfl rfl ?_
      refine r_iload 66 dX11_fitFor_64 rfl rfl ?_
      obtain ⟨r_30, M_28, hc_29, h⟩ := h
      refine v_1 (ci := 3) (C := (RX3, TX3, 4)) [vR (some (13, k1)), vI x2, vR (some (14, k_3)), vI r_27] [] 69 dX11_fitFor_66 rfl rfl rfl rfl rfl mo_X3_fit ml_11_379 rfl rfl hc_29 ?_
      exact r_iret dX11_fitFor_69 rfl (.inl rfl) h.1 h.2

set_option maxRecDepth 4000 in
theorem xX11_daysOfRound_0 {l : Launch} {G : Gt} {d : Nat} {M M' : Mem} {r : Option Vl} {k1 : Nat} {x2 : Int} (h : 
    Ex l G d mX11_daysOfRound 8 [some (vR (some (2, 0))), some (vR (some (18, k1))), some (vI x2), some (vI x2), some (vI 0), some (vI 0), none] [] M r M') : Cl l G d mX11_daysOfRound [vR (some (2, 0)), vR (some (18, k1)), vI x2] M r M' := by
  show Ex l G d mX11_daysOfRound 0 [some (vR (some (2, 0))), some (vR (some (18, k1))), some (vI x2), none, none, none, none] [] M r M'
  refine r_iload_n 1 dX11_daysOfRound_0 rfl rfl ?_
  refine r_istore_n (ls' := [some (vR (some (2, 0))), some (vR (some (18, k1))), some (vI x2), some (vI x2), none, none, none]) 2 dX11_daysOfRound_1 rfl rfl rfl rfl ?_
  refine r_iconst 3 dX11_daysOfRound_2 rfl (InR_of rfl) ?_
  refine r_istore (ls' := [some (vR (some (2, 0))), some (vR (some (18, k1))), some (vI x2), some (vI x2), some (vI 0), none, none]) 5 dX11_daysOfRound_3 rfl rfl rfl rfl ?_
  refine r_iconst 6 dX11_daysOfRound_5 rfl (InR_of rfl) ?_
  refine r_istore (ls' := [some (vR (some (2, 0))), some (vR (some (18, k1))), some (vI x2), some (vI x2), some (vI 0), some (vI 0), none]) 8 dX11_daysOfRound_6 rfl rfl rfl rfl ?_
  exact h
set_option maxRecDepth 4000 in
theorem xX11_daysOfRound_8 {l : Launch} {G : Gt} {d : Nat} {M M' : Mem} {r : Option Vl} {k1 : Nat} {x2 : Int} {x3 : Int} {x4 : Int} {x5 : Int} (hS : Sh M.2.1) (h : 
    (8 ≤ x5 → r = some (vI 0) ∧ M' = M) ∧ (¬ (8 ≤ x5) → ((0 ≤ x3 ∧ x3 < 8)) ∧ ((¬ (M.1 18 k1 x3.toNat) = (-1) → (InR (x3 * 8) ∧ InR ((x3 * 8) + (M.1 18 k1 x3.toNat)) ∧ (0 ≤ ((x3 * 8) + (M.1 18 k1 x3.toNat)) ∧ ((x3 * 8) + (M.1 18 k1 x3.toNat)) < 64) ∧ InR (x4 + (M.1 34 0 ((x3 * 8) + (M.1 18 k1 x3.toNat)).toNat))) ∧ ((¬ (M.1 18 k1 x3.toNat) = x2 → (InR (x5 + 1)) ∧ Ex l G d mX11_daysOfRound 8 [some (vR (some (2, 0))), some (vR (some (18, k1))), some (vI x2), some (vI (M.1 18 k1 x3.toNat)), some (vI (x4 + (M.1 34 0 ((x3 * 8) + (M.1 18 k1 x3.toNat)).toNat))), some (vI (x5 + 1)), none] [] M r M') ∧ (¬ (¬ (M.1 18 k1 x3.toNat) = x2) → r = some (vI (x4 + (M.1 34 0 ((x3 * 8) + (M.1 18 k1 x3.toNat)).toNat))) ∧ M' = M))) ∧ (¬ (¬ (M.1 18 k1 x3.toNat) = (-1)) → r = some (vI 0) ∧ M' = M)))) : Ex l G d mX11_daysOfRound 8 [some (vR (some (2, 0))), some (vR (some (18, k1))), some (vI x2), some (vI x3), some (vI x4), some (vI x5), none] [] M r M' := by
  refine r_iload 10 dX11_daysOfRound_8 rfl rfl ?_
  refine r_bipush 12 dX11_daysOfRound_10 rfl rfl ?_
  refine r_icmp_ge 15 65 dX11_daysOfRound_12 rfl rfl (fun c => ?_) (fun c => ?_)
  · have h := h.1 (c)
    refine r_iconst 66 dX11_daysOfRound_65 rfl (InR_of rfl) ?_
    exact r_iret dX11_daysOfRound_66 rfl (.inl rfl) h.1 h.2
  · have h := h.2 (c)
    obtain ⟨o_1, h⟩ := h
    refine r_aload_n 16 dX11_daysOfRound_15 rfl rfl ?_
    refine r_iload_n 17 dX11_daysOfRound_16 rfl rfl ?_
    refine a_I 8 18 dX11_daysOfRound_17 rfl rfl rfl rfl o_1 rfl ?_
    refine r_istore (ls' := [some (vR (some (2, 0))), some (vR (some (18, k1))), some (vI x2), some (vI x3), some (vI x4), some (vI x5), some (vI (M.1 18 k1 x3.toNat))]) 20 dX11_daysOfRound_18 rfl rfl rfl rfl ?_
    refine r_iload 22 dX11_daysOfRound_20 rfl rfl ?_
    refine r_iconst 23 dX11_daysOfRound_22 rfl (InR_of rfl) ?_
    refine r_icmp_ne 26 28 dX11_daysOfRound_23 rfl rfl (fun c => ?_) (fun c => ?_)
    · have h := h.1 (c)
      obtain ⟨⟨o_2, o_3, o_4, o_5⟩, h⟩ := h
      refine r_iload 30 dX11_daysOfRound_28 rfl rfl ?_
      refine r_aload_n 31 dX11_daysOfRound_30 rfl rfl ?_
      refine g_R 34 dX11_daysOfRound_31 rfl rfl rfl fr_11_12 (sh_11_0 hS) ?_
      refine g_R 37 dX11_daysOfRound_34 rfl rfl rfl fr_11_98 (sh_8_3 hS _) ?_
      refine r_iload_n 38 dX11_daysOfRound_37 rfl rfl ?_
      refine r_bipush 40 dX11_daysOfRound_38 rfl rfl ?_
      refine r_imul 41 dX11_daysOfRound_40 rfl o_2 ?_
      refine r_iload 43 dX11_daysOfRound_41 rfl rfl ?_
      refine r_iadd 44 dX11_daysOfRound_43 rfl o_3 ?_
      refine a_I 64 45 dX11_daysOfRound_44 rfl rfl rfl rfl o_4 rfl ?_
      refine r_iadd 46 dX11_daysOfRound_45 rfl o_5 ?_
      refine r_istore (ls' := [some (vR (some (2, 0))), some (vR (some (18, k1))), some (vI x2), some (vI x3), some (vI (x4 + (M.1 34 0 ((x3 * 8) + (M.1 18 k1 x3.toNat)).toNat))), some (vI x5), some (vI (M.1 18 k1 x3.toNat))]) 48 dX11_daysOfRound_46 rfl rfl rfl rfl ?_
      refine r_iload 50 dX11_daysOfRound_48 rfl rfl ?_
      refine r_istore_n (ls' := [some (vR (some (2, 0))), some (vR (some (18, k1))), some (vI x2), some (vI (M.1 18 k1 x3.toNat)), some (vI (x4 + (M.1 34 0 ((x3 * 8) + (M.1 18 k1 x3.toNat)).toNat))), some (vI x5), some (vI (M.1 18 k1 x3.toNat))]) 51 dX11_daysOfRound_50 rfl rfl rfl rfl ?_
      refine r_iload_n 52 dX11_daysOfRound_51 rfl rfl ?_
      refine r_iload_n 53 dX11_daysOfRound_52 rfl rfl ?_
      refine r_icmp_ne 56 59 dX11_daysOfRound_53 rfl rfl (fun c => ?_) (fun c => ?_)
      · have h := h.1 (c)
        obtain ⟨o_6, h⟩ := h
        refine r_iinc (ls' := [some (vR (some (2, 0))), some (vR (some (18, k1))), some (vI x2), some (vI (M.1 18 k1 x3.toNat)), some (vI (x4 + (M.1 34 0 ((x3 * 8) + (M.1 18 k1 x3.toNat)).toNat))), some (vI (x5 + 1)), some (vI (M.1 18 k1 x3.toNat))]) 62 dX11_daysOfRound_59 rfl rfl rfl rfl o_6 rfl ?_
        refine r_goto 8 dX11_daysOfRound_62 rfl ?_
        exact Ex.weak h ⟨rfl, rfl, rfl, rfl, rfl, rfl, trivial⟩
      · have h := h.2 (c)
        refine r_iload 58 dX11_daysOfRound_56 rfl rfl ?_
        exact r_iret dX11_daysOfRound_58 rfl (.inl rfl) h.1 h.2
    · have h := h.2 (c)
      refine r_iconst 27 dX11_daysOfRound_26 rfl (InR_of rfl) ?_
      exact r_iret dX11_daysOfRound_27 rfl (.inl rfl) h.1 h.2

set_option maxRecDepth 4000 in
theorem xX11_dayRight_0 {l : Launch} {G : Gt} {d : Nat} {M M' : Mem} {r : Option Vl} {k1 : Nat} {x2 : Int} {x3 : Int} {x4 : Int} {x5 : Int} (hS : Sh M.2.1) (h : 
    ∃ (M_1 : Mem), Cl l G d mX5_begin [vR (some (5, 8)), vR (some (13, k1)), vI x2, vI x3, vI x4, vI x5] M none M_1 ∧ Sh M_1.2.1 ∧ (∃ (M_3 : Mem), Cl l G d mX0_goToEnd [vR (some (9, 0)), vR (some (5, 8))] M_1 none M_3 ∧ Sh M_3.2.1 ∧ (∃ (r_7 : Int) (M_5 : Mem), Cl l G d mX5_isRight [vR (some (5, 8))] M_3 (some (vI r_7)) M_5 ∧ Sh M_5.2.1 ∧ r = some (vI (if r_7 = 0 then (-2) else (M_5.1 5 8 7) : Int)) ∧ M' = M_5))) : Cl l G (d + 1) mX11_dayRight [vR (some (2, 0)), vR (some (13, k1)), vI x2, vI x3, vI x4, vI x5] M r M' := by
  show Ex l G (d + 1) mX11_dayRight 0 [some (vR (some (2, 0))), some (vR (some (13, k1))), some (vI x2), some (vI x3), some (vI x4), some (vI x5)] [] M r M'
  refine r_aload_n 1 dX11_dayRight_0 rfl rfl ?_
  refine g_R 4 dX11_dayRight_1 rfl rfl rfl fr_11_72 (sh_11_8 hS) ?_
  refine r_aload_n 5 dX11_dayRight_4 rfl rfl ?_
  refine r_iload_n 6 dX11_dayRight_5 rfl rfl ?_
  refine r_iload_n 7 dX11_dayRight_6 rfl rfl ?_
  refine r_iload 9 dX11_dayRight_7 rfl rfl ?_
  refine r_iload 11 dX11_dayRight_9 rfl rfl ?_
  obtain ⟨M_1, hc_2, hS, h⟩ := h
  refine v_0 (ci := 5) (C := (RX5, TX5, 12)) [vR (some (13, k1)), vI x2, vI x3, vI x4, vI x5] [] 14 dX11_dayRight_11 rfl rfl rfl rfl rfl mo_X5_begin ml_11_228 rfl rfl hc_2 ?_
  refine r_aload_n 15 dX11_dayRight_14 rfl rfl ?_
  refine g_R 18 dX11_dayRight_15 rfl rfl rfl fr_11_44 (sh_11_4 hS) ?_
  refine r_aload_n 19 dX11_dayRight_18 rfl rfl ?_
  refine g_R 22 dX11_dayRight_19 rfl rfl rfl fr_11_72 (sh_11_8 hS) ?_
  obtain ⟨M_3, hc_4, hS, h⟩ := h
  refine v_0 (ci := 0) (C := (RX0, TX0, 13)) [vR (some (5, 8))] [] 25 dX11_dayRight_22 rfl rfl rfl rfl rfl mo_X0_goToEnd ml_11_291 rfl rfl hc_4 ?_
  refine r_aload_n 26 dX11_dayRight_25 rfl rfl ?_
  refine g_R 29 dX11_dayRight_26 rfl rfl rfl fr_11_72 (sh_11_8 hS) ?_
  obtain ⟨r_7, M_5, hc_6, hS, h⟩ := h
  refine v_1 (ci := 5) (C := (RX5, TX5, 12)) [] [] 32 dX11_dayRight_29 rfl rfl rfl rfl rfl mo_X5_isRight ml_11_249 rfl rfl hc_6 ?_
  have hJ_8 : Ex l G (d + 1) mX11_dayRight 47 [some (vR (some (2, 0))), some (vR (some (13, k1))), some (vI x2), some (vI x3), some (vI x4), some (vI x5)] [vI (if r_7 = 0 then (-2) else (M_5.1 5 8 7) : Int)] M_5 r M' := by
    exact r_iret dX11_dayRight_47 rfl (.inl rfl) h.1 h.2
  refine r_if_eq 35 45 dX11_dayRight_32 rfl rfl (fun c => ?_) (fun c => ?_)
  · have c_9 := c
    refine r_bipush 47 dX11_dayRight_45 rfl rfl ?_
    exact (Ex.at hJ_8 rfl (show [vI (-2)] = [vI (if r_7 = 0 then (-2) else (M_5.1 5 8 7) : Int)] by simp only [if_pos c_9]) rfl)
  · have c_9 := c
    refine r_aload_n 36 dX11_dayRight_35 rfl rfl ?_
    refine g_R 39 dX11_dayRight_36 rfl rfl rfl fr_11_72 (sh_11_8 hS) ?_
    refine g_I 42 dX11_dayRight_39 rfl rfl rfl fi_11_243 rfl ?_
    refine r_goto 47 dX11_dayRight_42 rfl ?_
    exact (Ex.at hJ_8 rfl (show [vI (M_5.1 5 8 7)] = [vI (if r_7 = 0 then (-2) else (M_5.1 5 8 7) : Int)] by simp only [if_neg c_9]) rfl)

set_option maxRecDepth 4000 in
theorem xX11_addUnlikeWords_0 {l : Launch} {G : Gt} {d : Nat} {M M' : Mem} {r : Option Vl} {k1 : Nat} {x2 : Int} {x3 : Int} {x4 : Int} (h : 
    ∃ (r_3 : Int) (M_1 : Mem), Cl l G d mX7_wordsOf [vR (some (14, k1)), vI x3, vI x2] M (some (vI r_3)) M_1 ∧ Ex l G (d + 1) mX11_addUnlikeWords 11 [some (vR (some (2, 0))), some (vR (some (14, k1))), some (vI x2), some (vI x3), some (vI x4), some (vI r_3), some (vI 0), none] [] M_1 r M') : Cl l G (d + 1) mX11_addUnlikeWords [vR (some (2, 0)), vR (some (14, k1)), vI x2, vI x3, vI x4] M r M' := by
  show Ex l G (d + 1) mX11_addUnlikeWords 0 [some (vR (some (2, 0))), some (vR (some (14, k1))), some (vI x2), some (vI x3), some (vI x4), none, none, none] [] M r M'
  refine r_aload_n 1 dX11_addUnlikeWords_0 rfl rfl ?_
  refine r_iload_n 2 dX11_addUnlikeWords_1 rfl rfl ?_
  refine r_iload_n 3 dX11_addUnlikeWords_2 rfl rfl ?_
  obtain ⟨r_3, M_1, hc_2, h⟩ := h
  refine v_1 (ci := 7) (C := (RX7, TX7, 5)) [vI x3, vI x2] [] 6 dX11_addUnlikeWords_3 rfl rfl rfl rfl rfl mo_X7_wordsOf ml_11_313 rfl rfl hc_2 ?_
  refine r_istore (ls' := [some (vR (some (2, 0))), some (vR (some (14, k1))), some (vI x2), some (vI x3), some (vI x4), some (vI r_3), none, none]) 8 dX11_addUnlikeWords_6 rfl rfl rfl rfl ?_
  refine r_iconst 9 dX11_addUnlikeWords_8 rfl (InR_of rfl) ?_
  refine r_istore (ls' := [some (vR (some (2, 0))), some (vR (some (14, k1))), some (vI x2), some (vI x3), some (vI x4), some (vI r_3), some (vI 0), none]) 11 dX11_addUnlikeWords_9 rfl rfl rfl rfl ?_
  exact h
set_option maxRecDepth 4000 in
theorem xX11_addUnlikeWords_11 {l : Launch} {G : Gt} {d : Nat} {M M' : Mem} {r : Option Vl} {k1 : Nat} {x2 : Int} {x3 : Int} {x4 : Int} {x5 : Int} {x6 : Int} (hS : Sh M.2.1) (h : 
    ((M.1 4 0 0) ≤ x6 → r = some (vI (-1)) ∧ M' = M) ∧ (¬ ((M.1 4 0 0) ≤ x6) → (x6 = x3 → (InR (x6 + 1)) ∧ Ex l G (d + 1) mX11_addUnlikeWords 11 [some (vR (some (2, 0))), some (vR (some (14, k1))), some (vI x2), some (vI x3), some (vI x4), some (vI x5), some (vI (x6 + 1)), none] [] M r M') ∧ (¬ (x6 = x3) → ∃ (r_4 : Int) (M_2 : Mem), Cl l G d mX7_wordsOf [vR (some (14, k1)), vI x6, vI x2] M (some (vI r_4)) M_2 ∧ Sh M_2.2.1 ∧ ((¬ (aAnd (aXor r_4 x5) x4) = 0 → ∃ (M_5 : Mem), Cl l G d mX4_add [vR (some (11, 0)), vI (aAnd (aXor r_4 x5) x4)] M_2 none M_5 ∧ (InR (x6 + 1)) ∧ Ex l G (d + 1) mX11_addUnlikeWords 11 [some (vR (some (2, 0))), some (vR (some (14, k1))), some (vI x2), some (vI x3), some (vI x4), some (vI x5), some (vI (x6 + 1)), none] [] M_5 r M') ∧ (¬ (¬ (aAnd (aXor r_4 x5) x4) = 0) → r = some (vI x6) ∧ M' = M_2))))) : Ex l G (d + 1) mX11_addUnlikeWords 11 [some (vR (some (2, 0))), some (vR (some (14, k1))), some (vI x2), some (vI x3), some (vI x4), some (vI x5), some (vI x6), none] [] M r M' := by
  refine r_iload 13 dX11_addUnlikeWords_11 rfl rfl ?_
  refine r_aload_n 14 dX11_addUnlikeWords_13 rfl rfl ?_
  refine g_R 17 dX11_addUnlikeWords_14 rfl rfl rfl fr_11_12 (sh_11_0 hS) ?_
  refine g_I 20 dX11_addUnlikeWords_17 rfl rfl rfl fi_11_105 rfl ?_
  refine r_icmp_ge 23 67 dX11_addUnlikeWords_20 rfl rfl (fun c => ?_) (fun c => ?_)
  · have h := h.1 (c)
    refine r_iconst 68 dX11_addUnlikeWords_67 rfl (InR_of rfl) ?_
    exact r_iret dX11_addUnlikeWords_68 rfl (.inl rfl) h.1 h.2
  · have h := h.2 (c)
    refine r_iload 25 dX11_addUnlikeWords_23 rfl rfl ?_
    refine r_iload_n 26 dX11_addUnlikeWords_25 rfl rfl ?_
    refine r_icmp_eq 29 61 dX11_addUnlikeWords_26 rfl rfl (fun c => ?_) (fun c => ?_)
    · have h := h.1 (c)
      obtain ⟨o_1, h⟩ := h
      refine r_iinc (ls' := [some (vR (some (2, 0))), some (vR (some (14, k1))), some (vI x2), some (vI x3), some (vI x4), some (vI x5), some (vI (x6 + 1)), none]) 64 dX11_addUnlikeWords_61 rfl rfl rfl rfl o_1 rfl ?_
      refine r_goto 11 dX11_addUnlikeWords_64 rfl ?_
      exact h
    · have h := h.2 (c)
      refine r_aload_n 30 dX11_addUnlikeWords_29 rfl rfl ?_
      refine r_iload 32 dX11_addUnlikeWords_30 rfl rfl ?_
      refine r_iload_n 33 dX11_addUnlikeWords_32 rfl rfl ?_
      obtain ⟨r_4, M_2, hc_3, hS, h⟩ := h
      refine v_1 (ci := 7) (C := (RX7, TX7, 5)) [vI x6, vI x2] [] 36 dX11_addUnlikeWords_33 rfl rfl rfl rfl rfl mo_X7_wordsOf ml_11_313 rfl rfl hc_3 ?_
      refine r_iload 38 dX11_addUnlikeWords_36 rfl rfl ?_
      refine r_ixor 39 dX11_addUnlikeWords_38 rfl ?_
      refine r_iload 41 dX11_addUnlikeWords_39 rfl rfl ?_
      refine r_iand 42 dX11_addUnlikeWords_41 rfl ?_
      refine r_istore (ls' := [some (vR (some (2, 0))), some (vR (some (14, k1))), some (vI x2), some (vI x3), some (vI x4), some (vI x5), some (vI x6), some (vI (aAnd (aXor r_4 x5) x4))]) 44 dX11_addUnlikeWords_42 rfl rfl rfl rfl ?_
      refine r_iload 46 dX11_addUnlikeWords_44 rfl rfl ?_
      refine r_if_ne 49 52 dX11_addUnlikeWords_46 rfl rfl (fun c => ?_) (fun c => ?_)
      · have h := h.1 (c)
        refine r_aload_n 53 dX11_addUnlikeWords_52 rfl rfl ?_
        refine g_R 56 dX11_addUnlikeWords_53 rfl rfl rfl fr_11_58 (sh_11_6 hS) ?_
        refine r_iload 58 dX11_addUnlikeWords_56 rfl rfl ?_
        obtain ⟨M_5, hc_6, h⟩ := h
        refine v_0 (ci := 4) (C := (RX4, TX4, 8)) [vI (aAnd (aXor r_4 x5) x4)] [] 61 dX11_addUnlikeWords_58 rfl rfl rfl rfl rfl mo_X4_add ml_11_382 rfl rfl hc_6 ?_
        obtain ⟨o_7, h⟩ := h
        refine r_iinc (ls' := [some (vR (some (2, 0))), some (vR (some (14, k1))), some (vI x2), some (vI x3), some (vI x4), some (vI x5), some (vI (x6 + 1)), some (vI (aAnd (aXor r_4 x5) x4))]) 64 dX11_addUnlikeWords_61 rfl rfl rfl rfl o_7 rfl ?_
        refine r_goto 11 dX11_addUnlikeWords_64 rfl ?_
        exact Ex.weak h ⟨rfl, rfl, rfl, rfl, rfl, rfl, rfl, trivial⟩
      · have h := h.2 (c)
        refine r_iload 51 dX11_addUnlikeWords_49 rfl rfl ?_
        exact r_iret dX11_addUnlikeWords_51 rfl (.inl rfl) h.1 h.2

set_option maxRecDepth 4000 in
theorem xX11_addUnlikeMarks_0 {l : Launch} {G : Gt} {d : Nat} {M M' : Mem} {r : Option Vl} {k1 : Nat} (h : 
    Ex l G (d + 1) mX11_addUnlikeMarks 2 [some (vR (some (2, 0))), some (vR (some (14, k1))), some (vI 1), none, none] [] M r M') : Cl l G (d + 1) mX11_addUnlikeMarks [vR (some (2, 0)), vR (some (14, k1))] M r M' := by
  show Ex l G (d + 1) mX11_addUnlikeMarks 0 [some (vR (some (2, 0))), some (vR (some (14, k1))), none, none, none] [] M r M'
  refine r_iconst 1 dX11_addUnlikeMarks_0 rfl (InR_of rfl) ?_
  refine r_istore_n (ls' := [some (vR (some (2, 0))), some (vR (some (14, k1))), some (vI 1), none, none]) 2 dX11_addUnlikeMarks_1 rfl rfl rfl rfl ?_
  exact h
set_option maxRecDepth 4000 in
theorem xX11_addUnlikeMarks_2 {l : Launch} {G : Gt} {d : Nat} {M M' : Mem} {r : Option Vl} {k1 : Nat} {x2 : Int} (hS : Sh M.2.1) (h : 
    ((M.1 4 0 0) ≤ x2 → r = none ∧ M' = M) ∧ (¬ ((M.1 4 0 0) ≤ x2) → ∃ (r_3 : Int) (M_1 : Mem), Cl l G d mX7_marksOf [vR (some (14, k1)), vI x2] M (some (vI r_3)) M_1 ∧ Ex l G (d + 1) mX11_addUnlikeMarks 22 [some (vR (some (2, 0))), some (vR (some (14, k1))), some (vI x2), some (vI r_3), some (vI 0)] [] M_1 r M')) : Ex l G (d + 1) mX11_addUnlikeMarks 2 [some (vR (some (2, 0))), some (vR (some (14, k1))), some (vI x2), none, none] [] M r M' := by
  refine r_iload_n 3 dX11_addUnlikeMarks_2 rfl rfl ?_
  refine r_aload_n 4 dX11_addUnlikeMarks_3 rfl rfl ?_
  refine g_R 7 dX11_addUnlikeMarks_4 rfl rfl rfl fr_11_12 (sh_11_0 hS) ?_
  refine g_I 10 dX11_addUnlikeMarks_7 rfl rfl rfl fi_11_105 rfl ?_
  refine r_icmp_ge 13 55 dX11_addUnlikeMarks_10 rfl rfl (fun c => ?_) (fun c => ?_)
  · have h := h.1 (c)
    exact r_vret dX11_addUnlikeMarks_55 rfl h.1 h.2
  · have h := h.2 (c)
    refine r_aload_n 14 dX11_addUnlikeMarks_13 rfl rfl ?_
    refine r_iload_n 15 dX11_addUnlikeMarks_14 rfl rfl ?_
    obtain ⟨r_3, M_1, hc_2, h⟩ := h
    refine v_1 (ci := 7) (C := (RX7, TX7, 5)) [vI x2] [] 18 dX11_addUnlikeMarks_15 rfl rfl rfl rfl rfl mo_X7_marksOf ml_11_162 rfl rfl hc_2 ?_
    refine r_istore_n (ls' := [some (vR (some (2, 0))), some (vR (some (14, k1))), some (vI x2), some (vI r_3), none]) 19 dX11_addUnlikeMarks_18 rfl rfl rfl rfl ?_
    refine r_iconst 20 dX11_addUnlikeMarks_19 rfl (InR_of rfl) ?_
    refine r_istore (ls' := [some (vR (some (2, 0))), some (vR (some (14, k1))), some (vI x2), some (vI r_3), some (vI 0)]) 22 dX11_addUnlikeMarks_20 rfl rfl rfl rfl ?_
    exact h
set_option maxRecDepth 4000 in
theorem xX11_addUnlikeMarks_22 {l : Launch} {G : Gt} {d : Nat} {M M' : Mem} {r : Option Vl} {k1 : Nat} {x2 : Int} {x3 : Int} {x4 : Int} (hS : Sh M.2.1) (h : 
    (x2 ≤ x4 → (InR (x2 + 1)) ∧ Ex l G (d + 1) mX11_addUnlikeMarks 2 [some (vR (some (2, 0))), some (vR (some (14, k1))), some (vI (x2 + 1)), none, none] [] M r M') ∧ (¬ (x2 ≤ x4) → ∃ (r_4 : Int) (M_2 : Mem), Cl l G d mX7_marksOf [vR (some (14, k1)), vI x4] M (some (vI r_4)) M_2 ∧ (∃ (M_5 : Mem), Cl l G d mX4_add [vR (some (11, 0)), vI (aXor x3 r_4)] M_2 none M_5 ∧ (InR (x4 + 1)) ∧ Ex l G (d + 1) mX11_addUnlikeMarks 22 [some (vR (some (2, 0))), some (vR (some (14, k1))), some (vI x2), some (vI x3), some (vI (x4 + 1))] [] M_5 r M'))) : Ex l G (d + 1) mX11_addUnlikeMarks 22 [some (vR (some (2, 0))), some (vR (some (14, k1))), some (vI x2), some (vI x3), some (vI x4)] [] M r M' := by
  refine r_iload 24 dX11_addUnlikeMarks_22 rfl rfl ?_
  refine r_iload_n 25 dX11_addUnlikeMarks_24 rfl rfl ?_
  refine r_icmp_ge 28 49 dX11_addUnlikeMarks_25 rfl rfl (fun c => ?_) (fun c => ?_)
  · have h := h.1 (c)
    obtain ⟨o_1, h⟩ := h
    refine r_iinc (ls' := [some (vR (some (2, 0))), some (vR (some (14, k1))), some (vI (x2 + 1)), some (vI x3), some (vI x4)]) 52 dX11_addUnlikeMarks_49 rfl rfl rfl rfl o_1 rfl ?_
    refine r_goto 2 dX11_addUnlikeMarks_52 rfl ?_
    exact Ex.weak h ⟨rfl, rfl, rfl, trivial⟩
  · have h := h.2 (c)
    refine r_aload_n 29 dX11_addUnlikeMarks_28 rfl rfl ?_
    refine g_R 32 dX11_addUnlikeMarks_29 rfl rfl rfl fr_11_58 (sh_11_6 hS) ?_
    refine r_iload_n 33 dX11_addUnlikeMarks_32 rfl rfl ?_
    refine r_aload_n 34 dX11_addUnlikeMarks_33 rfl rfl ?_
    refine r_iload 36 dX11_addUnlikeMarks_34 rfl rfl ?_
    obtain ⟨r_4, M_2, hc_3, h⟩ := h
    refine v_1 (ci := 7) (C := (RX7, TX7, 5)) [vI x4] [vI x3, vR (some (11, 0))] 39 dX11_addUnlikeMarks_36 rfl rfl rfl rfl rfl mo_X7_marksOf ml_11_162 rfl rfl hc_3 ?_
    refine r_ixor 40 dX11_addUnlikeMarks_39 rfl ?_
    obtain ⟨M_5, hc_6, h⟩ := h
    refine v_0 (ci := 4) (C := (RX4, TX4, 8)) [vI (aXor x3 r_4)] [] 43 dX11_addUnlikeMarks_40 rfl rfl rfl rfl rfl mo_X4_add ml_11_382 rfl rfl hc_6 ?_
    obtain ⟨o_7, h⟩ := h
    refine r_iinc (ls' := [some (vR (some (2, 0))), some (vR (some (14, k1))), some (vI x2), some (vI x3), some (vI (x4 + 1))]) 46 dX11_addUnlikeMarks_43 rfl rfl rfl rfl o_7 rfl ?_
    refine r_goto 22 dX11_addUnlikeMarks_46 rfl ?_
    exact h

set_option maxRecDepth 4000 in
theorem xX11_withKnown_0 {l : Launch} {G : Gt} {d : Nat} {M M' : Mem} {r : Option Vl} {x1 : Int} (h : 
    Ex l G (d + 1) mX11_withKnown 4 [some (vR (some (2, 0))), some (vI x1), some (vI x1), some (vI 0)] [] M r M') : Cl l G (d + 1) mX11_withKnown [vR (some (2, 0)), vI x1] M r M' := by
  show Ex l G (d + 1) mX11_withKnown 0 [some (vR (some (2, 0))), some (vI x1), none, none] [] M r M'
  refine r_iload_n 1 dX11_withKnown_0 rfl rfl ?_
  refine r_istore_n (ls' := [some (vR (some (2, 0))), some (vI x1), some (vI x1), none]) 2 dX11_withKnown_1 rfl rfl rfl rfl ?_
  refine r_iconst 3 dX11_withKnown_2 rfl (InR_of rfl) ?_
  refine r_istore_n (ls' := [some (vR (some (2, 0))), some (vI x1), some (vI x1), some (vI 0)]) 4 dX11_withKnown_3 rfl rfl rfl rfl ?_
  exact h
set_option maxRecDepth 4000 in
theorem xX11_withKnown_4 {l : Launch} {G : Gt} {d : Nat} {M M' : Mem} {r : Option Vl} {x1 : Int} {x2 : Int} {x3 : Int} (hS : Sh M.2.1) (h : 
    ((M.1 4 0 0) ≤ x3 → r = some (vI x2) ∧ M' = M) ∧ (¬ ((M.1 4 0 0) ≤ x3) → ∃ (r_3 : Int) (M_1 : Mem), Cl l G d mX11_hasBit [vI x1, vI x3] M (some (vI r_3)) M_1 ∧ Sh M_1.2.1 ∧ (((¬ (r_3 = 0) → ((0 ≤ x3 ∧ x3 < 12)))) ∧ (InR (x3 + 1)) ∧ Ex l G (d + 1) mX11_withKnown 4 [some (vR (some (2, 0))), some (vI x1), some (vI (if r_3 = 0 then x2 else (aOr x2 (M_1.1 36 0 x3.toNat)) : Int)), some (vI (x3 + 1))] [] M_1 r M'))) : Ex l G (d + 1) mX11_withKnown 4 [some (vR (some (2, 0))), some (vI x1), some (vI x2), some (vI x3)] [] M r M' := by
  refine r_iload_n 5 dX11_withKnown_4 rfl rfl ?_
  refine r_aload_n 6 dX11_withKnown_5 rfl rfl ?_
  refine g_R 9 dX11_withKnown_6 rfl rfl rfl fr_11_12 (sh_11_0 hS) ?_
  refine g_I 12 dX11_withKnown_9 rfl rfl rfl fi_11_105 rfl ?_
  refine r_icmp_ge 15 41 dX11_withKnown_12 rfl rfl (fun c => ?_) (fun c => ?_)
  · have h := h.1 (c)
    refine r_iload_n 42 dX11_withKnown_41 rfl rfl ?_
    exact r_iret dX11_withKnown_42 rfl (.inl rfl) h.1 h.2
  · have h := h.2 (c)
    refine r_iload_n 16 dX11_withKnown_15 rfl rfl ?_
    refine r_iload_n 17 dX11_withKnown_16 rfl rfl ?_
    obtain ⟨r_3, M_1, hc_2, hS, h⟩ := h
    refine c_1 [vI x1, vI x3] [] 20 dX11_withKnown_17 rfl rfl mo_X11_hasBit ml_11_135 rfl rfl hc_2 ?_
    obtain ⟨h0, h⟩ := h
    have hJ_4 : Ex l G (d + 1) mX11_withKnown 35 [some (vR (some (2, 0))), some (vI x1), some (vI (if r_3 = 0 then x2 else (aOr x2 (M_1.1 36 0 x3.toNat)) : Int)), some (vI x3)] [] M_1 r M' := by
      obtain ⟨o_7, h⟩ := h
      refine r_iinc (ls' := [some (vR (some (2, 0))), some (vI x1), some (vI (if r_3 = 0 then x2 else (aOr x2 (M_1.1 36 0 x3.toNat)) : Int)), some (vI (x3 + 1))]) 38 dX11_withKnown_35 rfl rfl rfl rfl o_7 rfl ?_
      refine r_goto 4 dX11_withKnown_38 rfl ?_
      exact h
    have h := h0
    refine r_if_eq 23 35 dX11_withKnown_20 rfl rfl (fun c => ?_) (fun c => ?_)
    · have c_5 := c
      exact (Ex.at hJ_4 (show [some (vR (some (2, 0))), some (vI x1), some (vI x2), some (vI x3)] = [some (vR (some (2, 0))), some (vI x1), some (vI (if r_3 = 0 then x2 else (aOr x2 (M_1.1 36 0 x3.toNat)) : Int)), some (vI x3)] by simp only [if_pos c_5]) rfl rfl)
    · have c_5 := c
      have h := h c_5
      have o_6 := h
      refine r_iload_n 24 dX11_withKnown_23 rfl rfl ?_
      refine r_aload_n 25 dX11_withKnown_24 rfl rfl ?_
      refine g_R 28 dX11_withKnown_25 rfl rfl rfl fr_11_12 (sh_11_0 hS) ?_
      refine g_R 31 dX11_withKnown_28 rfl rfl rfl fr_11_132 (sh_8_6 hS _) ?_
      refine r_iload_n 32 dX11_withKnown_31 rfl rfl ?_
      refine a_I 12 33 dX11_withKnown_32 rfl rfl rfl rfl o_6 rfl ?_
      refine r_ior 34 dX11_withKnown_33 rfl ?_
      refine r_istore_n (ls' := [some (vR (some (2, 0))), some (vI x1), some (vI (aOr x2 (M_1.1 36 0 x3.toNat))), some (vI x3)]) 35 dX11_withKnown_34 rfl rfl rfl rfl ?_
      exact (Ex.at hJ_4 (show [some (vR (some (2, 0))), some (vI x1), some (vI (aOr x2 (M_1.1 36 0 x3.toNat))), some (vI x3)] = [some (vR (some (2, 0))), some (vI x1), some (vI (if r_3 = 0 then x2 else (aOr x2 (M_1.1 36 0 x3.toNat)) : Int)), some (vI x3)] by simp only [if_neg c_5]) rfl rfl)

set_option maxRecDepth 4000 in
theorem xJ6_bitCount_0f7a4_0 {l : Launch} {G : Gt} {d : Nat} {M M' : Mem} {r : Option Vl} {x0 : Int} (h : 
    (InR (x0 - (aAnd (aUshr x0 1) 1431655765)) ∧ InR ((aAnd (x0 - (aAnd (aUshr x0 1) 1431655765)) 858993459) + (aAnd (aUshr (x0 - (aAnd (aUshr x0 1) 1431655765)) 2) 858993459)) ∧ InR (((aAnd (x0 - (aAnd (aUshr x0 1) 1431655765)) 858993459) + (aAnd (aUshr (x0 - (aAnd (aUshr x0 1) 1431655765)) 2) 858993459)) + (aUshr ((aAnd (x0 - (aAnd (aUshr x0 1) 1431655765)) 858993459) + (aAnd (aUshr (x0 - (aAnd (aUshr x0 1) 1431655765)) 2) 858993459)) 4)) ∧ InR ((aAnd (((aAnd (x0 - (aAnd (aUshr x0 1) 1431655765)) 858993459) + (aAnd (aUshr (x0 - (aAnd (aUshr x0 1) 1431655765)) 2) 858993459)) + (aUshr ((aAnd (x0 - (aAnd (aUshr x0 1) 1431655765)) 858993459) + (aAnd (aUshr (x0 - (aAnd (aUshr x0 1) 1431655765)) 2) 858993459)) 4)) 252645135) + (aUshr (aAnd (((aAnd (x0 - (aAnd (aUshr x0 1) 1431655765)) 858993459) + (aAnd (aUshr (x0 - (aAnd (aUshr x0 1) 1431655765)) 2) 858993459)) + (aUshr ((aAnd (x0 - (aAnd (aUshr x0 1) 1431655765)) 858993459) + (aAnd (aUshr (x0 - (aAnd (aUshr x0 1) 1431655765)) 2) 858993459)) 4)) 252645135) 8)) ∧ InR (((aAnd (((aAnd (x0 - (aAnd (aUshr x0 1) 1431655765)) 858993459) + (aAnd (aUshr (x0 - (aAnd (aUshr x0 1) 1431655765)) 2) 858993459)) + (aUshr ((aAnd (x0 - (aAnd (aUshr x0 1) 1431655765)) 858993459) + (aAnd (aUshr (x0 - (aAnd (aUshr x0 1) 1431655765)) 2) 858993459)) 4)) 252645135) + (aUshr (aAnd (((aAnd (x0 - (aAnd (aUshr x0 1) 1431655765)) 858993459) + (aAnd (aUshr (x0 - (aAnd (aUshr x0 1) 1431655765)) 2) 858993459)) + (aUshr ((aAnd (x0 - (aAnd (aUshr x0 1) 1431655765)) 858993459) + (aAnd (aUshr (x0 - (aAnd (aUshr x0 1) 1431655765)) 2) 858993459)) 4)) 252645135) 8)) + (aUshr ((aAnd (((aAnd (x0 - (aAnd (aUshr x0 1) 1431655765)) 858993459) + (aAnd (aUshr (x0 - (aAnd (aUshr x0 1) 1431655765)) 2) 858993459)) + (aUshr ((aAnd (x0 - (aAnd (aUshr x0 1) 1431655765)) 858993459) + (aAnd (aUshr (x0 - (aAnd (aUshr x0 1) 1431655765)) 2) 858993459)) 4)) 252645135) + (aUshr (aAnd (((aAnd (x0 - (aAnd (aUshr x0 1) 1431655765)) 858993459) + (aAnd (aUshr (x0 - (aAnd (aUshr x0 1) 1431655765)) 2) 858993459)) + (aUshr ((aAnd (x0 - (aAnd (aUshr x0 1) 1431655765)) 858993459) + (aAnd (aUshr (x0 - (aAnd (aUshr x0 1) 1431655765)) 2) 858993459)) 4)) 252645135) 8)) 16))) ∧ r = some (vI (aAnd (((aAnd (((aAnd (x0 - (aAnd (aUshr x0 1) 1431655765)) 858993459) + (aAnd (aUshr (x0 - (aAnd (aUshr x0 1) 1431655765)) 2) 858993459)) + (aUshr ((aAnd (x0 - (aAnd (aUshr x0 1) 1431655765)) 858993459) + (aAnd (aUshr (x0 - (aAnd (aUshr x0 1) 1431655765)) 2) 858993459)) 4)) 252645135) + (aUshr (aAnd (((aAnd (x0 - (aAnd (aUshr x0 1) 1431655765)) 858993459) + (aAnd (aUshr (x0 - (aAnd (aUshr x0 1) 1431655765)) 2) 858993459)) + (aUshr ((aAnd (x0 - (aAnd (aUshr x0 1) 1431655765)) 858993459) + (aAnd (aUshr (x0 - (aAnd (aUshr x0 1) 1431655765)) 2) 858993459)) 4)) 252645135) 8)) + (aUshr ((aAnd (((aAnd (x0 - (aAnd (aUshr x0 1) 1431655765)) 858993459) + (aAnd (aUshr (x0 - (aAnd (aUshr x0 1) 1431655765)) 2) 858993459)) + (aUshr ((aAnd (x0 - (aAnd (aUshr x0 1) 1431655765)) 858993459) + (aAnd (aUshr (x0 - (aAnd (aUshr x0 1) 1431655765)) 2) 858993459)) 4)) 252645135) + (aUshr (aAnd (((aAnd (x0 - (aAnd (aUshr x0 1) 1431655765)) 858993459) + (aAnd (aUshr (x0 - (aAnd (aUshr x0 1) 1431655765)) 2) 858993459)) + (aUshr ((aAnd (x0 - (aAnd (aUshr x0 1) 1431655765)) 858993459) + (aAnd (aUshr (x0 - (aAnd (aUshr x0 1) 1431655765)) 2) 858993459)) 4)) 252645135) 8)) 16)) 63)) ∧ M' = M) : Cl l G d mJ6_bitCount_0f7a4 [vI x0] M r M' := by
  show Ex l G d mJ6_bitCount_0f7a4 0 [some (vI x0)] [] M r M'
  obtain ⟨⟨o_1, o_2, o_3, o_4, o_5⟩, h⟩ := h
  refine r_iload_n 1 dJ6_bitCount_0f7a4_0 rfl rfl ?_
  refine r_iload_n 2 dJ6_bitCount_0f7a4_1 rfl rfl ?_
  refine r_iconst 3 dJ6_bitCount_0f7a4_2 rfl (InR_of rfl) ?_
  refine r_iushr 4 dJ6_bitCount_0f7a4_3 rfl ⟨by decide, by decide⟩ ?_
  refine r_ldcw (n := 1431655765) 7 dJ6_bitCount_0f7a4_4 rfl (inT4 (List.mem_of_getElem? (i := 53) rfl) rfl) (by decide +kernel) (InR_of rfl) ?_
  refine r_iand 8 dJ6_bitCount_0f7a4_7 rfl ?_
  refine r_isub 9 dJ6_bitCount_0f7a4_8 rfl o_1 ?_
  refine r_istore_n (ls' := [some (vI (x0 - (aAnd (aUshr x0 1) 1431655765)))]) 10 dJ6_bitCount_0f7a4_9 rfl rfl rfl rfl ?_
  refine r_iload_n 11 dJ6_bitCount_0f7a4_10 rfl rfl ?_
  refine r_ldcw (n := 858993459) 14 dJ6_bitCount_0f7a4_11 rfl (inT4 (List.mem_of_getElem? (i := 54) rfl) rfl) (by decide +kernel) (InR_of rfl) ?_
  refine r_iand 15 dJ6_bitCount_0f7a4_14 rfl ?_
  refine r_iload_n 16 dJ6_bitCount_0f7a4_15 rfl rfl ?_
  refine r_iconst 17 dJ6_bitCount_0f7a4_16 rfl (InR_of rfl) ?_
  refine r_iushr 18 dJ6_bitCount_0f7a4_17 rfl ⟨by decide, by decide⟩ ?_
  refine r_ldcw (n := 858993459) 21 dJ6_bitCount_0f7a4_18 rfl (inT4 (List.mem_of_getElem? (i := 54) rfl) rfl) (by decide +kernel) (InR_of rfl) ?_
  refine r_iand 22 dJ6_bitCount_0f7a4_21 rfl ?_
  refine r_iadd 23 dJ6_bitCount_0f7a4_22 rfl o_2 ?_
  refine r_istore_n (ls' := [some (vI ((aAnd (x0 - (aAnd (aUshr x0 1) 1431655765)) 858993459) + (aAnd (aUshr (x0 - (aAnd (aUshr x0 1) 1431655765)) 2) 858993459)))]) 24 dJ6_bitCount_0f7a4_23 rfl rfl rfl rfl ?_
  refine r_iload_n 25 dJ6_bitCount_0f7a4_24 rfl rfl ?_
  refine r_iload_n 26 dJ6_bitCount_0f7a4_25 rfl rfl ?_
  refine r_iconst 27 dJ6_bitCount_0f7a4_26 rfl (InR_of rfl) ?_
  refine r_iushr 28 dJ6_bitCount_0f7a4_27 rfl ⟨by decide, by decide⟩ ?_
  refine r_iadd 29 dJ6_bitCount_0f7a4_28 rfl o_3 ?_
  refine r_ldcw (n := 252645135) 32 dJ6_bitCount_0f7a4_29 rfl (inT4 (List.mem_of_getElem? (i := 55) rfl) rfl) (by decide +kernel) (InR_of rfl) ?_
  refine r_iand 33 dJ6_bitCount_0f7a4_32 rfl ?_
  refine r_istore_n (ls' := [some (vI (aAnd (((aAnd (x0 - (aAnd (aUshr x0 1) 1431655765)) 858993459) + (aAnd (aUshr (x0 - (aAnd (aUshr x0 1) 1431655765)) 2) 858993459)) + (aUshr ((aAnd (x0 - (aAnd (aUshr x0 1) 1431655765)) 858993459) + (aAnd (aUshr (x0 - (aAnd (aUshr x0 1) 1431655765)) 2) 858993459)) 4)) 252645135))]) 34 dJ6_bitCount_0f7a4_33 rfl rfl rfl rfl ?_
  refine r_iload_n 35 dJ6_bitCount_0f7a4_34 rfl rfl ?_
  refine r_iload_n 36 dJ6_bitCount_0f7a4_35 rfl rfl ?_
  refine r_bipush 38 dJ6_bitCount_0f7a4_36 rfl rfl ?_
  refine r_iushr 39 dJ6_bitCount_0f7a4_38 rfl ⟨by decide, by decide⟩ ?_
  refine r_iadd 40 dJ6_bitCount_0f7a4_39 rfl o_4 ?_
  refine r_istore_n (ls' := [some (vI ((aAnd (((aAnd (x0 - (aAnd (aUshr x0 1) 1431655765)) 858993459) + (aAnd (aUshr (x0 - (aAnd (aUshr x0 1) 1431655765)) 2) 858993459)) + (aUshr ((aAnd (x0 - (aAnd (aUshr x0 1) 1431655765)) 858993459) + (aAnd (aUshr (x0 - (aAnd (aUshr x0 1) 1431655765)) 2) 858993459)) 4)) 252645135) + (aUshr (aAnd (((aAnd (x0 - (aAnd (aUshr x0 1) 1431655765)) 858993459) + (aAnd (aUshr (x0 - (aAnd (aUshr x0 1) 1431655765)) 2) 858993459)) + (aUshr ((aAnd (x0 - (aAnd (aUshr x0 1) 1431655765)) 858993459) + (aAnd (aUshr (x0 - (aAnd (aUshr x0 1) 1431655765)) 2) 858993459)) 4)) 252645135) 8)))]) 41 dJ6_bitCount_0f7a4_40 rfl rfl rfl rfl ?_
  refine r_iload_n 42 dJ6_bitCount_0f7a4_41 rfl rfl ?_
  refine r_iload_n 43 dJ6_bitCount_0f7a4_42 rfl rfl ?_
  refine r_bipush 45 dJ6_bitCount_0f7a4_43 rfl rfl ?_
  refine r_iushr 46 dJ6_bitCount_0f7a4_45 rfl ⟨by decide, by decide⟩ ?_
  refine r_iadd 47 dJ6_bitCount_0f7a4_46 rfl o_5 ?_
  refine r_istore_n (ls' := [some (vI (((aAnd (((aAnd (x0 - (aAnd (aUshr x0 1) 1431655765)) 858993459) + (aAnd (aUshr (x0 - (aAnd (aUshr x0 1) 1431655765)) 2) 858993459)) + (aUshr ((aAnd (x0 - (aAnd (aUshr x0 1) 1431655765)) 858993459) + (aAnd (aUshr (x0 - (aAnd (aUshr x0 1) 1431655765)) 2) 858993459)) 4)) 252645135) + (aUshr (aAnd (((aAnd (x0 - (aAnd (aUshr x0 1) 1431655765)) 858993459) + (aAnd (aUshr (x0 - (aAnd (aUshr x0 1) 1431655765)) 2) 858993459)) + (aUshr ((aAnd (x0 - (aAnd (aUshr x0 1) 1431655765)) 858993459) + (aAnd (aUshr (x0 - (aAnd (aUshr x0 1) 1431655765)) 2) 858993459)) 4)) 252645135) 8)) + (aUshr ((aAnd (((aAnd (x0 - (aAnd (aUshr x0 1) 1431655765)) 858993459) + (aAnd (aUshr (x0 - (aAnd (aUshr x0 1) 1431655765)) 2) 858993459)) + (aUshr ((aAnd (x0 - (aAnd (aUshr x0 1) 1431655765)) 858993459) + (aAnd (aUshr (x0 - (aAnd (aUshr x0 1) 1431655765)) 2) 858993459)) 4)) 252645135) + (aUshr (aAnd (((aAnd (x0 - (aAnd (aUshr x0 1) 1431655765)) 858993459) + (aAnd (aUshr (x0 - (aAnd (aUshr x0 1) 1431655765)) 2) 858993459)) + (aUshr ((aAnd (x0 - (aAnd (aUshr x0 1) 1431655765)) 858993459) + (aAnd (aUshr (x0 - (aAnd (aUshr x0 1) 1431655765)) 2) 858993459)) 4)) 252645135) 8)) 16)))]) 48 dJ6_bitCount_0f7a4_47 rfl rfl rfl rfl ?_
  refine r_iload_n 49 dJ6_bitCount_0f7a4_48 rfl rfl ?_
  refine r_bipush 51 dJ6_bitCount_0f7a4_49 rfl rfl ?_
  refine r_iand 52 dJ6_bitCount_0f7a4_51 rfl ?_
  exact r_iret dJ6_bitCount_0f7a4_52 rfl (.inl rfl) h.1 h.2

set_option maxRecDepth 4000 in
theorem xJ7_fill_53178_0 {l : Launch} {G : Gt} {d : Nat} {M M' : Mem} {r : Option Vl} {f0 : Nat} {k0 : Nat} {x1 : Int} (hf_f0 : fK f0 = 1) (h2_f0 : 2 ≤ f0) (h : 
    (InR (aLen M.2.2 f0 k0 : Int)) ∧ Ex l G d mJ7_fill_53178 5 [some (vR (some (f0, k0))), some (vI x1), some (vI 0), some (vI (aLen M.2.2 f0 k0 : Int))] [] M r M') : Cl l G d mJ7_fill_53178 [vR (some (f0, k0)), vI x1] M r M' := by
  show Ex l G d mJ7_fill_53178 0 [some (vR (some (f0, k0))), some (vI x1), none, none] [] M r M'
  obtain ⟨o_1, h⟩ := h
  refine r_iconst 1 dJ7_fill_53178_0 rfl (InR_of rfl) ?_
  refine r_istore_n (ls' := [some (vR (some (f0, k0))), some (vI x1), some (vI 0), none]) 2 dJ7_fill_53178_1 rfl rfl rfl rfl ?_
  refine r_aload_n 3 dJ7_fill_53178_2 rfl rfl ?_
  refine r_alen (v := (aLen M.2.2 f0 k0 : Int)) 4 dJ7_fill_53178_3 rfl rfl (.inl hf_f0) rfl o_1 ?_
  refine r_istore_n (ls' := [some (vR (some (f0, k0))), some (vI x1), some (vI 0), some (vI (aLen M.2.2 f0 k0 : Int))]) 5 dJ7_fill_53178_4 rfl rfl rfl rfl ?_
  exact h
set_option maxRecDepth 4000 in
theorem xJ7_fill_53178_5 {l : Launch} {G : Gt} {d : Nat} {M M' : Mem} {r : Option Vl} {k0 : Nat} {x1 : Int} {x2 : Int} {x3 : Int} {f0 : Nat} (hf_f0 : fK f0 = 1) (h2_f0 : 2 ≤ f0) (h : 
    (x3 ≤ x2 → r = none ∧ M' = M) ∧ (¬ (x3 ≤ x2) → ((0 ≤ x2 ∧ x2 < (aLen M.2.2 f0 k0 : Int)) ∧ InR (x2 + 1)) ∧ Ex l G d mJ7_fill_53178 5 [some (vR (some (f0, k0))), some (vI x1), some (vI (x2 + 1)), some (vI x3)] [] ((upI M.1 f0 k0 x2.toNat x1), M.2.1, M.2.2) r M')) : Ex l G d mJ7_fill_53178 5 [some (vR (some (f0, k0))), some (vI x1), some (vI x2), some (vI x3)] [] M r M' := by
  refine r_iload_n 6 dJ7_fill_53178_5 rfl rfl ?_
  refine r_iload_n 7 dJ7_fill_53178_6 rfl rfl ?_
  refine r_icmp_ge 10 20 dJ7_fill_53178_7 rfl rfl (fun c => ?_) (fun c => ?_)
  · have h := h.1 (c)
    exact r_vret dJ7_fill_53178_20 rfl h.1 h.2
  · have h := h.2 (c)
    obtain ⟨⟨o_1, o_2⟩, h⟩ := h
    refine r_aload_n 11 dJ7_fill_53178_10 rfl rfl ?_
    refine r_iload_n 12 dJ7_fill_53178_11 rfl rfl ?_
    refine r_iload_n 13 dJ7_fill_53178_12 rfl rfl ?_
    refine s_I (aLen M.2.2 f0 k0 : Int) 14 dJ7_fill_53178_13 rfl rfl h2_f0 hf_f0 rfl o_1 ?_
    refine r_iinc (ls' := [some (vR (some (f0, k0))), some (vI x1), some (vI (x2 + 1)), some (vI x3)]) 17 dJ7_fill_53178_14 rfl rfl rfl rfl o_2 rfl ?_
    refine r_goto 5 dJ7_fill_53178_17 rfl ?_
    exact h

