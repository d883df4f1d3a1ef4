/-! cheapest: the class -/
set_option maxRecDepth 4000 in
theorem xX11_addUnlikeWords_0 {l : Launch} {G : Gt} {d : Nat} {M M' : Mem} {r : Option Vl} {k1 : Nat} {x2 : Int} {x3 : Int} {x4 : Int} (h : 
    ∃ (r_3 : Int) (M_1 : Mem), Cl l G d mX7_wordsOf [vR (some (14, k1)), vI x3, vI x2] M (some (vI r_3)) M_1 ∧ Ex l G (d + 1) mX11_addUnlikeWords 11 [some (vR (some (2, 0))), some (vR (some (14, k1))), some (vI x2), some (vI x3), some (vI x4), some (vI r_3), some (vI 0), none] [] M_1 r M') : Cl l G (d + 1) mX11_addUnlikeWords [vR (some (2, 0)), vR (some (14, k1)), vI x2, vI x3, vI x4] M r M' := by
  show Ex l G (d + 1) mX11_addUnlikeWords 0 [some (vR (some (2, 0))), some (vR (some (14, k1))), some (vI x2), some (vI x3), some (vI x4), none, none, none] [] M r M'
  refine r_aload_n 1 dX11_addUnlikeWords_0 rfl rfl ?_
  refine r_iload_n 2 dX11_addUnlikeWords_1 rfl rfl ?_
  refine r_iload_n 3 dX11_addUnlikeWords_2 rfl rfl ?_
  obtain ⟨r_3, M_1, hc_2, h⟩ := h
  refine v_1 (ci := 7) (C := (RX7, TX7, 5)) [vI x3, vI x2] [] 6 dX11_addUnlikeWords_3 rfl rfl rfl rfl rfl mo_X7_wordsOf ml_11_325 rfl rfl hc_2 ?_
  refine r_istore (ls' := [some (vR (some (2, 0))), some (vR (some (14, k1))), some (vI x2), some (vI x3), some (vI x4), some (vI r_3), none, none]) 8 dX11_addUnlikeWords_6 rfl rfl rfl rfl ?_
  refine r_iconst 9 dX11_addUnlikeWords_8 rfl (InR_of rfl) ?_
  refine r_istore (ls' := [some (vR (some (2, 0))), some (vR (some (14, k1))), some (vI x2), some (vI x3), some (vI x4), some (vI r_3), some (vI 0), none]) 11 dX11_addUnlikeWords_9 rfl rfl rfl rfl ?_
  exact h
set_option maxRecDepth 4000 in
theorem xX11_addUnlikeWords_11 {l : Launch} {G : Gt} {d : Nat} {M M' : Mem} {r : Option Vl} {k1 : Nat} {x2 : Int} {x3 : Int} {x4 : Int} {x5 : Int} {x6 : Int} (hS : Sh M.2.1) (h : 
    ((M.1 4 0 0) ≤ x6 → r = some (vI (-1)) ∧ M' = M) ∧ (¬ ((M.1 4 0 0) ≤ x6) → (x6 = x3 → (InR (x6 + 1)) ∧ Ex l G (d + 1) mX11_addUnlikeWords 11 [some (vR (some (2, 0))), some (vR (some (14, k1))), some (vI x2), some (vI x3), some (vI x4), some (vI x5), some (vI (x6 + 1)), none] [] M r M') ∧ (¬ (x6 = x3) → ∃ (r_4 : Int) (M_2 : Mem), Cl l G d mX7_wordsOf [vR (some (14, k1)), vI x6, vI x2] M (some (vI r_4)) M_2 ∧ Sh M_2.2.1 ∧ ((¬ ((aAnd (aXor r_4 x5) x4) = 0) → ∃ (M_5 : Mem), Cl l G d mX4_add [vR (some (11, 0)), vI (aAnd (aXor r_4 x5) x4)] M_2 none M_5 ∧ (InR (x6 + 1)) ∧ Ex l G (d + 1) mX11_addUnlikeWords 11 [some (vR (some (2, 0))), some (vR (some (14, k1))), some (vI x2), some (vI x3), some (vI x4), some (vI x5), some (vI (x6 + 1)), none] [] M_5 r M') ∧ ((aAnd (aXor r_4 x5) x4) = 0 → r = some (vI x6) ∧ M' = M_2))))) : Ex l G (d + 1) mX11_addUnlikeWords 11 [some (vR (some (2, 0))), some (vR (some (14, k1))), some (vI x2), some (vI x3), some (vI x4), some (vI x5), some (vI x6), none] [] M r M' := by
  refine r_iload 13 dX11_addUnlikeWords_11 rfl rfl ?_
  refine r_aload_n 14 dX11_addUnlikeWords_13 rfl rfl ?_
  refine g_R 17 dX11_addUnlikeWords_14 rfl rfl rfl fr_11_12 (sh_11_0 hS) ?_
  refine g_I 20 dX11_addUnlikeWords_17 rfl rfl rfl fi_11_111 rfl ?_
  refine r_icmp_ge 23 67 dX11_addUnlikeWords_20 rfl rfl (fun c => ?_) (fun c => ?_)
  · have h := h.1 (c)
    refine r_iconst 68 dX11_addUnlikeWords_67 rfl (InR_of rfl) ?_
    exact r_iret dX11_addUnlikeWords_68 rfl (.inl rfl) h.1 h.2
  · have h := h.2 (c)
    refine r_iload 25 dX11_addUnlikeWords_23 rfl rfl ?_
    refine r_iload_n 26 dX11_addUnlikeWords_25 rfl rfl ?_
    refine r_icmp_eq 29 61 dX11_addUnlikeWords_26 rfl rfl (fun c => ?_) (fun c => ?_)
    · have h := h.1 (c)
      obtain ⟨o_1, h⟩ := h
      refine r_iinc (ls' := [some (vR (some (2, 0))), some (vR (some (14, k1))), some (vI x2), some (vI x3), some (vI x4), some (vI x5), some (vI (x6 + 1)), none]) 64 dX11_addUnlikeWords_61 rfl rfl rfl rfl o_1 rfl ?_
      refine r_goto 11 dX11_addUnlikeWords_64 rfl ?_
      exact h
    · have h := h.2 (c)
      refine r_aload_n 30 dX11_addUnlikeWords_29 rfl rfl ?_
      refine r_iload 32 dX11_addUnlikeWords_30 rfl rfl ?_
      refine r_iload_n 33 dX11_addUnlikeWords_32 rfl rfl ?_
      obtain ⟨r_4, M_2, hc_3, hS, h⟩ := h
      refine v_1 (ci := 7) (C := (RX7, TX7, 5)) [vI x6, vI x2] [] 36 dX11_addUnlikeWords_33 rfl rfl rfl rfl rfl mo_X7_wordsOf ml_11_325 rfl rfl hc_3 ?_
      refine r_iload 38 dX11_addUnlikeWords_36 rfl rfl ?_
      refine r_ixor 39 dX11_addUnlikeWords_38 rfl ?_
      refine r_iload 41 dX11_addUnlikeWords_39 rfl rfl ?_
      refine r_iand 42 dX11_addUnlikeWords_41 rfl ?_
      refine r_istore (ls' := [some (vR (some (2, 0))), some (vR (some (14, k1))), some (vI x2), some (vI x3), some (vI x4), some (vI x5), some (vI x6), some (vI (aAnd (aXor r_4 x5) x4))]) 44 dX11_addUnlikeWords_42 rfl rfl rfl rfl ?_
      refine r_iload 46 dX11_addUnlikeWords_44 rfl rfl ?_
      refine r_if_ne 49 52 dX11_addUnlikeWords_46 rfl rfl (fun c => ?_) (fun c => ?_)
      · have h := h.1 (c)
        refine r_aload_n 53 dX11_addUnlikeWords_52 rfl rfl ?_
        refine g_R 56 dX11_addUnlikeWords_53 rfl rfl rfl fr_11_58 (sh_11_6 hS) ?_
        refine r_iload 58 dX11_addUnlikeWords_56 rfl rfl ?_
        obtain ⟨M_5, hc_6, h⟩ := h
        refine v_0 (ci := 4) (C := (RX4, TX4, 8)) [vI (aAnd (aXor r_4 x5) x4)] [] 61 dX11_addUnlikeWords_58 rfl rfl rfl rfl rfl mo_X4_add ml_11_388 rfl rfl hc_6 ?_
        obtain ⟨o_7, h⟩ := h
        refine r_iinc (ls' := [some (vR (some (2, 0))), some (vR (some (14, k1))), some (vI x2), some (vI x3), some (vI x4), some (vI x5), some (vI (x6 + 1)), some (vI (aAnd (aXor r_4 x5) x4))]) 64 dX11_addUnlikeWords_61 rfl rfl rfl rfl o_7 rfl ?_
        refine r_goto 11 dX11_addUnlikeWords_64 rfl ?_
        exact Ex.weak h ⟨rfl, rfl, rfl, rfl, rfl, rfl, rfl, trivial⟩
      · have h := h.2 (Decidable.not_not.mp c)
        refine r_iload 51 dX11_addUnlikeWords_49 rfl rfl ?_
        exact r_iret dX11_addUnlikeWords_51 rfl (.inl rfl) h.1 h.2

set_option maxRecDepth 4000 in
theorem xX11_cheapest_0 {l : Launch} {G : Gt} {d : Nat} {M M' : Mem} {r : Option Vl} {x1 : Int} {x2 : Int} {x3 : Int} {x4 : Int} {x5 : Int} (hS : Sh M.2.1) (h : 
    (¬ ((0 ≤ x1 ∧ x1 < (M.1 4 0 0)) ∧ (0 ≤ x2 ∧ x2 < (M.1 4 0 0)) ∧ ¬ x1 = x2) → r = some (vI (-1)) ∧ M' = M) ∧ ((0 ≤ x1 ∧ x1 < (M.1 4 0 0)) ∧ (0 ≤ x2 ∧ x2 < (M.1 4 0 0)) ∧ ¬ x1 = x2 → (¬ ((0 ≤ x3 ∧ x3 ≤ 999) ∧ (0 ≤ x4 ∧ x4 ≤ 999) ∧ x3 ≤ x4 ∧ x4 - x3 < 31) → r = some (vI (-1)) ∧ M' = M) ∧ ((0 ≤ x3 ∧ x3 ≤ 999) ∧ (0 ≤ x4 ∧ x4 ≤ 999) ∧ x3 ≤ x4 ∧ x4 - x3 < 31 → (x5 < 0 → r = some (vI (-1)) ∧ M' = M) ∧ (¬ (x5 < 0) → (x5 ≤ 4 → Ex l G (d + 2) mX11_cheapest 40 [some (vR (some (2, 0))), some (vI x1), some (vI x2), some (vI x3), some (vI x4), some (vI x5), some (vI (-1)), some (vI 0), some (vI x3), none, none, none, none] [] M r M') ∧ (¬ (x5 ≤ 4) → r = some (vI (-1)) ∧ M' = M))))) : Cl l G (d + 2) mX11_cheapest [vR (some (2, 0)), vI x1, vI x2, vI x3, vI x4, vI x5] M r M' := by
  show Ex l G (d + 2) mX11_cheapest 0 [some (vR (some (2, 0))), some (vI x1), some (vI x2), some (vI x3), some (vI x4), some (vI x5), none, none, none, none, none, none, none] [] M r M'
  refine r_aload_n 1 dX11_cheapest_0 rfl rfl ?_
  refine r_iload_n 2 dX11_cheapest_1 rfl rfl ?_
  refine r_iload_n 3 dX11_cheapest_2 rfl rfl ?_
  refine v_1 (ci := 11) (C := (RX11, TX11, 16)) [vI x1, vI x2] [] 6 dX11_cheapest_3 rfl rfl rfl rfl rfl mo_X11_areTwo ml_11_130 rfl rfl (KX11_areTwo hS) ?_
  refine r_if_eq 9 29 dX11_cheapest_6 rfl rfl (fun c => ?_) (fun c => ?_)
  · have h := h.1 (b2_0.mp c)
    refine r_iconst 30 dX11_cheapest_29 rfl (InR_of rfl) ?_
    exact r_iret dX11_cheapest_30 rfl (.inl rfl) h.1 h.2
  · have h := h.2 (b2_1.mp c)
    refine r_iload_n 10 dX11_cheapest_9 rfl rfl ?_
    refine r_iload 12 dX11_cheapest_10 rfl rfl ?_
    refine c_1 [vI x3, vI x4] [] 15 dX11_cheapest_12 rfl rfl mo_X11_isSpan ml_11_322 rfl rfl (KX11_isSpan) ?_
    refine r_if_eq 18 29 dX11_cheapest_15 rfl rfl (fun c => ?_) (fun c => ?_)
    · have h := h.1 (b2_0.mp c)
      refine r_iconst 30 dX11_cheapest_29 rfl (InR_of rfl) ?_
      exact r_iret dX11_cheapest_30 rfl (.inl rfl) h.1 h.2
    · have h := h.2 (b2_1.mp c)
      refine r_iload 20 dX11_cheapest_18 rfl rfl ?_
      refine r_if_lt 23 29 dX11_cheapest_20 rfl rfl (fun c => ?_) (fun c => ?_)
      · have h := h.1 (c)
        refine r_iconst 30 dX11_cheapest_29 rfl (InR_of rfl) ?_
        exact r_iret dX11_cheapest_30 rfl (.inl rfl) h.1 h.2
      · have h := h.2 (c)
        refine r_iload 25 dX11_cheapest_23 rfl rfl ?_
        refine r_iconst 26 dX11_cheapest_25 rfl (InR_of rfl) ?_
        refine r_icmp_le 29 31 dX11_cheapest_26 rfl rfl (fun c => ?_) (fun c => ?_)
        · have h := h.1 (c)
          refine r_iconst 32 dX11_cheapest_31 rfl (InR_of rfl) ?_
          refine r_istore (ls' := [some (vR (some (2, 0))), some (vI x1), some (vI x2), some (vI x3), some (vI x4), some (vI x5), some (vI (-1)), none, none, none, none, none, none]) 34 dX11_cheapest_32 rfl rfl rfl rfl ?_
          refine r_iconst 35 dX11_cheapest_34 rfl (InR_of rfl) ?_
          refine r_istore (ls' := [some (vR (some (2, 0))), some (vI x1), some (vI x2), some (vI x3), some (vI x4), some (vI x5), some (vI (-1)), some (vI 0), none, none, none, none, none]) 37 dX11_cheapest_35 rfl rfl rfl rfl ?_
          refine r_iload_n 38 dX11_cheapest_37 rfl rfl ?_
          refine r_istore (ls' := [some (vR (some (2, 0))), some (vI x1), some (vI x2), some (vI x3), some (vI x4), some (vI x5), some (vI (-1)), some (vI 0), some (vI x3), none, none, none, none]) 40 dX11_cheapest_38 rfl rfl rfl rfl ?_
          exact h
        · have h := h.2 (c)
          refine r_iconst 30 dX11_cheapest_29 rfl (InR_of rfl) ?_
          exact r_iret dX11_cheapest_30 rfl (.inl rfl) h.1 h.2
set_option maxRecDepth 4000 in
theorem xX11_cheapest_40 {l : Launch} {G : Gt} {d : Nat} {M M' : Mem} {r : Option Vl} {x1 : Int} {x2 : Int} {x3 : Int} {x4 : Int} {x5 : Int} {x6 : Int} {x7 : Int} {x8 : Int} (hS : Sh M.2.1) (h : 
    (x4 < x8 → ∃ (M_1 : Mem), Cl l G (d + 1) mX4_clear [vR (some (11, 0))] M none M_1 ∧ Ex l G (d + 2) mX11_cheapest 119 [some (vR (some (2, 0))), some (vI x1), some (vI x2), some (vI x3), some (vI x4), some (vI x5), some (vI x6), some (vI x7), some (vI 65535), some (vI (aAnd (aOr x6 (aXor x7 (-1))) 65535)), some (vI (aAnd (aAnd (aOr x6 (aXor x7 (-1))) 65535) (aXor x7 (-1)))), some (vI x3), none] [] M_1 r M') ∧ (¬ (x4 < x8) → ∃ (k_5 : Nat) (M_3 : Mem), Cl l G (d + 1) mX6_on [vR (some (6, 0)), vI x8] M (some (vR (some (14, k_5)))) M_3 ∧ (∃ (r_8 : Int) (M_6 : Mem), Cl l G (d + 1) mX7_wordsOf [vR (some (14, k_5)), vI x2, vI x1] M_3 (some (vI r_8)) M_6 ∧ (InR (x8 + 1)) ∧ Ex l G (d + 2) mX11_cheapest 40 [some (vR (some (2, 0))), some (vI x1), some (vI x2), some (vI x3), some (vI x4), some (vI x5), some (vI (aAnd x6 r_8)), some (vI (aOr x7 r_8)), some (vI (x8 + 1)), none, none, none, none] [] M_6 r M'))) : Ex l G (d + 2) mX11_cheapest 40 [some (vR (some (2, 0))), some (vI x1), some (vI x2), some (vI x3), some (vI x4), some (vI x5), some (vI x6), some (vI x7), some (vI x8), none, none, none, none] [] M r M' := by
  refine r_iload 42 dX11_cheapest_40 rfl rfl ?_
  refine r_iload 44 dX11_cheapest_42 rfl rfl ?_
  refine r_icmp_gt 47 83 dX11_cheapest_44 rfl rfl (fun c => ?_) (fun c => ?_)
  · have h := h.1 (c)
    refine r_ldcw (n := 65535) 86 dX11_cheapest_83 rfl (inT5 (List.mem_of_getElem? (i := 23) rfl) rfl) (by decide +kernel) (InR_of rfl) ?_
    refine r_istore (ls' := [some (vR (some (2, 0))), some (vI x1), some (vI x2), some (vI x3), some (vI x4), some (vI x5), some (vI x6), some (vI x7), some (vI 65535), none, none, none, none]) 88 dX11_cheapest_86 rfl rfl rfl rfl ?_
    refine r_iload 90 dX11_cheapest_88 rfl rfl ?_
    refine r_iload 92 dX11_cheapest_90 rfl rfl ?_
    refine r_iconst 93 dX11_cheapest_92 rfl (InR_of rfl) ?_
    refine r_ixor 94 dX11_cheapest_93 rfl ?_
    refine r_ior 95 dX11_cheapest_94 rfl ?_
    refine r_iload 97 dX11_cheapest_95 rfl rfl ?_
    refine r_iand 98 dX11_cheapest_97 rfl ?_
    refine r_istore (ls' := [some (vR (some (2, 0))), some (vI x1), some (vI x2), some (vI x3), some (vI x4), some (vI x5), some (vI x6), some (vI x7), some (vI 65535), some (vI (aAnd (aOr x6 (aXor x7 (-1))) 65535)), none, none, none]) 100 dX11_cheapest_98 rfl rfl rfl rfl ?_
    refine r_iload 102 dX11_cheapest_100 rfl rfl ?_
    refine r_iload 104 dX11_cheapest_102 rfl rfl ?_
    refine r_iconst 105 dX11_cheapest_104 rfl (InR_of rfl) ?_
    refine r_ixor 106 dX11_cheapest_105 rfl ?_
    refine r_iand 107 dX11_cheapest_106 rfl ?_
    refine r_istore (ls' := [some (vR (some (2, 0))), some (vI x1), some (vI x2), some (vI x3), some (vI x4), some (vI x5), some (vI x6), some (vI x7), some (vI 65535), some (vI (aAnd (aOr x6 (aXor x7 (-1))) 65535)), some (vI (aAnd (aAnd (aOr x6 (aXor x7 (-1))) 65535) (aXor x7 (-1)))), none, none]) 109 dX11_cheapest_107 rfl rfl rfl rfl ?_
    refine r_aload_n 110 dX11_cheapest_109 rfl rfl ?_
    refine g_R 113 dX11_cheapest_110 rfl rfl rfl fr_11_58 (sh_11_6 hS) ?_
    obtain ⟨M_1, hc_2, h⟩ := h
    refine v_0 (ci := 4) (C := (RX4, TX4, 8)) [] [] 116 dX11_cheapest_113 rfl rfl rfl rfl rfl mo_X4_clear ml_11_329 rfl rfl hc_2 ?_
    refine r_iload_n 117 dX11_cheapest_116 rfl rfl ?_
    refine r_istore (ls' := [some (vR (some (2, 0))), some (vI x1), some (vI x2), some (vI x3), some (vI x4), some (vI x5), some (vI x6), some (vI x7), some (vI 65535), some (vI (aAnd (aOr x6 (aXor x7 (-1))) 65535)), some (vI (aAnd (aAnd (aOr x6 (aXor x7 (-1))) 65535) (aXor x7 (-1)))), some (vI x3), none]) 119 dX11_cheapest_117 rfl rfl rfl rfl ?_
    exact h
  · have h := h.2 (c)
    refine r_aload_n 48 dX11_cheapest_47 rfl rfl ?_
    refine g_R 51 dX11_cheapest_48 rfl rfl rfl fr_11_21 (sh_11_1 hS) ?_
    refine r_iload 53 dX11_cheapest_51 rfl rfl ?_
    obtain ⟨k_5, M_3, hc_4, h⟩ := h
    refine v_1 (ci := 6) (C := (RX6, TX6, 3)) [vI x8] [] 56 dX11_cheapest_53 rfl rfl rfl rfl rfl mo_X6_on ml_11_164 rfl rfl hc_4 ?_
    refine r_iload_n 57 dX11_cheapest_56 rfl rfl ?_
    refine r_iload_n 58 dX11_cheapest_57 rfl rfl ?_
    obtain ⟨r_8, M_6, hc_7, h⟩ := h
    refine v_1 (ci := 7) (C := (RX7, TX7, 5)) [vI x2, vI x1] [] 61 dX11_cheapest_58 rfl rfl rfl rfl rfl mo_X7_wordsOf ml_11_325 rfl rfl hc_7 ?_
    obtain ⟨o_9, h⟩ := h
    refine r_istore (ls' := [some (vR (some (2, 0))), some (vI x1), some (vI x2), some (vI x3), some (vI x4), some (vI x5), some (vI x6), some (vI x7), some (vI x8), some (vI r_8), none, none, none]) 63 dX11_cheapest_61 rfl rfl rfl rfl ?_
    refine r_iload 65 dX11_cheapest_63 rfl rfl ?_
    refine r_iload 67 dX11_cheapest_65 rfl rfl ?_
    refine r_iand 68 dX11_cheapest_67 rfl ?_
    refine r_istore (ls' := [some (vR (some (2, 0))), some (vI x1), some (vI x2), some (vI x3), some (vI x4), some (vI x5), some (vI (aAnd x6 r_8)), some (vI x7), some (vI x8), some (vI r_8), none, none, none]) 70 dX11_cheapest_68 rfl rfl rfl rfl ?_
    refine r_iload 72 dX11_cheapest_70 rfl rfl ?_
    refine r_iload 74 dX11_cheapest_72 rfl rfl ?_
    refine r_ior 75 dX11_cheapest_74 rfl ?_
    refine r_istore (ls' := [some (vR (some (2, 0))), some (vI x1), some (vI x2), some (vI x3), some (vI x4), some (vI x5), some (vI (aAnd x6 r_8)), some (vI (aOr x7 r_8)), some (vI x8), some (vI r_8), none, none, none]) 77 dX11_cheapest_75 rfl rfl rfl rfl ?_
    refine r_iinc (ls' := [some (vR (some (2, 0))), some (vI x1), some (vI x2), some (vI x3), some (vI x4), some (vI x5), some (vI (aAnd x6 r_8)), some (vI (aOr x7 r_8)), some (vI (x8 + 1)), some (vI r_8), none, none, none]) 80 dX11_cheapest_77 rfl rfl rfl rfl o_9 rfl ?_
    refine r_goto 40 dX11_cheapest_80 rfl ?_
    exact Ex.weak h ⟨rfl, rfl, rfl, rfl, rfl, rfl, rfl, rfl, rfl, trivial⟩
set_option maxRecDepth 4000 in
theorem xX11_cheapest_119 {l : Launch} {G : Gt} {d : Nat} {M M' : Mem} {r : Option Vl} {x1 : Int} {x2 : Int} {x3 : Int} {x4 : Int} {x5 : Int} {x6 : Int} {x7 : Int} {x8 : Int} {x9 : Int} {x10 : Int} {x11 : Int} (hS : Sh M.2.1) (h : 
    (x4 < x11 → (x5 ≤ 2 → Ex l G (d + 2) mX11_cheapest 194 [some (vR (some (2, 0))), some (vI x1), some (vI x2), some (vI x3), some (vI x4), some (vI x5), some (vI x6), some (vI x7), some (vI x8), some (vI x9), some (vI x10), some (vI 0), none] [] M r M') ∧ (¬ (x5 ≤ 2) → r = some (vI (-2)) ∧ M' = M)) ∧ (¬ (x4 < x11) → ∃ (k_3 : Nat) (M_1 : Mem), Cl l G (d + 1) mX6_on [vR (some (6, 0)), vI x11] M (some (vR (some (14, k_3)))) M_1 ∧ (∃ (r_6 : Int) (M_4 : Mem), Cl l G (d + 1) mX11_addUnlikeWords [vR (some (2, 0)), vR (some (14, k_3)), vI x1, vI x2, vI x9] M_1 (some (vI r_6)) M_4 ∧ ((r_6 = (-1) → (InR (x11 + 1)) ∧ Ex l G (d + 2) mX11_cheapest 119 [some (vR (some (2, 0))), some (vI x1), some (vI x2), some (vI x3), some (vI x4), some (vI x5), some (vI x6), some (vI x7), some (vI x8), some (vI x9), some (vI x10), some (vI (x11 + 1)), none] [] M_4 r M') ∧ (¬ (r_6 = (-1)) → r = some (vI (if x5 = 3 then x11 else (if x5 = 4 then r_6 else (-2) : Int) : Int)) ∧ M' = M_4))))) : Ex l G (d + 2) mX11_cheapest 119 [some (vR (some (2, 0))), some (vI x1), some (vI x2), some (vI x3), some (vI x4), some (vI x5), some (vI x6), some (vI x7), some (vI x8), some (vI x9), some (vI x10), some (vI x11), none] [] M r M' := by
  refine r_iload 121 dX11_cheapest_119 rfl rfl ?_
  refine r_iload 123 dX11_cheapest_121 rfl rfl ?_
  refine r_icmp_gt 126 182 dX11_cheapest_123 rfl rfl (fun c => ?_) (fun c => ?_)
  · have h := h.1 (c)
    refine r_iload 184 dX11_cheapest_182 rfl rfl ?_
    refine r_iconst 185 dX11_cheapest_184 rfl (InR_of rfl) ?_
    refine r_icmp_le 188 191 dX11_cheapest_185 rfl rfl (fun c => ?_) (fun c => ?_)
    · have h := h.1 (c)
      refine r_iconst 192 dX11_cheapest_191 rfl (InR_of rfl) ?_
      refine r_istore (ls' := [some (vR (some (2, 0))), some (vI x1), some (vI x2), some (vI x3), some (vI x4), some (vI x5), some (vI x6), some (vI x7), some (vI x8), some (vI x9), some (vI x10), some (vI 0), none]) 194 dX11_cheapest_192 rfl rfl rfl rfl ?_
      exact h
    · have h := h.2 (c)
      refine r_bipush 190 dX11_cheapest_188 rfl rfl ?_
      exact r_iret dX11_cheapest_190 rfl (.inl rfl) h.1 h.2
  · have h := h.2 (c)
    refine r_aload_n 127 dX11_cheapest_126 rfl rfl ?_
    refine r_aload_n 128 dX11_cheapest_127 rfl rfl ?_
    refine g_R 131 dX11_cheapest_128 rfl rfl rfl fr_11_21 (sh_11_1 hS) ?_
    refine r_iload 133 dX11_cheapest_131 rfl rfl ?_
    obtain ⟨k_3, M_1, hc_2, h⟩ := h
    refine v_1 (ci := 6) (C := (RX6, TX6, 3)) [vI x11] [vR (some (2, 0))] 136 dX11_cheapest_133 rfl rfl rfl rfl rfl mo_X6_on ml_11_164 rfl rfl hc_2 ?_
    refine r_iload_n 137 dX11_cheapest_136 rfl rfl ?_
    refine r_iload_n 138 dX11_cheapest_137 rfl rfl ?_
    refine r_iload 140 dX11_cheapest_138 rfl rfl ?_
    obtain ⟨r_6, M_4, hc_5, h⟩ := h
    refine v_1 (ci := 11) (C := (RX11, TX11, 16)) [vR (some (14, k_3)), vI x1, vI x2, vI x9] [] 143 dX11_cheapest_140 rfl rfl rfl rfl rfl mo_X11_addUnlikeWords ml_11_332 rfl rfl hc_5 ?_
    refine r_istore (ls' := [some (vR (some (2, 0))), some (vI x1), some (vI x2), some (vI x3), some (vI x4), some (vI x5), some (vI x6), some (vI x7), some (vI x8), some (vI x9), some (vI x10), some (vI x11), some (vI r_6)]) 145 dX11_cheapest_143 rfl rfl rfl rfl ?_
    refine r_iload 147 dX11_cheapest_145 rfl rfl ?_
    refine r_iconst 148 dX11_cheapest_147 rfl (InR_of rfl) ?_
    refine r_icmp_eq 151 176 dX11_cheapest_148 rfl rfl (fun c => ?_) (fun c => ?_)
    · have h := h.1 (c)
      obtain ⟨o_7, h⟩ := h
      refine r_iinc (ls' := [some (vR (some (2, 0))), some (vI x1), some (vI x2), some (vI x3), some (vI x4), some (vI x5), some (vI x6), some (vI x7), some (vI x8), some (vI x9), some (vI x10), some (vI (x11 + 1)), some (vI r_6)]) 179 dX11_cheapest_176 rfl rfl rfl rfl o_7 rfl ?_
      refine r_goto 119 dX11_cheapest_179 rfl ?_
      exact Ex.weak h ⟨rfl, rfl, rfl, rfl, rfl, rfl, rfl, rfl, rfl, rfl, rfl, rfl, trivial⟩
    · have h := h.2 (c)
      refine r_iload 153 dX11_cheapest_151 rfl rfl ?_
      refine r_iconst 154 dX11_cheapest_153 rfl (InR_of rfl) ?_
      have hJ_8 : Ex l G (d + 2) mX11_cheapest 175 [some (vR (some (2, 0))), some (vI x1), some (vI x2), some (vI x3), some (vI x4), some (vI x5), some (vI x6), some (vI x7), some (vI x8), some (vI x9), some (vI x10), some (vI x11), some (vI r_6)] [vI (if x5 = 3 then x11 else (if x5 = 4 then r_6 else (-2) : Int) : Int)] M_4 r M' := by
        exact r_iret dX11_cheapest_175 rfl (.inl rfl) h.1 h.2
      refine r_icmp_ne 157 162 dX11_cheapest_154 rfl rfl (fun c => ?_) (fun c => ?_)
      · have c_9 := c
        refine r_iload 164 dX11_cheapest_162 rfl rfl ?_
        refine r_iconst 165 dX11_cheapest_164 rfl (InR_of rfl) ?_
        refine r_icmp_ne 168 173 dX11_cheapest_165 rfl rfl (fun c => ?_) (fun c => ?_)
        · have c_10 := c
          refine r_bipush 175 dX11_cheapest_173 rfl rfl ?_
          exact (Ex.at hJ_8 rfl (show [vI (-2)] = [vI (if x5 = 3 then x11 else (if x5 = 4 then r_6 else (-2) : Int) : Int)] by simp only [if_neg c_9, if_neg c_10]) rfl)
        · have c_10 := Decidable.not_not.mp c
          refine r_iload 170 dX11_cheapest_168 rfl rfl ?_
          refine r_goto 175 dX11_cheapest_170 rfl ?_
          exact (Ex.at hJ_8 rfl (show [vI r_6] = [vI (if x5 = 3 then x11 else (if x5 = 4 then r_6 else (-2) : Int) : Int)] by simp only [if_neg c_9, if_pos c_10]) rfl)
      · have c_9 := Decidable.not_not.mp c
        refine r_iload 159 dX11_cheapest_157 rfl rfl ?_
        refine r_goto 175 dX11_cheapest_159 rfl ?_
        exact (Ex.at hJ_8 rfl (show [vI x11] = [vI (if x5 = 3 then x11 else (if x5 = 4 then r_6 else (-2) : Int) : Int)] by simp only [if_pos c_9]) rfl)
set_option maxRecDepth 4000 in
theorem xX11_cheapest_194 {l : Launch} {G : Gt} {d : Nat} {M M' : Mem} {r : Option Vl} {x1 : Int} {x2 : Int} {x3 : Int} {x4 : Int} {x5 : Int} {x6 : Int} {x7 : Int} {x8 : Int} {x9 : Int} {x10 : Int} {x11 : Int} (hS : Sh M.2.1) (h : 
    (16 ≤ x11 → ∃ (M_1 : Mem), Cl l G (d + 1) mX4_solve [vR (some (11, 0))] M none M_1 ∧ Sh M_1.2.1 ∧ ((¬ (x5 = 0) → r = some (vI (if x5 = 1 then (M_1.1 11 0 5) else (aAnd (M_1.1 11 0 5) x10) : Int)) ∧ M' = M_1) ∧ (x5 = 0 → r = some (vI (M_1.1 11 0 6)) ∧ M' = M_1))) ∧ (¬ (16 ≤ x11) → ((0 ≤ x10 ∧ 0 ≤ x11 ∧ x11 < 32)) ∧ ((0 ≤ x11 ∧ x11 < 17) ∧ InR ((M.1 37 0 x11.toNat) + (if tb x10 x11 = true then (M.1 37 0 16) else 0 : Int)) ∧ (0 ≤ x11 ∧ x11 < 16) ∧ InR (x11 + 1)) ∧ Ex l G (d + 2) mX11_cheapest 194 [some (vR (some (2, 0))), some (vI x1), some (vI x2), some (vI x3), some (vI x4), some (vI x5), some (vI x6), some (vI x7), some (vI x8), some (vI x9), some (vI x10), some (vI (x11 + 1)), none] [] ((upI M.1 27 0 x11.toNat ((M.1 37 0 x11.toNat) + (if tb x10 x11 = true then (M.1 37 0 16) else 0 : Int))), M.2.1, M.2.2) r M')) : Ex l G (d + 2) mX11_cheapest 194 [some (vR (some (2, 0))), some (vI x1), some (vI x2), some (vI x3), some (vI x4), some (vI x5), some (vI x6), some (vI x7), some (vI x8), some (vI x9), some (vI x10), some (vI x11), none] [] M r M' := by
  refine r_iload 196 dX11_cheapest_194 rfl rfl ?_
  refine r_bipush 198 dX11_cheapest_196 rfl rfl ?_
  refine r_icmp_ge 201 256 dX11_cheapest_198 rfl rfl (fun c => ?_) (fun c => ?_)
  · have h := h.1 (c)
    refine r_aload_n 257 dX11_cheapest_256 rfl rfl ?_
    refine g_R 260 dX11_cheapest_257 rfl rfl rfl fr_11_58 (sh_11_6 hS) ?_
    obtain ⟨M_1, hc_2, hS, h⟩ := h
    refine v_0 (ci := 4) (C := (RX4, TX4, 8)) [] [] 263 dX11_cheapest_260 rfl rfl rfl rfl rfl mo_X4_solve ml_11_339 rfl rfl hc_2 ?_
    refine r_iload 265 dX11_cheapest_263 rfl rfl ?_
    refine r_if_ne 268 276 dX11_cheapest_265 rfl rfl (fun c => ?_) (fun c => ?_)
    · have h := h.1 (c)
      refine r_iload 278 dX11_cheapest_276 rfl rfl ?_
      refine r_iconst 279 dX11_cheapest_278 rfl (InR_of rfl) ?_
      have hJ_3 : Ex l G (d + 2) mX11_cheapest 302 [some (vR (some (2, 0))), some (vI x1), some (vI x2), some (vI x3), some (vI x4), some (vI x5), some (vI x6), some (vI x7), some (vI x8), some (vI x9), some (vI x10), some (vI x11), none] [vI (if x5 = 1 then (M_1.1 11 0 5) else (aAnd (M_1.1 11 0 5) x10) : Int)] M_1 r M' := by
        exact r_iret dX11_cheapest_302 rfl (.inl rfl) h.1 h.2
      refine r_icmp_ne 282 292 dX11_cheapest_279 rfl rfl (fun c => ?_) (fun c => ?_)
      · have c_4 := c
        refine r_aload_n 293 dX11_cheapest_292 rfl rfl ?_
        refine g_R 296 dX11_cheapest_293 rfl rfl rfl fr_11_58 (sh_11_6 hS) ?_
        refine g_I 299 dX11_cheapest_296 rfl rfl rfl fi_11_345 rfl ?_
        refine r_iload 301 dX11_cheapest_299 rfl rfl ?_
        refine r_iand 302 dX11_cheapest_301 rfl ?_
        exact (Ex.at hJ_3 rfl (show [vI (aAnd (M_1.1 11 0 5) x10)] = [vI (if x5 = 1 then (M_1.1 11 0 5) else (aAnd (M_1.1 11 0 5) x10) : Int)] by simp only [if_neg c_4]) rfl)
      · have c_4 := Decidable.not_not.mp c
        refine r_aload_n 283 dX11_cheapest_282 rfl rfl ?_
        refine g_R 286 dX11_cheapest_283 rfl rfl rfl fr_11_58 (sh_11_6 hS) ?_
        refine g_I 289 dX11_cheapest_286 rfl rfl rfl fi_11_345 rfl ?_
        refine r_goto 302 dX11_cheapest_289 rfl ?_
        exact (Ex.at hJ_3 rfl (show [vI (M_1.1 11 0 5)] = [vI (if x5 = 1 then (M_1.1 11 0 5) else (aAnd (M_1.1 11 0 5) x10) : Int)] by simp only [if_pos c_4]) rfl)
    · have h := h.2 (Decidable.not_not.mp c)
      refine r_aload_n 269 dX11_cheapest_268 rfl rfl ?_
      refine g_R 272 dX11_cheapest_269 rfl rfl rfl fr_11_58 (sh_11_6 hS) ?_
      refine g_I 275 dX11_cheapest_272 rfl rfl rfl fi_11_342 rfl ?_
      exact r_iret dX11_cheapest_275 rfl (.inl rfl) h.1 h.2
  · have h := h.2 (c)
    obtain ⟨o_5, h⟩ := h
    refine r_iload 203 dX11_cheapest_201 rfl rfl ?_
    refine r_iload 205 dX11_cheapest_203 rfl rfl ?_
    refine c_1 [vI x10, vI x11] [] 208 dX11_cheapest_205 rfl rfl mo_X11_hasBit ml_11_141 rfl rfl (KX11_hasBit o_5) ?_
    have hJ_6 : Ex l G (d + 2) mX11_cheapest 225 [some (vR (some (2, 0))), some (vI x1), some (vI x2), some (vI x3), some (vI x4), some (vI x5), some (vI x6), some (vI x7), some (vI x8), some (vI x9), some (vI x10), some (vI x11), none] [vI (if tb x10 x11 = true then (M.1 37 0 16) else 0 : Int)] M r M' := by
      obtain ⟨⟨o_8, o_9, o_10, o_11⟩, h⟩ := h
      refine r_istore (ls' := [some (vR (some (2, 0))), some (vI x1), some (vI x2), some (vI x3), some (vI x4), some (vI x5), some (vI x6), some (vI x7), some (vI x8), some (vI x9), some (vI x10), some (vI x11), some (vI (if tb x10 x11 = true then (M.1 37 0 16) else 0 : Int))]) 227 dX11_cheapest_225 rfl rfl rfl rfl ?_
      refine r_aload_n 228 dX11_cheapest_227 rfl rfl ?_
      refine g_R 231 dX11_cheapest_228 rfl rfl rfl fr_11_58 (sh_11_6 hS) ?_
      refine g_R 234 dX11_cheapest_231 rfl rfl rfl fr_11_336 (sh_4_2 hS) ?_
      refine r_iload 236 dX11_cheapest_234 rfl rfl ?_
      refine r_aload_n 237 dX11_cheapest_236 rfl rfl ?_
      refine g_R 240 dX11_cheapest_237 rfl rfl rfl fr_11_12 (sh_11_0 hS) ?_
      refine g_R 243 dX11_cheapest_240 rfl rfl rfl fr_11_144 (sh_8_7 hS _) ?_
      refine r_iload 245 dX11_cheapest_243 rfl rfl ?_
      refine a_I 17 246 dX11_cheapest_245 rfl rfl rfl rfl o_8 rfl ?_
      refine r_iload 248 dX11_cheapest_246 rfl rfl ?_
      refine r_iadd 249 dX11_cheapest_248 rfl o_9 ?_
      refine s_I 16 250 dX11_cheapest_249 rfl rfl (by decide) rfl rfl o_10 ?_
      refine r_iinc (ls' := [some (vR (some (2, 0))), some (vI x1), some (vI x2), some (vI x3), some (vI x4), some (vI x5), some (vI x6), some (vI x7), some (vI x8), some (vI x9), some (vI x10), some (vI (x11 + 1)), some (vI (if tb x10 x11 = true then (M.1 37 0 16) else 0 : Int))]) 253 dX11_cheapest_250 rfl rfl rfl rfl o_11 rfl ?_
      refine r_goto 194 dX11_cheapest_253 rfl ?_
      exact Ex.weak h ⟨rfl, rfl, rfl, rfl, rfl, rfl, rfl, rfl, rfl, rfl, rfl, rfl, trivial⟩
    refine r_if_eq 211 224 dX11_cheapest_208 rfl rfl (fun c => ?_) (fun c => ?_)
    · have c_7 := b2_0.mp c
      refine r_iconst 225 dX11_cheapest_224 rfl (InR_of rfl) ?_
      exact (Ex.at hJ_6 rfl (show [vI 0] = [vI (if tb x10 x11 = true then (M.1 37 0 16) else 0 : Int)] by simp only [if_neg c_7]) rfl)
    · have c_7 := b2_1.mp c
      refine r_aload_n 212 dX11_cheapest_211 rfl rfl ?_
      refine g_R 215 dX11_cheapest_212 rfl rfl rfl fr_11_12 (sh_11_0 hS) ?_
      refine g_R 218 dX11_cheapest_215 rfl rfl rfl fr_11_144 (sh_8_7 hS _) ?_
      refine r_bipush 220 dX11_cheapest_218 rfl rfl ?_
      refine a_I 17 221 dX11_cheapest_220 rfl rfl rfl rfl ⟨by decide, by decide⟩ rfl ?_
      refine r_goto 225 dX11_cheapest_221 rfl ?_
      exact (Ex.at hJ_6 rfl (show [vI (M.1 37 0 16)] = [vI (if tb x10 x11 = true then (M.1 37 0 16) else 0 : Int)] by simp only [if_pos c_7]) rfl)

theorem alF_d {Q : QT} {s w : Nat} {fr : Int} {k : Nat} : ∀ {n : Nat}, alF Q s w fr n k = true → ∀ i, i < n → wdF Q (dn Q (fr + (i : Int))) w s k = true := by
  intro n
  induction n with
  | zero => intro _ i hi; omega
  | succ n ih =>
    intro h i hi
    unfold alF at h
    rw [Bool.and_eq_true] at h
    by_cases e : i = n
    · rw [e]; exact h.2
    · exact ih h.1 i (by omega)
theorem evF_d {Q : QT} {s w : Nat} {fr : Int} {k : Nat} : ∀ {n : Nat}, evF Q s w fr n k = false → ∀ i, i < n → wdF Q (dn Q (fr + (i : Int))) w s k = false := by
  intro n
  induction n with
  | zero => intro _ i hi; omega
  | succ n ih =>
    intro h i hi
    unfold evF at h
    rw [Bool.or_eq_false_iff] at h
    by_cases e : i = n
    · rw [e]; exact h.2
    · exact ih h.1 i (by omega)
theorem uF_eq {Q : QT} {s w n i q k : Nat} {fr : Int} (hi : i < n) : ((wdF Q (dn Q (fr + (i : Int))) q s k ^^ wdF Q (dn Q (fr + (i : Int))) w s k) && mayF Q s w fr n k) = uF Q s w fr n (fr + (i : Int)) q k := by
  unfold uF
  cases em : mayF Q s w fr n k with
  | false => simp
  | true =>
    have e : wdF Q (dn Q (fr + (i : Int))) w s k = alF Q s w fr n k := by
      cases ea : alF Q s w fr n k with
      | true => exact alF_d ea i hi
      | false =>
        unfold mayF at em
        rw [ea] at em
        simp at em
        exact evF_d em i hi
    rw [e]
    simp
def ChI (P : (Nat → Bool) → Prop) (N : Nat) (I : IM) : Prop := (∃ m U, HsI I m U ∧ m ≤ N ∧ ∀ g, HitS P g ↔ HmU m U g) ∧ (I 11 0 6 = 10000 ∧ I 11 0 7 = 17 ∧ I 11 0 5 = 0)
theorem ChI.iff {P P' : (Nat → Bool) → Prop} {N N' : Nat} {I : IM} (h : ChI P N I) (hp : ∀ u, P u ↔ P' u) (hn : N ≤ N') : ChI P' N' I := by
  have e : P = P' := funext fun u => propext (hp u)
  rw [← e]
  obtain ⟨⟨m, U, a, b, c⟩, z⟩ := h
  exact ⟨⟨m, U, a, by omega, c⟩, z⟩
theorem ChI.fr {P : (Nat → Bool) → Prop} {N : Nat} {I I' : IM} (h : ChI P N I) (h1 : ∀ i, I' 11 0 i = I 11 0 i) (h2 : ∀ i, I' 26 0 i = I 26 0 i) : ChI P N I' := by
  obtain ⟨⟨m, U, ⟨a1, a2, a3, a4⟩, a5, a6⟩, e⟩ := h
  exact ⟨⟨m, U, ⟨by rw [h1]; exact a1, a2, fun i hi => by rw [h2]; exact a3 i hi, a4⟩, a5, a6⟩, by rw [h1, h1, h1]; exact e⟩
section CC
variable {l : Launch} {G : Gt} {d : Nat} {Q : QT} {M : Mem}
theorem ch_add {P : (Nat → Bool) → Prop} {N : Nat} {u : Nat → Bool} (hS : Sh M.2.1) (hI : ChI P N M.1) (hN : N < 512) : ∃ I', Cl l G (d + 1) mX4_add [vR (some (11, 0)), vI (bI 16 u)] M none (I', M.2.1, M.2.2) ∧ frS M.1 I' ∧ ChI (fun v => P v ∨ v = u) (N + 1) I' := by
  obtain ⟨⟨m, U, a1, a2, a3⟩, e⟩ := hI
  obtain ⟨I', m', U', x1, x2, x3, x4, x5, x6, x7, x8⟩ := KX4_add (l := l) (G := G) (d := d) (u := u) hS a1 (fun k V hk _ _ _ => by omega)
  refine ⟨I', x1, x2, ⟨m', U', x3, by omega, fun g => ?_⟩, ?_⟩
  · rw [x5, ← a3 g]
    exact ⟨fun h => ⟨fun v hv => h v (.inl hv), h u (.inr rfl)⟩, fun ⟨h1, h2⟩ v hv => hv.elim (h1 v) fun e => by rw [e]; exact h2⟩
  · rw [x2 _ _ _ (by omega), x2 _ _ _ (by omega), x2 _ _ _ (by omega)]
    exact e
theorem KX11_addUnlikeWords {s w n i N : Nat} {fr : Int} {P : (Nat → Bool) → Prop} (hR : RelB Q M) (hq : WFQ Q) (hs : s < 12) (hw : w < nPp Q) (hi : i < n) (hN : N + 12 ≤ 512) (hsn : Snap Q M.1 (dn Q (fr + (i : Int))) (dn Q (fr + (i : Int)))) (hI : ChI P N M.1) : ∃ (r : Int) (I' : IM), Cl l G (d + 2) mX11_addUnlikeWords [vR (some (2, 0)), vR (some (14, dn Q (fr + (i : Int)))), vI (s : Int), vI (w : Int), vI (bI 16 (mayF Q s w fr n))] M (some (vI r)) (I', M.2.1, M.2.2) ∧ frS M.1 I' ∧ ((r = -1 ∧ (∀ q, q < nPp Q → ¬ q = w → ∃ k, k < 16 ∧ uF Q s w fr n (fr + (i : Int)) q k = true) ∧ ChI (fun u => P u ∨ ∃ q, q < nPp Q ∧ ¬ q = w ∧ u = uF Q s w fr n (fr + (i : Int)) q) (N + 12) I') ∨ ∃ q : Nat, r = (q : Int) ∧ q < nPp Q ∧ ¬ q = w ∧ (∀ k, k < 16 → uF Q s w fr n (fr + (i : Int)) q k = false) ∧ ∀ q', q' < q → ¬ q' = w → ∃ k, k < 16 ∧ uF Q s w fr n (fr + (i : Int)) q' k = true) := by
  have hwf := hq.1
  have h12 := nPp_le hwf
  have hS := hR.1.1
  have sI : ∀ I, frS M.1 I → Snap Q I (dn Q (fr + (i : Int))) (dn Q (fr + (i : Int))) := fun I hf => by
    obtain ⟨q1, q2, q3, q4⟩ := hsn
    exact ⟨fun m hm => by rw [hf _ _ _ (by omega)]; exact q1 m hm, fun t p ht hp => by rw [hf _ _ _ (by omega)]; exact q2 t p ht hp, fun p hp => by rw [hf _ _ _ (by omega)]; exact q3 p hp, fun a ha => by rw [hf _ _ _ (by omega)]; exact q4 a ha⟩
  have key : ∀ m q : Nat, m + q = nPp Q → ∀ I, frS M.1 I → (∀ q', q' < q → ¬ q' = w → ∃ k, k < 16 ∧ uF Q s w fr n (fr + (i : Int)) q' k = true) → ChI (fun u => P u ∨ ∃ q', q' < q ∧ ¬ q' = w ∧ u = uF Q s w fr n (fr + (i : Int)) q') (N + q) I → ∃ (r : Int) (I' : IM), Ex l G (d + 2) mX11_addUnlikeWords 11 [some (vR (some (2, 0))), some (vR (some (14, dn Q (fr + (i : Int))))), some (vI (s : Int)), some (vI (w : Int)), some (vI (bI 16 (mayF Q s w fr n))), some (vI (bI 16 (wdF Q (dn Q (fr + (i : Int))) w s))), some (vI (q : Int)), none] [] (I, M.2.1, M.2.2) (some (vI r)) (I', M.2.1, M.2.2) ∧ frS M.1 I' ∧ ((r = -1 ∧ (∀ q, q < nPp Q → ¬ q = w → ∃ k, k < 16 ∧ uF Q s w fr n (fr + (i : Int)) q k = true) ∧ ChI (fun u => P u ∨ ∃ q, q < nPp Q ∧ ¬ q = w ∧ u = uF Q s w fr n (fr + (i : Int)) q) (N + 12) I') ∨ ∃ q : Nat, r = (q : Int) ∧ q < nPp Q ∧ ¬ q = w ∧ (∀ k, k < 16 → uF Q s w fr n (fr + (i : Int)) q k = false) ∧ ∀ q', q' < q → ¬ q' = w → ∃ k, k < 16 ∧ uF Q s w fr n (fr + (i : Int)) q' k = true) := by
    intro m
    induction m with
    | zero =>
      intro q hq' I hf hno hC
      have e1 : I 4 0 0 = (nPp Q : Int) := by rw [hf _ _ _ (by omega)]; exact cppl_eq hwf hR.1
      have eq : q = nPp Q := by omega
      subst eq
      exact ⟨-1, I, xX11_addUnlikeWords_11 hS ⟨fun _ => ⟨rfl, rfl⟩, fun c => absurd (show I 4 0 0 ≤ (nPp Q : Int) by omega) c⟩, hf, .inl ⟨rfl, hno, hC.iff (fun u => Iff.rfl) (by omega)⟩⟩
    | succ m ih =>
      intro q hq' I hf hno hC
      have e1 : I 4 0 0 = (nPp Q : Int) := by rw [hf _ _ _ (by omega)]; exact cppl_eq hwf hR.1
      have hle : ¬ (I 4 0 0 ≤ (q : Int)) := by omega
      by_cases cw : q = w
      · obtain ⟨r, I', y1, y2⟩ := ih (q + 1) (by omega) I hf (fun q' h hne => hno q' (by omega) hne) (hC.iff (fun u => ⟨fun h => h.elim .inl fun ⟨q', a, b, c⟩ => .inr ⟨q', by omega, b, c⟩, fun h => h.elim .inl fun ⟨q', a, b, c⟩ => .inr ⟨q', by omega, b, c⟩⟩) (by omega))
        exact ⟨r, I', xX11_addUnlikeWords_11 hS ⟨fun c => absurd c hle, fun _ => ⟨fun _ => ⟨by unfold InR; omega, y1⟩, fun c => absurd (by omega) c⟩⟩, y2⟩
      · have kw := KX7_wordsOf (l := l) (G := G) (d := d) (M := (I, M.2.1, M.2.2)) (one := q) (s := s) hS (sI I hf) (by omega) hs
        have eu : aAnd (aXor (bI 16 (wdF Q (dn Q (fr + (i : Int))) q s)) (bI 16 (wdF Q (dn Q (fr + (i : Int))) w s))) (bI 16 (mayF Q s w fr n)) = bI 16 (uF Q s w fr n (fr + (i : Int)) q) := by
          rw [bI_xor (by omega), bI_and (by omega)]
          exact bI_ext fun k _ => uF_eq hi
        by_cases cz : bI 16 (uF Q s w fr n (fr + (i : Int)) q) = 0
        · refine ⟨(q : Int), I, xX11_addUnlikeWords_11 hS ⟨fun c => absurd c hle, fun _ => ⟨fun c => absurd (show q = w by omega) cw, fun _ => ⟨_, _, kw, hS, ?_⟩⟩⟩, hf, .inr ⟨q, rfl, by omega, cw, (bI_zero_iff (by omega) _).mp cz, fun q' h hne => hno q' h hne⟩⟩
          rw [eu]
          exact ⟨fun c => absurd cz c, fun _ => ⟨rfl, rfl⟩⟩
        · have hyes : ∃ k, k < 16 ∧ uF Q s w fr n (fr + (i : Int)) q k = true := by
            by_cases ex : ∃ k, k < 16 ∧ uF Q s w fr n (fr + (i : Int)) q k = true
            · exact ex
            · refine absurd ((bI_zero_iff (n := 16) (by omega) _).mpr fun j hj => ?_) cz
              cases e2 : uF Q s w fr n (fr + (i : Int)) q j with
              | false => rfl
              | true => exact absurd ⟨j, hj, e2⟩ ex
          obtain ⟨I2, k1, k2, k3⟩ := ch_add (l := l) (G := G) (d := d) (M := (I, M.2.1, M.2.2)) (u := uF Q s w fr n (fr + (i : Int)) q) hS hC (by omega)
          dsimp only at k2
          obtain ⟨r, I', y1, y2⟩ := ih (q + 1) (by omega) I2 (hf.tr k2) (fun q' h hne => by
            by_cases e : q' = q
            · rw [e]; exact hyes
            · exact hno q' (by omega) hne) (k3.iff (fun u => ⟨fun h => by
            rcases h with (h | ⟨q', a, b, c⟩) | h
            · exact .inl h
            · exact .inr ⟨q', by omega, b, c⟩
            · exact .inr ⟨q, by omega, cw, h⟩, fun h => by
            rcases h with h | ⟨q', a, b, c⟩
            · exact .inl (.inl h)
            · by_cases e : q' = q
              · exact .inr (by rw [c, e])
              · exact .inl (.inr ⟨q', by omega, b, c⟩)⟩) (by omega))
          refine ⟨r, I', xX11_addUnlikeWords_11 hS ⟨fun c => absurd c hle, fun _ => ⟨fun c => absurd (show q = w by omega) cw, fun _ => ⟨_, _, kw, hS, ?_⟩⟩⟩, y2⟩
          rw [eu]
          exact ⟨fun _ => ⟨_, k1, by unfold InR; omega, y1⟩, fun c => absurd c cz⟩
  have kw := KX7_wordsOf (l := l) (G := G) (d := d) (M := M) (one := w) (s := s) hS hsn (by omega) hs
  obtain ⟨r, I', y1, y2⟩ := key (nPp Q) 0 (by omega) M.1 frS.rf (fun q' h => by omega) (hI.iff (fun u => ⟨.inl, fun h => h.elim id fun ⟨q', a, _⟩ => by omega⟩) (by omega))
  exact ⟨r, I', xX11_addUnlikeWords_0 ⟨_, M, kw, y1⟩, y2⟩
theorem KX11_cheapest {s p fr to what : Int} (hR : RelC Q M) (hwa : WFA Q) : ∃ M', Cl l G (d + 20) mX11_cheapest [vR (some (2, 0)), vI s, vI p, vI fr, vI to, vI what] M (some (vI (cheV Q s p fr to what))) M' ∧ RelB Q M' ∧ frB M M' := by
  have hq := hwa.q
  have hw := hq.1
  have h12 := nPp_le hw
  have hS := hR.1.1.1
  have e1 := cppl_eq hw hR.1.1
  by_cases g : chG Q s p fr to what
  · have gg := g
    obtain ⟨g1, g2, g3, g4, g5, g6, g7⟩ := gg
    have eN : (dyN fr to : Int) = to - fr + 1 := by unfold dyN; omega
    have es : ((s.toNat : Nat) : Int) = s := by omega
    have ep : ((p.toNat : Nat) : Int) = p := by omega
    have hwp : p.toNat < nPp Q := by omega
    have i30 : dyN fr to ≤ 31 := by omega
    have hWs : ∀ M1, frB M M1 → ∀ k, k < 17 → M1.1 37 0 k = Q 51 k := fun M1 hf k hk => by rw [hf.1 _ _ _ (by unfold scC; omega)]; exact hR.2.1.2.2.2.2.2.1 k hk
    have hWr := hwa.1.2.2.2.2.2.2.1
    -- prices, and the search
    have l194 : ∀ M1, RelB Q M1 → frB M M1 → ChI (FC Q s.toNat p.toNat fr to (dyN fr to)) 372 M1.1 → (∀ (d : Int) (q : Nat), (fr ≤ d ∧ d ≤ to) → q < nPp Q → ¬ q = p.toNat → ∃ k, k < 16 ∧ uF Q s.toNat p.toNat fr (dyN fr to) d q k = true) → what ≤ 2 → ∀ n k : Nat, n + k = 16 → ∀ I, (∀ f k i, ¬ (f = 27 ∧ k = 0) → I f k i = M1.1 f k i) → (∀ j, j < k → I 27 0 j = wP Q s.toNat p.toNat fr (dyN fr to) j) → ∃ v I', Ex l G (d + 20) mX11_cheapest 194 [some (vR (some (2, 0))), some (vI s), some (vI p), some (vI fr), some (vI to), some (vI what), some (vI (bI 16 (alF Q s.toNat p.toNat fr (dyN fr to)))), some (vI (bI 16 (evF Q s.toNat p.toNat fr (dyN fr to)))), some (vI 65535), some (vI (bI 16 (mayF Q s.toNat p.toNat fr (dyN fr to)))), some (vI (bI 16 (fun k => !evF Q s.toNat p.toNat fr (dyN fr to) k))), some (vI (k : Int)), none] [] (I, M1.2.1, M1.2.2) (some (vI v)) (I', M1.2.1, M1.2.2) ∧ RelB Q (I', M1.2.1, M1.2.2) ∧ frB M (I', M1.2.1, M1.2.2) ∧ CheP Q s p fr to what v := by
      intro M1 R1 f1 hC hall hw2 n
      induction n with
      | zero =>
        intro k hk I hf hp
        obtain ⟨⟨m, U, a1, a2, a3⟩, e⟩ := hC
        obtain ⟨I', fb, s1, s2, s3, s4, s5⟩ := KX4_solve (l := l) (G := G) (d := d) (M := (I, M1.2.1, M1.2.2)) (m := m) (U := U) (w := wP Q s.toNat p.toNat fr (dyN fr to)) (F := FC Q s.toNat p.toNat fr to (dyN fr to)) R1.1.1 ⟨by dsimp only; rw [hf _ _ _ (by omega)]; exact a1.1, a1.2.1, fun i hi => by dsimp only; rw [hf _ _ _ (by omega)]; exact a1.2.2.1 i hi, a1.2.2.2⟩ (fun j hj => ⟨hp j (by omega), by have := hWr j (by omega); have := hWr 16 (by omega); unfold wP; split <;> omega⟩) (by dsimp only; rw [hf _ _ _ (by omega), hf _ _ _ (by omega), hf _ _ _ (by omega)]; exact e) a3 ⟨fun _ => true, fun u ⟨d', q', b1, b2, b3, b4⟩ => by
          obtain ⟨k, hk, hu2⟩ := hall d' q' b1 b2 b3
          exact ⟨k, hk, by rw [b4]; exact hu2, rfl⟩⟩
        dsimp only at s2
        have fT : ∀ f k i, ¬ (f = 27 ∨ f = 11) → I' f k i = M1.1 f k i := fun f k i hn => (s2 f k i (by omega)).trans (hf f k i (by omega))
        have fB : frB M1 (I', M1.2.1, M1.2.2) := frB.I fun f k i hn => fT f k i (by unfold scC at hn; omega)
        have R2 : RelB Q (I', M1.2.1, M1.2.2) := R1.fr (R1.1.I fun f k i hr => fT f k i (by unfold relF at hr; omega)) fB
        have fin : ∀ v, v = (if what = 0 then prc (wP Q s.toNat p.toNat fr (dyN fr to)) fb 16 else if what = 1 then bI 16 fb else bI 16 (fun k => fb k && !evF Q s.toNat p.toNat fr (dyN fr to) k)) → CheP Q s p fr to what v := fun v hv => ⟨fun _ => .inr ⟨hall, fun c => absurd hw2 c, fun _ => ⟨fb, s3, hv⟩⟩, fun n => absurd g n⟩
        by_cases c0 : what = 0
        · exact ⟨_, I', xX11_cheapest_194 R1.1.1 ⟨fun _ => ⟨_, s1, R1.1.1, fun c => absurd c0 c, fun _ => ⟨rfl, rfl⟩⟩, fun c => absurd (by omega) c⟩, R2, f1.tr fB, fin _ (by rw [if_pos c0]; exact s5)⟩
        · refine ⟨_, I', xX11_cheapest_194 R1.1.1 ⟨fun _ => ⟨_, s1, R1.1.1, fun _ => ⟨rfl, rfl⟩, fun c => absurd c c0⟩, fun c => absurd (by omega) c⟩, R2, f1.tr fB, fin _ ?_⟩
          dsimp only
          rw [if_neg c0, s4, bI_and (by omega)]
      | succ n ih =>
        intro k hk I hf hp
        have ek : I 37 0 (k : Int).toNat = Q 51 k := by rw [Int.toNat_natCast, hf _ _ _ (by omega)]; exact hWs M1 f1 k (by omega)
        have e16 : I 37 0 16 = Q 51 16 := by rw [hf _ _ _ (by omega)]; exact hWs M1 f1 16 (by omega)
        have t1 : tb (bI 16 (fun k => !evF Q s.toNat p.toNat fr (dyN fr to) k)) (k : Int) = (!evF Q s.toNat p.toNat fr (dyN fr to) k) := by rw [tb_bI (by omega)]; simp [show k < 16 by omega]
        have nn : 0 ≤ bI 16 (fun k => !evF Q s.toNat p.toNat fr (dyN fr to) k) := bI_nn
        have hk1 := hWr k (by omega)
        have hk2 := hWr 16 (by omega)
        have ew : Q 51 k + (if tb (bI 16 (fun k => !evF Q s.toNat p.toNat fr (dyN fr to) k)) (k : Int) = true then Q 51 16 else 0 : Int) = wP Q s.toNat p.toNat fr (dyN fr to) k := by rw [t1]; rfl
        have win : 0 ≤ wP Q s.toNat p.toNat fr (dyN fr to) k ∧ wP Q s.toNat p.toNat fr (dyN fr to) k ≤ 198 := by unfold wP; split <;> omega
        obtain ⟨v, I', y1, y2⟩ := ih (k + 1) (by omega) (upI I 27 0 k (wP Q s.toNat p.toNat fr (dyN fr to) k)) (fun f k' i hn => by rw [upI_o hn]; exact hf f k' i hn) (fun j hj => by
          by_cases e : j = k
          · rw [e, upI_s]
          · rw [upI_i e]; exact hp j (by omega))
        refine ⟨v, I', xX11_cheapest_194 R1.1.1 ?_, y2⟩
        dsimp only
        rw [ek, e16, ew, Int.toNat_natCast]
        exact ⟨fun c => by omega, fun _ => ⟨⟨nn, by omega, by omega⟩, ⟨by omega, by unfold InR; omega, by omega, by unfold InR; omega⟩, y1⟩⟩
    -- the days, set by set
    have l119 : ∀ n i : Nat, n + i = dyN fr to → ∀ M1, RelB Q M1 → frB M M1 → ChI (fun u => ∃ (i' : Nat) (q : Nat), i' < i ∧ q < nPp Q ∧ ¬ q = p.toNat ∧ u = uF Q s.toNat p.toNat fr (dyN fr to) (fr + (i' : Int)) q) (12 * i) M1.1 → (∀ i' q : Nat, i' < i → q < nPp Q → ¬ q = p.toNat → ∃ k, k < 16 ∧ uF Q s.toNat p.toNat fr (dyN fr to) (fr + (i' : Int)) q k = true) → ∃ v M', Ex l G (d + 20) mX11_cheapest 119 [some (vR (some (2, 0))), some (vI s), some (vI p), some (vI fr), some (vI to), some (vI what), some (vI (bI 16 (alF Q s.toNat p.toNat fr (dyN fr to)))), some (vI (bI 16 (evF Q s.toNat p.toNat fr (dyN fr to)))), some (vI 65535), some (vI (bI 16 (mayF Q s.toNat p.toNat fr (dyN fr to)))), some (vI (bI 16 (fun k => !evF Q s.toNat p.toNat fr (dyN fr to) k))), some (vI (fr + (i : Int))), none] [] M1 (some (vI v)) M' ∧ RelB Q M' ∧ frB M M' ∧ CheP Q s p fr to what v := by
      intro n
      induction n with
      | zero =>
        intro i hi M1 R1 f1 hC hno
        have ei : i = dyN fr to := by omega
        subst ei
        have hall : ∀ (d : Int) (q : Nat), (fr ≤ d ∧ d ≤ to) → q < nPp Q → ¬ q = p.toNat → ∃ k, k < 16 ∧ uF Q s.toNat p.toNat fr (dyN fr to) d q k = true := fun d q hd hq' hne => by
          have := hno (d - fr).toNat q (by omega) hq' hne
          rw [show fr + (((d - fr).toNat : Nat) : Int) = d by omega] at this
          exact this
        by_cases c2 : what ≤ 2
        · obtain ⟨v, I', y1, y2, y3, y4⟩ := l194 M1 R1 f1 (hC.iff (fun u => ⟨fun ⟨i', q, a, b, c, e⟩ => ⟨fr + (i' : Int), q, by omega, b, c, e⟩, fun ⟨d', q, a, b, c, e⟩ => ⟨(d' - fr).toNat, q, by omega, b, c, by rw [e, show fr + (((d' - fr).toNat : Nat) : Int) = d' by omega]⟩⟩) (by omega)) hall c2 16 0 rfl M1.1 (fun _ _ _ _ => rfl) (fun j hj => by omega)
          exact ⟨v, _, xX11_cheapest_119 R1.1.1 ⟨fun _ => ⟨fun _ => y1, fun c => absurd c2 c⟩, fun c => absurd (by omega) c⟩, y2, y3, y4⟩
        · exact ⟨-2, M1, xX11_cheapest_119 R1.1.1 ⟨fun _ => ⟨fun c => absurd c c2, fun _ => ⟨rfl, rfl⟩⟩, fun c => absurd (by omega) c⟩, R1, f1, fun _ => .inr ⟨hall, fun _ => rfl, fun c => absurd c c2⟩, fun n => absurd g n⟩
      | succ n ih =>
        intro i hi M1 R1 f1 hC hno
        obtain ⟨M2, o2, R2, f2, p2, _⟩ := on_at (l := l) (G := G) (d := d + 17) (x := fr + (i : Int)) R1.1 hw
        have RB2 : RelB Q M2 := R1.fr R2 f2.b
        have hC2 := hC.fr (I' := M2.1) (fun i => f2.1 _ _ _ (by omega)) (fun i => f2.1 _ _ _ (by omega))
        have sn : Snap Q M2.1 (dn Q (fr + (i : Int))) (dn Q (fr + (i : Int))) := R2.2.2.1.2.2.2.2.2 _ p2
        obtain ⟨r, I3, k1, k2, k3⟩ := KX11_addUnlikeWords (l := l) (G := G) (d := d + 17) (s := s.toNat) (w := p.toNat) (n := dyN fr to) (i := i) (N := 12 * i) (fr := fr) RB2 hq (by omega) hwp (by omega) (by omega) sn hC2
        rw [es, ep] at k1
        rcases k3 with ⟨rfl, k3, k4⟩ | ⟨q, rfl, b1, b2, b3, b4⟩
        · obtain ⟨v, M', y1, y2⟩ := ih (i + 1) (by omega) (I3, M2.2.1, M2.2.2) (RB2.s k2) ((f1.tr f2.b).tr k2.b) (k4.iff (fun u => ⟨fun h => by
            rcases h with ⟨i', q, a, b, c, e⟩ | ⟨q, b, c, e⟩
            · exact ⟨i', q, by omega, b, c, e⟩
            · exact ⟨i, q, by omega, b, c, e⟩, fun ⟨i', q, a, b, c, e⟩ => by
            by_cases ei : i' = i
            · exact .inr ⟨q, b, c, by rw [e, ei]⟩
            · exact .inl ⟨i', q, by omega, b, c, e⟩⟩) (by omega)) (fun i' q a b c => by
            by_cases ei : i' = i
            · rw [ei]; exact k3 q b c
            · exact hno i' q (by omega) b c)
          refine ⟨v, M', xX11_cheapest_119 R1.1.1 ⟨fun c => by omega, fun _ => ⟨_, M2, o2, _, _, k1, fun _ => ⟨by unfold InR; omega, ?_⟩, fun c => absurd rfl c⟩⟩, y2⟩
          rw [show fr + (i : Int) + 1 = fr + ((i + 1 : Nat) : Int) by omega]
          exact y1
        · refine ⟨_, _, xX11_cheapest_119 R1.1.1 ⟨fun c => by omega, fun _ => ⟨_, M2, o2, _, _, k1, fun c => by omega, fun _ => ⟨rfl, rfl⟩⟩⟩, RB2.s k2, (f1.tr f2.b).tr k2.b, fun _ => .inl ⟨fr + (i : Int), q, ⟨⟨by omega, b1, b2, b3⟩, fun d' q' a b c h => ?_⟩, rfl⟩, fun n => absurd g n⟩
          by_cases ei : d' = fr + (i : Int)
          · rw [ei]; exact b4 q' (by omega) c
          · have := hno (d' - fr).toNat q' (by omega) b c
            rw [show fr + (((d' - fr).toNat : Nat) : Int) = d' by omega] at this
            exact this
    have t65 : ∀ i : Nat, tb 65535 (i : Int) = decide (i < 16) := fun i => by rw [← a16, tb_bI (by omega)]; simp
    -- always and ever
    have l40 : ∀ n i : Nat, n + i = dyN fr to → 1 ≤ i → ∀ M1, RelB Q M1 → frB M M1 → ∃ v M', Ex l G (d + 20) mX11_cheapest 40 [some (vR (some (2, 0))), some (vI s), some (vI p), some (vI fr), some (vI to), some (vI what), some (vI (bI 16 (alF Q s.toNat p.toNat fr i))), some (vI (bI 16 (evF Q s.toNat p.toNat fr i))), some (vI (fr + (i : Int))), none, none, none, none] [] M1 (some (vI v)) M' ∧ RelB Q M' ∧ frB M M' ∧ CheP Q s p fr to what v := by
      intro n
      induction n with
      | zero =>
        intro i hi _ M1 R1 f1
        have ei : i = dyN fr to := by omega
        subst ei
        have eh : aAnd (aOr (bI 16 (alF Q s.toNat p.toNat fr (dyN fr to))) (aXor (bI 16 (evF Q s.toNat p.toNat fr (dyN fr to))) (-1))) 65535 = bI 16 (mayF Q s.toNat p.toNat fr (dyN fr to)) := by
          refine bI_of (by omega) (aAnd_in _ _) fun i hi => ?_
          rw [tb_and, tb_or, tb_not _ hi, tb_bI (by omega), tb_bI (by omega), t65]
          unfold mayF
          by_cases c : i < 16
          · simp [c]
          · simp [c]
        have en : aAnd (bI 16 (mayF Q s.toNat p.toNat fr (dyN fr to))) (aXor (bI 16 (evF Q s.toNat p.toNat fr (dyN fr to))) (-1)) = bI 16 (fun k => !evF Q s.toNat p.toNat fr (dyN fr to) k) := by
          rw [bI_diff (by omega)]
          refine bI_ext fun i _ => ?_
          unfold mayF
          cases evF Q s.toNat p.toNat fr (dyN fr to) i <;> simp
        have fC : ∀ f k i, ¬ (f = 11 ∧ k = 0) → upI (upI (upI (upI (upI (upI M1.1 11 0 1 0) 11 0 3 0) 11 0 4 0) 11 0 5 0) 11 0 6 10000) 11 0 7 17 f k i = M1.1 f k i := fun f k i hn => by rw [upI_o hn, upI_o hn, upI_o hn, upI_o hn, upI_o hn, upI_o hn]
        have fB : frB M1 (upI (upI (upI (upI (upI (upI M1.1 11 0 1 0) 11 0 3 0) 11 0 4 0) 11 0 5 0) 11 0 6 10000) 11 0 7 17, M1.2.1, M1.2.2) := frB.I fun f k i hn => fC f k i (by unfold scC at hn; omega)
        obtain ⟨v, M', y1, y2⟩ := l119 (dyN fr to) 0 (by omega) (upI (upI (upI (upI (upI (upI M1.1 11 0 1 0) 11 0 3 0) 11 0 4 0) 11 0 5 0) 11 0 6 10000) 11 0 7 17, M1.2.1, M1.2.2) (R1.fr (R1.1.I fun f k i hr => fC f k i (by unfold relF at hr; omega)) fB) (f1.tr fB) ⟨⟨0, fun _ _ => false, ⟨by dsimp only; rw [upI_i (by omega), upI_i (by omega), upI_i (by omega), upI_i (by omega), upI_i (by omega), upI_s]; rfl, by omega, fun i hi => by omega, fun i j hi => by omega⟩, by omega, fun g => ⟨fun _ i hi => by omega, fun _ u ⟨i', q, a, _⟩ => by omega⟩⟩, by dsimp only; rw [upI_i (by omega), upI_s], by dsimp only; rw [upI_s], by dsimp only; rw [upI_i (by omega), upI_i (by omega), upI_s]⟩ (fun i' q a => by omega)
        refine ⟨v, M', xX11_cheapest_40 R1.1.1 ⟨fun _ => ⟨_, xX4_clear_0 ⟨rfl, rfl⟩, ?_⟩, fun c => absurd (by omega) c⟩, y2⟩
        rw [eh, en]
        rw [show fr + ((0 : Nat) : Int) = fr by omega] at y1
        exact y1
      | succ n ih =>
        intro i hi h1 M1 R1 f1
        obtain ⟨M2, o2, R2, f2, p2, _⟩ := on_at (l := l) (G := G) (d := d + 17) (x := fr + (i : Int)) R1.1 hw
        have sn : Snap Q M2.1 (dn Q (fr + (i : Int))) (dn Q (fr + (i : Int))) := R2.2.2.1.2.2.2.2.2 _ p2
        have kw := KX7_wordsOf (l := l) (G := G) (d := d + 18) (M := M2) (one := p.toNat) (s := s.toNat) R2.1 sn (by omega) (by omega)
        rw [es, ep] at kw
        obtain ⟨v, M', y1, y2⟩ := ih (i + 1) (by omega) (by omega) M2 (R1.fr R2 f2.b) (f1.tr f2.b)
        refine ⟨v, M', xX11_cheapest_40 R1.1.1 ⟨fun c => by omega, fun _ => ⟨_, M2, o2, _, M2, kw, by unfold InR; omega, ?_⟩⟩, y2⟩
        rw [bI_and (by omega), bI_or (by omega), show fr + (i : Int) + 1 = fr + ((i + 1 : Nat) : Int) by omega]
        exact y1
    obtain ⟨M2, o2, R2, f2, p2, _⟩ := on_at (l := l) (G := G) (d := d + 17) (x := fr) hR.1.1 hw
    have sn : Snap Q M2.1 (dn Q fr) (dn Q fr) := R2.2.2.1.2.2.2.2.2 _ p2
    have kw := KX7_wordsOf (l := l) (G := G) (d := d + 18) (M := M2) (one := p.toNat) (s := s.toNat) R2.1 sn (by omega) (by omega)
    rw [es, ep] at kw
    obtain ⟨v, M', y1, y2, y3, y4⟩ := l40 (dyN fr to - 1) 1 (by omega) (by omega) M2 (hR.1.fr R2 f2.b) f2.b
    have ea : aAnd (-1) (bI 16 (wdF Q (dn Q fr) p.toNat s.toNat)) = bI 16 (alF Q s.toNat p.toNat fr 1) := by
      refine bI_of (by omega) (aAnd_in _ _) fun i hi => ?_
      have hm : tb (-1) (i : Int) = true := by
        have := tb_not 0 (k := i) hi
        rw [tb_zero] at this
        exact this
      rw [tb_and, hm, tb_bI (by omega)]
      show _ = (decide (i < 16) && (true && wdF Q (dn Q (fr + ((0 : Nat) : Int))) p.toNat s.toNat i))
      rw [show fr + ((0 : Nat) : Int) = fr by omega]
      simp
    have ee : aOr 0 (bI 16 (wdF Q (dn Q fr) p.toNat s.toNat)) = bI 16 (evF Q s.toNat p.toNat fr 1) := by
      refine bI_of (by omega) (aOr_in _ _) fun i hi => ?_
      rw [tb_or, tb_zero, tb_bI (by omega)]
      show _ = (decide (i < 16) && (false || wdF Q (dn Q (fr + ((0 : Nat) : Int))) p.toNat s.toNat i))
      rw [show fr + ((0 : Nat) : Int) = fr by omega]
      simp
    rw [cheV_eq y4]
    refine ⟨M', xX11_cheapest_0 hS ?_, y2, y3⟩
    rw [e1]
    refine ⟨fun a => absurd ⟨g1, g2, g3⟩ a, fun _ => ⟨fun a => absurd ⟨g4, g5, g6⟩ a, fun _ => ⟨fun a => by omega, fun _ => ⟨fun _ => xX11_cheapest_40 hS ⟨fun c => by omega, fun _ => ⟨_, M2, o2, _, M2, kw, by unfold InR; omega, ?_⟩⟩, fun a => by omega⟩⟩⟩⟩
    rw [ea, ee]
    exact y1
  · rw [cheV_eq (v := -1) ⟨fun n => absurd n g, fun _ => rfl⟩]
    refine ⟨M, xX11_cheapest_0 hS ?_, hR.1, frB.rf⟩
    rw [e1]
    exact ⟨fun _ => ⟨rfl, rfl⟩, fun g1 => ⟨fun _ => ⟨rfl, rfl⟩, fun g2 => ⟨fun _ => ⟨rfl, rfl⟩, fun g3 => ⟨fun g4 => absurd ⟨g1.1, g1.2.1, g1.2.2, g2.1, g2.2.1, g2.2.2, by omega⟩ g, fun _ => ⟨rfl, rfl⟩⟩⟩⟩⟩
end CC
