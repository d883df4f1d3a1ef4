/-! apart: the spec, the reference -/
set_option maxRecDepth 4000 in
theorem xX12_parts_0 {l : Launch} {G : Gt} {d : Nat} {M M' : Mem} {r : Option Vl} {x1 : Int} (h : 
    Ex l G d mX12_parts 2 [some (vR (some (3, 0))), some (vI x1), some (vI 0)] [] M r M') : Cl l G d mX12_parts [vR (some (3, 0)), vI x1] M r M' := by
  show Ex l G d mX12_parts 0 [some (vR (some (3, 0))), some (vI x1), none] [] M r M'
  refine r_iconst 1 dX12_parts_0 rfl (InR_of rfl) ?_
  refine r_istore_n (ls' := [some (vR (some (3, 0))), some (vI x1), some (vI 0)]) 2 dX12_parts_1 rfl rfl rfl rfl ?_
  exact h
set_option maxRecDepth 4000 in
theorem xX12_parts_2 {l : Launch} {G : Gt} {d : Nat} {M M' : Mem} {r : Option Vl} {x1 : Int} {x2 : Int} (hS : Sh M.2.1) (h : 
    (1024 ≤ x2 → r = none ∧ M' = M) ∧ (¬ (1024 ≤ x2) → ((0 ≤ x2 ∧ x2 < 1024)) ∧ (((0 ≤ x2 ∧ x2 < 1024) ∧ ((if (M.1 89 0 x2.toNat) = 0 then 0 else (if (aAnd x2 x1) = 0 then 0 else 1 : Int) : Int) = 0 ∨ (if (M.1 89 0 x2.toNat) = 0 then 0 else (if (aAnd x2 x1) = 0 then 0 else 1 : Int) : Int) = 1) ∧ InR (x2 + 1)) ∧ Ex l G d mX12_parts 2 [some (vR (some (3, 0))), some (vI x1), some (vI (x2 + 1))] [] ((upI M.1 89 0 x2.toNat (if (M.1 89 0 x2.toNat) = 0 then 0 else (if (aAnd x2 x1) = 0 then 0 else 1 : Int) : Int)), M.2.1, M.2.2) r M'))) : Ex l G d mX12_parts 2 [some (vR (some (3, 0))), some (vI x1), some (vI x2)] [] M r M' := by
  refine r_iload_n 3 dX12_parts_2 rfl rfl ?_
  refine r_sipush 6 dX12_parts_3 rfl rfl ?_
  refine r_icmp_ge 9 41 dX12_parts_6 rfl rfl (fun c => ?_) (fun c => ?_)
  · have h := h.1 (c)
    exact r_vret dX12_parts_41 rfl h.1 h.2
  · have h := h.2 (c)
    obtain ⟨o_1, h⟩ := h
    refine r_aload_n 10 dX12_parts_9 rfl rfl ?_
    refine g_R 13 dX12_parts_10 rfl rfl rfl fr_12_135 (sh_12_55 hS) ?_
    refine r_iload_n 14 dX12_parts_13 rfl rfl ?_
    refine r_aload_n 15 dX12_parts_14 rfl rfl ?_
    refine g_R 18 dX12_parts_15 rfl rfl rfl fr_12_135 (sh_12_55 hS) ?_
    refine r_iload_n 19 dX12_parts_18 rfl rfl ?_
    refine a_Z 1024 20 dX12_parts_19 rfl rfl rfl rfl o_1 rfl ?_
    have hJ_2 : Ex l G d mX12_parts 34 [some (vR (some (3, 0))), some (vI x1), some (vI x2)] [vI (if (M.1 89 0 x2.toNat) = 0 then 0 else (if (aAnd x2 x1) = 0 then 0 else 1 : Int) : Int), vI x2, vR (some (89, 0))] M r M' := by
      obtain ⟨⟨o_5, o_6, o_7⟩, h⟩ := h
      refine s_Z 1024 35 dX12_parts_34 rfl rfl (by decide) rfl rfl o_5 o_6 ?_
      refine r_iinc (ls' := [some (vR (some (3, 0))), some (vI x1), some (vI (x2 + 1))]) 38 dX12_parts_35 rfl rfl rfl rfl o_7 rfl ?_
      refine r_goto 2 dX12_parts_38 rfl ?_
      exact h
    refine r_if_eq 23 33 dX12_parts_20 rfl rfl (fun c => ?_) (fun c => ?_)
    · have c_3 := c
      refine r_iconst 34 dX12_parts_33 rfl (InR_of rfl) ?_
      exact (Ex.at hJ_2 rfl (show [vI 0, vI x2, vR (some (89, 0))] = [vI (if (M.1 89 0 x2.toNat) = 0 then 0 else (if (aAnd x2 x1) = 0 then 0 else 1 : Int) : Int), vI x2, vR (some (89, 0))] by simp only [if_pos c_3]) rfl)
    · have c_3 := c
      refine r_iload_n 24 dX12_parts_23 rfl rfl ?_
      refine r_iload_n 25 dX12_parts_24 rfl rfl ?_
      refine r_iand 26 dX12_parts_25 rfl ?_
      refine r_if_eq 29 33 dX12_parts_26 rfl rfl (fun c => ?_) (fun c => ?_)
      · have c_4 := c
        refine r_iconst 34 dX12_parts_33 rfl (InR_of rfl) ?_
        exact (Ex.at hJ_2 rfl (show [vI 0, vI x2, vR (some (89, 0))] = [vI (if (M.1 89 0 x2.toNat) = 0 then 0 else (if (aAnd x2 x1) = 0 then 0 else 1 : Int) : Int), vI x2, vR (some (89, 0))] by simp only [if_neg c_3, if_pos c_4]) rfl)
      · have c_4 := c
        refine r_iconst 30 dX12_parts_29 rfl (InR_of rfl) ?_
        refine r_goto 34 dX12_parts_30 rfl ?_
        exact (Ex.at hJ_2 rfl (show [vI 1, vI x2, vR (some (89, 0))] = [vI (if (M.1 89 0 x2.toNat) = 0 then 0 else (if (aAnd x2 x1) = 0 then 0 else 1 : Int) : Int), vI x2, vR (some (89, 0))] by simp only [if_neg c_3, if_neg c_4]) rfl)

set_option maxRecDepth 4000 in
theorem xX12_apart_0 {l : Launch} {G : Gt} {d : Nat} {M M' : Mem} {r : Option Vl} {x1 : Int} {x2 : Int} {x3 : Int} (h : 
    (¬ (0 ≤ x1 ∧ x1 ≤ 999) → r = some (vI (-1)) ∧ M' = M) ∧ (0 ≤ x1 ∧ x1 ≤ 999 → (¬ (0 ≤ x2 ∧ x2 ≤ 999) → r = some (vI (-1)) ∧ M' = M) ∧ (0 ≤ x2 ∧ x2 ≤ 999 → (InR (x2 - x1)) ∧ ((¬ (0 ≤ (x2 - x1) ∧ (x2 - x1) ≤ 30) → r = some (vI (-1)) ∧ M' = M) ∧ (0 ≤ (x2 - x1) ∧ (x2 - x1) ≤ 30 → (0 ≤ x3 ∧ x3 ≤ 1 → Ex l G (d + 2) mX12_apart 46 [some (vR (some (3, 0))), some (vI x1), some (vI x2), some (vI x3), some (vI 0), some (vI 0), none, none, none] [] M r M') ∧ (¬ (0 ≤ x3 ∧ x3 ≤ 1) → r = some (vI (-1)) ∧ M' = M)))))) : Cl l G (d + 2) mX12_apart [vR (some (3, 0)), vI x1, vI x2, vI x3] M r M' := by
  show Ex l G (d + 2) mX12_apart 0 [some (vR (some (3, 0))), some (vI x1), some (vI x2), some (vI x3), none, none, none, none, none] [] M r M'
  refine r_iload_n 1 dX12_apart_0 rfl rfl ?_
  refine c_1 [vI x1] [] 4 dX12_apart_1 rfl rfl mo_X12_isDay ml_12_170 rfl rfl (KX12_isDay) ?_
  refine r_if_eq 7 38 dX12_apart_4 rfl rfl (fun c => ?_) (fun c => ?_)
  · have h := h.1 (b2_0.mp c)
    refine r_iconst 39 dX12_apart_38 rfl (InR_of rfl) ?_
    exact r_iret dX12_apart_39 rfl (.inl rfl) h.1 h.2
  · have h := h.2 (b2_1.mp c)
    refine r_iload_n 8 dX12_apart_7 rfl rfl ?_
    refine c_1 [vI x2] [] 11 dX12_apart_8 rfl rfl mo_X12_isDay ml_12_170 rfl rfl (KX12_isDay) ?_
    refine r_if_eq 14 38 dX12_apart_11 rfl rfl (fun c => ?_) (fun c => ?_)
    · have h := h.1 (b2_0.mp c)
      refine r_iconst 39 dX12_apart_38 rfl (InR_of rfl) ?_
      exact r_iret dX12_apart_39 rfl (.inl rfl) h.1 h.2
    · have h := h.2 (b2_1.mp c)
      obtain ⟨o_1, h⟩ := h
      refine r_iload_n 15 dX12_apart_14 rfl rfl ?_
      refine r_iload_n 16 dX12_apart_15 rfl rfl ?_
      refine r_isub 17 dX12_apart_16 rfl o_1 ?_
      refine r_i2l 18 dX12_apart_17 rfl ?_
      refine r_lconst (x := 0) 19 dX12_apart_18 rfl (by decide +kernel) (InR_of rfl) ?_
      refine r_ldc2 (n := 30) 22 dX12_apart_19 rfl (inT7 (List.mem_of_getElem? (i := 118) rfl) rfl) (by decide +kernel) (InR_of rfl) ?_
      refine c_1 [vL (x2 - x1), vL 0, vL 30] [] 25 dX12_apart_22 rfl rfl mo_X12_in ml_12_154 rfl rfl (KX12_in) ?_
      refine r_if_eq 28 38 dX12_apart_25 rfl rfl (fun c => ?_) (fun c => ?_)
      · have h := h.1 (b2_0.mp c)
        refine r_iconst 39 dX12_apart_38 rfl (InR_of rfl) ?_
        exact r_iret dX12_apart_39 rfl (.inl rfl) h.1 h.2
      · have h := h.2 (b2_1.mp c)
        refine r_iload_n 29 dX12_apart_28 rfl rfl ?_
        refine r_i2l 30 dX12_apart_29 rfl ?_
        refine r_lconst (x := 0) 31 dX12_apart_30 rfl (by decide +kernel) (InR_of rfl) ?_
        refine r_lconst (x := 1) 32 dX12_apart_31 rfl (by decide +kernel) (InR_of rfl) ?_
        refine c_1 [vL x3, vL 0, vL 1] [] 35 dX12_apart_32 rfl rfl mo_X12_in ml_12_154 rfl rfl (KX12_in) ?_
        refine r_if_ne 38 40 dX12_apart_35 rfl rfl (fun c => ?_) (fun c => ?_)
        · have h := h.1 (b2_1.mp c)
          refine r_iconst 41 dX12_apart_40 rfl (InR_of rfl) ?_
          refine r_istore (ls' := [some (vR (some (3, 0))), some (vI x1), some (vI x2), some (vI x3), some (vI 0), none, none, none, none]) 43 dX12_apart_41 rfl rfl rfl rfl ?_
          refine r_iconst 44 dX12_apart_43 rfl (InR_of rfl) ?_
          refine r_istore (ls' := [some (vR (some (3, 0))), some (vI x1), some (vI x2), some (vI x3), some (vI 0), some (vI 0), none, none, none]) 46 dX12_apart_44 rfl rfl rfl rfl ?_
          exact h
        · have h := h.2 (b2_0.mp (Decidable.not_not.mp c))
          refine r_iconst 39 dX12_apart_38 rfl (InR_of rfl) ?_
          exact r_iret dX12_apart_39 rfl (.inl rfl) h.1 h.2
set_option maxRecDepth 4000 in
theorem xX12_apart_46 {l : Launch} {G : Gt} {d : Nat} {M M' : Mem} {r : Option Vl} {x1 : Int} {x2 : Int} {x3 : Int} {x4 : Int} {x5 : Int} (hS : Sh M.2.1) (h : 
    (1024 ≤ x5 → Ex l G (d + 2) mX12_apart 71 [some (vR (some (3, 0))), some (vI x1), some (vI x2), some (vI x3), some (vI x4), some (vI x1), none, none, none] [] M r M') ∧ (¬ (1024 ≤ x5) → ((0 ≤ x5 ∧ x5 < 1024) ∧ InR (x5 + 1)) ∧ Ex l G (d + 2) mX12_apart 46 [some (vR (some (3, 0))), some (vI x1), some (vI x2), some (vI x3), some (vI x4), some (vI (x5 + 1)), none, none, none] [] ((upI M.1 89 0 x5.toNat 1), M.2.1, M.2.2) r M')) : Ex l G (d + 2) mX12_apart 46 [some (vR (some (3, 0))), some (vI x1), some (vI x2), some (vI x3), some (vI x4), some (vI x5), none, none, none] [] M r M' := by
  refine r_iload 48 dX12_apart_46 rfl rfl ?_
  refine r_sipush 51 dX12_apart_48 rfl rfl ?_
  refine r_icmp_ge 54 68 dX12_apart_51 rfl rfl (fun c => ?_) (fun c => ?_)
  · have h := h.1 (c)
    refine r_iload_n 69 dX12_apart_68 rfl rfl ?_
    refine r_istore (ls' := [some (vR (some (3, 0))), some (vI x1), some (vI x2), some (vI x3), some (vI x4), some (vI x1), none, none, none]) 71 dX12_apart_69 rfl rfl rfl rfl ?_
    exact h
  · have h := h.2 (c)
    obtain ⟨⟨o_1, o_2⟩, h⟩ := h
    refine r_aload_n 55 dX12_apart_54 rfl rfl ?_
    refine g_R 58 dX12_apart_55 rfl rfl rfl fr_12_135 (sh_12_55 hS) ?_
    refine r_iload 60 dX12_apart_58 rfl rfl ?_
    refine r_iconst 61 dX12_apart_60 rfl (InR_of rfl) ?_
    refine s_Z 1024 62 dX12_apart_61 rfl rfl (by decide) rfl rfl o_1 (.inr rfl) ?_
    refine r_iinc (ls' := [some (vR (some (3, 0))), some (vI x1), some (vI x2), some (vI x3), some (vI x4), some (vI (x5 + 1)), none, none, none]) 65 dX12_apart_62 rfl rfl rfl rfl o_2 rfl ?_
    refine r_goto 46 dX12_apart_65 rfl ?_
    exact h
set_option maxRecDepth 4000 in
theorem xX12_apart_71 {l : Launch} {G : Gt} {d : Nat} {M M' : Mem} {r : Option Vl} {x1 : Int} {x2 : Int} {x3 : Int} {x4 : Int} {x5 : Int} (h : 
    (x2 < x5 → (¬ (x3 = 1) → Ex l G (d + 2) mX12_apart 190 [some (vR (some (3, 0))), some (vI x1), some (vI x2), some (vI x3), some (vI x4), some (vI (-2)), some (vI 0), none, none] [] M r M') ∧ (x3 = 1 → r = some (vI x4) ∧ M' = M)) ∧ (¬ (x2 < x5) → ∃ (M_1 : Mem), Cl l G (d + 1) mX12_lays [vR (some (3, 0)), vI 1, vI x5] M none M_1 ∧ Ex l G (d + 2) mX12_apart 87 [some (vR (some (3, 0))), some (vI x1), some (vI x2), some (vI x3), some (vI x4), some (vI x5), some (vI 0), none, none] [] M_1 r M')) : Ex l G (d + 2) mX12_apart 71 [some (vR (some (3, 0))), some (vI x1), some (vI x2), some (vI x3), some (vI x4), some (vI x5), none, none, none] [] M r M' := by
  refine r_iload 73 dX12_apart_71 rfl rfl ?_
  refine r_iload_n 74 dX12_apart_73 rfl rfl ?_
  refine r_icmp_gt 77 175 dX12_apart_74 rfl rfl (fun c => ?_) (fun c => ?_)
  · have h := h.1 (c)
    refine r_iload_n 176 dX12_apart_175 rfl rfl ?_
    refine r_iconst 177 dX12_apart_176 rfl (InR_of rfl) ?_
    refine r_icmp_ne 180 183 dX12_apart_177 rfl rfl (fun c => ?_) (fun c => ?_)
    · have h := h.1 (c)
      refine r_bipush 185 dX12_apart_183 rfl rfl ?_
      refine r_istore (ls' := [some (vR (some (3, 0))), some (vI x1), some (vI x2), some (vI x3), some (vI x4), some (vI (-2)), none, none, none]) 187 dX12_apart_185 rfl rfl rfl rfl ?_
      refine r_iconst 188 dX12_apart_187 rfl (InR_of rfl) ?_
      refine r_istore (ls' := [some (vR (some (3, 0))), some (vI x1), some (vI x2), some (vI x3), some (vI x4), some (vI (-2)), some (vI 0), none, none]) 190 dX12_apart_188 rfl rfl rfl rfl ?_
      exact h
    · have h := h.2 (Decidable.not_not.mp c)
      refine r_iload 182 dX12_apart_180 rfl rfl ?_
      exact r_iret dX12_apart_182 rfl (.inl rfl) h.1 h.2
  · have h := h.2 (c)
    refine r_aload_n 78 dX12_apart_77 rfl rfl ?_
    refine r_iconst 79 dX12_apart_78 rfl (InR_of rfl) ?_
    refine r_iload 81 dX12_apart_79 rfl rfl ?_
    obtain ⟨M_1, hc_2, h⟩ := h
    refine v_0 (ci := 12) (C := (RX12, TX12, 68)) [vI 1, vI x5] [] 84 dX12_apart_81 rfl rfl rfl rfl rfl mo_X12_lays ml_12_198 rfl rfl hc_2 ?_
    refine r_iconst 85 dX12_apart_84 rfl (InR_of rfl) ?_
    refine r_istore (ls' := [some (vR (some (3, 0))), some (vI x1), some (vI x2), some (vI x3), some (vI x4), some (vI x5), some (vI 0), none, none]) 87 dX12_apart_85 rfl rfl rfl rfl ?_
    exact h
set_option maxRecDepth 4000 in
theorem xX12_apart_87 {l : Launch} {G : Gt} {d : Nat} {M M' : Mem} {r : Option Vl} {x1 : Int} {x2 : Int} {x3 : Int} {x4 : Int} {x5 : Int} {x6 : Int} (hS : Sh M.2.1) (h : 
    ((M.1 48 0 0) ≤ x6 → (InR (x5 + 1)) ∧ Ex l G (d + 2) mX12_apart 71 [some (vR (some (3, 0))), some (vI x1), some (vI x2), some (vI x3), some (vI x4), some (vI (x5 + 1)), none, none, none] [] M r M') ∧ (¬ ((M.1 48 0 0) ≤ x6) → Ex l G (d + 2) mX12_apart 101 [some (vR (some (3, 0))), some (vI x1), some (vI x2), some (vI x3), some (vI x4), some (vI x5), some (vI x6), some (vI 0), none] [] M r M')) : Ex l G (d + 2) mX12_apart 87 [some (vR (some (3, 0))), some (vI x1), some (vI x2), some (vI x3), some (vI x4), some (vI x5), some (vI x6), none, none] [] M r M' := by
  refine r_iload 89 dX12_apart_87 rfl rfl ?_
  refine r_aload_n 90 dX12_apart_89 rfl rfl ?_
  refine g_R 93 dX12_apart_90 rfl rfl rfl fr_12_7 (sh_12_1 hS) ?_
  refine r_iconst 94 dX12_apart_93 rfl (InR_of rfl) ?_
  refine a_I 6 95 dX12_apart_94 rfl rfl rfl rfl ⟨by decide, by decide⟩ rfl ?_
  refine r_icmp_ge 98 169 dX12_apart_95 rfl rfl (fun c => ?_) (fun c => ?_)
  · have h := h.1 (c)
    obtain ⟨o_1, h⟩ := h
    refine r_iinc (ls' := [some (vR (some (3, 0))), some (vI x1), some (vI x2), some (vI x3), some (vI x4), some (vI (x5 + 1)), some (vI x6), none, none]) 172 dX12_apart_169 rfl rfl rfl rfl o_1 rfl ?_
    refine r_goto 71 dX12_apart_172 rfl ?_
    exact Ex.weak h ⟨rfl, rfl, rfl, rfl, rfl, rfl, trivial⟩
  · have h := h.2 (c)
    refine r_iconst 99 dX12_apart_98 rfl (InR_of rfl) ?_
    refine r_istore (ls' := [some (vR (some (3, 0))), some (vI x1), some (vI x2), some (vI x3), some (vI x4), some (vI x5), some (vI x6), some (vI 0), none]) 101 dX12_apart_99 rfl rfl rfl rfl ?_
    exact h
set_option maxRecDepth 4000 in
theorem xX12_apart_101 {l : Launch} {G : Gt} {d : Nat} {M M' : Mem} {r : Option Vl} {x1 : Int} {x2 : Int} {x3 : Int} {x4 : Int} {x5 : Int} {x6 : Int} {x7 : Int} (hS : Sh M.2.1) (h : 
    (x6 ≤ x7 → (InR (x6 + 1)) ∧ Ex l G (d + 2) mX12_apart 87 [some (vR (some (3, 0))), some (vI x1), some (vI x2), some (vI x3), some (vI x4), some (vI x5), some (vI (x6 + 1)), none, none] [] M r M') ∧ (¬ (x6 ≤ x7) → (InR (12 + x6) ∧ (0 ≤ (12 + x6) ∧ (12 + x6) < 24) ∧ InR (12 + x7) ∧ (0 ≤ (12 + x7) ∧ (12 + x7) < 24)) ∧ (∃ (r_8 : Int) (M_6 : Mem), Cl l G (d + 1) mX12_bits [vI (aXor (M.1 71 0 (12 + x6).toNat) (M.1 71 0 (12 + x7).toNat))] M (some (vI r_8)) M_6 ∧ (∃ (M_11 : Mem), Cl l G (d + 1) mX12_parts [vR (some (3, 0)), vI (aXor (M.1 71 0 (12 + x6).toNat) (M.1 71 0 (12 + x7).toNat))] M_6 none M_11 ∧ (InR (x7 + 1)) ∧ Ex l G (d + 2) mX12_apart 101 [some (vR (some (3, 0))), some (vI x1), some (vI x2), some (vI x3), some (vI (aOr x4 (if r_8 = 1 then (aXor (M.1 71 0 (12 + x6).toNat) (M.1 71 0 (12 + x7).toNat)) else 0 : Int))), some (vI x5), some (vI x6), some (vI (x7 + 1)), none] [] M_11 r M')))) : Ex l G (d + 2) mX12_apart 101 [some (vR (some (3, 0))), some (vI x1), some (vI x2), some (vI x3), some (vI x4), some (vI x5), some (vI x6), some (vI x7), none] [] M r M' := by
  refine r_iload 103 dX12_apart_101 rfl rfl ?_
  refine r_iload 105 dX12_apart_103 rfl rfl ?_
  refine r_icmp_ge 108 163 dX12_apart_105 rfl rfl (fun c => ?_) (fun c => ?_)
  · have h := h.1 (c)
    obtain ⟨o_1, h⟩ := h
    refine r_iinc (ls' := [some (vR (some (3, 0))), some (vI x1), some (vI x2), some (vI x3), some (vI x4), some (vI x5), some (vI (x6 + 1)), some (vI x7), none]) 166 dX12_apart_163 rfl rfl rfl rfl o_1 rfl ?_
    refine r_goto 87 dX12_apart_166 rfl ?_
    exact Ex.weak h ⟨rfl, rfl, rfl, rfl, rfl, rfl, rfl, trivial⟩
  · have h := h.2 (c)
    obtain ⟨⟨o_2, o_3, o_4, o_5⟩, h⟩ := h
    refine r_aload_n 109 dX12_apart_108 rfl rfl ?_
    refine g_R 112 dX12_apart_109 rfl rfl rfl fr_12_79 (sh_12_24 hS) ?_
    refine r_bipush 114 dX12_apart_112 rfl rfl ?_
    refine r_iload 116 dX12_apart_114 rfl rfl ?_
    refine r_iadd 117 dX12_apart_116 rfl o_2 ?_
    refine a_I 24 118 dX12_apart_117 rfl rfl rfl rfl o_3 rfl ?_
    refine r_aload_n 119 dX12_apart_118 rfl rfl ?_
    refine g_R 122 dX12_apart_119 rfl rfl rfl fr_12_79 (sh_12_24 hS) ?_
    refine r_bipush 124 dX12_apart_122 rfl rfl ?_
    refine r_iload 126 dX12_apart_124 rfl rfl ?_
    refine r_iadd 127 dX12_apart_126 rfl o_4 ?_
    refine a_I 24 128 dX12_apart_127 rfl rfl rfl rfl o_5 rfl ?_
    refine r_ixor 129 dX12_apart_128 rfl ?_
    refine r_istore (ls' := [some (vR (some (3, 0))), some (vI x1), some (vI x2), some (vI x3), some (vI x4), some (vI x5), some (vI x6), some (vI x7), some (vI (aXor (M.1 71 0 (12 + x6).toNat) (M.1 71 0 (12 + x7).toNat)))]) 131 dX12_apart_129 rfl rfl rfl rfl ?_
    refine r_iload 133 dX12_apart_131 rfl rfl ?_
    refine r_iload 135 dX12_apart_133 rfl rfl ?_
    obtain ⟨r_8, M_6, hc_7, h⟩ := h
    refine c_1 [vI (aXor (M.1 71 0 (12 + x6).toNat) (M.1 71 0 (12 + x7).toNat))] [vI x4] 138 dX12_apart_135 rfl rfl mo_X12_bits ml_12_328 rfl rfl hc_7 ?_
    refine r_iconst 139 dX12_apart_138 rfl (InR_of rfl) ?_
    have hJ_9 : Ex l G (d + 2) mX12_apart 148 [some (vR (some (3, 0))), some (vI x1), some (vI x2), some (vI x3), some (vI x4), some (vI x5), some (vI x6), some (vI x7), some (vI (aXor (M.1 71 0 (12 + x6).toNat) (M.1 71 0 (12 + x7).toNat)))] [vI (if r_8 = 1 then (aXor (M.1 71 0 (12 + x6).toNat) (M.1 71 0 (12 + x7).toNat)) else 0 : Int), vI x4] M_6 r M' := by
      refine r_ior 149 dX12_apart_148 rfl ?_
      refine r_istore (ls' := [some (vR (some (3, 0))), some (vI x1), some (vI x2), some (vI x3), some (vI (aOr x4 (if r_8 = 1 then (aXor (M.1 71 0 (12 + x6).toNat) (M.1 71 0 (12 + x7).toNat)) else 0 : Int))), some (vI x5), some (vI x6), some (vI x7), some (vI (aXor (M.1 71 0 (12 + x6).toNat) (M.1 71 0 (12 + x7).toNat)))]) 151 dX12_apart_149 rfl rfl rfl rfl ?_
      refine r_aload_n 152 dX12_apart_151 rfl rfl ?_
      refine r_iload 154 dX12_apart_152 rfl rfl ?_
      obtain ⟨M_11, hc_12, h⟩ := h
      refine v_0 (ci := 12) (C := (RX12, TX12, 68)) [vI (aXor (M.1 71 0 (12 + x6).toNat) (M.1 71 0 (12 + x7).toNat))] [] 157 dX12_apart_154 rfl rfl rfl rfl rfl mo_X12_parts ml_12_398 rfl rfl hc_12 ?_
      obtain ⟨o_13, h⟩ := h
      refine r_iinc (ls' := [some (vR (some (3, 0))), some (vI x1), some (vI x2), some (vI x3), some (vI (aOr x4 (if r_8 = 1 then (aXor (M.1 71 0 (12 + x6).toNat) (M.1 71 0 (12 + x7).toNat)) else 0 : Int))), some (vI x5), some (vI x6), some (vI (x7 + 1)), some (vI (aXor (M.1 71 0 (12 + x6).toNat) (M.1 71 0 (12 + x7).toNat)))]) 160 dX12_apart_157 rfl rfl rfl rfl o_13 rfl ?_
      refine r_goto 101 dX12_apart_160 rfl ?_
      exact Ex.weak h ⟨rfl, rfl, rfl, rfl, rfl, rfl, rfl, rfl, trivial⟩
    refine r_icmp_ne 142 147 dX12_apart_139 rfl rfl (fun c => ?_) (fun c => ?_)
    · have c_10 := c
      refine r_iconst 148 dX12_apart_147 rfl (InR_of rfl) ?_
      exact (Ex.at hJ_9 rfl (show [vI 0, vI x4] = [vI (if r_8 = 1 then (aXor (M.1 71 0 (12 + x6).toNat) (M.1 71 0 (12 + x7).toNat)) else 0 : Int), vI x4] by simp only [if_neg c_10]) rfl)
    · have c_10 := Decidable.not_not.mp c
      refine r_iload 144 dX12_apart_142 rfl rfl ?_
      refine r_goto 148 dX12_apart_144 rfl ?_
      exact (Ex.at hJ_9 rfl (show [vI (aXor (M.1 71 0 (12 + x6).toNat) (M.1 71 0 (12 + x7).toNat)), vI x4] = [vI (if r_8 = 1 then (aXor (M.1 71 0 (12 + x6).toNat) (M.1 71 0 (12 + x7).toNat)) else 0 : Int), vI x4] by simp only [if_pos c_10]) rfl)
set_option maxRecDepth 4000 in
theorem xX12_apart_190 {l : Launch} {G : Gt} {d : Nat} {M M' : Mem} {r : Option Vl} {x1 : Int} {x2 : Int} {x3 : Int} {x4 : Int} {x5 : Int} {x6 : Int} (hS : Sh M.2.1) (h : 
    (1024 ≤ x6 → r = some (vI x5) ∧ M' = M) ∧ (¬ (1024 ≤ x6) → ((0 ≤ x6 ∧ x6 < 1024)) ∧ (((M.1 89 0 x6.toNat) = 0 → (InR (x6 + 1)) ∧ Ex l G (d + 2) mX12_apart 190 [some (vR (some (3, 0))), some (vI x1), some (vI x2), some (vI x3), some (vI x4), some (vI x5), some (vI (x6 + 1)), none, none] [] M r M') ∧ (¬ ((M.1 89 0 x6.toNat) = 0) → (x5 = (-2) → (InR (x6 + 1)) ∧ Ex l G (d + 2) mX12_apart 190 [some (vR (some (3, 0))), some (vI x1), some (vI x2), some (vI x3), some (vI x4), some (vI x6), some (vI (x6 + 1)), none, none] [] M r M') ∧ (¬ (x5 = (-2)) → ∃ (r_6 : Int) (M_4 : Mem), Cl l G (d + 1) mX12_bits [vI x6] M (some (vI r_6)) M_4 ∧ (∃ (r_9 : Int) (M_7 : Mem), Cl l G (d + 1) mX12_bits [vI x5] M_4 (some (vI r_9)) M_7 ∧ (InR (x6 + 1)) ∧ Ex l G (d + 2) mX12_apart 190 [some (vR (some (3, 0))), some (vI x1), some (vI x2), some (vI x3), some (vI x4), some (vI (if r_9 ≤ r_6 then x5 else x6 : Int)), some (vI (x6 + 1)), none, none] [] M_7 r M')))))) : Ex l G (d + 2) mX12_apart 190 [some (vR (some (3, 0))), some (vI x1), some (vI x2), some (vI x3), some (vI x4), some (vI x5), some (vI x6), none, none] [] M r M' := by
  refine r_iload 192 dX12_apart_190 rfl rfl ?_
  refine r_sipush 195 dX12_apart_192 rfl rfl ?_
  refine r_icmp_ge 198 238 dX12_apart_195 rfl rfl (fun c => ?_) (fun c => ?_)
  · have h := h.1 (c)
    refine r_iload 240 dX12_apart_238 rfl rfl ?_
    exact r_iret dX12_apart_240 rfl (.inl rfl) h.1 h.2
  · have h := h.2 (c)
    obtain ⟨o_1, h⟩ := h
    refine r_aload_n 199 dX12_apart_198 rfl rfl ?_
    refine g_R 202 dX12_apart_199 rfl rfl rfl fr_12_135 (sh_12_55 hS) ?_
    refine r_iload 204 dX12_apart_202 rfl rfl ?_
    refine a_Z 1024 205 dX12_apart_204 rfl rfl rfl rfl o_1 rfl ?_
    refine r_if_eq 208 232 dX12_apart_205 rfl rfl (fun c => ?_) (fun c => ?_)
    · have h := h.1 (c)
      obtain ⟨o_2, h⟩ := h
      refine r_iinc (ls' := [some (vR (some (3, 0))), some (vI x1), some (vI x2), some (vI x3), some (vI x4), some (vI x5), some (vI (x6 + 1)), none, none]) 235 dX12_apart_232 rfl rfl rfl rfl o_2 rfl ?_
      refine r_goto 190 dX12_apart_235 rfl ?_
      exact h
    · have h := h.2 (c)
      refine r_iload 210 dX12_apart_208 rfl rfl ?_
      refine r_bipush 212 dX12_apart_210 rfl rfl ?_
      refine r_icmp_eq 215 228 dX12_apart_212 rfl rfl (fun c => ?_) (fun c => ?_)
      · have h := h.1 (c)
        obtain ⟨o_3, h⟩ := h
        refine r_iload 230 dX12_apart_228 rfl rfl ?_
        refine r_istore (ls' := [some (vR (some (3, 0))), some (vI x1), some (vI x2), some (vI x3), some (vI x4), some (vI x6), some (vI x6), none, none]) 232 dX12_apart_230 rfl rfl rfl rfl ?_
        refine r_iinc (ls' := [some (vR (some (3, 0))), some (vI x1), some (vI x2), some (vI x3), some (vI x4), some (vI x6), some (vI (x6 + 1)), none, none]) 235 dX12_apart_232 rfl rfl rfl rfl o_3 rfl ?_
        refine r_goto 190 dX12_apart_235 rfl ?_
        exact h
      · have h := h.2 (c)
        refine r_iload 217 dX12_apart_215 rfl rfl ?_
        obtain ⟨r_6, M_4, hc_5, h⟩ := h
        refine c_1 [vI x6] [] 220 dX12_apart_217 rfl rfl mo_X12_bits ml_12_328 rfl rfl hc_5 ?_
        refine r_iload 222 dX12_apart_220 rfl rfl ?_
        obtain ⟨r_9, M_7, hc_8, h⟩ := h
        refine c_1 [vI x5] [vI r_6] 225 dX12_apart_222 rfl rfl mo_X12_bits ml_12_328 rfl rfl hc_8 ?_
        have hJ_10 : Ex l G (d + 2) mX12_apart 232 [some (vR (some (3, 0))), some (vI x1), some (vI x2), some (vI x3), some (vI x4), some (vI (if r_9 ≤ r_6 then x5 else x6 : Int)), some (vI x6), none, none] [] M_7 r M' := by
          obtain ⟨o_12, h⟩ := h
          refine r_iinc (ls' := [some (vR (some (3, 0))), some (vI x1), some (vI x2), some (vI x3), some (vI x4), some (vI (if r_9 ≤ r_6 then x5 else x6 : Int)), some (vI (x6 + 1)), none, none]) 235 dX12_apart_232 rfl rfl rfl rfl o_12 rfl ?_
          refine r_goto 190 dX12_apart_235 rfl ?_
          exact h
        refine r_icmp_ge 228 232 dX12_apart_225 rfl rfl (fun c => ?_) (fun c => ?_)
        · have c_11 := c
          exact (Ex.at hJ_10 (show [some (vR (some (3, 0))), some (vI x1), some (vI x2), some (vI x3), some (vI x4), some (vI x5), some (vI x6), none, none] = [some (vR (some (3, 0))), some (vI x1), some (vI x2), some (vI x3), some (vI x4), some (vI (if r_9 ≤ r_6 then x5 else x6 : Int)), some (vI x6), none, none] by simp only [if_pos c_11]) rfl rfl)
        · have c_11 := c
          refine r_iload 230 dX12_apart_228 rfl rfl ?_
          refine r_istore (ls' := [some (vR (some (3, 0))), some (vI x1), some (vI x2), some (vI x3), some (vI x4), some (vI x6), some (vI x6), none, none]) 232 dX12_apart_230 rfl rfl rfl rfl ?_
          exact (Ex.at hJ_10 (show [some (vR (some (3, 0))), some (vI x1), some (vI x2), some (vI x3), some (vI x4), some (vI x6), some (vI x6), none, none] = [some (vR (some (3, 0))), some (vI x1), some (vI x2), some (vI x3), some (vI x4), some (vI (if r_9 ≤ r_6 then x5 else x6 : Int)), some (vI x6), none, none] by simp only [if_neg c_11]) rfl rfl)

def xr (Q : QT) (d : Int) (a b : Nat) : Nat → Bool := fun k => mkF Q (dn Q d) a k ^^ mkF Q (dn Q d) b k
def F10 (Q : QT) (fr to : Int) (u : Nat → Bool) : Prop := ∃ (d : Int) (a b : Nat), (fr ≤ d ∧ d ≤ to) ∧ b < a ∧ a < nPp Q ∧ u = xr Q d a b
def apG (fr to what : Int) : Prop := (0 ≤ fr ∧ fr ≤ 999) ∧ (0 ≤ to ∧ to ≤ 999) ∧ (fr ≤ to ∧ to - fr < 31) ∧ (0 ≤ what ∧ what ≤ 1)
def ApP (Q : QT) (fr to what v : Int) : Prop := (apG fr to what → (what = 1 → ∃ f : Nat → Bool, v = bI 16 f ∧ ∀ k, k < 16 → (f k = true ↔ ∃ u, F10 Q fr to u ∧ cnt u 16 = 1 ∧ u k = true)) ∧ (¬ what = 1 → (∃ f, BstS (fun _ => 0) (F10 Q fr to) f ∧ v = bI 16 f) ∨ ((∃ u, F10 Q fr to u ∧ ∀ k, k < 16 → u k = false) ∧ v = -2))) ∧ (¬ apG fr to what → v = -1)
noncomputable def apV1 (Q : QT) (fr to what : Int) : Int := Classical.epsilon (ApP Q fr to what)
theorem BstS_e {w : Nat → Int} {F : (Nat → Bool) → Prop} {f u : Nat → Bool} (h : BstS w F f) (hu : F u) (h0 : ∀ k, k < 16 → u k = false) : False := by
  obtain ⟨k, hk, a, _⟩ := h.1 u hu
  rw [h0 k hk] at a
  cases a
theorem apV1_eq {Q : QT} {fr to what v : Int} (h : ApP Q fr to what v) : apV1 Q fr to what = v := by
  have h' : ApP Q fr to what (apV1 Q fr to what) := Classical.epsilon_spec ⟨v, h⟩
  by_cases g : apG fr to what
  · by_cases c : what = 1
    · obtain ⟨f, e1, e2⟩ := (h.1 g).1 c
      obtain ⟨f', e1', e2'⟩ := (h'.1 g).1 c
      rw [e1, e1']
      refine bI_ext fun i hi => ?_
      have := (e2' i hi).trans (e2 i hi).symm
      cases ea : f i <;> cases eb : f' i <;> simp_all
    · rcases (h.1 g).2 c with ⟨f, e1, e2⟩ | ⟨⟨u, u1, u2⟩, e2⟩
      · rcases (h'.1 g).2 c with ⟨f', e1', e2'⟩ | ⟨⟨u, u1, u2⟩, e2'⟩
        · rw [e2, e2']
          exact bI_ext (BstS_u e1' e1).2
        · exact (BstS_e e1 u1 u2).elim
      · rcases (h'.1 g).2 c with ⟨f', e1', e2'⟩ | ⟨_, e2'⟩
        · exact (BstS_e e1' u1 u2).elim
        · rw [e2, e2']
  · rw [h.2 g, h'.2 g]
/-- a number as a set -/
def kf (k : Nat) : Nat → Bool := fun i => k.testBit i
theorem kf_b {n k : Nat} (hn : n ≤ 31) (h : k < 2 ^ n) : (k : Int) = bI n (kf k) := by
  have h31 : 2 ^ n ≤ 2 ^ 31 := Nat.pow_le_pow_right (by omega) hn
  have h3 : k < 2147483648 := by omega
  refine bI_of hn (by unfold InR; omega) fun i hi => ?_
  rw [tb_nat (by omega)]
  by_cases c : i < n
  · simp [c, kf]
  · have : k.testBit i = false := Nat.testBit_lt_two_pow (Nat.lt_of_lt_of_le h (Nat.pow_le_pow_right (by omega) (by omega)))
    simp [c, this]
theorem xr_10 {Q : QT} (h : WFc Q) {d : Int} {a b k : Nat} (hk : 10 ≤ k) : xr Q d a b k = false := by
  unfold xr
  rw [mkF_out h _ a k (dn_le Q d) (.inr hk), mkF_out h _ b k (dn_le Q d) (.inr hk)]
  rfl
theorem b10_16 {u : Nat → Bool} (h : ∀ k, 10 ≤ k → k < 16 → u k = false) : bI 10 u = bI 16 u := bI_len (by omega) h
theorem c10_16 {u : Nat → Bool} (h : ∀ k, 10 ≤ k → k < 16 → u k = false) : cnt u 10 = cnt u 16 := by
  have e : ∀ m, m ≤ 6 → cnt u (10 + m) = cnt u 10 := by
    intro m
    induction m with
    | zero => intro _; rfl
    | succ m ih =>
      intro hm
      show cnt u (10 + m) + (if u (10 + m) = true then 1 else 0) = _
      rw [ih (by omega), h (10 + m) (by omega) (by omega)]
      simp
  exact (e 6 (by omega)).symm
def ApI (P : (Nat → Bool) → Prop) (x4 : Int) (I : IM) : Prop := (∃ f : Nat → Bool, x4 = bI 16 f ∧ ∀ k, k < 16 → (f k = true ↔ ∃ u, P u ∧ cnt u 16 = 1 ∧ u k = true)) ∧ ∀ k, k < 1024 → (I 89 0 k = 0 ∨ I 89 0 k = 1) ∧ (I 89 0 k = 1 ↔ HitS P (kf k))
theorem ApI.iff {P P' : (Nat → Bool) → Prop} {x4 : Int} {I : IM} (h : ApI P x4 I) (hp : ∀ u, P u ↔ P' u) : ApI P' x4 I := by
  have e : P = P' := funext fun u => propext (hp u)
  rw [← e]
  exact h
section PA
variable {l : Launch} {G : Gt} {d : Nat} {Q : QT} {M : Mem}
theorem kf_hit {u : Nat → Bool} {k : Nat} (hk : k < 1024) (hu : ∀ i, 10 ≤ i → i < 16 → u i = false) : aAnd (k : Int) (bI 16 u) = 0 ↔ ¬ hitU u (kf k) := by
  rw [kf_b (n := 10) (by omega) (by omega), ← b10_16 hu, bI_and (by omega), bI_zero_iff (by omega)]
  constructor
  · rintro h ⟨i, hi, a, b⟩
    by_cases c : i < 10
    · have := h i c
      rw [a, b] at this
      cases this
    · rw [hu i (by omega) hi] at a
      cases a
  · intro h i hi
    cases e1 : kf k i with
    | false => rfl
    | true =>
      cases e2 : u i with
      | false => rfl
      | true => exact absurd ⟨i, by omega, e2, e1⟩ h
theorem KX12_parts {P : (Nat → Bool) → Prop} {x4 : Int} {u : Nat → Bool} (hS : Sh M.2.1) (hu : ∀ i, 10 ≤ i → i < 16 → u i = false) (hI : ApI P x4 M.1) : ∃ I', Cl l G d mX12_parts [vR (some (3, 0)), vI (bI 16 u)] M none (I', M.2.1, M.2.2) ∧ (∀ f k i, ¬ (f = 89 ∧ k = 0) → I' f k i = M.1 f k i) ∧ ApI (fun v => P v ∨ v = u) (aOr x4 (if (cnt u 16 : Int) = 1 then bI 16 u else 0 : Int)) I' := by
  have key : ∀ n k : Nat, n + k = 1024 → ∀ I, (∀ f k i, ¬ (f = 89 ∧ k = 0) → I f k i = M.1 f k i) → (∀ j, j < k → (I 89 0 j = 0 ∨ I 89 0 j = 1) ∧ (I 89 0 j = 1 ↔ HitS P (kf j) ∧ hitU u (kf j))) → (∀ j, k ≤ j → I 89 0 j = M.1 89 0 j) → ∃ I', Ex l G d mX12_parts 2 [some (vR (some (3, 0))), some (vI (bI 16 u)), some (vI (k : Int))] [] (I, M.2.1, M.2.2) none (I', M.2.1, M.2.2) ∧ (∀ f k i, ¬ (f = 89 ∧ k = 0) → I' f k i = M.1 f k i) ∧ ∀ j, j < 1024 → (I' 89 0 j = 0 ∨ I' 89 0 j = 1) ∧ (I' 89 0 j = 1 ↔ HitS P (kf j) ∧ hitU u (kf j)) := by
    intro n
    induction n with
    | zero =>
      intro k hk I h1 h2 h3
      exact ⟨I, xX12_parts_2 hS ⟨fun _ => ⟨rfl, rfl⟩, fun c => absurd (by omega) c⟩, h1, fun j hj => h2 j (by omega)⟩
    | succ n ih =>
      intro k hk I h1 h2 h3
      have e89 : I 89 0 (k : Int).toNat = M.1 89 0 k := by rw [Int.toNat_natCast]; exact h3 k (Nat.le_refl _)
      obtain ⟨g1, g2⟩ := hI.2 k (by omega)
      have hv : (if M.1 89 0 k = 0 then 0 else (if aAnd (k : Int) (bI 16 u) = 0 then 0 else 1 : Int) : Int) = 1 ↔ HitS P (kf k) ∧ hitU u (kf k) := by
        rcases g1 with g | g
        · rw [if_pos g]
          exact ⟨fun h => by omega, fun h => by have := g2.mpr h.1; omega⟩
        · rw [if_neg (by omega)]
          by_cases c : aAnd (k : Int) (bI 16 u) = 0
          · rw [if_pos c]
            exact ⟨fun h => by omega, fun h => absurd h.2 ((kf_hit (by omega) hu).mp c)⟩
          · rw [if_neg c]
            refine ⟨fun _ => ⟨g2.mp g, ?_⟩, fun _ => rfl⟩
            by_cases ch : hitU u (kf k)
            · exact ch
            · exact absurd ((kf_hit (by omega) hu).mpr ch) c
      have h01 : (if M.1 89 0 k = 0 then 0 else (if aAnd (k : Int) (bI 16 u) = 0 then 0 else 1 : Int) : Int) = 0 ∨ (if M.1 89 0 k = 0 then 0 else (if aAnd (k : Int) (bI 16 u) = 0 then 0 else 1 : Int) : Int) = 1 := by (repeat' split) <;> omega
      obtain ⟨I', x1, x2⟩ := ih (k + 1) (by omega) (upI I 89 0 k (if M.1 89 0 k = 0 then 0 else (if aAnd (k : Int) (bI 16 u) = 0 then 0 else 1 : Int) : Int)) (fun f k' i hn => by rw [upI_o hn]; exact h1 f k' i hn) (fun j hj => by
        by_cases e : j = k
        · rw [e, upI_s]; exact ⟨h01, hv⟩
        · rw [upI_i e]; exact h2 j (by omega)) (fun j hj => by rw [upI_i (by omega)]; exact h3 j (by omega))
      refine ⟨I', xX12_parts_2 hS ?_, x2⟩
      dsimp only
      simp only [Int.toNat_natCast, h3 k (Nat.le_refl _)]
      exact ⟨fun c => by omega, fun _ => ⟨by omega, ⟨by omega, h01, by unfold InR; omega⟩, x1⟩⟩
  obtain ⟨I', x1, x2, x3⟩ := key 1024 0 rfl M.1 (fun _ _ _ _ => rfl) (fun j hj => by omega) (fun _ _ => rfl)
  refine ⟨I', xX12_parts_0 x1, x2, ?_, fun j hj => ⟨(x3 j hj).1, (x3 j hj).2.trans ⟨fun ⟨a, b⟩ v hv => hv.elim (a v) fun e => by rw [e]; exact b, fun h => ⟨fun v hv => h v (.inl hv), h u (.inr rfl)⟩⟩⟩⟩
  obtain ⟨f, e1, e2⟩ := hI.1
  by_cases c : (cnt u 16 : Int) = 1
  · refine ⟨fun k => f k || u k, by rw [if_pos c, e1, bI_or (by omega)], fun k hk => ?_⟩
    rw [Bool.or_eq_true, e2 k hk]
    constructor
    · rintro (⟨v, a, b⟩ | h)
      · exact ⟨v, .inl a, b⟩
      · exact ⟨u, .inr rfl, by omega, h⟩
    · rintro ⟨v, a | a, b, b'⟩
      · exact .inl ⟨v, a, b, b'⟩
      · rw [a] at b'; exact .inr b'
  · refine ⟨f, by rw [if_neg c, e1, bI_zor (by omega)], fun k hk => (e2 k hk).trans ⟨fun ⟨v, a, b⟩ => ⟨v, .inl a, b⟩, fun ⟨v, a, b⟩ => ⟨v, a.elim id fun e => ?_, b⟩⟩⟩
    rw [e] at b
    omega
/-- the pairs that were looked at -/
def F10k (Q : QT) (fr d : Int) (a b : Nat) (u : Nat → Bool) : Prop := ∃ (d' : Int) (a' b' : Nat), fr ≤ d' ∧ b' < a' ∧ a' < nPp Q ∧ (d' < d ∨ (d' = d ∧ (a' < a ∨ (a' = a ∧ b' < b)))) ∧ u = xr Q d' a' b'
theorem kf_16 {g : Nat → Bool} : ∃ k, k < 1024 ∧ ∀ i, i < 16 → kf k i = (decide (i < 10) && g i) := ⟨bset 10 g, bset_lt 10 g, fun i _ => bset_bit 10 g i⟩
theorem leL_tr {w : Nat → Int} {f g h : Nat → Bool} (h1 : leL w f g) (h2 : leL w g h) : leL w f h := by
  unfold leL at *
  omega
theorem prc_0 {f : Nat → Bool} : ∀ n, prc (fun _ => 0) f n = 0 := by
  intro n
  induction n with
  | zero => rfl
  | succ n ih => unfold prc; rw [ih]; split <;> rfl
/-- the least of all numbers that hit is the best set -/
theorem best10 {F : (Nat → Bool) → Prop} {b : Nat} (hF : ∀ u, F u → ∀ i, 10 ≤ i → i < 16 → u i = false) (hb : b < 1024) (h1 : HitS F (kf b)) (h2 : ∀ j, j < 1024 → HitS F (kf j) → cnt (kf b) 10 < cnt (kf j) 10 ∨ (cnt (kf b) 10 = cnt (kf j) 10 ∧ b ≤ j)) : BstS (fun _ => 0) F (kf b) := by
  refine ⟨h1, fun g hg => ?_⟩
  obtain ⟨k, hk, e⟩ := kf_16 (g := g)
  have e0 : ∀ j, j < 1024 → ∀ i, 10 ≤ i → i < 16 → kf j i = false := fun j hj i hi _ => Nat.testBit_lt_two_pow (Nat.lt_of_lt_of_le hj (Nat.pow_le_pow_right (n := 2) (i := 10) (by omega) hi))
  have hk2 : HitS F (kf k) := fun u hu => by
    obtain ⟨i, hi, a, c⟩ := hg u hu
    refine ⟨i, hi, a, ?_⟩
    rw [e i hi, c]
    by_cases c10 : i < 10
    · simp [c10]
    · rw [hF u hu i (by omega) hi] at a; cases a
  have l1 : leL (fun _ => 0) (kf b) (kf k) := by
    unfold leL
    rw [prc_0, prc_0, ← c10_16 (e0 b hb), ← c10_16 (e0 k hk), ← b10_16 (e0 b hb), ← b10_16 (e0 k hk), ← kf_b (n := 10) (by omega) hb, ← kf_b (n := 10) (by omega) hk]
    have := h2 k hk hk2
    omega
  refine leL_tr l1 (sub_leL (fun _ _ => Int.le_refl _) fun i hi h => ?_)
  rw [e i hi] at h
  exact (Bool.and_eq_true _ _ ▸ h).2
theorem ap_190 {F : (Nat → Bool) → Prop} {x1 x2 x3 x4 : Int} {x40 : Int} (hS : Sh M.2.1) (hF : ∀ u, F u → ∀ i, 10 ≤ i → i < 16 → u i = false) (hI : ApI F x40 M.1) : ∀ n k : Nat, n + k = 1024 → ∀ x5 : Int, ((x5 = -2 ∧ ∀ j, j < k → ¬ HitS F (kf j)) ∨ ∃ b : Nat, b < k ∧ x5 = (b : Int) ∧ HitS F (kf b) ∧ ∀ j, j < k → HitS F (kf j) → cnt (kf b) 10 < cnt (kf j) 10 ∨ (cnt (kf b) 10 = cnt (kf j) 10 ∧ b ≤ j)) → ∃ v, Ex l G (d + 2) mX12_apart 190 [some (vR (some (3, 0))), some (vI x1), some (vI x2), some (vI x3), some (vI x4), some (vI x5), some (vI (k : Int)), none, none] [] M (some (vI v)) M ∧ ((∃ f, BstS (fun _ => 0) F f ∧ v = bI 16 f) ∨ ((∀ g, ¬ HitS F g) ∧ v = -2)) := by
  intro n
  induction n with
  | zero =>
    intro k hk x5 h
    have ek : k = 1024 := by omega
    subst ek
    refine ⟨x5, xX12_apart_190 hS ⟨fun _ => ⟨rfl, rfl⟩, fun c => absurd (by omega) c⟩, ?_⟩
    rcases h with ⟨a, b⟩ | ⟨b, h1, h2, h3, h4⟩
    · refine .inr ⟨fun g hg => ?_, a⟩
      obtain ⟨k, hk, e⟩ := kf_16 (g := g)
      refine b k hk fun u hu => ?_
      obtain ⟨i, hi, a, c⟩ := hg u hu
      refine ⟨i, hi, a, ?_⟩
      rw [e i hi, c]
      by_cases c10 : i < 10
      · simp [c10]
      · rw [hF u hu i (by omega) hi] at a; cases a
    · refine .inl ⟨kf b, best10 hF h1 h3 h4, ?_⟩
      rw [h2, kf_b (n := 10) (by omega) h1]
      exact b10_16 fun i hi _ => Nat.testBit_lt_two_pow (Nat.lt_of_lt_of_le h1 (Nat.pow_le_pow_right (n := 2) (i := 10) (by omega) hi))
  | succ n ih =>
    intro k hk x5 h
    have e89 : M.1 89 0 (k : Int).toNat = M.1 89 0 k := by rw [Int.toNat_natCast]
    obtain ⟨g1, g2⟩ := hI.2 k (by omega)
    have i1 : InR ((k : Int) + 1) := by unfold InR; omega
    rcases g1 with g | g
    · have hno : ¬ HitS F (kf k) := fun h => by have := g2.mpr h; omega
      obtain ⟨v, y1, y2⟩ := ih (k + 1) (by omega) x5 (by
        rcases h with ⟨a, b⟩ | ⟨b, h1, h2, h3, h4⟩
        · refine .inl ⟨a, fun j hj => ?_⟩
          by_cases e : j = k
          · rw [e]; exact hno
          · exact b j (by omega)
        · refine .inr ⟨b, by omega, h2, h3, fun j hj hh => ?_⟩
          by_cases e : j = k
          · rw [e] at hh; exact absurd hh hno
          · exact h4 j (by omega) hh)
      refine ⟨v, xX12_apart_190 hS ?_, y2⟩
      rw [e89]
      exact ⟨fun c => by omega, fun _ => ⟨by omega, fun _ => ⟨i1, y1⟩, fun c => absurd g c⟩⟩
    · have hyes := g2.mp g
      rcases h with ⟨a, b⟩ | ⟨b, h1, h2, h3, h4⟩
      · obtain ⟨v, y1, y2⟩ := ih (k + 1) (by omega) (k : Int) (.inr ⟨k, by omega, rfl, hyes, fun j hj hh => by
          by_cases e : j = k
          · rw [e]; exact .inr ⟨rfl, Nat.le_refl _⟩
          · exact absurd hh (b j (by omega))⟩)
        refine ⟨v, xX12_apart_190 hS ?_, y2⟩
        rw [e89]
        exact ⟨fun c => by omega, fun _ => ⟨by omega, fun c => by omega, fun _ => ⟨fun _ => ⟨i1, y1⟩, fun c => absurd a c⟩⟩⟩
      · have kb1 := KX12_bits (l := l) (G := G) (d := d + 1) (M := M) (n := 10) (f := kf k) (by omega)
        have kb2 := KX12_bits (l := l) (G := G) (d := d + 1) (M := M) (n := 10) (f := kf b) (by omega)
        rw [← kf_b (n := 10) (by omega) (by omega)] at kb1 kb2
        obtain ⟨v, y1, y2⟩ := ih (k + 1) (by omega) (if (cnt (kf b) 10 : Int) ≤ (cnt (kf k) 10 : Int) then x5 else (k : Int)) (.inr (by
          by_cases c : (cnt (kf b) 10 : Int) ≤ (cnt (kf k) 10 : Int)
          · rw [if_pos c]
            refine ⟨b, by omega, h2, h3, fun j hj hh => ?_⟩
            by_cases e : j = k
            · rw [e]; omega
            · exact h4 j (by omega) hh
          · rw [if_neg c]
            refine ⟨k, by omega, rfl, hyes, fun j hj hh => ?_⟩
            by_cases e : j = k
            · rw [e]; exact .inr ⟨rfl, Nat.le_refl _⟩
            · have := h4 j (by omega) hh; omega))
        rw [h2] at y1 ⊢
        refine ⟨v, xX12_apart_190 hS ?_, y2⟩
        rw [e89]
        exact ⟨fun c => by omega, fun _ => ⟨by omega, fun c => by omega, fun _ => ⟨fun c => by omega, fun _ => ⟨_, M, kb1, _, M, kb2, i1, y1⟩⟩⟩⟩
theorem ap_101 {x1 x2 x3 : Int} {a : Nat} {day : Int} (hS : Sh M.2.1) (hw : WFc Q) (hd : 0 ≤ day ∧ day ≤ 999) (hx1 : x1 ≤ day) (ha : a < nPp Q) (hL : Laid Q M.1 1 (dn Q day)) : ∀ n b : Nat, n + b = a → ∀ x4 I, (∀ f k i, ¬ (f = 89 ∧ k = 0) → I f k i = M.1 f k i) → ApI (F10k Q x1 day a b) x4 I → ∃ x4' I', (∀ f k i, ¬ (f = 89 ∧ k = 0) → I' f k i = M.1 f k i) ∧ ApI (F10k Q x1 day (a + 1) 0) x4' I' ∧ ∀ res M', Ex l G (d + 2) mX12_apart 87 [some (vR (some (3, 0))), some (vI x1), some (vI x2), some (vI x3), some (vI x4'), some (vI day), some (vI ((a : Int) + 1)), none, none] [] (I', M.2.1, M.2.2) res M' → Ex l G (d + 2) mX12_apart 101 [some (vR (some (3, 0))), some (vI x1), some (vI x2), some (vI x3), some (vI x4), some (vI day), some (vI (a : Int)), some (vI (b : Int)), none] [] (I, M.2.1, M.2.2) res M' := by
  have h12 := nPp_le hw
  intro n
  induction n with
  | zero =>
    intro b hb x4 I hf hI
    refine ⟨x4, I, hf, hI.iff fun u => ⟨fun ⟨d', a', b', p1, p2, p3, p4, p5⟩ => ⟨d', a', b', p1, p2, p3, by omega, p5⟩, fun ⟨d', a', b', p1, p2, p3, p4, p5⟩ => ⟨d', a', b', p1, p2, p3, by omega, p5⟩⟩, fun res M' hx => xX12_apart_101 hS ⟨fun _ => ⟨by unfold InR; omega, hx⟩, fun c => absurd (by omega) c⟩⟩
  | succ n ih =>
    intro b hb x4 I hf hI
    have ea : I 71 0 (12 + (a : Int)).toNat = bI 10 (fun m => mkF Q (dn Q day) a m) := by
      rw [hf _ _ _ (by omega), show (12 + (a : Int)).toNat = 12 * 1 + a by omega]
      exact hL.1 a (by omega)
    have eb : I 71 0 (12 + (b : Int)).toNat = bI 10 (fun m => mkF Q (dn Q day) b m) := by
      rw [hf _ _ _ (by omega), show (12 + (b : Int)).toNat = 12 * 1 + b by omega]
      exact hL.1 b (by omega)
    have h10 : ∀ k, 10 ≤ k → k < 16 → xr Q day a b k = false := fun k hk _ => xr_10 hw hk
    have ex : aXor (I 71 0 (12 + (a : Int)).toNat) (I 71 0 (12 + (b : Int)).toNat) = bI 16 (xr Q day a b) := by
      rw [ea, eb, bI_xor (by omega)]
      exact b10_16 h10
    have kb := KX12_bits (l := l) (G := G) (d := d + 1) (M := (I, M.2.1, M.2.2)) (n := 16) (f := xr Q day a b) (by omega)
    obtain ⟨I2, k1, k2, k3⟩ := KX12_parts (l := l) (G := G) (d := d + 1) (M := (I, M.2.1, M.2.2)) (u := xr Q day a b) hS h10 hI
    dsimp only at k2
    obtain ⟨x4', I', y1, y2, y3⟩ := ih (b + 1) (by omega) _ I2 (fun f k i hn => (k2 f k i hn).trans (hf f k i hn)) (k3.iff fun u => ⟨fun h => by
      rcases h with ⟨d', a', b', p1, p2, p3, p4, p5⟩ | h
      · exact ⟨d', a', b', p1, p2, p3, by omega, p5⟩
      · exact ⟨day, a, b, hx1, by omega, ha, by omega, h⟩, fun ⟨d', a', b', p1, p2, p3, p4, p5⟩ => by
      by_cases c : d' = day ∧ a' = a ∧ b' = b
      · exact .inr (by rw [p5, c.1, c.2.1, c.2.2])
      · exact .inl ⟨d', a', b', p1, p2, p3, by omega, p5⟩⟩)
    refine ⟨x4', I', y1, y2, fun res M' hx => xX12_apart_101 hS ?_⟩
    dsimp only
    rw [ex]
    exact ⟨fun c => by omega, fun _ => ⟨⟨by unfold InR; omega, by omega, by unfold InR; omega, by omega⟩, _, _, kb, _, k1, by unfold InR; omega, y3 res M' hx⟩⟩
theorem ap_87 {x1 x2 x3 day : Int} (hS : Sh M.2.1) (hw : WFc Q) (hd : 0 ≤ day ∧ day ≤ 999) (hx1 : x1 ≤ day) (hH : HoldsC Q M.1) (hL : Laid Q M.1 1 (dn Q day)) : ∀ n a : Nat, n + a = nPp Q → ∀ x4 I, (∀ f k i, ¬ (f = 89 ∧ k = 0) → I f k i = M.1 f k i) → ApI (F10k Q x1 day a 0) x4 I → ∃ x4' I', (∀ f k i, ¬ (f = 89 ∧ k = 0) → I' f k i = M.1 f k i) ∧ ApI (F10k Q x1 (day + 1) 0 0) x4' I' ∧ ∀ res M', Ex l G (d + 2) mX12_apart 71 [some (vR (some (3, 0))), some (vI x1), some (vI x2), some (vI x3), some (vI x4'), some (vI (day + 1)), none, none, none] [] (I', M.2.1, M.2.2) res M' → Ex l G (d + 2) mX12_apart 87 [some (vR (some (3, 0))), some (vI x1), some (vI x2), some (vI x3), some (vI x4), some (vI day), some (vI (a : Int)), none, none] [] (I, M.2.1, M.2.2) res M' := by
  have h12 := nPp_le hw
  intro n
  induction n with
  | zero =>
    intro a ha x4 I hf hI
    have e1 : I 48 0 0 = (nPp Q : Int) := by rw [hf _ _ _ (by omega)]; exact (hH.1 48 0 (by omega)).trans (nPp_eq hw)
    refine ⟨x4, I, hf, hI.iff fun u => ⟨fun ⟨d', a', b', p1, p2, p3, p4, p5⟩ => ⟨d', a', b', p1, p2, p3, by omega, p5⟩, fun ⟨d', a', b', p1, p2, p3, p4, p5⟩ => ⟨d', a', b', p1, p2, p3, by omega, p5⟩⟩, fun res M' hx => xX12_apart_87 hS ⟨fun _ => ⟨by unfold InR; omega, hx⟩, fun c => absurd (show I 48 0 0 ≤ (a : Int) by omega) c⟩⟩
  | succ n ih =>
    intro a ha x4 I hf hI
    have e1 : I 48 0 0 = (nPp Q : Int) := by rw [hf _ _ _ (by omega)]; exact (hH.1 48 0 (by omega)).trans (nPp_eq hw)
    obtain ⟨x4', I2, k1, k2, k3⟩ := ap_101 (l := l) (G := G) (d := d) (M := M) (x1 := x1) (x2 := x2) (x3 := x3) (a := a) (day := day) hS hw hd hx1 (by omega) hL a 0 (by omega) x4 I hf hI
    obtain ⟨x5', I', y1, y2, y3⟩ := ih (a + 1) (by omega) x4' I2 k1 k2
    exact ⟨x5', I', y1, y2, fun res M' hx => xX12_apart_87 hS ⟨fun c => absurd (show I 48 0 0 ≤ (a : Int) from c) (by omega), fun _ => k3 res M' (y3 res M' hx)⟩⟩
theorem KX12_apart {fr to what : Int} (hS : Sh M.2.1) (hq : WFQ Q) (hH : HoldsM Q M.1) : ∃ I', Cl l G (d + 4) mX12_apart [vR (some (3, 0)), vI fr, vI to, vI what] M (some (vI (apV1 Q fr to what))) (I', M.2.1, M.2.2) ∧ frM M.1 I' := by
  have hw := hq.1
  by_cases g : apG fr to what
  · have gg := g
    obtain ⟨g1, g2, g3, g4⟩ := gg
    have f10 : ∀ u, F10 Q fr to u → ∀ i, 10 ≤ i → i < 16 → u i = false := fun u ⟨d', a', b', _, _, _, e⟩ i hi _ => by rw [e]; exact xr_10 hw hi
    have key : ∀ (n : Nat) (day : Int), to + 1 - day = (n : Int) → fr ≤ day → ∀ x4 I, frM M.1 I → ApI (F10k Q fr day 0 0) x4 I → ∃ v I', Ex l G (d + 4) mX12_apart 71 [some (vR (some (3, 0))), some (vI fr), some (vI to), some (vI what), some (vI x4), some (vI day), none, none, none] [] (I, M.2.1, M.2.2) (some (vI v)) (I', M.2.1, M.2.2) ∧ frM M.1 I' ∧ ApP Q fr to what v := by
      intro n
      induction n with
      | zero =>
        intro day hday hfd x4 I hf hI
        have hIF : ApI (F10 Q fr to) x4 I := hI.iff fun u => ⟨fun ⟨d', a', b', p1, p2, p3, p4, p5⟩ => ⟨d', a', b', ⟨p1, by omega⟩, p2, p3, p5⟩, fun ⟨d', a', b', p1, p2, p3, p5⟩ => ⟨d', a', b', p1.1, p2, p3, by omega, p5⟩⟩
        by_cases c : what = 1
        · obtain ⟨f, e1, e2⟩ := hIF.1
          exact ⟨x4, I, xX12_apart_71 ⟨fun _ => ⟨fun n => absurd c n, fun _ => ⟨rfl, rfl⟩⟩, fun n => absurd (by omega) n⟩, hf, fun _ => ⟨fun _ => ⟨f, e1, e2⟩, fun n => absurd c n⟩, fun n => absurd g n⟩
        · obtain ⟨v, y1, y2⟩ := ap_190 (l := l) (G := G) (d := d + 2) (M := (I, M.2.1, M.2.2)) (F := F10 Q fr to) (x1 := fr) (x2 := to) (x3 := what) (x4 := x4) (x40 := x4) hS f10 hIF 1024 0 rfl (-2) (.inl ⟨rfl, fun j hj => by omega⟩)
          refine ⟨v, I, xX12_apart_71 ⟨fun _ => ⟨fun _ => y1, fun n => absurd n c⟩, fun n => absurd (by omega) n⟩, hf, fun _ => ⟨fun n => absurd n c, fun _ => ?_⟩, fun n => absurd g n⟩
          rcases y2 with y2 | ⟨y2, y3⟩
          · exact .inl y2
          · refine .inr ⟨?_, y3⟩
            by_cases ex : ∃ u, F10 Q fr to u ∧ ∀ k, k < 16 → u k = false
            · exact ex
            · refine absurd (fun u hu => ?_) (y2 (fun _ => true))
              by_cases ex2 : ∃ k, k < 16 ∧ u k = true
              · obtain ⟨k, hk, e⟩ := ex2
                exact ⟨k, hk, e, rfl⟩
              · refine absurd ⟨u, hu, fun k hk => ?_⟩ ex
                cases e : u k with
                | false => rfl
                | true => exact absurd ⟨k, hk, e⟩ ex2
      | succ n ih =>
        intro day hday hfd x4 I hf hI
        obtain ⟨I1, c1, s1, L1⟩ := KX12_lays (l := l) (G := G) (d := d + 1) (M := (I, M.2.1, M.2.2)) (row := 1) (x2 := day) hS hw (hH.fr hf).1 (by omega)
        have hI1 : ApI (F10k Q fr day 0 0) x4 I1 := ⟨hI.1, fun k hk => by rw [s1 _ _ _ (by omega)]; exact hI.2 k hk⟩
        obtain ⟨x4', I2, k1, k2, k3⟩ := ap_87 (l := l) (G := G) (d := d + 2) (M := (I1, M.2.1, M.2.2)) (x1 := fr) (x2 := to) (x3 := what) (day := day) hS hw (by omega) hfd ((hH.fr hf).fr (frM.ll s1)).1 L1 (nPp Q) 0 (by omega) x4 I1 (fun _ _ _ _ => rfl) hI1
        dsimp only at k1
        have f2 : frM I1 I2 := fun f k i hn => k1 f k i (fun e => hn ⟨by unfold scr; omega, e.2⟩)
        obtain ⟨v, I', y1, y2⟩ := ih (day + 1) (by omega) (by omega) x4' I2 ((hf.tr (frM.ll s1)).tr f2) k2
        exact ⟨v, I', xX12_apart_71 ⟨fun c => by omega, fun _ => ⟨_, c1, k3 _ _ y1⟩⟩, y2⟩
    have set1 : ∀ n k : Nat, n + k = 1024 → ∀ I, (∀ f k i, ¬ (f = 89 ∧ k = 0) → I f k i = M.1 f k i) → (∀ j, j < k → I 89 0 j = 1) → ∃ I', (∀ f k i, ¬ (f = 89 ∧ k = 0) → I' f k i = M.1 f k i) ∧ (∀ j, j < 1024 → I' 89 0 j = 1) ∧ ∀ res M', Ex l G (d + 4) mX12_apart 71 [some (vR (some (3, 0))), some (vI fr), some (vI to), some (vI what), some (vI 0), some (vI fr), none, none, none] [] (I', M.2.1, M.2.2) res M' → Ex l G (d + 4) mX12_apart 46 [some (vR (some (3, 0))), some (vI fr), some (vI to), some (vI what), some (vI 0), some (vI (k : Int)), none, none, none] [] (I, M.2.1, M.2.2) res M' := by
      intro n
      induction n with
      | zero =>
        intro k hk I hf h1
        exact ⟨I, hf, fun j hj => h1 j (by omega), fun res M' hx => xX12_apart_46 hS ⟨fun _ => hx, fun c => absurd (by omega) c⟩⟩
      | succ n ih =>
        intro k hk I hf h1
        obtain ⟨I', y1, y2, y3⟩ := ih (k + 1) (by omega) (upI I 89 0 k 1) (fun f k' i hn => by rw [upI_o hn]; exact hf f k' i hn) (fun j hj => by
          by_cases e : j = k
          · rw [e, upI_s]
          · rw [upI_i e]; exact h1 j (by omega))
        refine ⟨I', y1, y2, fun res M' hx => xX12_apart_46 hS ⟨fun c => by omega, fun _ => ⟨⟨by omega, by unfold InR; omega⟩, ?_⟩⟩⟩
        rw [Int.toNat_natCast]
        exact y3 res M' hx
    obtain ⟨I0, z1, z2, z3⟩ := set1 1024 0 rfl M.1 (fun _ _ _ _ => rfl) (fun j hj => by omega)
    have none0 : ∀ u, ¬ F10k Q fr fr 0 0 u := fun u ⟨d', a', b', p1, p2, p3, p4, p5⟩ => by omega
    obtain ⟨v, I', y1, y2, y3⟩ := key (to + 1 - fr).toNat fr (by omega) (by omega) 0 I0 (fun f k i hn => z1 f k i (fun e => hn ⟨by unfold scr; omega, e.2⟩)) ⟨⟨fun _ => false, bI_false.symm, fun k _ => ⟨fun h => (by cases h), fun ⟨u, hu, _⟩ => absurd hu (none0 u)⟩⟩, fun k hk => ⟨.inr (z2 k hk), fun _ u hu => absurd hu (none0 u), fun _ => z2 k hk⟩⟩
    rw [apV1_eq y3]
    exact ⟨I', xX12_apart_0 ⟨fun a => absurd g1 a, fun _ => ⟨fun a => absurd g2 a, fun _ => ⟨by unfold InR; omega, fun a => absurd (by omega) a, fun _ => ⟨fun _ => z3 _ _ y1, fun a => absurd g4 a⟩⟩⟩⟩, y2⟩
  · rw [apV1_eq (v := -1) ⟨fun n => absurd n g, fun _ => rfl⟩]
    exact ⟨M.1, xX12_apart_0 ⟨fun _ => ⟨rfl, rfl⟩, fun g1 => ⟨fun _ => ⟨rfl, rfl⟩, fun g2 => ⟨by unfold InR; omega, fun _ => ⟨rfl, rfl⟩, fun g3 => ⟨fun g4 => absurd ⟨g1, g2, by omega, g4⟩ g, fun _ => ⟨rfl, rfl⟩⟩⟩⟩⟩, frM.rf⟩
end PA
