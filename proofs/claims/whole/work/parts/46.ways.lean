/-! the class measures its ways -/
set_option maxRecDepth 4000 in
theorem xX10_nextOf_0 {l : Launch} {G : Gt} {d : Nat} {M M' : Mem} {r : Option Vl} {x1 : Int} {x2 : Int} {k3 : Nat} (hS : Sh M.2.1) (h : 
    (InR (x1 * 8) ∧ InR ((x1 * 8) + x2) ∧ (0 ≤ ((x1 * 8) + x2) ∧ ((x1 * 8) + x2) < 64)) ∧ ((x1 = x2 → r = some (vI (-1)) ∧ M' = M) ∧ (¬ (x1 = x2) → ((M.1 45 0 ((x1 * 8) + x2).toNat) < 1000 → Ex l G d mX10_nextOf 31 [some (vR (some (7, 0))), some (vI x1), some (vI x2), some (vR (some (34, k3))), some (vI (M.1 45 0 ((x1 * 8) + x2).toNat)), some (vI 0), none] [] M r M') ∧ (¬ ((M.1 45 0 ((x1 * 8) + x2).toNat) < 1000) → r = some (vI (-1)) ∧ M' = M)))) : Cl l G d mX10_nextOf [vR (some (7, 0)), vI x1, vI x2, vR (some (34, k3))] M r M' := by
  show Ex l G d mX10_nextOf 0 [some (vR (some (7, 0))), some (vI x1), some (vI x2), some (vR (some (34, k3))), none, none, none] [] M r M'
  obtain ⟨⟨o_1, o_2, o_3⟩, h⟩ := h
  refine r_aload_n 1 dX10_nextOf_0 rfl rfl ?_
  refine g_R 4 dX10_nextOf_1 rfl rfl rfl fr_10_9 (sh_10_0 hS) ?_
  refine r_iload_n 5 dX10_nextOf_4 rfl rfl ?_
  refine r_bipush 7 dX10_nextOf_5 rfl rfl ?_
  refine r_imul 8 dX10_nextOf_7 rfl o_1 ?_
  refine r_iload_n 9 dX10_nextOf_8 rfl rfl ?_
  refine r_iadd 10 dX10_nextOf_9 rfl o_2 ?_
  refine a_I 64 11 dX10_nextOf_10 rfl rfl rfl rfl o_3 rfl ?_
  refine r_istore (ls' := [some (vR (some (7, 0))), some (vI x1), some (vI x2), some (vR (some (34, k3))), some (vI (M.1 45 0 ((x1 * 8) + x2).toNat)), none, none]) 13 dX10_nextOf_11 rfl rfl rfl rfl ?_
  refine r_iload_n 14 dX10_nextOf_13 rfl rfl ?_
  refine r_iload_n 15 dX10_nextOf_14 rfl rfl ?_
  refine r_icmp_eq 18 26 dX10_nextOf_15 rfl rfl (fun c => ?_) (fun c => ?_)
  · have h := h.1 (c)
    refine r_iconst 27 dX10_nextOf_26 rfl (InR_of rfl) ?_
    exact r_iret dX10_nextOf_27 rfl (.inl rfl) h.1 h.2
  · have h := h.2 (c)
    refine r_iload 20 dX10_nextOf_18 rfl rfl ?_
    refine r_sipush 23 dX10_nextOf_20 rfl rfl ?_
    refine r_icmp_lt 26 28 dX10_nextOf_23 rfl rfl (fun c => ?_) (fun c => ?_)
    · have h := h.1 (c)
      refine r_iconst 29 dX10_nextOf_28 rfl (InR_of rfl) ?_
      refine r_istore (ls' := [some (vR (some (7, 0))), some (vI x1), some (vI x2), some (vR (some (34, k3))), some (vI (M.1 45 0 ((x1 * 8) + x2).toNat)), some (vI 0), none]) 31 dX10_nextOf_29 rfl rfl rfl rfl ?_
      exact h
    · have h := h.2 (c)
      refine r_iconst 27 dX10_nextOf_26 rfl (InR_of rfl) ?_
      exact r_iret dX10_nextOf_27 rfl (.inl rfl) h.1 h.2
set_option maxRecDepth 4000 in
theorem xX10_nextOf_31 {l : Launch} {G : Gt} {d : Nat} {M M' : Mem} {r : Option Vl} {x1 : Int} {x2 : Int} {k3 : Nat} {x4 : Int} {x5 : Int} (hS : Sh M.2.1) (h : 
    (8 ≤ x5 → r = some (vI (-1)) ∧ M' = M) ∧ (¬ (8 ≤ x5) → (InR (x1 * 8) ∧ InR ((x1 * 8) + x5) ∧ (0 ≤ ((x1 * 8) + x5) ∧ ((x1 * 8) + x5) < 64)) ∧ (((M.1 34 k3 ((x1 * 8) + x5).toNat) = 0 → (InR (x5 + 1)) ∧ Ex l G d mX10_nextOf 31 [some (vR (some (7, 0))), some (vI x1), some (vI x2), some (vR (some (34, k3))), some (vI x4), some (vI (x5 + 1)), none] [] M r M') ∧ (¬ ((M.1 34 k3 ((x1 * 8) + x5).toNat) = 0) → (InR (x5 * 8) ∧ InR ((x5 * 8) + x2) ∧ (0 ≤ ((x5 * 8) + x2) ∧ ((x5 * 8) + x2) < 64) ∧ InR ((M.1 34 k3 ((x1 * 8) + x5).toNat) + (M.1 45 0 ((x5 * 8) + x2).toNat))) ∧ ((¬ (((M.1 34 k3 ((x1 * 8) + x5).toNat) + (M.1 45 0 ((x5 * 8) + x2).toNat)) = x4) → (InR (x5 + 1)) ∧ Ex l G d mX10_nextOf 31 [some (vR (some (7, 0))), some (vI x1), some (vI x2), some (vR (some (34, k3))), some (vI x4), some (vI (x5 + 1)), none] [] M r M') ∧ (((M.1 34 k3 ((x1 * 8) + x5).toNat) + (M.1 45 0 ((x5 * 8) + x2).toNat)) = x4 → r = some (vI x5) ∧ M' = M)))))) : Ex l G d mX10_nextOf 31 [some (vR (some (7, 0))), some (vI x1), some (vI x2), some (vR (some (34, k3))), some (vI x4), some (vI x5), none] [] M r M' := by
  refine r_iload 33 dX10_nextOf_31 rfl rfl ?_
  refine r_bipush 35 dX10_nextOf_33 rfl rfl ?_
  refine r_icmp_ge 38 83 dX10_nextOf_35 rfl rfl (fun c => ?_) (fun c => ?_)
  · have h := h.1 (c)
    refine r_iconst 84 dX10_nextOf_83 rfl (InR_of rfl) ?_
    exact r_iret dX10_nextOf_84 rfl (.inl rfl) h.1 h.2
  · have h := h.2 (c)
    obtain ⟨⟨o_1, o_2, o_3⟩, h⟩ := h
    refine r_aload_n 39 dX10_nextOf_38 rfl rfl ?_
    refine r_iload_n 40 dX10_nextOf_39 rfl rfl ?_
    refine r_bipush 42 dX10_nextOf_40 rfl rfl ?_
    refine r_imul 43 dX10_nextOf_42 rfl o_1 ?_
    refine r_iload 45 dX10_nextOf_43 rfl rfl ?_
    refine r_iadd 46 dX10_nextOf_45 rfl o_2 ?_
    refine a_I 64 47 dX10_nextOf_46 rfl rfl rfl rfl o_3 rfl ?_
    refine r_istore (ls' := [some (vR (some (7, 0))), some (vI x1), some (vI x2), some (vR (some (34, k3))), some (vI x4), some (vI x5), some (vI (M.1 34 k3 ((x1 * 8) + x5).toNat))]) 49 dX10_nextOf_47 rfl rfl rfl rfl ?_
    refine r_iload 51 dX10_nextOf_49 rfl rfl ?_
    refine r_if_eq 54 77 dX10_nextOf_51 rfl rfl (fun c => ?_) (fun c => ?_)
    · have h := h.1 (c)
      obtain ⟨o_4, h⟩ := h
      refine r_iinc (ls' := [some (vR (some (7, 0))), some (vI x1), some (vI x2), some (vR (some (34, k3))), some (vI x4), some (vI (x5 + 1)), some (vI (M.1 34 k3 ((x1 * 8) + x5).toNat))]) 80 dX10_nextOf_77 rfl rfl rfl rfl o_4 rfl ?_
      refine r_goto 31 dX10_nextOf_80 rfl ?_
      exact Ex.weak h ⟨rfl, rfl, rfl, rfl, rfl, rfl, trivial⟩
    · have h := h.2 (c)
      obtain ⟨⟨o_5, o_6, o_7, o_8⟩, h⟩ := h
      refine r_iload 56 dX10_nextOf_54 rfl rfl ?_
      refine r_aload_n 57 dX10_nextOf_56 rfl rfl ?_
      refine g_R 60 dX10_nextOf_57 rfl rfl rfl fr_10_9 (sh_10_0 hS) ?_
      refine r_iload 62 dX10_nextOf_60 rfl rfl ?_
      refine r_bipush 64 dX10_nextOf_62 rfl rfl ?_
      refine r_imul 65 dX10_nextOf_64 rfl o_5 ?_
      refine r_iload_n 66 dX10_nextOf_65 rfl rfl ?_
      refine r_iadd 67 dX10_nextOf_66 rfl o_6 ?_
      refine a_I 64 68 dX10_nextOf_67 rfl rfl rfl rfl o_7 rfl ?_
      refine r_iadd 69 dX10_nextOf_68 rfl o_8 ?_
      refine r_iload 71 dX10_nextOf_69 rfl rfl ?_
      refine r_icmp_ne 74 77 dX10_nextOf_71 rfl rfl (fun c => ?_) (fun c => ?_)
      · have h := h.1 (c)
        obtain ⟨o_9, h⟩ := h
        refine r_iinc (ls' := [some (vR (some (7, 0))), some (vI x1), some (vI x2), some (vR (some (34, k3))), some (vI x4), some (vI (x5 + 1)), some (vI (M.1 34 k3 ((x1 * 8) + x5).toNat))]) 80 dX10_nextOf_77 rfl rfl rfl rfl o_9 rfl ?_
        refine r_goto 31 dX10_nextOf_80 rfl ?_
        exact Ex.weak h ⟨rfl, rfl, rfl, rfl, rfl, rfl, trivial⟩
      · have h := h.2 (Decidable.not_not.mp c)
        refine r_iload 76 dX10_nextOf_74 rfl rfl ?_
        exact r_iret dX10_nextOf_76 rfl (.inl rfl) h.1 h.2

set_option maxRecDepth 4000 in
theorem xX10_measure_0 {l : Launch} {G : Gt} {d : Nat} {M M' : Mem} {r : Option Vl} {k1 : Nat} (h : 
    Ex l G (d + 1) mX10_measure 2 [some (vR (some (7, 0))), some (vR (some (34, k1))), some (vI 0), none, none, none, none] [] M r M') : Cl l G (d + 1) mX10_measure [vR (some (7, 0)), vR (some (34, k1))] M r M' := by
  show Ex l G (d + 1) mX10_measure 0 [some (vR (some (7, 0))), some (vR (some (34, k1))), none, none, none, none, none] [] M r M'
  refine r_iconst 1 dX10_measure_0 rfl (InR_of rfl) ?_
  refine r_istore_n (ls' := [some (vR (some (7, 0))), some (vR (some (34, k1))), some (vI 0), none, none, none, none]) 2 dX10_measure_1 rfl rfl rfl rfl ?_
  exact h
set_option maxRecDepth 4000 in
theorem xX10_measure_2 {l : Launch} {G : Gt} {d : Nat} {M M' : Mem} {r : Option Vl} {k1 : Nat} {x2 : Int} (hS : Sh M.2.1) (h : 
    (64 ≤ x2 → Ex l G (d + 1) mX10_measure 37 [some (vR (some (7, 0))), some (vR (some (34, k1))), some (vI 0), none, none, none, none] [] M r M') ∧ (¬ (64 ≤ x2) → ((0 ≤ x2 ∧ x2 < 64)) ∧ (((¬ ((M.1 34 k1 x2.toNat) = 0) → ((0 ≤ x2 ∧ x2 < 64)))) ∧ ((0 ≤ x2 ∧ x2 < 64) ∧ InR (x2 + 1)) ∧ Ex l G (d + 1) mX10_measure 2 [some (vR (some (7, 0))), some (vR (some (34, k1))), some (vI (x2 + 1)), none, none, none, none] [] ((upI M.1 45 0 x2.toNat (if (M.1 34 k1 x2.toNat) = 0 then 1000 else (M.1 34 k1 x2.toNat) : Int)), M.2.1, M.2.2) r M'))) : Ex l G (d + 1) mX10_measure 2 [some (vR (some (7, 0))), some (vR (some (34, k1))), some (vI x2), none, none, none, none] [] M r M' := by
  refine r_iload_n 3 dX10_measure_2 rfl rfl ?_
  refine r_bipush 5 dX10_measure_3 rfl rfl ?_
  refine r_icmp_ge 8 35 dX10_measure_5 rfl rfl (fun c => ?_) (fun c => ?_)
  · have h := h.1 (c)
    refine r_iconst 36 dX10_measure_35 rfl (InR_of rfl) ?_
    refine r_istore_n (ls' := [some (vR (some (7, 0))), some (vR (some (34, k1))), some (vI 0), none, none, none, none]) 37 dX10_measure_36 rfl rfl rfl rfl ?_
    exact h
  · have h := h.2 (c)
    obtain ⟨o_1, h⟩ := h
    refine r_aload_n 9 dX10_measure_8 rfl rfl ?_
    refine g_R 12 dX10_measure_9 rfl rfl rfl fr_10_9 (sh_10_0 hS) ?_
    refine r_iload_n 13 dX10_measure_12 rfl rfl ?_
    refine r_aload_n 14 dX10_measure_13 rfl rfl ?_
    refine r_iload_n 15 dX10_measure_14 rfl rfl ?_
    refine a_I 64 16 dX10_measure_15 rfl rfl rfl rfl o_1 rfl ?_
    obtain ⟨h0, h⟩ := h
    have hJ_2 : Ex l G (d + 1) mX10_measure 28 [some (vR (some (7, 0))), some (vR (some (34, k1))), some (vI x2), none, none, none, none] [vI (if (M.1 34 k1 x2.toNat) = 0 then 1000 else (M.1 34 k1 x2.toNat) : Int), vI x2, vR (some (45, 0))] M r M' := by
      obtain ⟨⟨o_5, o_6⟩, h⟩ := h
      refine s_I 64 29 dX10_measure_28 rfl rfl (by decide) rfl rfl o_5 ?_
      refine r_iinc (ls' := [some (vR (some (7, 0))), some (vR (some (34, k1))), some (vI (x2 + 1)), none, none, none, none]) 32 dX10_measure_29 rfl rfl rfl rfl o_6 rfl ?_
      refine r_goto 2 dX10_measure_32 rfl ?_
      exact h
    have h := h0
    refine r_if_ne 19 25 dX10_measure_16 rfl rfl (fun c => ?_) (fun c => ?_)
    · have c_3 := c
      have h := h c_3
      have o_4 := h
      refine r_aload_n 26 dX10_measure_25 rfl rfl ?_
      refine r_iload_n 27 dX10_measure_26 rfl rfl ?_
      refine a_I 64 28 dX10_measure_27 rfl rfl rfl rfl o_4 rfl ?_
      exact (Ex.at hJ_2 rfl (show [vI (M.1 34 k1 x2.toNat), vI x2, vR (some (45, 0))] = [vI (if (M.1 34 k1 x2.toNat) = 0 then 1000 else (M.1 34 k1 x2.toNat) : Int), vI x2, vR (some (45, 0))] by simp only [if_neg c_3]) rfl)
    · have c_3 := Decidable.not_not.mp c
      refine r_sipush 22 dX10_measure_19 rfl rfl ?_
      refine r_goto 28 dX10_measure_22 rfl ?_
      exact (Ex.at hJ_2 rfl (show [vI 1000, vI x2, vR (some (45, 0))] = [vI (if (M.1 34 k1 x2.toNat) = 0 then 1000 else (M.1 34 k1 x2.toNat) : Int), vI x2, vR (some (45, 0))] by simp only [if_pos c_3]) rfl)
set_option maxRecDepth 4000 in
theorem xX10_measure_37 {l : Launch} {G : Gt} {d : Nat} {M M' : Mem} {r : Option Vl} {k1 : Nat} {x2 : Int} (hS : Sh M.2.1) (h : 
    (8 ≤ x2 → Ex l G (d + 1) mX10_measure 63 [some (vR (some (7, 0))), some (vR (some (34, k1))), some (vI 0), none, none, none, none] [] M r M') ∧ (¬ (8 ≤ x2) → (InR (x2 * 8) ∧ InR ((x2 * 8) + x2) ∧ (0 ≤ ((x2 * 8) + x2) ∧ ((x2 * 8) + x2) < 64) ∧ InR (x2 + 1)) ∧ Ex l G (d + 1) mX10_measure 37 [some (vR (some (7, 0))), some (vR (some (34, k1))), some (vI (x2 + 1)), none, none, none, none] [] ((upI M.1 45 0 ((x2 * 8) + x2).toNat 0), M.2.1, M.2.2) r M')) : Ex l G (d + 1) mX10_measure 37 [some (vR (some (7, 0))), some (vR (some (34, k1))), some (vI x2), none, none, none, none] [] M r M' := by
  refine r_iload_n 38 dX10_measure_37 rfl rfl ?_
  refine r_bipush 40 dX10_measure_38 rfl rfl ?_
  refine r_icmp_ge 43 61 dX10_measure_40 rfl rfl (fun c => ?_) (fun c => ?_)
  · have h := h.1 (c)
    refine r_iconst 62 dX10_measure_61 rfl (InR_of rfl) ?_
    refine r_istore_n (ls' := [some (vR (some (7, 0))), some (vR (some (34, k1))), some (vI 0), none, none, none, none]) 63 dX10_measure_62 rfl rfl rfl rfl ?_
    exact h
  · have h := h.2 (c)
    obtain ⟨⟨o_1, o_2, o_3, o_4⟩, h⟩ := h
    refine r_aload_n 44 dX10_measure_43 rfl rfl ?_
    refine g_R 47 dX10_measure_44 rfl rfl rfl fr_10_9 (sh_10_0 hS) ?_
    refine r_iload_n 48 dX10_measure_47 rfl rfl ?_
    refine r_bipush 50 dX10_measure_48 rfl rfl ?_
    refine r_imul 51 dX10_measure_50 rfl o_1 ?_
    refine r_iload_n 52 dX10_measure_51 rfl rfl ?_
    refine r_iadd 53 dX10_measure_52 rfl o_2 ?_
    refine r_iconst 54 dX10_measure_53 rfl (InR_of rfl) ?_
    refine s_I 64 55 dX10_measure_54 rfl rfl (by decide) rfl rfl o_3 ?_
    refine r_iinc (ls' := [some (vR (some (7, 0))), some (vR (some (34, k1))), some (vI (x2 + 1)), none, none, none, none]) 58 dX10_measure_55 rfl rfl rfl rfl o_4 rfl ?_
    refine r_goto 37 dX10_measure_58 rfl ?_
    exact h
set_option maxRecDepth 4000 in
theorem xX10_measure_63 {l : Launch} {G : Gt} {d : Nat} {M M' : Mem} {r : Option Vl} {k1 : Nat} {x2 : Int} (h : 
    (8 ≤ x2 → Ex l G (d + 1) mX10_measure 161 [some (vR (some (7, 0))), some (vR (some (34, k1))), some (vI 0), none, none, none, none] [] M r M') ∧ (¬ (8 ≤ x2) → Ex l G (d + 1) mX10_measure 71 [some (vR (some (7, 0))), some (vR (some (34, k1))), some (vI x2), some (vI 0), none, none, none] [] M r M')) : Ex l G (d + 1) mX10_measure 63 [some (vR (some (7, 0))), some (vR (some (34, k1))), some (vI x2), none, none, none, none] [] M r M' := by
  refine r_iload_n 64 dX10_measure_63 rfl rfl ?_
  refine r_bipush 66 dX10_measure_64 rfl rfl ?_
  refine r_icmp_ge 69 159 dX10_measure_66 rfl rfl (fun c => ?_) (fun c => ?_)
  · have h := h.1 (c)
    refine r_iconst 160 dX10_measure_159 rfl (InR_of rfl) ?_
    refine r_istore_n (ls' := [some (vR (some (7, 0))), some (vR (some (34, k1))), some (vI 0), none, none, none, none]) 161 dX10_measure_160 rfl rfl rfl rfl ?_
    exact h
  · have h := h.2 (c)
    refine r_iconst 70 dX10_measure_69 rfl (InR_of rfl) ?_
    refine r_istore_n (ls' := [some (vR (some (7, 0))), some (vR (some (34, k1))), some (vI x2), some (vI 0), none, none, none]) 71 dX10_measure_70 rfl rfl rfl rfl ?_
    exact h
set_option maxRecDepth 4000 in
theorem xX10_measure_71 {l : Launch} {G : Gt} {d : Nat} {M M' : Mem} {r : Option Vl} {k1 : Nat} {x2 : Int} {x3 : Int} (h : 
    (8 ≤ x3 → (InR (x2 + 1)) ∧ Ex l G (d + 1) mX10_measure 63 [some (vR (some (7, 0))), some (vR (some (34, k1))), some (vI (x2 + 1)), none, none, none, none] [] M r M') ∧ (¬ (8 ≤ x3) → Ex l G (d + 1) mX10_measure 80 [some (vR (some (7, 0))), some (vR (some (34, k1))), some (vI x2), some (vI x3), some (vI 0), none, none] [] M r M')) : Ex l G (d + 1) mX10_measure 71 [some (vR (some (7, 0))), some (vR (some (34, k1))), some (vI x2), some (vI x3), none, none, none] [] M r M' := by
  refine r_iload_n 72 dX10_measure_71 rfl rfl ?_
  refine r_bipush 74 dX10_measure_72 rfl rfl ?_
  refine r_icmp_ge 77 153 dX10_measure_74 rfl rfl (fun c => ?_) (fun c => ?_)
  · have h := h.1 (c)
    obtain ⟨o_1, h⟩ := h
    refine r_iinc (ls' := [some (vR (some (7, 0))), some (vR (some (34, k1))), some (vI (x2 + 1)), some (vI x3), none, none, none]) 156 dX10_measure_153 rfl rfl rfl rfl o_1 rfl ?_
    refine r_goto 63 dX10_measure_156 rfl ?_
    exact Ex.weak h ⟨rfl, rfl, rfl, trivial⟩
  · have h := h.2 (c)
    refine r_iconst 78 dX10_measure_77 rfl (InR_of rfl) ?_
    refine r_istore (ls' := [some (vR (some (7, 0))), some (vR (some (34, k1))), some (vI x2), some (vI x3), some (vI 0), none, none]) 80 dX10_measure_78 rfl rfl rfl rfl ?_
    exact h
set_option maxRecDepth 4000 in
theorem xX10_measure_80 {l : Launch} {G : Gt} {d : Nat} {M M' : Mem} {r : Option Vl} {k1 : Nat} {x2 : Int} {x3 : Int} {x4 : Int} (hS : Sh M.2.1) (h : 
    (8 ≤ x4 → (InR (x3 + 1)) ∧ Ex l G (d + 1) mX10_measure 71 [some (vR (some (7, 0))), some (vR (some (34, k1))), some (vI x2), some (vI (x3 + 1)), none, none, none] [] M r M') ∧ (¬ (8 ≤ x4) → (InR (x3 * 8) ∧ InR ((x3 * 8) + x4) ∧ InR ((x3 * 8) + x2) ∧ (0 ≤ ((x3 * 8) + x2) ∧ ((x3 * 8) + x2) < 64) ∧ InR (x2 * 8) ∧ InR ((x2 * 8) + x4) ∧ (0 ≤ ((x2 * 8) + x4) ∧ ((x2 * 8) + x4) < 64) ∧ InR ((M.1 45 0 ((x3 * 8) + x2).toNat) + (M.1 45 0 ((x2 * 8) + x4).toNat)) ∧ (0 ≤ ((x3 * 8) + x4) ∧ ((x3 * 8) + x4) < 64) ∧ InR (x4 + 1)) ∧ Ex l G (d + 1) mX10_measure 80 [some (vR (some (7, 0))), some (vR (some (34, k1))), some (vI x2), some (vI x3), some (vI (x4 + 1)), none, none] [] ((upI M.1 45 0 ((x3 * 8) + x4).toNat (if ((M.1 45 0 ((x3 * 8) + x2).toNat) + (M.1 45 0 ((x2 * 8) + x4).toNat)) < (M.1 45 0 ((x3 * 8) + x4).toNat) then ((M.1 45 0 ((x3 * 8) + x2).toNat) + (M.1 45 0 ((x2 * 8) + x4).toNat)) else (M.1 45 0 ((x3 * 8) + x4).toNat) : Int)), M.2.1, M.2.2) r M')) : Ex l G (d + 1) mX10_measure 80 [some (vR (some (7, 0))), some (vR (some (34, k1))), some (vI x2), some (vI x3), some (vI x4), none, none] [] M r M' := by
  refine r_iload 82 dX10_measure_80 rfl rfl ?_
  refine r_bipush 84 dX10_measure_82 rfl rfl ?_
  refine r_icmp_ge 87 147 dX10_measure_84 rfl rfl (fun c => ?_) (fun c => ?_)
  · have h := h.1 (c)
    obtain ⟨o_1, h⟩ := h
    refine r_iinc (ls' := [some (vR (some (7, 0))), some (vR (some (34, k1))), some (vI x2), some (vI (x3 + 1)), some (vI x4), none, none]) 150 dX10_measure_147 rfl rfl rfl rfl o_1 rfl ?_
    refine r_goto 71 dX10_measure_150 rfl ?_
    exact Ex.weak h ⟨rfl, rfl, rfl, rfl, trivial⟩
  · have h := h.2 (c)
    obtain ⟨⟨o_2, o_3, o_4, o_5, o_6, o_7, o_8, o_9, o_10, o_11⟩, h⟩ := h
    refine r_iload_n 88 dX10_measure_87 rfl rfl ?_
    refine r_bipush 90 dX10_measure_88 rfl rfl ?_
    refine r_imul 91 dX10_measure_90 rfl o_2 ?_
    refine r_iload 93 dX10_measure_91 rfl rfl ?_
    refine r_iadd 94 dX10_measure_93 rfl o_3 ?_
    refine r_istore (ls' := [some (vR (some (7, 0))), some (vR (some (34, k1))), some (vI x2), some (vI x3), some (vI x4), some (vI ((x3 * 8) + x4)), none]) 96 dX10_measure_94 rfl rfl rfl rfl ?_
    refine r_aload_n 97 dX10_measure_96 rfl rfl ?_
    refine g_R 100 dX10_measure_97 rfl rfl rfl fr_10_9 (sh_10_0 hS) ?_
    refine r_iload_n 101 dX10_measure_100 rfl rfl ?_
    refine r_bipush 103 dX10_measure_101 rfl rfl ?_
    refine r_imul 104 dX10_measure_103 rfl o_2 ?_
    refine r_iload_n 105 dX10_measure_104 rfl rfl ?_
    refine r_iadd 106 dX10_measure_105 rfl o_4 ?_
    refine a_I 64 107 dX10_measure_106 rfl rfl rfl rfl o_5 rfl ?_
    refine r_aload_n 108 dX10_measure_107 rfl rfl ?_
    refine g_R 111 dX10_measure_108 rfl rfl rfl fr_10_9 (sh_10_0 hS) ?_
    refine r_iload_n 112 dX10_measure_111 rfl rfl ?_
    refine r_bipush 114 dX10_measure_112 rfl rfl ?_
    refine r_imul 115 dX10_measure_114 rfl o_6 ?_
    refine r_iload 117 dX10_measure_115 rfl rfl ?_
    refine r_iadd 118 dX10_measure_117 rfl o_7 ?_
    refine a_I 64 119 dX10_measure_118 rfl rfl rfl rfl o_8 rfl ?_
    refine r_iadd 120 dX10_measure_119 rfl o_9 ?_
    refine r_istore (ls' := [some (vR (some (7, 0))), some (vR (some (34, k1))), some (vI x2), some (vI x3), some (vI x4), some (vI ((x3 * 8) + x4)), some (vI ((M.1 45 0 ((x3 * 8) + x2).toNat) + (M.1 45 0 ((x2 * 8) + x4).toNat)))]) 122 dX10_measure_120 rfl rfl rfl rfl ?_
    refine r_aload_n 123 dX10_measure_122 rfl rfl ?_
    refine g_R 126 dX10_measure_123 rfl rfl rfl fr_10_9 (sh_10_0 hS) ?_
    refine r_iload 128 dX10_measure_126 rfl rfl ?_
    refine r_aload_n 129 dX10_measure_128 rfl rfl ?_
    refine g_R 132 dX10_measure_129 rfl rfl rfl fr_10_9 (sh_10_0 hS) ?_
    refine r_iload 134 dX10_measure_132 rfl rfl ?_
    refine a_I 64 135 dX10_measure_134 rfl rfl rfl rfl o_10 rfl ?_
    refine r_iload 137 dX10_measure_135 rfl rfl ?_
    refine r_min 140 dX10_measure_137 rfl (inT2 (List.mem_of_getElem? (i := 193) rfl) rfl) rfl ?_
    refine s_I 64 141 dX10_measure_140 rfl rfl (by decide) rfl rfl o_10 ?_
    refine r_iinc (ls' := [some (vR (some (7, 0))), some (vR (some (34, k1))), some (vI x2), some (vI x3), some (vI (x4 + 1)), some (vI ((x3 * 8) + x4)), some (vI ((M.1 45 0 ((x3 * 8) + x2).toNat) + (M.1 45 0 ((x2 * 8) + x4).toNat)))]) 144 dX10_measure_141 rfl rfl rfl rfl o_11 rfl ?_
    refine r_goto 80 dX10_measure_144 rfl ?_
    exact Ex.weak h ⟨rfl, rfl, rfl, rfl, rfl, trivial⟩
set_option maxRecDepth 4000 in
theorem xX10_measure_161 {l : Launch} {G : Gt} {d : Nat} {M M' : Mem} {r : Option Vl} {k1 : Nat} {x2 : Int} (hS : Sh M.2.1) (h : 
    (64 ≤ x2 → r = none ∧ M' = M) ∧ (¬ (64 ≤ x2) → (0 ≤ x2) ∧ (∃ (r_4 : Int) (M_2 : Mem), Cl l G d mX10_nextOf [vR (some (7, 0)), vI (x2 / 8), vI (x2 % 8), vR (some (34, k1))] M (some (vI r_4)) M_2 ∧ ((0 ≤ x2 ∧ x2 < 64) ∧ InR (x2 + 1)) ∧ Ex l G (d + 1) mX10_measure 161 [some (vR (some (7, 0))), some (vR (some (34, k1))), some (vI (x2 + 1)), none, none, none, none] [] ((upI M_2.1 46 0 x2.toNat r_4), M_2.2.1, M_2.2.2) r M'))) : Ex l G (d + 1) mX10_measure 161 [some (vR (some (7, 0))), some (vR (some (34, k1))), some (vI x2), none, none, none, none] [] M r M' := by
  refine r_iload_n 162 dX10_measure_161 rfl rfl ?_
  refine r_bipush 164 dX10_measure_162 rfl rfl ?_
  refine r_icmp_ge 167 192 dX10_measure_164 rfl rfl (fun c => ?_) (fun c => ?_)
  · have h := h.1 (c)
    exact r_vret dX10_measure_192 rfl h.1 h.2
  · have h := h.2 (c)
    obtain ⟨o_1, h⟩ := h
    refine r_aload_n 168 dX10_measure_167 rfl rfl ?_
    refine g_R 171 dX10_measure_168 rfl rfl rfl fr_10_15 (sh_10_1 hS) ?_
    refine r_iload_n 172 dX10_measure_171 rfl rfl ?_
    refine r_aload_n 173 dX10_measure_172 rfl rfl ?_
    refine r_iload_n 174 dX10_measure_173 rfl rfl ?_
    refine r_bipush 176 dX10_measure_174 rfl rfl ?_
    refine r_idiv 177 dX10_measure_176 rfl ⟨o_1, by decide⟩ ?_
    refine r_iload_n 178 dX10_measure_177 rfl rfl ?_
    refine r_bipush 180 dX10_measure_178 rfl rfl ?_
    refine r_irem 181 dX10_measure_180 rfl ⟨o_1, by decide⟩ ?_
    refine r_aload_n 182 dX10_measure_181 rfl rfl ?_
    obtain ⟨r_4, M_2, hc_3, h⟩ := h
    refine v_1 (ci := 10) (C := (RX10, TX10, 2)) [vI (x2 / 8), vI (x2 % 8), vR (some (34, k1))] [vI x2, vR (some (46, 0))] 185 dX10_measure_182 rfl rfl rfl rfl rfl mo_X10_nextOf ml_10_30 rfl rfl hc_3 ?_
    obtain ⟨⟨o_5, o_6⟩, h⟩ := h
    refine s_I 64 186 dX10_measure_185 rfl rfl (by decide) rfl rfl o_5 ?_
    refine r_iinc (ls' := [some (vR (some (7, 0))), some (vR (some (34, k1))), some (vI (x2 + 1)), none, none, none, none]) 189 dX10_measure_186 rfl rfl rfl rfl o_6 rfl ?_
    refine r_goto 161 dX10_measure_189 rfl ?_
    exact h

/-- the least place with a property; -1 -/
def firstF (p : Nat → Bool) : Nat → Int
  | 0 => -1
  | n + 1 => if firstF p n = -1 then (if p n then (n : Int) else -1) else firstF p n
theorem firstF_none {p : Nat → Bool} : ∀ {n : Nat}, (∀ i, i < n → p i = false) → firstF p n = -1 := by
  intro n
  induction n with
  | zero => intros; rfl
  | succ n ih =>
    intro h
    unfold firstF
    rw [if_pos (ih fun i hi => h i (by omega)), h n (by omega)]
    rfl
theorem firstF_at {p : Nat → Bool} {v : Nat} (h1 : ∀ i, i < v → p i = false) (h2 : p v = true) : ∀ {n : Nat}, v < n → firstF p n = v := by
  intro n
  induction n with
  | zero => intro h; omega
  | succ n ih =>
    intro h
    unfold firstF
    by_cases e : v = n
    · subst e
      rw [if_pos (firstF_none h1), h2]
      rfl
    · rw [ih (by omega), if_neg (by omega)]
def nx (Q : QT) (a b : Nat) : Int := if a = b ∨ 1000 ≤ dist Q a b then -1 else firstF (fun v => decide (¬ rd Q a v = 0 ∧ rd Q a v + dist Q v b = dist Q a b)) 8
def RoadsC (Q : QT) (I : IM) (n : Nat) : Prop := ∀ a b, a < 8 → b < 8 → I 34 n (8 * a + b) = rd Q a b
def LenC (Q : QT) (I : IM) : Prop := ∀ a b, a < 8 → b < 8 → I 45 0 (8 * a + b) = dist Q a b
def frW (I I' : IM) : Prop := ∀ f k i, ¬ ((f = 45 ∨ f = 46) ∧ k = 0) → I' f k i = I f k i
theorem frW.rf {I : IM} : frW I I := fun _ _ _ _ => rfl
theorem frW.tr {I I' I'' : IM} (h : frW I I') (h' : frW I' I'') : frW I I'' := fun f k i hn => (h' f k i hn).trans (h f k i hn)
theorem frW.up {f i : Nat} {I : IM} {v : Int} (h : f = 45 ∨ f = 46) : frW I (upI I f 0 i v) := fun f' k' i' hn => by
  rw [upI_o (fun e => hn ⟨by rw [e.1]; exact h, e.2⟩)]
theorem RoadsC.fr {Q : QT} {I I' : IM} {n : Nat} (h : RoadsC Q I n) (hf : frW I I') : RoadsC Q I' n := fun a b ha hb => by rw [hf _ _ _ (by omega)]; exact h a b ha hb
section WY
variable {l : Launch} {G : Gt} {d : Nat}
theorem KX10_nextOf {Q : QT} {M : Mem} {k a b : Nat} (hS : Sh M.2.1) (hw : WFr Q) (hR : RoadsC Q M.1 k) (hL : LenC Q M.1) (ha : a < 8) (hb : b < 8) : Cl l G d mX10_nextOf [vR (some (7, 0)), vI (a : Int), vI (b : Int), vR (some (34, k))] M (some (vI (nx Q a b))) M := by
  have ei : ∀ x y : Nat, ((x : Int) * 8 + (y : Int)).toNat = 8 * x + y := fun x y => by omega
  refine xX10_nextOf_0 hS ⟨⟨by unfold InR; omega, by unfold InR; omega, by omega⟩, fun c => ⟨?_, rfl⟩, fun c => ⟨fun c2 => ?_, fun c2 => ⟨?_, rfl⟩⟩⟩
  · unfold nx; rw [if_pos (.inl (by omega))]
  · rw [ei, hL a b ha hb] at c2 ⊢
    have hnx : nx Q a b = firstF (fun v => decide (¬ rd Q a v = 0 ∧ rd Q a v + dist Q v b = dist Q a b)) 8 := by
      unfold nx; rw [if_neg (by omega)]
    rw [hnx]
    refine loopUp (P := fun v => (∀ i, i < v → (fun v : Nat => decide (¬ rd Q a v = 0 ∧ rd Q a v + dist Q v b = dist Q a b)) i = false) → Ex l G d mX10_nextOf 31 [some (vR (some (7, 0))), some (vI (a : Int)), some (vI (b : Int)), some (vR (some (34, k))), some (vI (dist Q a b)), some (vI (v : Int)), none] [] M (some (vI (firstF (fun v => decide (¬ rd Q a v = 0 ∧ rd Q a v + dist Q v b = dist Q a b)) 8))) M) 0 8 (by omega) ?_ ?_ (fun i hi => by omega)
    · intro v _ hv ih hno
      have hr := rd_in hw a v
      have hd := Dk_nn hw 8 v b
      have hd2 := ((Dk_self hw 8 v).2 b).2
      refine xX10_nextOf_31 hS ⟨fun c => absurd c (by omega), fun _ => ⟨⟨by unfold InR; omega, by unfold InR; omega, by omega⟩, ?_⟩⟩
      rw [ei, ei, hR a v ha hv, hL v b hv hb]
      refine ⟨fun c0 => ⟨by unfold InR; omega, ih fun i hi => ?_⟩, fun c0 => ⟨⟨by unfold InR; omega, by unfold InR; omega, by omega, by unfold InR dist; omega⟩, fun c1 => ⟨by unfold InR; omega, ih fun i hi => ?_⟩, fun c1 => ⟨?_, rfl⟩⟩⟩
      · by_cases e : i = v
        · subst e; simp [c0]
        · exact hno i (by omega)
      · by_cases e : i = v
        · subst e; simp [c1]
        · exact hno i (by omega)
      · rw [firstF_at hno (by simp [c0, c1]) hv]
    · intro hno
      exact xX10_nextOf_31 hS ⟨fun _ => ⟨by rw [firstF_none hno], rfl⟩, fun c => absurd (show (8 : Int) ≤ ((8 : Nat) : Int) by omega) c⟩
  · rw [ei, hL a b ha hb] at c2
    unfold nx; rw [if_pos (.inr (by omega))]
/-- what measure leaves -/
def WaysC (Q : QT) (I : IM) : Prop := LenC Q I ∧ ∀ a b, a < 8 → b < 8 → I 46 0 (8 * a + b) = nx Q a b
def WPost (Q : QT) (M : Mem) (I : IM) : Prop := frW M.1 I ∧ WaysC Q I
theorem meas_161 {Q : QT} {k : Nat} (hw : WFr Q) : ∀ n, n ≤ 64 → ∀ M : Mem, Sh M.2.1 → RoadsC Q M.1 k → LenC Q M.1 → (∀ i, i < n → M.1 46 0 i = nx Q (i / 8) (i % 8)) →
    ∃ I', Ex l G (d + 1) mX10_measure 161 [some (vR (some (7, 0))), some (vR (some (34, k))), some (vI (n : Int)), none, none, none, none] [] M none (I', M.2.1, M.2.2) ∧ WPost Q M I' := by
  intro n hn
  refine loopUp (P := fun n => ∀ M : Mem, Sh M.2.1 → RoadsC Q M.1 k → LenC Q M.1 → (∀ i, i < n → M.1 46 0 i = nx Q (i / 8) (i % 8)) → ∃ I', Ex l G (d + 1) mX10_measure 161 [some (vR (some (7, 0))), some (vR (some (34, k))), some (vI (n : Int)), none, none, none, none] [] M none (I', M.2.1, M.2.2) ∧ WPost Q M I') n 64 hn ?_ ?_
  · intro n _ hn ih M hS hR hL hN
    have hf : frW M.1 (upI M.1 46 0 n (nx Q (n / 8) (n % 8))) := frW.up (.inr rfl)
    obtain ⟨I', hx, h1, h2⟩ := ih (upI M.1 46 0 n (nx Q (n / 8) (n % 8)), M.2.1, M.2.2) hS (hR.fr hf) (fun a b ha hb => by dsimp only; rw [upI_f rfl]; exact hL a b ha hb) (fun i hi => by
      dsimp only
      rw [upI_c]
      split
      · rename_i e; rw [e]
      · exact hN i (by omega))
    have hc := KX10_nextOf (l := l) (G := G) (d := d) (a := n / 8) (b := n % 8) hS hw hR hL (by omega) (by omega)
    refine ⟨I', xX10_measure_161 hS ⟨fun c => absurd c (by omega), fun _ => ⟨by omega, nx Q (n / 8) (n % 8), M, ?_, ⟨by omega, by unfold InR; omega⟩, hx⟩⟩, hf.tr h1, h2⟩
    rw [show (n : Int) / 8 = ((n / 8 : Nat) : Int) by omega, show (n : Int) % 8 = ((n % 8 : Nat) : Int) by omega]
    exact hc
  · intro M hS hR hL hN
    refine ⟨M.1, xX10_measure_161 hS ⟨fun _ => ⟨rfl, rfl⟩, fun c => absurd (show (64 : Int) ≤ ((64 : Nat) : Int) by omega) c⟩, frW.rf, hL, fun a b ha hb => ?_⟩
    rw [hN _ (by omega), show (8 * a + b) / 8 = a by omega, show (8 * a + b) % 8 = b by omega]
def mat (Q : QT) (k a b x y : Nat) : Int := if x < a ∨ (x = a ∧ y < b) then Dk Q (k + 1) x y else Dk Q k x y
def MatC (Q : QT) (I : IM) (k a b : Nat) : Prop := ∀ x y, x < 8 → y < 8 → I 45 0 (8 * x + y) = mat Q k a b x y
theorem meas_80 {Q : QT} {k o a : Nat} (hw : WFr Q) (ho : o < 8) (ha : a < 8)
    (K : ∀ M : Mem, Sh M.2.1 → RoadsC Q M.1 k → MatC Q M.1 o (a + 1) 0 → ∃ I', Ex l G (d + 1) mX10_measure 71 [some (vR (some (7, 0))), some (vR (some (34, k))), some (vI (o : Int)), some (vI ((a : Int) + 1)), none, none, none] [] M none (I', M.2.1, M.2.2) ∧ WPost Q M I') :
    ∀ b, b ≤ 8 → ∀ M : Mem, Sh M.2.1 → RoadsC Q M.1 k → MatC Q M.1 o a b → ∃ I', Ex l G (d + 1) mX10_measure 80 [some (vR (some (7, 0))), some (vR (some (34, k))), some (vI (o : Int)), some (vI (a : Int)), some (vI (b : Int)), none, none] [] M none (I', M.2.1, M.2.2) ∧ WPost Q M I' := by
  intro b hb
  have ei : ∀ x y : Nat, ((x : Int) * 8 + (y : Int)).toNat = 8 * x + y := fun x y => by omega
  refine loopUp (P := fun b => ∀ M : Mem, Sh M.2.1 → RoadsC Q M.1 k → MatC Q M.1 o a b → ∃ I', Ex l G (d + 1) mX10_measure 80 [some (vR (some (7, 0))), some (vR (some (34, k))), some (vI (o : Int)), some (vI (a : Int)), some (vI (b : Int)), none, none] [] M none (I', M.2.1, M.2.2) ∧ WPost Q M I') b 8 hb ?_ ?_
  · intro b _ hb ih M hS hR hM
    have e1 : M.1 45 0 (8 * a + o) = Dk Q o a o := by
      rw [hM a o ha ho]; unfold mat; split
      · exact (Dk_row hw o a).1
      · rfl
    have e2 : M.1 45 0 (8 * o + b) = Dk Q o o b := by
      rw [hM o b ho hb]; unfold mat; split
      · exact (Dk_row hw o b).2
      · rfl
    have e3 : M.1 45 0 (8 * a + b) = Dk Q o a b := by
      rw [hM a b ha hb]; unfold mat; rw [if_neg (by omega)]
    have n1 := Dk_nn hw o a o
    have n2 := Dk_nn hw o o b
    have n3 := ((Dk_self hw o a).2 o).2
    have n4 := ((Dk_self hw o o).2 b).2
    have hf : frW M.1 (upI M.1 45 0 (8 * a + b) (Dk Q (o + 1) a b)) := frW.up (.inl rfl)
    obtain ⟨I', hx, h1, h2⟩ := ih (upI M.1 45 0 (8 * a + b) (Dk Q (o + 1) a b), M.2.1, M.2.2) hS (hR.fr hf) (fun x y hx hy => by
      dsimp only
      rw [upI_c]
      by_cases e : 8 * x + y = 8 * a + b
      · have ex : x = a := by omega
        have ey : y = b := by omega
        subst ex; subst ey
        rw [if_pos rfl]; unfold mat; rw [if_pos (by omega)]
      · rw [if_neg e, hM x y hx hy]
        unfold mat
        by_cases c : x < a ∨ (x = a ∧ y < b)
        · rw [if_pos c, if_pos (by omega)]
        · rw [if_neg c, if_neg (by omega)])
    refine ⟨I', xX10_measure_80 hS ⟨fun c => absurd c (by omega), fun _ => ?_⟩, hf.tr h1, h2⟩
    rw [ei, ei, ei, e1, e2, e3]
    exact ⟨⟨by unfold InR; omega, by unfold InR; omega, by unfold InR; omega, by omega, by unfold InR; omega, by unfold InR; omega, by omega, by unfold InR; omega, by omega, by unfold InR; omega⟩, hx⟩
  · intro M hS hR hM
    obtain ⟨I', hx, h⟩ := K M hS hR (fun x y hx hy => by
      rw [hM x y hx hy]
      unfold mat
      by_cases c : x < a ∨ (x = a ∧ y < 8)
      · rw [if_pos c, if_pos (by omega)]
      · rw [if_neg c, if_neg (by omega)])
    exact ⟨I', xX10_measure_80 hS ⟨fun _ => ⟨by unfold InR; omega, hx⟩, fun c => absurd (show (8 : Int) ≤ ((8 : Nat) : Int) by omega) c⟩, h⟩
theorem meas_63 {Q : QT} {k : Nat} (hw : WFr Q) : ∀ o, o ≤ 8 → ∀ M : Mem, Sh M.2.1 → RoadsC Q M.1 k → MatC Q M.1 o 0 0 → ∃ I', Ex l G (d + 1) mX10_measure 63 [some (vR (some (7, 0))), some (vR (some (34, k))), some (vI (o : Int)), none, none, none, none] [] M none (I', M.2.1, M.2.2) ∧ WPost Q M I' := by
  intro o ho
  refine loopUp (P := fun o => ∀ M : Mem, Sh M.2.1 → RoadsC Q M.1 k → MatC Q M.1 o 0 0 → ∃ I', Ex l G (d + 1) mX10_measure 63 [some (vR (some (7, 0))), some (vR (some (34, k))), some (vI (o : Int)), none, none, none, none] [] M none (I', M.2.1, M.2.2) ∧ WPost Q M I') o 8 ho ?_ ?_
  · intro o _ ho ih M hS hR hM
    have key := loopUp (P := fun a => ∀ M : Mem, Sh M.2.1 → RoadsC Q M.1 k → MatC Q M.1 o a 0 → ∃ I', Ex l G (d + 1) mX10_measure 71 [some (vR (some (7, 0))), some (vR (some (34, k))), some (vI (o : Int)), some (vI (a : Int)), none, none, none] [] M none (I', M.2.1, M.2.2) ∧ WPost Q M I') 0 8 (by omega) (by
      intro a _ ha iha M hS hR hM
      obtain ⟨I', hx, h⟩ := meas_80 (l := l) (G := G) (d := d) hw ho ha (fun M a b c => iha M a b c) 0 (by omega) M hS hR hM
      exact ⟨I', xX10_measure_71 ⟨fun c => absurd c (by omega), fun _ => hx⟩, h⟩) (by
      intro M hS hR hM
      obtain ⟨I', hx, h⟩ := ih M hS hR (fun x y hx hy => by
        rw [hM x y hx hy]
        unfold mat
        rw [if_pos (by omega), if_neg (by omega)])
      exact ⟨I', xX10_measure_71 ⟨fun _ => ⟨by unfold InR; omega, hx⟩, fun c => absurd (show (8 : Int) ≤ ((8 : Nat) : Int) by omega) c⟩, h⟩)
    obtain ⟨I', hx, h⟩ := key M hS hR hM
    exact ⟨I', xX10_measure_63 ⟨fun c => absurd c (by omega), fun _ => hx⟩, h⟩
  · intro M hS hR hM
    obtain ⟨I', hx, h⟩ := meas_161 (l := l) (G := G) (d := d) hw 0 (by omega) M hS hR (fun a b ha hb => by
      rw [hM a b ha hb]
      unfold mat
      rw [if_neg (by omega)]
      rfl) (fun i hi => by omega)
    exact ⟨I', xX10_measure_63 ⟨fun _ => hx, fun c => absurd (show (8 : Int) ≤ ((8 : Nat) : Int) by omega) c⟩, h⟩
theorem KX10_measure {Q : QT} {k : Nat} {M : Mem} (hw : WFr Q) (hS : Sh M.2.1) (hR : RoadsC Q M.1 k) : ∃ I', Cl l G (d + 1) mX10_measure [vR (some (7, 0)), vR (some (34, k))] M none (I', M.2.1, M.2.2) ∧ WPost Q M I' := by
  have ei : ∀ x : Nat, ((x : Int) * 8 + (x : Int)).toNat = 8 * x + x := fun x => by omega
  have key2 := loopUp (P := fun n => ∀ M : Mem, Sh M.2.1 → RoadsC Q M.1 k → (∀ x y, x < 8 → y < 8 → M.1 45 0 (8 * x + y) = if x = y ∧ x < n then 0 else if rd Q x y = 0 then 1000 else rd Q x y) → ∃ I', Ex l G (d + 1) mX10_measure 37 [some (vR (some (7, 0))), some (vR (some (34, k))), some (vI (n : Int)), none, none, none, none] [] M none (I', M.2.1, M.2.2) ∧ WPost Q M I') 0 8 (by omega) (by
    intro n _ hn ih M hS hR hM
    have hf : frW M.1 (upI M.1 45 0 (8 * n + n) 0) := frW.up (.inl rfl)
    obtain ⟨I', hx, h1, h2⟩ := ih (upI M.1 45 0 (8 * n + n) 0, M.2.1, M.2.2) hS (hR.fr hf) (fun x y hx hy => by
      dsimp only
      rw [upI_c]
      by_cases e : 8 * x + y = 8 * n + n
      · rw [if_pos e, if_pos (by omega)]
      · rw [if_neg e, hM x y hx hy]
        by_cases c : x = y ∧ x < n
        · have c' : x = y ∧ x < n + 1 := by omega
          rw [if_pos c, if_pos c']
        · have c' : ¬ (x = y ∧ x < n + 1) := by omega
          rw [if_neg c, if_neg c'])
    refine ⟨I', xX10_measure_37 hS ⟨fun c => absurd c (by omega), fun _ => ⟨⟨by unfold InR; omega, by unfold InR; omega, by omega, by unfold InR; omega⟩, ?_⟩⟩, hf.tr h1, h2⟩
    rw [ei]; exact hx) (by
    intro M hS hR hM
    obtain ⟨I', hx, h⟩ := meas_63 (l := l) (G := G) (d := d) hw 0 (by omega) M hS hR (fun x y hx hy => by
      rw [hM x y hx hy]
      have c0 : ¬ (x < 0 ∨ (x = 0 ∧ y < 0)) := by omega
      have e0 : mat Q 0 0 0 x y = Dk Q 0 x y := by unfold mat; rw [if_neg c0]
      rw [e0]
      by_cases c : x = y
      · have c1 : x = y ∧ x < 8 := ⟨c, hx⟩
        simp only [Dk, if_pos c1, if_pos c]
      · have c1 : ¬ (x = y ∧ x < 8) := fun h => c h.1
        simp only [Dk, if_neg c1, if_neg c])
    exact ⟨I', xX10_measure_37 hS ⟨fun _ => hx, fun c => absurd (show (8 : Int) ≤ ((8 : Nat) : Int) by omega) c⟩, h⟩)
  have key1 := loopUp (P := fun n => ∀ M : Mem, Sh M.2.1 → RoadsC Q M.1 k → (∀ x y, x < 8 → y < 8 → 8 * x + y < n → M.1 45 0 (8 * x + y) = if rd Q x y = 0 then 1000 else rd Q x y) → ∃ I', Ex l G (d + 1) mX10_measure 2 [some (vR (some (7, 0))), some (vR (some (34, k))), some (vI (n : Int)), none, none, none, none] [] M none (I', M.2.1, M.2.2) ∧ WPost Q M I') 0 64 (by omega) (by
    intro n _ hn ih M hS hR hM
    have er := hR (n / 8) (n % 8) (by omega) (by omega)
    rw [show 8 * (n / 8) + n % 8 = n by omega] at er
    have hf : frW M.1 (upI M.1 45 0 n (if M.1 34 k n = 0 then 1000 else M.1 34 k n)) := frW.up (.inl rfl)
    obtain ⟨I', hx, h1, h2⟩ := ih (upI M.1 45 0 n (if M.1 34 k n = 0 then 1000 else M.1 34 k n), M.2.1, M.2.2) hS (hR.fr hf) (fun x y hx hy hlt => by
      dsimp only
      rw [upI_c]
      by_cases e : 8 * x + y = n
      · rw [if_pos e, er, show n / 8 = x by omega, show n % 8 = y by omega]
      · rw [if_neg e]; exact hM x y hx hy (by omega))
    exact ⟨I', xX10_measure_2 hS ⟨fun c => absurd c (by omega), fun _ => ⟨by omega, fun _ => by omega, ⟨by omega, by unfold InR; omega⟩, hx⟩⟩, hf.tr h1, h2⟩) (by
    intro M hS hR hM
    obtain ⟨I', hx, h⟩ := key2 M hS hR (fun x y hx hy => by
      have c0 : ¬ (x = y ∧ x < 0) := by omega
      rw [hM x y hx hy (by omega), if_neg c0])
    exact ⟨I', xX10_measure_2 hS ⟨fun _ => hx, fun c => absurd (show (64 : Int) ≤ ((64 : Nat) : Int) by omega) c⟩, h⟩)
  obtain ⟨I', hx, h⟩ := key1 M hS hR (fun x y _ _ h => by omega)
  exact ⟨I', xX10_measure_0 hx, h⟩
end WY
