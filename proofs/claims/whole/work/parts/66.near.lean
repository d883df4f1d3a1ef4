/-! the nearest place that was not visited -/
set_option maxRecDepth 4000 in
theorem xX0_nearestNew_0 {l : Launch} {G : Gt} {d : Nat} {M M' : Mem} {r : Option Vl} {k1 : Nat} (h : 
    Ex l G (d + 1) mX0_nearestNew 8 [some (vR (some (9, 0))), some (vR (some (5, k1))), some (vI (-1)), some (vI 10), some (vI 0), none] [] M r M') : Cl l G (d + 1) mX0_nearestNew [vR (some (9, 0)), vR (some (5, k1))] M r M' := by
  show Ex l G (d + 1) mX0_nearestNew 0 [some (vR (some (9, 0))), some (vR (some (5, k1))), none, none, none, none] [] M r M'
  refine r_iconst 1 dX0_nearestNew_0 rfl (InR_of rfl) ?_
  refine r_istore_n (ls' := [some (vR (some (9, 0))), some (vR (some (5, k1))), some (vI (-1)), none, none, none]) 2 dX0_nearestNew_1 rfl rfl rfl rfl ?_
  refine r_bipush 4 dX0_nearestNew_2 rfl rfl ?_
  refine r_istore_n (ls' := [some (vR (some (9, 0))), some (vR (some (5, k1))), some (vI (-1)), some (vI 10), none, none]) 5 dX0_nearestNew_4 rfl rfl rfl rfl ?_
  refine r_iconst 6 dX0_nearestNew_5 rfl (InR_of rfl) ?_
  refine r_istore (ls' := [some (vR (some (9, 0))), some (vR (some (5, k1))), some (vI (-1)), some (vI 10), some (vI 0), none]) 8 dX0_nearestNew_6 rfl rfl rfl rfl ?_
  exact h
set_option maxRecDepth 4000 in
theorem xX0_nearestNew_8 {l : Launch} {G : Gt} {d : Nat} {M M' : Mem} {r : Option Vl} {k1 : Nat} {x2 : Int} {x3 : Int} {x4 : Int} (hS : Sh M.2.1) (h : 
    (8 ≤ x4 → r = some (vI x2) ∧ M' = M) ∧ (¬ (8 ≤ x4) → (InR ((M.1 5 k1 6) * 8) ∧ InR (((M.1 5 k1 6) * 8) + x4) ∧ (0 ≤ (((M.1 5 k1 6) * 8) + x4) ∧ (((M.1 5 k1 6) * 8) + x4) < 64)) ∧ (((¬ ((M.1 34 0 (((M.1 5 k1 6) * 8) + x4).toNat) = 0) → (¬ (x3 ≤ (M.1 34 0 (((M.1 5 k1 6) * 8) + x4).toNat)) → ((0 ≤ (M.1 5 k1 9) ∧ 0 ≤ x4 ∧ x4 < 32))))) ∧ (InR (x4 + 1)) ∧ Ex l G (d + 1) mX0_nearestNew 8 [some (vR (some (9, 0))), some (vR (some (5, k1))), some (vI (if (M.1 34 0 (((M.1 5 k1 6) * 8) + x4).toNat) = 0 then x2 else (if x3 ≤ (M.1 34 0 (((M.1 5 k1 6) * 8) + x4).toNat) then x2 else (if tb (M.1 5 k1 9) x4 = true then x2 else x4 : Int) : Int) : Int)), some (vI (if (M.1 34 0 (((M.1 5 k1 6) * 8) + x4).toNat) = 0 then x3 else (if x3 ≤ (M.1 34 0 (((M.1 5 k1 6) * 8) + x4).toNat) then x3 else (if tb (M.1 5 k1 9) x4 = true then x3 else (M.1 34 0 (((M.1 5 k1 6) * 8) + x4).toNat) : Int) : Int) : Int)), some (vI (x4 + 1)), none] [] M r M'))) : Ex l G (d + 1) mX0_nearestNew 8 [some (vR (some (9, 0))), some (vR (some (5, k1))), some (vI x2), some (vI x3), some (vI x4), none] [] M r M' := by
  refine r_iload 10 dX0_nearestNew_8 rfl rfl ?_
  refine r_bipush 12 dX0_nearestNew_10 rfl rfl ?_
  refine r_icmp_ge 15 70 dX0_nearestNew_12 rfl rfl (fun c => ?_) (fun c => ?_)
  · have h := h.1 (c)
    refine r_iload_n 71 dX0_nearestNew_70 rfl rfl ?_
    exact r_iret dX0_nearestNew_71 rfl (.inl rfl) h.1 h.2
  · have h := h.2 (c)
    obtain ⟨⟨o_1, o_2, o_3⟩, h⟩ := h
    refine r_aload_n 16 dX0_nearestNew_15 rfl rfl ?_
    refine g_R 19 dX0_nearestNew_16 rfl rfl rfl fr_0_15 (sh_0_0 hS) ?_
    refine g_R 22 dX0_nearestNew_19 rfl rfl rfl fr_0_134 (sh_8_3 hS _) ?_
    refine r_aload_n 23 dX0_nearestNew_22 rfl rfl ?_
    refine g_I 26 dX0_nearestNew_23 rfl rfl rfl fi_0_116 rfl ?_
    refine r_bipush 28 dX0_nearestNew_26 rfl rfl ?_
    refine r_imul 29 dX0_nearestNew_28 rfl o_1 ?_
    refine r_iload 31 dX0_nearestNew_29 rfl rfl ?_
    refine r_iadd 32 dX0_nearestNew_31 rfl o_2 ?_
    refine a_I 64 33 dX0_nearestNew_32 rfl rfl rfl rfl o_3 rfl ?_
    refine r_istore (ls' := [some (vR (some (9, 0))), some (vR (some (5, k1))), some (vI x2), some (vI x3), some (vI x4), some (vI (M.1 34 0 (((M.1 5 k1 6) * 8) + x4).toNat))]) 35 dX0_nearestNew_33 rfl rfl rfl rfl ?_
    refine r_iload 37 dX0_nearestNew_35 rfl rfl ?_
    obtain ⟨h0, h⟩ := h
    have hJ_4 : Ex l G (d + 1) mX0_nearestNew 64 [some (vR (some (9, 0))), some (vR (some (5, k1))), some (vI (if (M.1 34 0 (((M.1 5 k1 6) * 8) + x4).toNat) = 0 then x2 else (if x3 ≤ (M.1 34 0 (((M.1 5 k1 6) * 8) + x4).toNat) then x2 else (if tb (M.1 5 k1 9) x4 = true then x2 else x4 : Int) : Int) : Int)), some (vI (if (M.1 34 0 (((M.1 5 k1 6) * 8) + x4).toNat) = 0 then x3 else (if x3 ≤ (M.1 34 0 (((M.1 5 k1 6) * 8) + x4).toNat) then x3 else (if tb (M.1 5 k1 9) x4 = true then x3 else (M.1 34 0 (((M.1 5 k1 6) * 8) + x4).toNat) : Int) : Int) : Int)), some (vI x4), some (vI (M.1 34 0 (((M.1 5 k1 6) * 8) + x4).toNat))] [] M r M' := by
      obtain ⟨o_9, h⟩ := h
      refine r_iinc (ls' := [some (vR (some (9, 0))), some (vR (some (5, k1))), some (vI (if (M.1 34 0 (((M.1 5 k1 6) * 8) + x4).toNat) = 0 then x2 else (if x3 ≤ (M.1 34 0 (((M.1 5 k1 6) * 8) + x4).toNat) then x2 else (if tb (M.1 5 k1 9) x4 = true then x2 else x4 : Int) : Int) : Int)), some (vI (if (M.1 34 0 (((M.1 5 k1 6) * 8) + x4).toNat) = 0 then x3 else (if x3 ≤ (M.1 34 0 (((M.1 5 k1 6) * 8) + x4).toNat) then x3 else (if tb (M.1 5 k1 9) x4 = true then x3 else (M.1 34 0 (((M.1 5 k1 6) * 8) + x4).toNat) : Int) : Int) : Int)), some (vI (x4 + 1)), some (vI (M.1 34 0 (((M.1 5 k1 6) * 8) + x4).toNat))]) 67 dX0_nearestNew_64 rfl rfl rfl rfl o_9 rfl ?_
      refine r_goto 8 dX0_nearestNew_67 rfl ?_
      exact Ex.weak h ⟨rfl, rfl, rfl, rfl, rfl, trivial⟩
    have h := h0
    refine r_if_eq 40 64 dX0_nearestNew_37 rfl rfl (fun c => ?_) (fun c => ?_)
    · have c_5 := c
      exact (Ex.at hJ_4 (show [some (vR (some (9, 0))), some (vR (some (5, k1))), some (vI x2), some (vI x3), some (vI x4), some (vI (M.1 34 0 (((M.1 5 k1 6) * 8) + x4).toNat))] = [some (vR (some (9, 0))), some (vR (some (5, k1))), some (vI (if (M.1 34 0 (((M.1 5 k1 6) * 8) + x4).toNat) = 0 then x2 else (if x3 ≤ (M.1 34 0 (((M.1 5 k1 6) * 8) + x4).toNat) then x2 else (if tb (M.1 5 k1 9) x4 = true then x2 else x4 : Int) : Int) : Int)), some (vI (if (M.1 34 0 (((M.1 5 k1 6) * 8) + x4).toNat) = 0 then x3 else (if x3 ≤ (M.1 34 0 (((M.1 5 k1 6) * 8) + x4).toNat) then x3 else (if tb (M.1 5 k1 9) x4 = true then x3 else (M.1 34 0 (((M.1 5 k1 6) * 8) + x4).toNat) : Int) : Int) : Int)), some (vI x4), some (vI (M.1 34 0 (((M.1 5 k1 6) * 8) + x4).toNat))] by simp only [if_pos c_5]) rfl rfl)
    · have c_5 := c
      have h := h c_5
      refine r_iload 42 dX0_nearestNew_40 rfl rfl ?_
      refine r_iload_n 43 dX0_nearestNew_42 rfl rfl ?_
      refine r_icmp_ge 46 64 dX0_nearestNew_43 rfl rfl (fun c => ?_) (fun c => ?_)
      · have c_6 := c
        exact (Ex.at hJ_4 (show [some (vR (some (9, 0))), some (vR (some (5, k1))), some (vI x2), some (vI x3), some (vI x4), some (vI (M.1 34 0 (((M.1 5 k1 6) * 8) + x4).toNat))] = [some (vR (some (9, 0))), some (vR (some (5, k1))), some (vI (if (M.1 34 0 (((M.1 5 k1 6) * 8) + x4).toNat) = 0 then x2 else (if x3 ≤ (M.1 34 0 (((M.1 5 k1 6) * 8) + x4).toNat) then x2 else (if tb (M.1 5 k1 9) x4 = true then x2 else x4 : Int) : Int) : Int)), some (vI (if (M.1 34 0 (((M.1 5 k1 6) * 8) + x4).toNat) = 0 then x3 else (if x3 ≤ (M.1 34 0 (((M.1 5 k1 6) * 8) + x4).toNat) then x3 else (if tb (M.1 5 k1 9) x4 = true then x3 else (M.1 34 0 (((M.1 5 k1 6) * 8) + x4).toNat) : Int) : Int) : Int)), some (vI x4), some (vI (M.1 34 0 (((M.1 5 k1 6) * 8) + x4).toNat))] by simp only [if_neg c_5, if_pos c_6]) rfl rfl)
      · have c_6 := c
        have h := h c_6
        have o_7 := h
        refine r_aload_n 47 dX0_nearestNew_46 rfl rfl ?_
        refine g_I 50 dX0_nearestNew_47 rfl rfl rfl fi_0_137 rfl ?_
        refine r_iload 52 dX0_nearestNew_50 rfl rfl ?_
        refine n_1 [vI (M.1 5 k1 9), vI x4] [] 55 dX0_nearestNew_52 rfl rfl mo_X11_hasBit ml_0_66 rfl rfl (KX11_hasBit o_7) ?_
        refine r_if_ne 58 64 dX0_nearestNew_55 rfl rfl (fun c => ?_) (fun c => ?_)
        · have c_8 := b2_1.mp c
          exact (Ex.at hJ_4 (show [some (vR (some (9, 0))), some (vR (some (5, k1))), some (vI x2), some (vI x3), some (vI x4), some (vI (M.1 34 0 (((M.1 5 k1 6) * 8) + x4).toNat))] = [some (vR (some (9, 0))), some (vR (some (5, k1))), some (vI (if (M.1 34 0 (((M.1 5 k1 6) * 8) + x4).toNat) = 0 then x2 else (if x3 ≤ (M.1 34 0 (((M.1 5 k1 6) * 8) + x4).toNat) then x2 else (if tb (M.1 5 k1 9) x4 = true then x2 else x4 : Int) : Int) : Int)), some (vI (if (M.1 34 0 (((M.1 5 k1 6) * 8) + x4).toNat) = 0 then x3 else (if x3 ≤ (M.1 34 0 (((M.1 5 k1 6) * 8) + x4).toNat) then x3 else (if tb (M.1 5 k1 9) x4 = true then x3 else (M.1 34 0 (((M.1 5 k1 6) * 8) + x4).toNat) : Int) : Int) : Int)), some (vI x4), some (vI (M.1 34 0 (((M.1 5 k1 6) * 8) + x4).toNat))] by simp only [if_neg c_5, if_neg c_6, if_pos c_8]) rfl rfl)
        · have c_8 := b2_0.mp (Decidable.not_not.mp c)
          refine r_iload 60 dX0_nearestNew_58 rfl rfl ?_
          refine r_istore_n (ls' := [some (vR (some (9, 0))), some (vR (some (5, k1))), some (vI x4), some (vI x3), some (vI x4), some (vI (M.1 34 0 (((M.1 5 k1 6) * 8) + x4).toNat))]) 61 dX0_nearestNew_60 rfl rfl rfl rfl ?_
          refine r_iload 63 dX0_nearestNew_61 rfl rfl ?_
          refine r_istore_n (ls' := [some (vR (some (9, 0))), some (vR (some (5, k1))), some (vI x4), some (vI (M.1 34 0 (((M.1 5 k1 6) * 8) + x4).toNat)), some (vI x4), some (vI (M.1 34 0 (((M.1 5 k1 6) * 8) + x4).toNat))]) 64 dX0_nearestNew_63 rfl rfl rfl rfl ?_
          exact (Ex.at hJ_4 (show [some (vR (some (9, 0))), some (vR (some (5, k1))), some (vI x4), some (vI (M.1 34 0 (((M.1 5 k1 6) * 8) + x4).toNat)), some (vI x4), some (vI (M.1 34 0 (((M.1 5 k1 6) * 8) + x4).toNat))] = [some (vR (some (9, 0))), some (vR (some (5, k1))), some (vI (if (M.1 34 0 (((M.1 5 k1 6) * 8) + x4).toNat) = 0 then x2 else (if x3 ≤ (M.1 34 0 (((M.1 5 k1 6) * 8) + x4).toNat) then x2 else (if tb (M.1 5 k1 9) x4 = true then x2 else x4 : Int) : Int) : Int)), some (vI (if (M.1 34 0 (((M.1 5 k1 6) * 8) + x4).toNat) = 0 then x3 else (if x3 ≤ (M.1 34 0 (((M.1 5 k1 6) * 8) + x4).toNat) then x3 else (if tb (M.1 5 k1 9) x4 = true then x3 else (M.1 34 0 (((M.1 5 k1 6) * 8) + x4).toNat) : Int) : Int) : Int)), some (vI x4), some (vI (M.1 34 0 (((M.1 5 k1 6) * 8) + x4).toNat))] by simp only [if_neg c_5, if_neg c_6, if_neg c_8]) rfl rfl)

set_option maxRecDepth 4000 in
theorem xX12_unseen_0 {l : Launch} {G : Gt} {d : Nat} {M M' : Mem} {r : Option Vl} {x1 : Int} {x2 : Int} (h : 
    Ex l G (d + 1) mX12_unseen 5 [some (vR (some (3, 0))), some (vI x1), some (vI x2), some (vI (-1)), some (vI 0), none] [] M r M') : Cl l G (d + 1) mX12_unseen [vR (some (3, 0)), vI x1, vI x2] M r M' := by
  show Ex l G (d + 1) mX12_unseen 0 [some (vR (some (3, 0))), some (vI x1), some (vI x2), none, none, none] [] M r M'
  refine r_iconst 1 dX12_unseen_0 rfl (InR_of rfl) ?_
  refine r_istore_n (ls' := [some (vR (some (3, 0))), some (vI x1), some (vI x2), some (vI (-1)), none, none]) 2 dX12_unseen_1 rfl rfl rfl rfl ?_
  refine r_iconst 3 dX12_unseen_2 rfl (InR_of rfl) ?_
  refine r_istore (ls' := [some (vR (some (3, 0))), some (vI x1), some (vI x2), some (vI (-1)), some (vI 0), none]) 5 dX12_unseen_3 rfl rfl rfl rfl ?_
  exact h
set_option maxRecDepth 4000 in
theorem xX12_unseen_5 {l : Launch} {G : Gt} {d : Nat} {M M' : Mem} {r : Option Vl} {x1 : Int} {x2 : Int} {x3 : Int} {x4 : Int} (h : 
    (8 ≤ x4 → r = some (vI x3) ∧ M' = M) ∧ (¬ (8 ≤ x4) → ∃ (r_3 : Int) (M_1 : Mem), Cl l G d mX12_roadOf [vR (some (3, 0)), vI x1, vI x4] M (some (vI r_3)) M_1 ∧ Sh M_1.2.1 ∧ ((r_3 = (-1) → (InR (x4 + 1)) ∧ Ex l G (d + 1) mX12_unseen 5 [some (vR (some (3, 0))), some (vI x1), some (vI x2), some (vI x3), some (vI (x4 + 1)), none] [] M_1 r M') ∧ (¬ (r_3 = (-1)) → ((0 ≤ x2 ∧ 0 ≤ x4 ∧ x4 < 32)) ∧ ((tb x2 x4 = true → (InR (x4 + 1)) ∧ Ex l G (d + 1) mX12_unseen 5 [some (vR (some (3, 0))), some (vI x1), some (vI x2), some (vI x3), some (vI (x4 + 1)), none] [] M_1 r M') ∧ (¬ (tb x2 x4 = true) → (x3 = (-1) → (InR (x4 + 1)) ∧ Ex l G (d + 1) mX12_unseen 5 [some (vR (some (3, 0))), some (vI x1), some (vI x2), some (vI x4), some (vI (x4 + 1)), none] [] M_1 r M') ∧ (¬ (x3 = (-1)) → ((0 ≤ r_3 ∧ r_3 < 16)) ∧ (∃ (r_11 : Int) (M_9 : Mem), Cl l G d mX12_roadOf [vR (some (3, 0)), vI x1, vI x3] M_1 (some (vI r_11)) M_9 ∧ ((0 ≤ r_11 ∧ r_11 < 16)) ∧ (InR (x4 + 1)) ∧ Ex l G (d + 1) mX12_unseen 5 [some (vR (some (3, 0))), some (vI x1), some (vI x2), some (vI (if (M_9.1 55 0 r_11.toNat) ≤ (M_1.1 55 0 r_3.toNat) then x3 else x4 : Int)), some (vI (x4 + 1)), none] [] M_9 r M')))))))) : Ex l G (d + 1) mX12_unseen 5 [some (vR (some (3, 0))), some (vI x1), some (vI x2), some (vI x3), some (vI x4), none] [] M r M' := by
  refine r_iload 7 dX12_unseen_5 rfl rfl ?_
  refine r_bipush 9 dX12_unseen_7 rfl rfl ?_
  refine r_icmp_ge 12 71 dX12_unseen_9 rfl rfl (fun c => ?_) (fun c => ?_)
  · have h := h.1 (c)
    refine r_iload_n 72 dX12_unseen_71 rfl rfl ?_
    exact r_iret dX12_unseen_72 rfl (.inl rfl) h.1 h.2
  · have h := h.2 (c)
    refine r_aload_n 13 dX12_unseen_12 rfl rfl ?_
    refine r_iload_n 14 dX12_unseen_13 rfl rfl ?_
    refine r_iload 16 dX12_unseen_14 rfl rfl ?_
    obtain ⟨r_3, M_1, hc_2, hS, h⟩ := h
    refine v_1 (ci := 12) (C := (RX12, TX12, 68)) [vI x1, vI x4] [] 19 dX12_unseen_16 rfl rfl rfl rfl rfl mo_X12_roadOf ml_12_166 rfl rfl hc_2 ?_
    refine r_istore (ls' := [some (vR (some (3, 0))), some (vI x1), some (vI x2), some (vI x3), some (vI x4), some (vI r_3)]) 21 dX12_unseen_19 rfl rfl rfl rfl ?_
    refine r_iload 23 dX12_unseen_21 rfl rfl ?_
    refine r_iconst 24 dX12_unseen_23 rfl (InR_of rfl) ?_
    refine r_icmp_eq 27 65 dX12_unseen_24 rfl rfl (fun c => ?_) (fun c => ?_)
    · have h := h.1 (c)
      obtain ⟨o_4, h⟩ := h
      refine r_iinc (ls' := [some (vR (some (3, 0))), some (vI x1), some (vI x2), some (vI x3), some (vI (x4 + 1)), some (vI r_3)]) 68 dX12_unseen_65 rfl rfl rfl rfl o_4 rfl ?_
      refine r_goto 5 dX12_unseen_68 rfl ?_
      exact Ex.weak h ⟨rfl, rfl, rfl, rfl, rfl, trivial⟩
    · have h := h.2 (c)
      obtain ⟨o_5, h⟩ := h
      refine r_iload_n 28 dX12_unseen_27 rfl rfl ?_
      refine r_iload 30 dX12_unseen_28 rfl rfl ?_
      refine c_1 [vI x2, vI x4] [] 33 dX12_unseen_30 rfl rfl mo_X12_has ml_12_148 rfl rfl (KX12_has o_5) ?_
      refine r_if_ne 36 65 dX12_unseen_33 rfl rfl (fun c => ?_) (fun c => ?_)
      · have h := h.1 (b2_1.mp c)
        obtain ⟨o_6, h⟩ := h
        refine r_iinc (ls' := [some (vR (some (3, 0))), some (vI x1), some (vI x2), some (vI x3), some (vI (x4 + 1)), some (vI r_3)]) 68 dX12_unseen_65 rfl rfl rfl rfl o_6 rfl ?_
        refine r_goto 5 dX12_unseen_68 rfl ?_
        exact Ex.weak h ⟨rfl, rfl, rfl, rfl, rfl, trivial⟩
      · have h := h.2 (b2_0.mp (Decidable.not_not.mp c))
        refine r_iload_n 37 dX12_unseen_36 rfl rfl ?_
        refine r_iconst 38 dX12_unseen_37 rfl (InR_of rfl) ?_
        refine r_icmp_eq 41 62 dX12_unseen_38 rfl rfl (fun c => ?_) (fun c => ?_)
        · have h := h.1 (c)
          obtain ⟨o_7, h⟩ := h
          refine r_iload 64 dX12_unseen_62 rfl rfl ?_
          refine r_istore_n (ls' := [some (vR (some (3, 0))), some (vI x1), some (vI x2), some (vI x4), some (vI x4), some (vI r_3)]) 65 dX12_unseen_64 rfl rfl rfl rfl ?_
          refine r_iinc (ls' := [some (vR (some (3, 0))), some (vI x1), some (vI x2), some (vI x4), some (vI (x4 + 1)), some (vI r_3)]) 68 dX12_unseen_65 rfl rfl rfl rfl o_7 rfl ?_
          refine r_goto 5 dX12_unseen_68 rfl ?_
          exact Ex.weak h ⟨rfl, rfl, rfl, rfl, rfl, trivial⟩
        · have h := h.2 (c)
          obtain ⟨o_8, h⟩ := h
          refine r_aload_n 42 dX12_unseen_41 rfl rfl ?_
          refine g_R 45 dX12_unseen_42 rfl rfl rfl fr_12_31 (sh_12_8 hS) ?_
          refine r_iload 47 dX12_unseen_45 rfl rfl ?_
          refine a_I 16 48 dX12_unseen_47 rfl rfl rfl rfl o_8 rfl ?_
          refine r_aload_n 49 dX12_unseen_48 rfl rfl ?_
          refine g_R 52 dX12_unseen_49 rfl rfl rfl fr_12_31 (sh_12_8 hS) ?_
          refine r_aload_n 53 dX12_unseen_52 rfl rfl ?_
          refine r_iload_n 54 dX12_unseen_53 rfl rfl ?_
          refine r_iload_n 55 dX12_unseen_54 rfl rfl ?_
          obtain ⟨r_11, M_9, hc_10, h⟩ := h
          refine v_1 (ci := 12) (C := (RX12, TX12, 68)) [vI x1, vI x3] [vR (some (55, 0)), vI (M_1.1 55 0 r_3.toNat)] 58 dX12_unseen_55 rfl rfl rfl rfl rfl mo_X12_roadOf ml_12_166 rfl rfl hc_10 ?_
          obtain ⟨o_12, h⟩ := h
          refine a_I 16 59 dX12_unseen_58 rfl rfl rfl rfl o_12 rfl ?_
          have hJ_13 : Ex l G (d + 1) mX12_unseen 65 [some (vR (some (3, 0))), some (vI x1), some (vI x2), some (vI (if (M_9.1 55 0 r_11.toNat) ≤ (M_1.1 55 0 r_3.toNat) then x3 else x4 : Int)), some (vI x4), some (vI r_3)] [] M_9 r M' := by
            obtain ⟨o_15, h⟩ := h
            refine r_iinc (ls' := [some (vR (some (3, 0))), some (vI x1), some (vI x2), some (vI (if (M_9.1 55 0 r_11.toNat) ≤ (M_1.1 55 0 r_3.toNat) then x3 else x4 : Int)), some (vI (x4 + 1)), some (vI r_3)]) 68 dX12_unseen_65 rfl rfl rfl rfl o_15 rfl ?_
            refine r_goto 5 dX12_unseen_68 rfl ?_
            exact Ex.weak h ⟨rfl, rfl, rfl, rfl, rfl, trivial⟩
          refine r_icmp_ge 62 65 dX12_unseen_59 rfl rfl (fun c => ?_) (fun c => ?_)
          · have c_14 := c
            exact (Ex.at hJ_13 (show [some (vR (some (3, 0))), some (vI x1), some (vI x2), some (vI x3), some (vI x4), some (vI r_3)] = [some (vR (some (3, 0))), some (vI x1), some (vI x2), some (vI (if (M_9.1 55 0 r_11.toNat) ≤ (M_1.1 55 0 r_3.toNat) then x3 else x4 : Int)), some (vI x4), some (vI r_3)] by simp only [if_pos c_14]) rfl rfl)
          · have c_14 := c
            refine r_iload 64 dX12_unseen_62 rfl rfl ?_
            refine r_istore_n (ls' := [some (vR (some (3, 0))), some (vI x1), some (vI x2), some (vI x4), some (vI x4), some (vI r_3)]) 65 dX12_unseen_64 rfl rfl rfl rfl ?_
            exact (Ex.at hJ_13 (show [some (vR (some (3, 0))), some (vI x1), some (vI x2), some (vI x4), some (vI x4), some (vI r_3)] = [some (vR (some (3, 0))), some (vI x1), some (vI x2), some (vI (if (M_9.1 55 0 r_11.toNat) ≤ (M_1.1 55 0 r_3.toNat) then x3 else x4 : Int)), some (vI x4), some (vI r_3)] by simp only [if_neg c_14]) rfl rfl)

def unsF (Q : QT) (a : Nat) (w : Nat → Bool) : Nat → Int
  | 0 => -1
  | k + 1 => if ¬ rd Q a k = 0 ∧ w k = false ∧ (unsF Q a w k = -1 ∨ rd Q a k < rd Q a (unsF Q a w k)) then (k : Int) else unsF Q a w k
theorem unsF_or (Q : QT) (a : Nat) (w : Nat → Bool) : ∀ k, unsF Q a w k = -1 ∨ ∃ v : Nat, v < k ∧ unsF Q a w k = (v : Int) ∧ ¬ rd Q a v = 0 := by
  intro k
  induction k with
  | zero => exact .inl rfl
  | succ k ih =>
    unfold unsF
    split
    · rename_i c; exact .inr ⟨k, by omega, rfl, c.1⟩
    · rcases ih with h | ⟨v, h1, h2⟩
      · exact .inl h
      · exact .inr ⟨v, by omega, h2⟩
theorem ro_or {Q : QT} (h : WFr Q) (a b : Int) : (roI Q a b = -1 ∧ rd Q a b = 0) ∨ ∃ j : Nat, j < 16 ∧ roI Q a b = (j : Int) ∧ rd Q a b = Q 55 j ∧ 1 ≤ rd Q a b := by
  cases e : ro Q a b with
  | none => exact .inl ⟨by unfold roI; rw [e], by unfold rd; rw [e]⟩
  | some j =>
    have h1 := rd_pos h e
    have h2 := (rkF_some e).1
    have h3 := h.1
    refine .inr ⟨j, by unfold nRd at h2; omega, by unfold roI; rw [e], by unfold rd; rw [e], h1⟩
section NR
variable {l : Launch} {G : Gt} {d : Nat} {Q : QT} {M : Mem}
theorem KX12_unseen {a : Nat} {w : Nat → Bool} (hS : Sh M.2.1) (hw : WFr Q) (hH : HoldsR Q M.1) : Cl l G (d + 1) mX12_unseen [vR (some (3, 0)), vI (a : Int), vI (bI 8 w)] M (some (vI (unsF Q a w 8))) M := by
  refine xX12_unseen_0 ?_
  refine loopUp (P := fun k : Nat => Ex l G (d + 1) mX12_unseen 5 [some (vR (some (3, 0))), some (vI (a : Int)), some (vI (bI 8 w)), some (vI (unsF Q a w k)), some (vI (k : Int)), none] [] M (some (vI (unsF Q a w 8))) M) 0 8 (by omega) ?_ ?_
  · intro k _ hk ih
    have r1 := KX12_roadOf (l := l) (G := G) (d := d) (a := (a : Int)) (b := (k : Int)) hS hw hH
    have hi : InR ((k : Int) + 1) := by unfold InR; omega
    have ht := tb_bI (n := 8) (by omega) w k
    have hnn : 0 ≤ bI 8 w := bI_nn
    have eu : unsF Q a w (k + 1) = if ¬ rd Q a k = 0 ∧ w k = false ∧ (unsF Q a w k = -1 ∨ rd Q a k < rd Q a (unsF Q a w k)) then (k : Int) else unsF Q a w k := rfl
    refine xX12_unseen_5 ⟨fun c => by omega, fun _ => ⟨_, M, r1, hS, fun c => ?_, fun c => ?_⟩⟩
    · rcases ro_or hw (a : Int) (k : Int) with ⟨_, q2⟩ | ⟨j, _, q2, _⟩
      · rw [if_neg (fun x => x.1 q2)] at eu
        rw [eu] at ih
        exact ⟨hi, ih⟩
      · omega
    · rcases ro_or hw (a : Int) (k : Int) with ⟨q1, _⟩ | ⟨j, q1, q2, q3, q4⟩
      · omega
      · refine ⟨by omega, fun c2 => ?_, fun c2 => ⟨fun c3 => ?_, fun c3 => ⟨by omega, ?_⟩⟩⟩
        · rw [if_neg (fun x => by rw [ht, x.2.1] at c2; simp at c2)] at eu
          rw [eu] at ih
          exact ⟨hi, ih⟩
        · have hwk : w k = false := by
            cases e : w k with
            | false => rfl
            | true => rw [ht, e] at c2; exact absurd (by simp [hk]) c2
          rw [if_pos ⟨by omega, hwk, .inl c3⟩] at eu
          rw [eu] at ih
          exact ⟨hi, ih⟩
        · have hwk : w k = false := by
            cases e : w k with
            | false => rfl
            | true => rw [ht, e] at c2; exact absurd (by simp [hk]) c2
          have r2 := KX12_roadOf (l := l) (G := G) (d := d) (a := (a : Int)) (b := unsF Q a w k) hS hw hH
          refine ⟨_, M, r2, ?_⟩
          rcases ro_or hw (a : Int) (unsF Q a w k) with ⟨_, p2⟩ | ⟨i, p1, p2, p3, p4⟩
          · rcases unsF_or Q a w k with u | ⟨v, _, u2, u3⟩
            · exact absurd u c3
            · rw [u2] at p2; exact absurd p2 u3
          · refine ⟨by omega, hi, ?_⟩
            rw [p2, q2, Int.toNat_natCast, Int.toNat_natCast, hH _ i (by omega), hH _ j (by omega), ← p3, ← q3]
            by_cases c4 : rd Q a (unsF Q a w k) ≤ rd Q a k
            · rw [if_pos c4]
              rw [if_neg (fun x => by omega)] at eu
              rw [eu] at ih
              exact ih
            · rw [if_neg c4]
              rw [if_pos ⟨by omega, hwk, .inr (by omega)⟩] at eu
              rw [eu] at ih
              exact ih
  · exact xX12_unseen_5 ⟨fun _ => ⟨rfl, rfl⟩, fun c => absurd (by omega) c⟩
theorem KX0_nearestNew {k1 a : Nat} {w : Nat → Bool} (hS : Sh M.2.1) (hw : WFr Q) (hR : RoadsC Q M.1 0) (ha : a < 8) (h6 : M.1 5 k1 6 = (a : Int)) (h9 : M.1 5 k1 9 = bI 8 w) : Cl l G (d + 1) mX0_nearestNew [vR (some (9, 0)), vR (some (5, k1))] M (some (vI (unsF Q a w 8))) M := by
  refine xX0_nearestNew_0 ?_
  refine loopUp (P := fun k : Nat => Ex l G (d + 1) mX0_nearestNew 8 [some (vR (some (9, 0))), some (vR (some (5, k1))), some (vI (unsF Q a w k)), some (vI (if unsF Q a w k = -1 then 10 else rd Q a (unsF Q a w k))), some (vI (k : Int)), none] [] M (some (vI (unsF Q a w 8))) M) 0 8 (by omega) ?_ ?_
  · intro k _ hk ih
    have hi : InR ((k : Int) + 1) := by unfold InR; omega
    have ht := tb_bI (n := 8) (by omega) w k
    have hnn : 0 ≤ bI 8 w := bI_nn
    have eu : unsF Q a w (k + 1) = if ¬ rd Q a k = 0 ∧ w k = false ∧ (unsF Q a w k = -1 ∨ rd Q a k < rd Q a (unsF Q a w k)) then (k : Int) else unsF Q a w k := rfl
    have er : M.1 34 0 ((a : Int) * 8 + (k : Int)).toNat = rd Q a k := by
      rw [show ((a : Int) * 8 + (k : Int)).toNat = 8 * a + k by omega]
      exact hR a k ha hk
    have h10 := rd_in hw (a : Int) (k : Int)
    refine xX0_nearestNew_8 hS ⟨fun c => by omega, fun _ => ?_⟩
    simp only [h6, h9, er]
    refine ⟨⟨by unfold InR; omega, by unfold InR; omega, by omega⟩, fun _ _ => by omega, hi, ?_⟩
    by_cases c1 : rd Q a k = 0
    · rw [if_pos c1, if_pos c1]
      rw [if_neg (fun x => x.1 c1)] at eu
      rw [eu] at ih
      exact ih
    · rw [if_neg c1, if_neg c1]
      by_cases c2 : (if unsF Q a w k = -1 then 10 else rd Q a (unsF Q a w k)) ≤ rd Q a k
      · rw [if_pos c2, if_pos c2]
        have c3 : ¬ (unsF Q a w k = -1 ∨ rd Q a k < rd Q a (unsF Q a w k)) := by
          by_cases c3 : unsF Q a w k = -1
          · rw [if_pos c3] at c2; omega
          · rw [if_neg c3] at c2; omega
        rw [if_neg (fun x => c3 x.2.2)] at eu
        rw [eu] at ih
        exact ih
      · rw [if_neg c2, if_neg c2]
        have c3 : unsF Q a w k = -1 ∨ rd Q a k < rd Q a (unsF Q a w k) := by
          by_cases c3 : unsF Q a w k = -1
          · exact .inl c3
          · rw [if_neg c3] at c2; exact .inr (by omega)
        cases e : w k with
        | true =>
          have c4 : tb (bI 8 w) (k : Int) = true := by rw [ht, e]; simp [hk]
          rw [if_pos c4, if_pos c4]
          rw [if_neg (fun x => by rw [e] at x; exact absurd x.2.1 (by simp))] at eu
          rw [eu] at ih
          exact ih
        | false =>
          have c4 : ¬ tb (bI 8 w) (k : Int) = true := by rw [ht, e]; simp
          rw [if_neg c4, if_neg c4]
          rw [if_pos ⟨c1, e, c3⟩] at eu
          rw [eu, if_neg (by omega)] at ih
          exact ih
  · exact xX0_nearestNew_8 hS ⟨fun _ => ⟨rfl, rfl⟩, fun c => absurd (by omega) c⟩
end NR
