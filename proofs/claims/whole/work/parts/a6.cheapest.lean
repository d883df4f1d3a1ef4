/-! cheapest: the spec, the reference -/
set_option maxRecDepth 4000 in
theorem xX12_price_0 {l : Launch} {G : Gt} {d : Nat} {M M' : Mem} {r : Option Vl} {x1 : Int} {x2 : Int} (h : 
    Ex l G (d + 1) mX12_price 5 [some (vR (some (3, 0))), some (vI x1), some (vI x2), some (vI 0), some (vI 0)] [] M r M') : Cl l G (d + 1) mX12_price [vR (some (3, 0)), vI x1, vI x2] M r M' := by
  show Ex l G (d + 1) mX12_price 0 [some (vR (some (3, 0))), some (vI x1), some (vI x2), none, none] [] M r M'
  refine r_iconst 1 dX12_price_0 rfl (InR_of rfl) ?_
  refine r_istore_n (ls' := [some (vR (some (3, 0))), some (vI x1), some (vI x2), some (vI 0), none]) 2 dX12_price_1 rfl rfl rfl rfl ?_
  refine r_iconst 3 dX12_price_2 rfl (InR_of rfl) ?_
  refine r_istore (ls' := [some (vR (some (3, 0))), some (vI x1), some (vI x2), some (vI 0), some (vI 0)]) 5 dX12_price_3 rfl rfl rfl rfl ?_
  exact h
set_option maxRecDepth 4000 in
theorem xX12_price_5 {l : Launch} {G : Gt} {d : Nat} {M M' : Mem} {r : Option Vl} {x1 : Int} {x2 : Int} {x3 : Int} {x4 : Int} (hS : Sh M.2.1) (h : 
    (16 ≤ x4 → r = some (vI x3) ∧ M' = M) ∧ (¬ (16 ≤ x4) → ((0 ≤ x1 ∧ 0 ≤ x4 ∧ x4 < 32)) ∧ (((tb x1 x4 = true → ((0 ≤ x4 ∧ x4 < 17) ∧ (0 ≤ x2 ∧ 0 ≤ x4 ∧ x4 < 32)) ∧ ((¬ (tb x2 x4 = true) → (InR ((M.1 51 0 x4.toNat) + 0))) ∧ (tb x2 x4 = true → (InR ((M.1 51 0 x4.toNat) + (M.1 51 0 16))))))) ∧ (InR (x3 + (if tb x1 x4 = true then (if tb x2 x4 = true then ((M.1 51 0 x4.toNat) + (M.1 51 0 16)) else ((M.1 51 0 x4.toNat) + 0) : Int) else 0 : Int)) ∧ InR (x4 + 1)) ∧ Ex l G (d + 1) mX12_price 5 [some (vR (some (3, 0))), some (vI x1), some (vI x2), some (vI (x3 + (if tb x1 x4 = true then (if tb x2 x4 = true then ((M.1 51 0 x4.toNat) + (M.1 51 0 16)) else ((M.1 51 0 x4.toNat) + 0) : Int) else 0 : Int))), some (vI (x4 + 1))] [] M r M'))) : Ex l G (d + 1) mX12_price 5 [some (vR (some (3, 0))), some (vI x1), some (vI x2), some (vI x3), some (vI x4)] [] M r M' := by
  refine r_iload 7 dX12_price_5 rfl rfl ?_
  refine r_bipush 9 dX12_price_7 rfl rfl ?_
  refine r_icmp_ge 12 62 dX12_price_9 rfl rfl (fun c => ?_) (fun c => ?_)
  · have h := h.1 (c)
    refine r_iload_n 63 dX12_price_62 rfl rfl ?_
    exact r_iret dX12_price_63 rfl (.inl rfl) h.1 h.2
  · have h := h.2 (c)
    obtain ⟨o_1, h⟩ := h
    refine r_iload_n 13 dX12_price_12 rfl rfl ?_
    refine r_iload_n 14 dX12_price_13 rfl rfl ?_
    refine r_iload 16 dX12_price_14 rfl rfl ?_
    refine c_1 [vI x1, vI x4] [vI x3] 19 dX12_price_16 rfl rfl mo_X12_has ml_12_148 rfl rfl (KX12_has o_1) ?_
    obtain ⟨h0, h⟩ := h
    have hJ_2 : Ex l G (d + 1) mX12_price 54 [some (vR (some (3, 0))), some (vI x1), some (vI x2), some (vI x3), some (vI x4)] [vI (if tb x1 x4 = true then (if tb x2 x4 = true then ((M.1 51 0 x4.toNat) + (M.1 51 0 16)) else ((M.1 51 0 x4.toNat) + 0) : Int) else 0 : Int), vI x3] M r M' := by
      obtain ⟨⟨o_9, o_10⟩, h⟩ := h
      refine r_iadd 55 dX12_price_54 rfl o_9 ?_
      refine r_istore_n (ls' := [some (vR (some (3, 0))), some (vI x1), some (vI x2), some (vI (x3 + (if tb x1 x4 = true then (if tb x2 x4 = true then ((M.1 51 0 x4.toNat) + (M.1 51 0 16)) else ((M.1 51 0 x4.toNat) + 0) : Int) else 0 : Int))), some (vI x4)]) 56 dX12_price_55 rfl rfl rfl rfl ?_
      refine r_iinc (ls' := [some (vR (some (3, 0))), some (vI x1), some (vI x2), some (vI (x3 + (if tb x1 x4 = true then (if tb x2 x4 = true then ((M.1 51 0 x4.toNat) + (M.1 51 0 16)) else ((M.1 51 0 x4.toNat) + 0) : Int) else 0 : Int))), some (vI (x4 + 1))]) 59 dX12_price_56 rfl rfl rfl rfl o_10 rfl ?_
      refine r_goto 5 dX12_price_59 rfl ?_
      exact h
    have h := h0
    refine r_if_eq 22 53 dX12_price_19 rfl rfl (fun c => ?_) (fun c => ?_)
    · have c_3 := b2_0.mp c
      refine r_iconst 54 dX12_price_53 rfl (InR_of rfl) ?_
      exact (Ex.at hJ_2 rfl (show [vI 0, vI x3] = [vI (if tb x1 x4 = true then (if tb x2 x4 = true then ((M.1 51 0 x4.toNat) + (M.1 51 0 16)) else ((M.1 51 0 x4.toNat) + 0) : Int) else 0 : Int), vI x3] by simp only [if_neg c_3]) rfl)
    · have c_3 := b2_1.mp c
      have h := h c_3
      obtain ⟨⟨o_4, o_5⟩, h⟩ := h
      refine r_aload_n 23 dX12_price_22 rfl rfl ?_
      refine g_R 26 dX12_price_23 rfl rfl rfl fr_12_19 (sh_12_4 hS) ?_
      refine r_iload 28 dX12_price_26 rfl rfl ?_
      refine a_I 17 29 dX12_price_28 rfl rfl rfl rfl o_4 rfl ?_
      refine r_iload_n 30 dX12_price_29 rfl rfl ?_
      refine r_iload 32 dX12_price_30 rfl rfl ?_
      refine c_1 [vI x2, vI x4] [vI (M.1 51 0 x4.toNat), vI x3] 35 dX12_price_32 rfl rfl mo_X12_has ml_12_148 rfl rfl (KX12_has o_5) ?_
      refine r_if_eq 38 48 dX12_price_35 rfl rfl (fun c => ?_) (fun c => ?_)
      · have c_6 := b2_0.mp c
        have h := h.1 c_6
        have o_7 := h
        refine r_iconst 49 dX12_price_48 rfl (InR_of rfl) ?_
        refine r_iadd 50 dX12_price_49 rfl o_7 ?_
        refine r_goto 54 dX12_price_50 rfl ?_
        exact (Ex.at hJ_2 rfl (show [vI ((M.1 51 0 x4.toNat) + 0), vI x3] = [vI (if tb x1 x4 = true then (if tb x2 x4 = true then ((M.1 51 0 x4.toNat) + (M.1 51 0 16)) else ((M.1 51 0 x4.toNat) + 0) : Int) else 0 : Int), vI x3] by simp only [if_pos c_3, if_neg c_6]) rfl)
      · have c_6 := b2_1.mp c
        have h := h.2 c_6
        have o_8 := h
        refine r_aload_n 39 dX12_price_38 rfl rfl ?_
        refine g_R 42 dX12_price_39 rfl rfl rfl fr_12_19 (sh_12_4 hS) ?_
        refine r_bipush 44 dX12_price_42 rfl rfl ?_
        refine a_I 17 45 dX12_price_44 rfl rfl rfl rfl ⟨by decide, by decide⟩ rfl ?_
        refine r_goto 49 dX12_price_45 rfl ?_
        refine r_iadd 50 dX12_price_49 rfl o_8 ?_
        refine r_goto 54 dX12_price_50 rfl ?_
        exact (Ex.at hJ_2 rfl (show [vI ((M.1 51 0 x4.toNat) + (M.1 51 0 16)), vI x3] = [vI (if tb x1 x4 = true then (if tb x2 x4 = true then ((M.1 51 0 x4.toNat) + (M.1 51 0 16)) else ((M.1 51 0 x4.toNat) + 0) : Int) else 0 : Int), vI x3] by simp only [if_pos c_3, if_pos c_6]) rfl)

set_option maxRecDepth 4000 in
theorem xX12_isClear_0 {l : Launch} {G : Gt} {d : Nat} {M M' : Mem} {r : Option Vl} {x1 : Int} {x2 : Int} (h : 
    Ex l G d mX12_isClear 5 [some (vR (some (3, 0))), some (vI x1), some (vI x2), some (vI 1), some (vI 0)] [] M r M') : Cl l G d mX12_isClear [vR (some (3, 0)), vI x1, vI x2] M r M' := by
  show Ex l G d mX12_isClear 0 [some (vR (some (3, 0))), some (vI x1), some (vI x2), none, none] [] M r M'
  refine r_iconst 1 dX12_isClear_0 rfl (InR_of rfl) ?_
  refine r_istore_n (ls' := [some (vR (some (3, 0))), some (vI x1), some (vI x2), some (vI 1), none]) 2 dX12_isClear_1 rfl rfl rfl rfl ?_
  refine r_iconst 3 dX12_isClear_2 rfl (InR_of rfl) ?_
  refine r_istore (ls' := [some (vR (some (3, 0))), some (vI x1), some (vI x2), some (vI 1), some (vI 0)]) 5 dX12_isClear_3 rfl rfl rfl rfl ?_
  exact h
set_option maxRecDepth 4000 in
theorem xX12_isClear_5 {l : Launch} {G : Gt} {d : Nat} {M M' : Mem} {r : Option Vl} {x1 : Int} {x2 : Int} {x3 : Int} {x4 : Int} (hS : Sh M.2.1) (h : 
    (x2 ≤ x4 → ((x3 = 0 ∨ x3 = 1)) ∧ r = some (vI x3) ∧ M' = M) ∧ (¬ (x2 ≤ x4) → (x3 = 0 → ((x3 = 0 ∨ x3 = 1)) ∧ r = some (vI x3) ∧ M' = M) ∧ (¬ (x3 = 0) → ((0 ≤ x4 ∧ x4 < 372)) ∧ (InR (x4 + 1)) ∧ Ex l G d mX12_isClear 5 [some (vR (some (3, 0))), some (vI x1), some (vI x2), some (vI (if (aAnd (M.1 88 0 x4.toNat) x1) = 0 then 0 else 1 : Int)), some (vI (x4 + 1))] [] M r M'))) : Ex l G d mX12_isClear 5 [some (vR (some (3, 0))), some (vI x1), some (vI x2), some (vI x3), some (vI x4)] [] M r M' := by
  refine r_iload 7 dX12_isClear_5 rfl rfl ?_
  refine r_iload_n 8 dX12_isClear_7 rfl rfl ?_
  refine r_icmp_ge 11 39 dX12_isClear_8 rfl rfl (fun c => ?_) (fun c => ?_)
  · have h := h.1 (c)
    obtain ⟨o_1, h⟩ := h
    refine r_iload_n 40 dX12_isClear_39 rfl rfl ?_
    exact r_iret dX12_isClear_40 rfl (.inr ⟨rfl, o_1⟩) h.1 h.2
  · have h := h.2 (c)
    refine r_iload_n 12 dX12_isClear_11 rfl rfl ?_
    refine r_if_eq 15 39 dX12_isClear_12 rfl rfl (fun c => ?_) (fun c => ?_)
    · have h := h.1 (c)
      obtain ⟨o_2, h⟩ := h
      refine r_iload_n 40 dX12_isClear_39 rfl rfl ?_
      exact r_iret dX12_isClear_40 rfl (.inr ⟨rfl, o_2⟩) h.1 h.2
    · have h := h.2 (c)
      obtain ⟨o_3, h⟩ := h
      refine r_aload_n 16 dX12_isClear_15 rfl rfl ?_
      refine g_R 19 dX12_isClear_16 rfl rfl rfl fr_12_132 (sh_12_54 hS) ?_
      refine r_iload 21 dX12_isClear_19 rfl rfl ?_
      refine a_I 372 22 dX12_isClear_21 rfl rfl rfl rfl o_3 rfl ?_
      refine r_iload_n 23 dX12_isClear_22 rfl rfl ?_
      refine r_iand 24 dX12_isClear_23 rfl ?_
      have hJ_4 : Ex l G d mX12_isClear 32 [some (vR (some (3, 0))), some (vI x1), some (vI x2), some (vI x3), some (vI x4)] [vI (if (aAnd (M.1 88 0 x4.toNat) x1) = 0 then 0 else 1 : Int)] M r M' := by
        obtain ⟨o_6, h⟩ := h
        refine r_istore_n (ls' := [some (vR (some (3, 0))), some (vI x1), some (vI x2), some (vI (if (aAnd (M.1 88 0 x4.toNat) x1) = 0 then 0 else 1 : Int)), some (vI x4)]) 33 dX12_isClear_32 rfl rfl rfl rfl ?_
        refine r_iinc (ls' := [some (vR (some (3, 0))), some (vI x1), some (vI x2), some (vI (if (aAnd (M.1 88 0 x4.toNat) x1) = 0 then 0 else 1 : Int)), some (vI (x4 + 1))]) 36 dX12_isClear_33 rfl rfl rfl rfl o_6 rfl ?_
        refine r_goto 5 dX12_isClear_36 rfl ?_
        exact h
      refine r_if_eq 27 31 dX12_isClear_24 rfl rfl (fun c => ?_) (fun c => ?_)
      · have c_5 := c
        refine r_iconst 32 dX12_isClear_31 rfl (InR_of rfl) ?_
        exact (Ex.at hJ_4 rfl (show [vI 0] = [vI (if (aAnd (M.1 88 0 x4.toNat) x1) = 0 then 0 else 1 : Int)] by simp only [if_pos c_5]) rfl)
      · have c_5 := c
        refine r_iconst 28 dX12_isClear_27 rfl (InR_of rfl) ?_
        refine r_goto 32 dX12_isClear_28 rfl ?_
        exact (Ex.at hJ_4 rfl (show [vI 1] = [vI (if (aAnd (M.1 88 0 x4.toNat) x1) = 0 then 0 else 1 : Int)] by simp only [if_neg c_5]) rfl)

set_option maxRecDepth 4000 in
theorem xX12_isLess_0 {l : Launch} {G : Gt} {d : Nat} {M M' : Mem} {r : Option Vl} {x1 : Int} {x2 : Int} {x3 : Int} (h : 
    ∃ (r_3 : Int) (M_1 : Mem), Cl l G d mX12_price [vR (some (3, 0)), vI x1, vI x3] M (some (vI r_3)) M_1 ∧ (∃ (r_6 : Int) (M_4 : Mem), Cl l G d mX12_price [vR (some (3, 0)), vI x2, vI x3] M_1 (some (vI r_6)) M_4 ∧ ((InR (r_3 - r_6)) ∧ (((r_3 - r_6) < 0 → r = some (vI 1) ∧ M' = M_4) ∧ (¬ ((r_3 - r_6) < 0) → (¬ ((r_3 - r_6) = 0) → r = some (vI 0) ∧ M' = M_4) ∧ ((r_3 - r_6) = 0 → ∃ (r_10 : Int) (M_8 : Mem), Cl l G d mX12_bits [vI x1] M_4 (some (vI r_10)) M_8 ∧ (∃ (r_13 : Int) (M_11 : Mem), Cl l G d mX12_bits [vI x2] M_8 (some (vI r_13)) M_11 ∧ ((((if r_13 ≤ r_10 then 0 else 1 : Int) = 0 ∨ (if r_13 ≤ r_10 then 0 else 1 : Int) = 1)) ∧ r = some (vI (if r_13 ≤ r_10 then 0 else 1 : Int)) ∧ M' = M_11)))))))) : Cl l G (d + 1) mX12_isLess [vR (some (3, 0)), vI x1, vI x2, vI x3] M r M' := by
  show Ex l G (d + 1) mX12_isLess 0 [some (vR (some (3, 0))), some (vI x1), some (vI x2), some (vI x3), none] [] M r M'
  refine r_aload_n 1 dX12_isLess_0 rfl rfl ?_
  refine r_iload_n 2 dX12_isLess_1 rfl rfl ?_
  refine r_iload_n 3 dX12_isLess_2 rfl rfl ?_
  obtain ⟨r_3, M_1, hc_2, h⟩ := h
  refine v_1 (ci := 12) (C := (RX12, TX12, 68)) [vI x1, vI x3] [] 6 dX12_isLess_3 rfl rfl rfl rfl rfl mo_X12_price ml_12_395 rfl rfl hc_2 ?_
  refine r_aload_n 7 dX12_isLess_6 rfl rfl ?_
  refine r_iload_n 8 dX12_isLess_7 rfl rfl ?_
  refine r_iload_n 9 dX12_isLess_8 rfl rfl ?_
  obtain ⟨r_6, M_4, hc_5, h⟩ := h
  refine v_1 (ci := 12) (C := (RX12, TX12, 68)) [vI x2, vI x3] [vI r_3] 12 dX12_isLess_9 rfl rfl rfl rfl rfl mo_X12_price ml_12_395 rfl rfl hc_5 ?_
  obtain ⟨o_7, h⟩ := h
  refine r_isub 13 dX12_isLess_12 rfl o_7 ?_
  refine r_istore (ls' := [some (vR (some (3, 0))), some (vI x1), some (vI x2), some (vI x3), some (vI (r_3 - r_6))]) 15 dX12_isLess_13 rfl rfl rfl rfl ?_
  refine r_iload 17 dX12_isLess_15 rfl rfl ?_
  refine r_if_lt 20 36 dX12_isLess_17 rfl rfl (fun c => ?_) (fun c => ?_)
  · have h := h.1 (c)
    refine r_iconst 37 dX12_isLess_36 rfl (InR_of rfl) ?_
    refine r_goto 41 dX12_isLess_37 rfl ?_
    exact r_iret dX12_isLess_41 rfl (.inr ⟨rfl, (.inr rfl)⟩) h.1 h.2
  · have h := h.2 (c)
    refine r_iload 22 dX12_isLess_20 rfl rfl ?_
    refine r_if_ne 25 40 dX12_isLess_22 rfl rfl (fun c => ?_) (fun c => ?_)
    · have h := h.1 (c)
      refine r_iconst 41 dX12_isLess_40 rfl (InR_of rfl) ?_
      exact r_iret dX12_isLess_41 rfl (.inr ⟨rfl, (.inl rfl)⟩) h.1 h.2
    · have h := h.2 (Decidable.not_not.mp c)
      refine r_iload_n 26 dX12_isLess_25 rfl rfl ?_
      obtain ⟨r_10, M_8, hc_9, h⟩ := h
      refine c_1 [vI x1] [] 29 dX12_isLess_26 rfl rfl mo_X12_bits ml_12_328 rfl rfl hc_9 ?_
      refine r_iload_n 30 dX12_isLess_29 rfl rfl ?_
      obtain ⟨r_13, M_11, hc_12, h⟩ := h
      refine c_1 [vI x2] [vI r_10] 33 dX12_isLess_30 rfl rfl mo_X12_bits ml_12_328 rfl rfl hc_12 ?_
      have hJ_14 : Ex l G (d + 1) mX12_isLess 41 [some (vR (some (3, 0))), some (vI x1), some (vI x2), some (vI x3), some (vI (r_3 - r_6))] [vI (if r_13 ≤ r_10 then 0 else 1 : Int)] M_11 r M' := by
        obtain ⟨o_16, h⟩ := h
        exact r_iret dX12_isLess_41 rfl (.inr ⟨rfl, o_16⟩) h.1 h.2
      refine r_icmp_ge 36 40 dX12_isLess_33 rfl rfl (fun c => ?_) (fun c => ?_)
      · have c_15 := c
        refine r_iconst 41 dX12_isLess_40 rfl (InR_of rfl) ?_
        exact (Ex.at hJ_14 rfl (show [vI 0] = [vI (if r_13 ≤ r_10 then 0 else 1 : Int)] by simp only [if_pos c_15]) rfl)
      · have c_15 := c
        refine r_iconst 37 dX12_isLess_36 rfl (InR_of rfl) ?_
        refine r_goto 41 dX12_isLess_37 rfl ?_
        exact (Ex.at hJ_14 rfl (show [vI 1] = [vI (if r_13 ≤ r_10 then 0 else 1 : Int)] by simp only [if_neg c_15]) rfl)

set_option maxRecDepth 4000 in
theorem xX12_cheapest_0 {l : Launch} {G : Gt} {d : Nat} {M M' : Mem} {r : Option Vl} {x1 : Int} {x2 : Int} {x3 : Int} {x4 : Int} {x5 : Int} (hS : Sh M.2.1) (h : 
    (InR ((M.1 48 0 0) - 1)) ∧ ((¬ (0 ≤ x1 ∧ x1 < (M.1 48 0 0)) → r = some (vI (-1)) ∧ M' = M) ∧ (0 ≤ x1 ∧ x1 < (M.1 48 0 0) → (InR ((M.1 48 0 0) - 1)) ∧ ((¬ (0 ≤ x2 ∧ x2 < (M.1 48 0 0)) → r = some (vI (-1)) ∧ M' = M) ∧ (0 ≤ x2 ∧ x2 < (M.1 48 0 0) → (x1 = x2 → r = some (vI (-1)) ∧ M' = M) ∧ (¬ (x1 = x2) → (¬ (0 ≤ x3 ∧ x3 ≤ 999) → r = some (vI (-1)) ∧ M' = M) ∧ (0 ≤ x3 ∧ x3 ≤ 999 → (¬ (0 ≤ x4 ∧ x4 ≤ 999) → r = some (vI (-1)) ∧ M' = M) ∧ (0 ≤ x4 ∧ x4 ≤ 999 → (InR (x4 - x3)) ∧ ((¬ (0 ≤ (x4 - x3) ∧ (x4 - x3) ≤ 30) → r = some (vI (-1)) ∧ M' = M) ∧ (0 ≤ (x4 - x3) ∧ (x4 - x3) ≤ 30 → (0 ≤ x5 ∧ x5 ≤ 4 → Ex l G (d + 2) mX12_cheapest 77 [some (vR (some (3, 0))), some (vI x1), some (vI x2), some (vI x3), some (vI x4), some (vI x5), some (vI 65535), some (vI 0), some (vI x3), none, none, none, none, none] [] M r M') ∧ (¬ (0 ≤ x5 ∧ x5 ≤ 4) → r = some (vI (-1)) ∧ M' = M))))))))))) : Cl l G (d + 2) mX12_cheapest [vR (some (3, 0)), vI x1, vI x2, vI x3, vI x4, vI x5] M r M' := by
  show Ex l G (d + 2) mX12_cheapest 0 [some (vR (some (3, 0))), some (vI x1), some (vI x2), some (vI x3), some (vI x4), some (vI x5), none, none, none, none, none, none, none, none] [] M r M'
  obtain ⟨o_1, h⟩ := h
  refine r_aload_n 1 dX12_cheapest_0 rfl rfl ?_
  refine r_iload_n 2 dX12_cheapest_1 rfl rfl ?_
  refine v_1 (ci := 12) (C := (RX12, TX12, 68)) [vI x1] [] 5 dX12_cheapest_2 rfl rfl rfl rfl rfl mo_X12_isPerson ml_12_175 rfl rfl (KX12_isPerson hS o_1) ?_
  refine r_if_eq 8 64 dX12_cheapest_5 rfl rfl (fun c => ?_) (fun c => ?_)
  · have h := h.1 (b2_0.mp c)
    refine r_iconst 65 dX12_cheapest_64 rfl (InR_of rfl) ?_
    exact r_iret dX12_cheapest_65 rfl (.inl rfl) h.1 h.2
  · have h := h.2 (b2_1.mp c)
    obtain ⟨o_2, h⟩ := h
    refine r_aload_n 9 dX12_cheapest_8 rfl rfl ?_
    refine r_iload_n 10 dX12_cheapest_9 rfl rfl ?_
    refine v_1 (ci := 12) (C := (RX12, TX12, 68)) [vI x2] [] 13 dX12_cheapest_10 rfl rfl rfl rfl rfl mo_X12_isPerson ml_12_175 rfl rfl (KX12_isPerson hS o_2) ?_
    refine r_if_eq 16 64 dX12_cheapest_13 rfl rfl (fun c => ?_) (fun c => ?_)
    · have h := h.1 (b2_0.mp c)
      refine r_iconst 65 dX12_cheapest_64 rfl (InR_of rfl) ?_
      exact r_iret dX12_cheapest_65 rfl (.inl rfl) h.1 h.2
    · have h := h.2 (b2_1.mp c)
      refine r_iload_n 17 dX12_cheapest_16 rfl rfl ?_
      refine r_iload_n 18 dX12_cheapest_17 rfl rfl ?_
      refine r_icmp_eq 21 64 dX12_cheapest_18 rfl rfl (fun c => ?_) (fun c => ?_)
      · have h := h.1 (c)
        refine r_iconst 65 dX12_cheapest_64 rfl (InR_of rfl) ?_
        exact r_iret dX12_cheapest_65 rfl (.inl rfl) h.1 h.2
      · have h := h.2 (c)
        refine r_iload_n 22 dX12_cheapest_21 rfl rfl ?_
        refine c_1 [vI x3] [] 25 dX12_cheapest_22 rfl rfl mo_X12_isDay ml_12_170 rfl rfl (KX12_isDay) ?_
        refine r_if_eq 28 64 dX12_cheapest_25 rfl rfl (fun c => ?_) (fun c => ?_)
        · have h := h.1 (b2_0.mp c)
          refine r_iconst 65 dX12_cheapest_64 rfl (InR_of rfl) ?_
          exact r_iret dX12_cheapest_65 rfl (.inl rfl) h.1 h.2
        · have h := h.2 (b2_1.mp c)
          refine r_iload 30 dX12_cheapest_28 rfl rfl ?_
          refine c_1 [vI x4] [] 33 dX12_cheapest_30 rfl rfl mo_X12_isDay ml_12_170 rfl rfl (KX12_isDay) ?_
          refine r_if_eq 36 64 dX12_cheapest_33 rfl rfl (fun c => ?_) (fun c => ?_)
          · have h := h.1 (b2_0.mp c)
            refine r_iconst 65 dX12_cheapest_64 rfl (InR_of rfl) ?_
            exact r_iret dX12_cheapest_65 rfl (.inl rfl) h.1 h.2
          · have h := h.2 (b2_1.mp c)
            obtain ⟨o_3, h⟩ := h
            refine r_iload 38 dX12_cheapest_36 rfl rfl ?_
            refine r_iload_n 39 dX12_cheapest_38 rfl rfl ?_
            refine r_isub 40 dX12_cheapest_39 rfl o_3 ?_
            refine r_i2l 41 dX12_cheapest_40 rfl ?_
            refine r_lconst (x := 0) 42 dX12_cheapest_41 rfl (by decide +kernel) (InR_of rfl) ?_
            refine r_ldc2 (n := 30) 45 dX12_cheapest_42 rfl (inT7 (List.mem_of_getElem? (i := 118) rfl) rfl) (by decide +kernel) (InR_of rfl) ?_
            refine c_1 [vL (x4 - x3), vL 0, vL 30] [] 48 dX12_cheapest_45 rfl rfl mo_X12_in ml_12_154 rfl rfl (KX12_in) ?_
            refine r_if_eq 51 64 dX12_cheapest_48 rfl rfl (fun c => ?_) (fun c => ?_)
            · have h := h.1 (b2_0.mp c)
              refine r_iconst 65 dX12_cheapest_64 rfl (InR_of rfl) ?_
              exact r_iret dX12_cheapest_65 rfl (.inl rfl) h.1 h.2
            · have h := h.2 (b2_1.mp c)
              refine r_iload 53 dX12_cheapest_51 rfl rfl ?_
              refine r_i2l 54 dX12_cheapest_53 rfl ?_
              refine r_lconst (x := 0) 55 dX12_cheapest_54 rfl (by decide +kernel) (InR_of rfl) ?_
              refine r_ldc2 (n := 4) 58 dX12_cheapest_55 rfl (inT7 (List.mem_of_getElem? (i := 119) rfl) rfl) (by decide +kernel) (InR_of rfl) ?_
              refine c_1 [vL x5, vL 0, vL 4] [] 61 dX12_cheapest_58 rfl rfl mo_X12_in ml_12_154 rfl rfl (KX12_in) ?_
              refine r_if_ne 64 66 dX12_cheapest_61 rfl rfl (fun c => ?_) (fun c => ?_)
              · have h := h.1 (b2_1.mp c)
                refine r_ldcw (n := 65535) 69 dX12_cheapest_66 rfl (inT7 (List.mem_of_getElem? (i := 120) rfl) rfl) (by decide +kernel) (InR_of rfl) ?_
                refine r_istore (ls' := [some (vR (some (3, 0))), some (vI x1), some (vI x2), some (vI x3), some (vI x4), some (vI x5), some (vI 65535), none, none, none, none, none, none, none]) 71 dX12_cheapest_69 rfl rfl rfl rfl ?_
                refine r_iconst 72 dX12_cheapest_71 rfl (InR_of rfl) ?_
                refine r_istore (ls' := [some (vR (some (3, 0))), some (vI x1), some (vI x2), some (vI x3), some (vI x4), some (vI x5), some (vI 65535), some (vI 0), none, none, none, none, none, none]) 74 dX12_cheapest_72 rfl rfl rfl rfl ?_
                refine r_iload_n 75 dX12_cheapest_74 rfl rfl ?_
                refine r_istore (ls' := [some (vR (some (3, 0))), some (vI x1), some (vI x2), some (vI x3), some (vI x4), some (vI x5), some (vI 65535), some (vI 0), some (vI x3), none, none, none, none, none]) 77 dX12_cheapest_75 rfl rfl rfl rfl ?_
                exact h
              · have h := h.2 (b2_0.mp (Decidable.not_not.mp c))
                refine r_iconst 65 dX12_cheapest_64 rfl (InR_of rfl) ?_
                exact r_iret dX12_cheapest_65 rfl (.inl rfl) h.1 h.2
set_option maxRecDepth 4000 in
theorem xX12_cheapest_77 {l : Launch} {G : Gt} {d : Nat} {M M' : Mem} {r : Option Vl} {x1 : Int} {x2 : Int} {x3 : Int} {x4 : Int} {x5 : Int} {x6 : Int} {x7 : Int} {x8 : Int} (h : 
    (x4 < x8 → Ex l G (d + 2) mX12_cheapest 142 [some (vR (some (3, 0))), some (vI x1), some (vI x2), some (vI x3), some (vI x4), some (vI x5), some (vI x6), some (vI x7), some (vI (aAnd 65535 (aXor x7 (-1)))), some (vI (aOr x6 (aAnd 65535 (aXor x7 (-1))))), some (vI 0), some (vI x3), none, none] [] M r M') ∧ (¬ (x4 < x8) → ∃ (M_1 : Mem), Cl l G (d + 1) mX12_lays [vR (some (3, 0)), vI 1, vI x8] M none M_1 ∧ (∃ (r_5 : Int) (M_3 : Mem), Cl l G (d + 1) mX12_wordsOf [vR (some (3, 0)), vI x2, vI x1] M_1 (some (vI r_5)) M_3 ∧ (∃ (r_8 : Int) (M_6 : Mem), Cl l G (d + 1) mX12_wordsOf [vR (some (3, 0)), vI x2, vI x1] M_3 (some (vI r_8)) M_6 ∧ (InR (x8 + 1)) ∧ Ex l G (d + 2) mX12_cheapest 77 [some (vR (some (3, 0))), some (vI x1), some (vI x2), some (vI x3), some (vI x4), some (vI x5), some (vI (aAnd x6 r_5)), some (vI (aOr x7 r_8)), some (vI (x8 + 1)), none, none, none, none, none] [] M_6 r M')))) : Ex l G (d + 2) mX12_cheapest 77 [some (vR (some (3, 0))), some (vI x1), some (vI x2), some (vI x3), some (vI x4), some (vI x5), some (vI x6), some (vI x7), some (vI x8), none, none, none, none, none] [] M r M' := by
  refine r_iload 79 dX12_cheapest_77 rfl rfl ?_
  refine r_iload 81 dX12_cheapest_79 rfl rfl ?_
  refine r_icmp_gt 84 119 dX12_cheapest_81 rfl rfl (fun c => ?_) (fun c => ?_)
  · have h := h.1 (c)
    refine r_ldcw (n := 65535) 122 dX12_cheapest_119 rfl (inT7 (List.mem_of_getElem? (i := 120) rfl) rfl) (by decide +kernel) (InR_of rfl) ?_
    refine r_iload 124 dX12_cheapest_122 rfl rfl ?_
    refine r_iconst 125 dX12_cheapest_124 rfl (InR_of rfl) ?_
    refine r_ixor 126 dX12_cheapest_125 rfl ?_
    refine r_iand 127 dX12_cheapest_126 rfl ?_
    refine r_istore (ls' := [some (vR (some (3, 0))), some (vI x1), some (vI x2), some (vI x3), some (vI x4), some (vI x5), some (vI x6), some (vI x7), some (vI (aAnd 65535 (aXor x7 (-1)))), none, none, none, none, none]) 129 dX12_cheapest_127 rfl rfl rfl rfl ?_
    refine r_iload 131 dX12_cheapest_129 rfl rfl ?_
    refine r_iload 133 dX12_cheapest_131 rfl rfl ?_
    refine r_ior 134 dX12_cheapest_133 rfl ?_
    refine r_istore (ls' := [some (vR (some (3, 0))), some (vI x1), some (vI x2), some (vI x3), some (vI x4), some (vI x5), some (vI x6), some (vI x7), some (vI (aAnd 65535 (aXor x7 (-1)))), some (vI (aOr x6 (aAnd 65535 (aXor x7 (-1))))), none, none, none, none]) 136 dX12_cheapest_134 rfl rfl rfl rfl ?_
    refine r_iconst 137 dX12_cheapest_136 rfl (InR_of rfl) ?_
    refine r_istore (ls' := [some (vR (some (3, 0))), some (vI x1), some (vI x2), some (vI x3), some (vI x4), some (vI x5), some (vI x6), some (vI x7), some (vI (aAnd 65535 (aXor x7 (-1)))), some (vI (aOr x6 (aAnd 65535 (aXor x7 (-1))))), some (vI 0), none, none, none]) 139 dX12_cheapest_137 rfl rfl rfl rfl ?_
    refine r_iload_n 140 dX12_cheapest_139 rfl rfl ?_
    refine r_istore (ls' := [some (vR (some (3, 0))), some (vI x1), some (vI x2), some (vI x3), some (vI x4), some (vI x5), some (vI x6), some (vI x7), some (vI (aAnd 65535 (aXor x7 (-1)))), some (vI (aOr x6 (aAnd 65535 (aXor x7 (-1))))), some (vI 0), some (vI x3), none, none]) 142 dX12_cheapest_140 rfl rfl rfl rfl ?_
    exact h
  · have h := h.2 (c)
    refine r_aload_n 85 dX12_cheapest_84 rfl rfl ?_
    refine r_iconst 86 dX12_cheapest_85 rfl (InR_of rfl) ?_
    refine r_iload 88 dX12_cheapest_86 rfl rfl ?_
    obtain ⟨M_1, hc_2, h⟩ := h
    refine v_0 (ci := 12) (C := (RX12, TX12, 68)) [vI 1, vI x8] [] 91 dX12_cheapest_88 rfl rfl rfl rfl rfl mo_X12_lays ml_12_198 rfl rfl hc_2 ?_
    refine r_iload 93 dX12_cheapest_91 rfl rfl ?_
    refine r_aload_n 94 dX12_cheapest_93 rfl rfl ?_
    refine r_iload_n 95 dX12_cheapest_94 rfl rfl ?_
    refine r_iload_n 96 dX12_cheapest_95 rfl rfl ?_
    obtain ⟨r_5, M_3, hc_4, h⟩ := h
    refine v_1 (ci := 12) (C := (RX12, TX12, 68)) [vI x2, vI x1] [vI x6] 99 dX12_cheapest_96 rfl rfl rfl rfl rfl mo_X12_wordsOf ml_12_384 rfl rfl hc_4 ?_
    refine r_iand 100 dX12_cheapest_99 rfl ?_
    refine r_istore (ls' := [some (vR (some (3, 0))), some (vI x1), some (vI x2), some (vI x3), some (vI x4), some (vI x5), some (vI (aAnd x6 r_5)), some (vI x7), some (vI x8), none, none, none, none, none]) 102 dX12_cheapest_100 rfl rfl rfl rfl ?_
    refine r_iload 104 dX12_cheapest_102 rfl rfl ?_
    refine r_aload_n 105 dX12_cheapest_104 rfl rfl ?_
    refine r_iload_n 106 dX12_cheapest_105 rfl rfl ?_
    refine r_iload_n 107 dX12_cheapest_106 rfl rfl ?_
    obtain ⟨r_8, M_6, hc_7, h⟩ := h
    refine v_1 (ci := 12) (C := (RX12, TX12, 68)) [vI x2, vI x1] [vI x7] 110 dX12_cheapest_107 rfl rfl rfl rfl rfl mo_X12_wordsOf ml_12_384 rfl rfl hc_7 ?_
    obtain ⟨o_9, h⟩ := h
    refine r_ior 111 dX12_cheapest_110 rfl ?_
    refine r_istore (ls' := [some (vR (some (3, 0))), some (vI x1), some (vI x2), some (vI x3), some (vI x4), some (vI x5), some (vI (aAnd x6 r_5)), some (vI (aOr x7 r_8)), some (vI x8), none, none, none, none, none]) 113 dX12_cheapest_111 rfl rfl rfl rfl ?_
    refine r_iinc (ls' := [some (vR (some (3, 0))), some (vI x1), some (vI x2), some (vI x3), some (vI x4), some (vI x5), some (vI (aAnd x6 r_5)), some (vI (aOr x7 r_8)), some (vI (x8 + 1)), none, none, none, none, none]) 116 dX12_cheapest_113 rfl rfl rfl rfl o_9 rfl ?_
    refine r_goto 77 dX12_cheapest_116 rfl ?_
    exact h
set_option maxRecDepth 4000 in
theorem xX12_cheapest_142 {l : Launch} {G : Gt} {d : Nat} {M M' : Mem} {r : Option Vl} {x1 : Int} {x2 : Int} {x3 : Int} {x4 : Int} {x5 : Int} {x6 : Int} {x7 : Int} {x8 : Int} {x9 : Int} {x10 : Int} {x11 : Int} (hS : Sh M.2.1) (h : 
    (x4 < x11 → (InR ((M.1 48 0 0) - 1)) ∧ Ex l G (d + 2) mX12_cheapest 224 [some (vR (some (3, 0))), some (vI x1), some (vI x2), some (vI x3), some (vI x4), some (vI x5), some (vI x6), some (vI x7), some (vI x8), some (vI x9), some (vI x10), some (vI ((M.1 48 0 0) - 1)), some (vI 0), none] [] M r M') ∧ (¬ (x4 < x11) → ∃ (M_2 : Mem), Cl l G (d + 1) mX12_lays [vR (some (3, 0)), vI 1, vI x11] M none M_2 ∧ Ex l G (d + 2) mX12_cheapest 159 [some (vR (some (3, 0))), some (vI x1), some (vI x2), some (vI x3), some (vI x4), some (vI x5), some (vI x6), some (vI x7), some (vI x8), some (vI x9), some (vI x10), some (vI x11), some (vI 0), none] [] M_2 r M')) : Ex l G (d + 2) mX12_cheapest 142 [some (vR (some (3, 0))), some (vI x1), some (vI x2), some (vI x3), some (vI x4), some (vI x5), some (vI x6), some (vI x7), some (vI x8), some (vI x9), some (vI x10), some (vI x11), none, none] [] M r M' := by
  refine r_iload 144 dX12_cheapest_142 rfl rfl ?_
  refine r_iload 146 dX12_cheapest_144 rfl rfl ?_
  refine r_icmp_gt 149 211 dX12_cheapest_146 rfl rfl (fun c => ?_) (fun c => ?_)
  · have h := h.1 (c)
    obtain ⟨o_1, h⟩ := h
    refine r_aload_n 212 dX12_cheapest_211 rfl rfl ?_
    refine g_R 215 dX12_cheapest_212 rfl rfl rfl fr_12_7 (sh_12_1 hS) ?_
    refine r_iconst 216 dX12_cheapest_215 rfl (InR_of rfl) ?_
    refine a_I 6 217 dX12_cheapest_216 rfl rfl rfl rfl ⟨by decide, by decide⟩ rfl ?_
    refine r_iconst 218 dX12_cheapest_217 rfl (InR_of rfl) ?_
    refine r_isub 219 dX12_cheapest_218 rfl o_1 ?_
    refine r_istore (ls' := [some (vR (some (3, 0))), some (vI x1), some (vI x2), some (vI x3), some (vI x4), some (vI x5), some (vI x6), some (vI x7), some (vI x8), some (vI x9), some (vI x10), some (vI ((M.1 48 0 0) - 1)), none, none]) 221 dX12_cheapest_219 rfl rfl rfl rfl ?_
    refine r_iconst 222 dX12_cheapest_221 rfl (InR_of rfl) ?_
    refine r_istore (ls' := [some (vR (some (3, 0))), some (vI x1), some (vI x2), some (vI x3), some (vI x4), some (vI x5), some (vI x6), some (vI x7), some (vI x8), some (vI x9), some (vI x10), some (vI ((M.1 48 0 0) - 1)), some (vI 0), none]) 224 dX12_cheapest_222 rfl rfl rfl rfl ?_
    exact h
  · have h := h.2 (c)
    refine r_aload_n 150 dX12_cheapest_149 rfl rfl ?_
    refine r_iconst 151 dX12_cheapest_150 rfl (InR_of rfl) ?_
    refine r_iload 153 dX12_cheapest_151 rfl rfl ?_
    obtain ⟨M_2, hc_3, h⟩ := h
    refine v_0 (ci := 12) (C := (RX12, TX12, 68)) [vI 1, vI x11] [] 156 dX12_cheapest_153 rfl rfl rfl rfl rfl mo_X12_lays ml_12_198 rfl rfl hc_3 ?_
    refine r_iconst 157 dX12_cheapest_156 rfl (InR_of rfl) ?_
    refine r_istore (ls' := [some (vR (some (3, 0))), some (vI x1), some (vI x2), some (vI x3), some (vI x4), some (vI x5), some (vI x6), some (vI x7), some (vI x8), some (vI x9), some (vI x10), some (vI x11), some (vI 0), none]) 159 dX12_cheapest_157 rfl rfl rfl rfl ?_
    exact h
set_option maxRecDepth 4000 in
theorem xX12_cheapest_159 {l : Launch} {G : Gt} {d : Nat} {M M' : Mem} {r : Option Vl} {x1 : Int} {x2 : Int} {x3 : Int} {x4 : Int} {x5 : Int} {x6 : Int} {x7 : Int} {x8 : Int} {x9 : Int} {x10 : Int} {x11 : Int} {x12 : Int} (hS : Sh M.2.1) (h : 
    ((M.1 48 0 0) ≤ x12 → (InR (x11 + 1)) ∧ Ex l G (d + 2) mX12_cheapest 142 [some (vR (some (3, 0))), some (vI x1), some (vI x2), some (vI x3), some (vI x4), some (vI x5), some (vI x6), some (vI x7), some (vI x8), some (vI x9), some (vI x10), some (vI (x11 + 1)), none, none] [] M r M') ∧ (¬ ((M.1 48 0 0) ≤ x12) → (x12 = x2 → (InR (x12 + 1)) ∧ Ex l G (d + 2) mX12_cheapest 159 [some (vR (some (3, 0))), some (vI x1), some (vI x2), some (vI x3), some (vI x4), some (vI x5), some (vI x6), some (vI x7), some (vI x8), some (vI x9), some (vI x10), some (vI x11), some (vI (x12 + 1)), none] [] M r M') ∧ (¬ (x12 = x2) → ∃ (r_5 : Int) (M_3 : Mem), Cl l G (d + 1) mX12_wordsOf [vR (some (3, 0)), vI x12, vI x1] M (some (vI r_5)) M_3 ∧ ((0 ≤ x10 ∧ x10 < 372) ∧ InR (x10 + 1) ∧ InR (x12 + 1)) ∧ Ex l G (d + 2) mX12_cheapest 159 [some (vR (some (3, 0))), some (vI x1), some (vI x2), some (vI x3), some (vI x4), some (vI x5), some (vI x6), some (vI x7), some (vI x8), some (vI x9), some (vI (x10 + 1)), some (vI x11), some (vI (x12 + 1)), none] [] ((upI M_3.1 88 0 x10.toNat (aAnd x9 (aXor r_5 x6))), M_3.2.1, M_3.2.2) r M'))) : Ex l G (d + 2) mX12_cheapest 159 [some (vR (some (3, 0))), some (vI x1), some (vI x2), some (vI x3), some (vI x4), some (vI x5), some (vI x6), some (vI x7), some (vI x8), some (vI x9), some (vI x10), some (vI x11), some (vI x12), none] [] M r M' := by
  refine r_iload 161 dX12_cheapest_159 rfl rfl ?_
  refine r_aload_n 162 dX12_cheapest_161 rfl rfl ?_
  refine g_R 165 dX12_cheapest_162 rfl rfl rfl fr_12_7 (sh_12_1 hS) ?_
  refine r_iconst 166 dX12_cheapest_165 rfl (InR_of rfl) ?_
  refine a_I 6 167 dX12_cheapest_166 rfl rfl rfl rfl ⟨by decide, by decide⟩ rfl ?_
  refine r_icmp_ge 170 205 dX12_cheapest_167 rfl rfl (fun c => ?_) (fun c => ?_)
  · have h := h.1 (c)
    obtain ⟨o_1, h⟩ := h
    refine r_iinc (ls' := [some (vR (some (3, 0))), some (vI x1), some (vI x2), some (vI x3), some (vI x4), some (vI x5), some (vI x6), some (vI x7), some (vI x8), some (vI x9), some (vI x10), some (vI (x11 + 1)), some (vI x12), none]) 208 dX12_cheapest_205 rfl rfl rfl rfl o_1 rfl ?_
    refine r_goto 142 dX12_cheapest_208 rfl ?_
    exact Ex.weak h ⟨rfl, rfl, rfl, rfl, rfl, rfl, rfl, rfl, rfl, rfl, rfl, rfl, trivial⟩
  · have h := h.2 (c)
    refine r_iload 172 dX12_cheapest_170 rfl rfl ?_
    refine r_iload_n 173 dX12_cheapest_172 rfl rfl ?_
    refine r_icmp_eq 176 199 dX12_cheapest_173 rfl rfl (fun c => ?_) (fun c => ?_)
    · have h := h.1 (c)
      obtain ⟨o_2, h⟩ := h
      refine r_iinc (ls' := [some (vR (some (3, 0))), some (vI x1), some (vI x2), some (vI x3), some (vI x4), some (vI x5), some (vI x6), some (vI x7), some (vI x8), some (vI x9), some (vI x10), some (vI x11), some (vI (x12 + 1)), none]) 202 dX12_cheapest_199 rfl rfl rfl rfl o_2 rfl ?_
      refine r_goto 159 dX12_cheapest_202 rfl ?_
      exact h
    · have h := h.2 (c)
      refine r_aload_n 177 dX12_cheapest_176 rfl rfl ?_
      refine g_R 180 dX12_cheapest_177 rfl rfl rfl fr_12_132 (sh_12_54 hS) ?_
      refine r_iload 182 dX12_cheapest_180 rfl rfl ?_
      refine r_iload 184 dX12_cheapest_182 rfl rfl ?_
      refine r_aload_n 185 dX12_cheapest_184 rfl rfl ?_
      refine r_iload 187 dX12_cheapest_185 rfl rfl ?_
      refine r_iload_n 188 dX12_cheapest_187 rfl rfl ?_
      obtain ⟨r_5, M_3, hc_4, h⟩ := h
      refine v_1 (ci := 12) (C := (RX12, TX12, 68)) [vI x12, vI x1] [vI x9, vI x10, vR (some (88, 0))] 191 dX12_cheapest_188 rfl rfl rfl rfl rfl mo_X12_wordsOf ml_12_384 rfl rfl hc_4 ?_
      obtain ⟨⟨o_6, o_7, o_8⟩, h⟩ := h
      refine r_iload 193 dX12_cheapest_191 rfl rfl ?_
      refine r_ixor 194 dX12_cheapest_193 rfl ?_
      refine r_iand 195 dX12_cheapest_194 rfl ?_
      refine s_I 372 196 dX12_cheapest_195 rfl rfl (by decide) rfl rfl o_6 ?_
      refine r_iinc (ls' := [some (vR (some (3, 0))), some (vI x1), some (vI x2), some (vI x3), some (vI x4), some (vI x5), some (vI x6), some (vI x7), some (vI x8), some (vI x9), some (vI (x10 + 1)), some (vI x11), some (vI x12), none]) 199 dX12_cheapest_196 rfl rfl rfl rfl o_7 rfl ?_
      refine r_iinc (ls' := [some (vR (some (3, 0))), some (vI x1), some (vI x2), some (vI x3), some (vI x4), some (vI x5), some (vI x6), some (vI x7), some (vI x8), some (vI x9), some (vI (x10 + 1)), some (vI x11), some (vI (x12 + 1)), none]) 202 dX12_cheapest_199 rfl rfl rfl rfl o_8 rfl ?_
      refine r_goto 159 dX12_cheapest_202 rfl ?_
      exact h
set_option maxRecDepth 4000 in
theorem xX12_cheapest_224 {l : Launch} {G : Gt} {d : Nat} {M M' : Mem} {r : Option Vl} {x1 : Int} {x2 : Int} {x3 : Int} {x4 : Int} {x5 : Int} {x6 : Int} {x7 : Int} {x8 : Int} {x9 : Int} {x10 : Int} {x11 : Int} {x12 : Int} (hS : Sh M.2.1) (h : 
    (x10 ≤ x12 → Ex l G (d + 2) mX12_cheapest 303 [some (vR (some (3, 0))), some (vI x1), some (vI x2), some (vI x3), some (vI x4), some (vI x5), some (vI x6), some (vI x7), some (vI x8), some (vI x9), some (vI x10), some (vI x11), some (vI (-1)), some (vI 0)] [] M r M') ∧ (¬ (x10 ≤ x12) → ((0 ≤ x12 ∧ x12 < 372)) ∧ ((¬ ((M.1 88 0 x12.toNat) = 0) → (InR (x12 + 1)) ∧ Ex l G (d + 2) mX12_cheapest 224 [some (vR (some (3, 0))), some (vI x1), some (vI x2), some (vI x3), some (vI x4), some (vI x5), some (vI x6), some (vI x7), some (vI x8), some (vI x9), some (vI x10), some (vI x11), some (vI (x12 + 1)), none] [] M r M') ∧ ((M.1 88 0 x12.toNat) = 0 → ((0 ≤ x12 ∧ 0 < x11)) ∧ (((3 ≤ x5 → (¬ (x5 = 3) → (x2 ≤ (x12 % x11) → (InR ((x12 % x11) + 1)))) ∧ (x5 = 3 → ((0 ≤ x12 ∧ 0 < x11) ∧ InR (x3 + (x12 / x11)))))) ∧ r = some (vI (if 3 ≤ x5 then (if x5 = 3 then (x3 + (x12 / x11)) else (if x2 ≤ (x12 % x11) then ((x12 % x11) + 1) else (x12 % x11) : Int) : Int) else (-2) : Int)) ∧ M' = M))))) : Ex l G (d + 2) mX12_cheapest 224 [some (vR (some (3, 0))), some (vI x1), some (vI x2), some (vI x3), some (vI x4), some (vI x5), some (vI x6), some (vI x7), some (vI x8), some (vI x9), some (vI x10), some (vI x11), some (vI x12), none] [] M r M' := by
  refine r_iload 226 dX12_cheapest_224 rfl rfl ?_
  refine r_iload 228 dX12_cheapest_226 rfl rfl ?_
  refine r_icmp_ge 231 297 dX12_cheapest_228 rfl rfl (fun c => ?_) (fun c => ?_)
  · have h := h.1 (c)
    refine r_iconst 298 dX12_cheapest_297 rfl (InR_of rfl) ?_
    refine r_istore (ls' := [some (vR (some (3, 0))), some (vI x1), some (vI x2), some (vI x3), some (vI x4), some (vI x5), some (vI x6), some (vI x7), some (vI x8), some (vI x9), some (vI x10), some (vI x11), some (vI (-1)), none]) 300 dX12_cheapest_298 rfl rfl rfl rfl ?_
    refine r_iconst 301 dX12_cheapest_300 rfl (InR_of rfl) ?_
    refine r_istore (ls' := [some (vR (some (3, 0))), some (vI x1), some (vI x2), some (vI x3), some (vI x4), some (vI x5), some (vI x6), some (vI x7), some (vI x8), some (vI x9), some (vI x10), some (vI x11), some (vI (-1)), some (vI 0)]) 303 dX12_cheapest_301 rfl rfl rfl rfl ?_
    exact h
  · have h := h.2 (c)
    obtain ⟨o_1, h⟩ := h
    refine r_aload_n 232 dX12_cheapest_231 rfl rfl ?_
    refine g_R 235 dX12_cheapest_232 rfl rfl rfl fr_12_132 (sh_12_54 hS) ?_
    refine r_iload 237 dX12_cheapest_235 rfl rfl ?_
    refine a_I 372 238 dX12_cheapest_237 rfl rfl rfl rfl o_1 rfl ?_
    refine r_if_ne 241 291 dX12_cheapest_238 rfl rfl (fun c => ?_) (fun c => ?_)
    · have h := h.1 (c)
      obtain ⟨o_2, h⟩ := h
      refine r_iinc (ls' := [some (vR (some (3, 0))), some (vI x1), some (vI x2), some (vI x3), some (vI x4), some (vI x5), some (vI x6), some (vI x7), some (vI x8), some (vI x9), some (vI x10), some (vI x11), some (vI (x12 + 1)), none]) 294 dX12_cheapest_291 rfl rfl rfl rfl o_2 rfl ?_
      refine r_goto 224 dX12_cheapest_294 rfl ?_
      exact h
    · have h := h.2 (Decidable.not_not.mp c)
      obtain ⟨o_3, h⟩ := h
      refine r_iload 243 dX12_cheapest_241 rfl rfl ?_
      refine r_iload 245 dX12_cheapest_243 rfl rfl ?_
      refine r_irem 246 dX12_cheapest_245 rfl o_3 ?_
      refine r_istore (ls' := [some (vR (some (3, 0))), some (vI x1), some (vI x2), some (vI x3), some (vI x4), some (vI x5), some (vI x6), some (vI x7), some (vI x8), some (vI x9), some (vI x10), some (vI x11), some (vI x12), some (vI (x12 % x11))]) 248 dX12_cheapest_246 rfl rfl rfl rfl ?_
      refine r_iload 250 dX12_cheapest_248 rfl rfl ?_
      refine r_iconst 251 dX12_cheapest_250 rfl (InR_of rfl) ?_
      obtain ⟨h0, h⟩ := h
      have hJ_4 : Ex l G (d + 2) mX12_cheapest 290 [some (vR (some (3, 0))), some (vI x1), some (vI x2), some (vI x3), some (vI x4), some (vI x5), some (vI x6), some (vI x7), some (vI x8), some (vI x9), some (vI x10), some (vI x11), some (vI x12), some (vI (x12 % x11))] [vI (if 3 ≤ x5 then (if x5 = 3 then (x3 + (x12 / x11)) else (if x2 ≤ (x12 % x11) then ((x12 % x11) + 1) else (x12 % x11) : Int) : Int) else (-2) : Int)] M r M' := by
        exact r_iret dX12_cheapest_290 rfl (.inl rfl) h.1 h.2
      have h := h0
      refine r_icmp_ge 254 259 dX12_cheapest_251 rfl rfl (fun c => ?_) (fun c => ?_)
      · have c_5 := c
        have h := h c_5
        refine r_iload 261 dX12_cheapest_259 rfl rfl ?_
        refine r_iconst 262 dX12_cheapest_261 rfl (InR_of rfl) ?_
        refine r_icmp_ne 265 275 dX12_cheapest_262 rfl rfl (fun c => ?_) (fun c => ?_)
        · have c_6 := c
          have h := h.1 c_6
          refine r_iload 277 dX12_cheapest_275 rfl rfl ?_
          refine r_iload_n 278 dX12_cheapest_277 rfl rfl ?_
          refine r_icmp_ge 281 286 dX12_cheapest_278 rfl rfl (fun c => ?_) (fun c => ?_)
          · have c_7 := c
            have h := h c_7
            have o_8 := h
            refine r_iload 288 dX12_cheapest_286 rfl rfl ?_
            refine r_iconst 289 dX12_cheapest_288 rfl (InR_of rfl) ?_
            refine r_iadd 290 dX12_cheapest_289 rfl o_8 ?_
            exact (Ex.at hJ_4 rfl (show [vI ((x12 % x11) + 1)] = [vI (if 3 ≤ x5 then (if x5 = 3 then (x3 + (x12 / x11)) else (if x2 ≤ (x12 % x11) then ((x12 % x11) + 1) else (x12 % x11) : Int) : Int) else (-2) : Int)] by simp only [if_pos c_5, if_neg c_6, if_pos c_7]) rfl)
          · have c_7 := c
            refine r_iload 283 dX12_cheapest_281 rfl rfl ?_
            refine r_goto 290 dX12_cheapest_283 rfl ?_
            exact (Ex.at hJ_4 rfl (show [vI (x12 % x11)] = [vI (if 3 ≤ x5 then (if x5 = 3 then (x3 + (x12 / x11)) else (if x2 ≤ (x12 % x11) then ((x12 % x11) + 1) else (x12 % x11) : Int) : Int) else (-2) : Int)] by simp only [if_pos c_5, if_neg c_6, if_neg c_7]) rfl)
        · have c_6 := Decidable.not_not.mp c
          have h := h.2 c_6
          obtain ⟨o_9, o_10⟩ := h
          refine r_iload_n 266 dX12_cheapest_265 rfl rfl ?_
          refine r_iload 268 dX12_cheapest_266 rfl rfl ?_
          refine r_iload 270 dX12_cheapest_268 rfl rfl ?_
          refine r_idiv 271 dX12_cheapest_270 rfl o_9 ?_
          refine r_iadd 272 dX12_cheapest_271 rfl o_10 ?_
          refine r_goto 290 dX12_cheapest_272 rfl ?_
          exact (Ex.at hJ_4 rfl (show [vI (x3 + (x12 / x11))] = [vI (if 3 ≤ x5 then (if x5 = 3 then (x3 + (x12 / x11)) else (if x2 ≤ (x12 % x11) then ((x12 % x11) + 1) else (x12 % x11) : Int) : Int) else (-2) : Int)] by simp only [if_pos c_5, if_pos c_6]) rfl)
      · have c_5 := c
        refine r_bipush 256 dX12_cheapest_254 rfl rfl ?_
        refine r_goto 290 dX12_cheapest_256 rfl ?_
        exact (Ex.at hJ_4 rfl (show [vI (-2)] = [vI (if 3 ≤ x5 then (if x5 = 3 then (x3 + (x12 / x11)) else (if x2 ≤ (x12 % x11) then ((x12 % x11) + 1) else (x12 % x11) : Int) : Int) else (-2) : Int)] by simp only [if_neg c_5]) rfl)
set_option maxRecDepth 4000 in
theorem xX12_cheapest_303 {l : Launch} {G : Gt} {d : Nat} {M M' : Mem} {r : Option Vl} {x1 : Int} {x2 : Int} {x3 : Int} {x4 : Int} {x5 : Int} {x6 : Int} {x7 : Int} {x8 : Int} {x9 : Int} {x10 : Int} {x11 : Int} {x12 : Int} {x13 : Int} (h : 
    (65536 ≤ x13 → (¬ (x5 = 0) → r = some (vI (if x5 = 1 then x12 else (if x5 = 2 then (aAnd x12 x8) else (-2) : Int) : Int)) ∧ M' = M) ∧ (x5 = 0 → ∃ (r_6 : Int) (M_4 : Mem), Cl l G (d + 1) mX12_price [vR (some (3, 0)), vI x12, vI x8] M (some (vI r_6)) M_4 ∧ r = some (vI r_6) ∧ M' = M_4)) ∧ (¬ (65536 ≤ x13) → (¬ ((aAnd x13 (aXor x9 (-1))) = 0) → (InR (x13 + 1)) ∧ Ex l G (d + 2) mX12_cheapest 303 [some (vR (some (3, 0))), some (vI x1), some (vI x2), some (vI x3), some (vI x4), some (vI x5), some (vI x6), some (vI x7), some (vI x8), some (vI x9), some (vI x10), some (vI x11), some (vI x12), some (vI (x13 + 1))] [] M r M') ∧ ((aAnd x13 (aXor x9 (-1))) = 0 → ∃ (r_10 : Int) (M_8 : Mem), Cl l G (d + 1) mX12_isClear [vR (some (3, 0)), vI x13, vI x10] M (some (vI r_10)) M_8 ∧ ((r_10 = 0 → (InR (x13 + 1)) ∧ Ex l G (d + 2) mX12_cheapest 303 [some (vR (some (3, 0))), some (vI x1), some (vI x2), some (vI x3), some (vI x4), some (vI x5), some (vI x6), some (vI x7), some (vI x8), some (vI x9), some (vI x10), some (vI x11), some (vI x12), some (vI (x13 + 1))] [] M_8 r M') ∧ (¬ (r_10 = 0) → (x12 = (-1) → (InR (x13 + 1)) ∧ Ex l G (d + 2) mX12_cheapest 303 [some (vR (some (3, 0))), some (vI x1), some (vI x2), some (vI x3), some (vI x4), some (vI x5), some (vI x6), some (vI x7), some (vI x8), some (vI x9), some (vI x10), some (vI x11), some (vI x13), some (vI (x13 + 1))] [] M_8 r M') ∧ (¬ (x12 = (-1)) → ∃ (r_15 : Int) (M_13 : Mem), Cl l G (d + 1) mX12_isLess [vR (some (3, 0)), vI x13, vI x12, vI x8] M_8 (some (vI r_15)) M_13 ∧ (InR (x13 + 1)) ∧ Ex l G (d + 2) mX12_cheapest 303 [some (vR (some (3, 0))), some (vI x1), some (vI x2), some (vI x3), some (vI x4), some (vI x5), some (vI x6), some (vI x7), some (vI x8), some (vI x9), some (vI x10), some (vI x11), some (vI (if r_15 = 0 then x12 else x13 : Int)), some (vI (x13 + 1))] [] M_13 r M')))))) : Ex l G (d + 2) mX12_cheapest 303 [some (vR (some (3, 0))), some (vI x1), some (vI x2), some (vI x3), some (vI x4), some (vI x5), some (vI x6), some (vI x7), some (vI x8), some (vI x9), some (vI x10), some (vI x11), some (vI x12), some (vI x13)] [] M r M' := by
  refine r_iload 305 dX12_cheapest_303 rfl rfl ?_
  refine r_ldcw (n := 65536) 308 dX12_cheapest_305 rfl (inT7 (List.mem_of_getElem? (i := 125) rfl) rfl) (by decide +kernel) (InR_of rfl) ?_
  refine r_icmp_ge 311 361 dX12_cheapest_308 rfl rfl (fun c => ?_) (fun c => ?_)
  · have h := h.1 (c)
    refine r_iload 363 dX12_cheapest_361 rfl rfl ?_
    refine r_if_ne 366 377 dX12_cheapest_363 rfl rfl (fun c => ?_) (fun c => ?_)
    · have h := h.1 (c)
      refine r_iload 379 dX12_cheapest_377 rfl rfl ?_
      refine r_iconst 380 dX12_cheapest_379 rfl (InR_of rfl) ?_
      have hJ_1 : Ex l G (d + 2) mX12_cheapest 404 [some (vR (some (3, 0))), some (vI x1), some (vI x2), some (vI x3), some (vI x4), some (vI x5), some (vI x6), some (vI x7), some (vI x8), some (vI x9), some (vI x10), some (vI x11), some (vI x12), some (vI x13)] [vI (if x5 = 1 then x12 else (if x5 = 2 then (aAnd x12 x8) else (-2) : Int) : Int)] M r M' := by
        exact r_iret dX12_cheapest_404 rfl (.inl rfl) h.1 h.2
      refine r_icmp_ne 383 388 dX12_cheapest_380 rfl rfl (fun c => ?_) (fun c => ?_)
      · have c_2 := c
        refine r_iload 390 dX12_cheapest_388 rfl rfl ?_
        refine r_iconst 391 dX12_cheapest_390 rfl (InR_of rfl) ?_
        refine r_icmp_ne 394 402 dX12_cheapest_391 rfl rfl (fun c => ?_) (fun c => ?_)
        · have c_3 := c
          refine r_bipush 404 dX12_cheapest_402 rfl rfl ?_
          exact (Ex.at hJ_1 rfl (show [vI (-2)] = [vI (if x5 = 1 then x12 else (if x5 = 2 then (aAnd x12 x8) else (-2) : Int) : Int)] by simp only [if_neg c_2, if_neg c_3]) rfl)
        · have c_3 := Decidable.not_not.mp c
          refine r_iload 396 dX12_cheapest_394 rfl rfl ?_
          refine r_iload 398 dX12_cheapest_396 rfl rfl ?_
          refine r_iand 399 dX12_cheapest_398 rfl ?_
          refine r_goto 404 dX12_cheapest_399 rfl ?_
          exact (Ex.at hJ_1 rfl (show [vI (aAnd x12 x8)] = [vI (if x5 = 1 then x12 else (if x5 = 2 then (aAnd x12 x8) else (-2) : Int) : Int)] by simp only [if_neg c_2, if_pos c_3]) rfl)
      · have c_2 := Decidable.not_not.mp c
        refine r_iload 385 dX12_cheapest_383 rfl rfl ?_
        refine r_goto 404 dX12_cheapest_385 rfl ?_
        exact (Ex.at hJ_1 rfl (show [vI x12] = [vI (if x5 = 1 then x12 else (if x5 = 2 then (aAnd x12 x8) else (-2) : Int) : Int)] by simp only [if_pos c_2]) rfl)
    · have h := h.2 (Decidable.not_not.mp c)
      refine r_aload_n 367 dX12_cheapest_366 rfl rfl ?_
      refine r_iload 369 dX12_cheapest_367 rfl rfl ?_
      refine r_iload 371 dX12_cheapest_369 rfl rfl ?_
      obtain ⟨r_6, M_4, hc_5, h⟩ := h
      refine v_1 (ci := 12) (C := (RX12, TX12, 68)) [vI x12, vI x8] [] 374 dX12_cheapest_371 rfl rfl rfl rfl rfl mo_X12_price ml_12_395 rfl rfl hc_5 ?_
      refine r_goto 404 dX12_cheapest_374 rfl ?_
      exact r_iret dX12_cheapest_404 rfl (.inl rfl) h.1 h.2
  · have h := h.2 (c)
    refine r_iload 313 dX12_cheapest_311 rfl rfl ?_
    refine r_iload 315 dX12_cheapest_313 rfl rfl ?_
    refine r_iconst 316 dX12_cheapest_315 rfl (InR_of rfl) ?_
    refine r_ixor 317 dX12_cheapest_316 rfl ?_
    refine r_iand 318 dX12_cheapest_317 rfl ?_
    refine r_if_ne 321 355 dX12_cheapest_318 rfl rfl (fun c => ?_) (fun c => ?_)
    · have h := h.1 (c)
      obtain ⟨o_7, h⟩ := h
      refine r_iinc (ls' := [some (vR (some (3, 0))), some (vI x1), some (vI x2), some (vI x3), some (vI x4), some (vI x5), some (vI x6), some (vI x7), some (vI x8), some (vI x9), some (vI x10), some (vI x11), some (vI x12), some (vI (x13 + 1))]) 358 dX12_cheapest_355 rfl rfl rfl rfl o_7 rfl ?_
      refine r_goto 303 dX12_cheapest_358 rfl ?_
      exact h
    · have h := h.2 (Decidable.not_not.mp c)
      refine r_aload_n 322 dX12_cheapest_321 rfl rfl ?_
      refine r_iload 324 dX12_cheapest_322 rfl rfl ?_
      refine r_iload 326 dX12_cheapest_324 rfl rfl ?_
      obtain ⟨r_10, M_8, hc_9, h⟩ := h
      refine v_1 (ci := 12) (C := (RX12, TX12, 68)) [vI x13, vI x10] [] 329 dX12_cheapest_326 rfl rfl rfl rfl rfl mo_X12_isClear ml_12_388 rfl rfl hc_9 ?_
      refine r_if_eq 332 355 dX12_cheapest_329 rfl rfl (fun c => ?_) (fun c => ?_)
      · have h := h.1 (c)
        obtain ⟨o_11, h⟩ := h
        refine r_iinc (ls' := [some (vR (some (3, 0))), some (vI x1), some (vI x2), some (vI x3), some (vI x4), some (vI x5), some (vI x6), some (vI x7), some (vI x8), some (vI x9), some (vI x10), some (vI x11), some (vI x12), some (vI (x13 + 1))]) 358 dX12_cheapest_355 rfl rfl rfl rfl o_11 rfl ?_
        refine r_goto 303 dX12_cheapest_358 rfl ?_
        exact h
      · have h := h.2 (c)
        refine r_iload 334 dX12_cheapest_332 rfl rfl ?_
        refine r_iconst 335 dX12_cheapest_334 rfl (InR_of rfl) ?_
        refine r_icmp_eq 338 351 dX12_cheapest_335 rfl rfl (fun c => ?_) (fun c => ?_)
        · have h := h.1 (c)
          obtain ⟨o_12, h⟩ := h
          refine r_iload 353 dX12_cheapest_351 rfl rfl ?_
          refine r_istore (ls' := [some (vR (some (3, 0))), some (vI x1), some (vI x2), some (vI x3), some (vI x4), some (vI x5), some (vI x6), some (vI x7), some (vI x8), some (vI x9), some (vI x10), some (vI x11), some (vI x13), some (vI x13)]) 355 dX12_cheapest_353 rfl rfl rfl rfl ?_
          refine r_iinc (ls' := [some (vR (some (3, 0))), some (vI x1), some (vI x2), some (vI x3), some (vI x4), some (vI x5), some (vI x6), some (vI x7), some (vI x8), some (vI x9), some (vI x10), some (vI x11), some (vI x13), some (vI (x13 + 1))]) 358 dX12_cheapest_355 rfl rfl rfl rfl o_12 rfl ?_
          refine r_goto 303 dX12_cheapest_358 rfl ?_
          exact h
        · have h := h.2 (c)
          refine r_aload_n 339 dX12_cheapest_338 rfl rfl ?_
          refine r_iload 341 dX12_cheapest_339 rfl rfl ?_
          refine r_iload 343 dX12_cheapest_341 rfl rfl ?_
          refine r_iload 345 dX12_cheapest_343 rfl rfl ?_
          obtain ⟨r_15, M_13, hc_14, h⟩ := h
          refine v_1 (ci := 12) (C := (RX12, TX12, 68)) [vI x13, vI x12, vI x8] [] 348 dX12_cheapest_345 rfl rfl rfl rfl rfl mo_X12_isLess ml_12_391 rfl rfl hc_14 ?_
          have hJ_16 : Ex l G (d + 2) mX12_cheapest 355 [some (vR (some (3, 0))), some (vI x1), some (vI x2), some (vI x3), some (vI x4), some (vI x5), some (vI x6), some (vI x7), some (vI x8), some (vI x9), some (vI x10), some (vI x11), some (vI (if r_15 = 0 then x12 else x13 : Int)), some (vI x13)] [] M_13 r M' := by
            obtain ⟨o_18, h⟩ := h
            refine r_iinc (ls' := [some (vR (some (3, 0))), some (vI x1), some (vI x2), some (vI x3), some (vI x4), some (vI x5), some (vI x6), some (vI x7), some (vI x8), some (vI x9), some (vI x10), some (vI x11), some (vI (if r_15 = 0 then x12 else x13 : Int)), some (vI (x13 + 1))]) 358 dX12_cheapest_355 rfl rfl rfl rfl o_18 rfl ?_
            refine r_goto 303 dX12_cheapest_358 rfl ?_
            exact h
          refine r_if_eq 351 355 dX12_cheapest_348 rfl rfl (fun c => ?_) (fun c => ?_)
          · have c_17 := c
            exact (Ex.at hJ_16 (show [some (vR (some (3, 0))), some (vI x1), some (vI x2), some (vI x3), some (vI x4), some (vI x5), some (vI x6), some (vI x7), some (vI x8), some (vI x9), some (vI x10), some (vI x11), some (vI x12), some (vI x13)] = [some (vR (some (3, 0))), some (vI x1), some (vI x2), some (vI x3), some (vI x4), some (vI x5), some (vI x6), some (vI x7), some (vI x8), some (vI x9), some (vI x10), some (vI x11), some (vI (if r_15 = 0 then x12 else x13 : Int)), some (vI x13)] by simp only [if_pos c_17]) rfl rfl)
          · have c_17 := c
            refine r_iload 353 dX12_cheapest_351 rfl rfl ?_
            refine r_istore (ls' := [some (vR (some (3, 0))), some (vI x1), some (vI x2), some (vI x3), some (vI x4), some (vI x5), some (vI x6), some (vI x7), some (vI x8), some (vI x9), some (vI x10), some (vI x11), some (vI x13), some (vI x13)]) 355 dX12_cheapest_353 rfl rfl rfl rfl ?_
            exact (Ex.at hJ_16 (show [some (vR (some (3, 0))), some (vI x1), some (vI x2), some (vI x3), some (vI x4), some (vI x5), some (vI x6), some (vI x7), some (vI x8), some (vI x9), some (vI x10), some (vI x11), some (vI x13), some (vI x13)] = [some (vR (some (3, 0))), some (vI x1), some (vI x2), some (vI x3), some (vI x4), some (vI x5), some (vI x6), some (vI x7), some (vI x8), some (vI x9), some (vI x10), some (vI x11), some (vI (if r_15 = 0 then x12 else x13 : Int)), some (vI x13)] by simp only [if_neg c_17]) rfl rfl)

def alF (Q : QT) (s w : Nat) (fr : Int) : Nat → Nat → Bool
  | 0, _ => true
  | n + 1, k => alF Q s w fr n k && wdF Q (dn Q (fr + (n : Int))) w s k
def evF (Q : QT) (s w : Nat) (fr : Int) : Nat → Nat → Bool
  | 0, _ => false
  | n + 1, k => evF Q s w fr n k || wdF Q (dn Q (fr + (n : Int))) w s k
def mayF (Q : QT) (s w : Nat) (fr : Int) (n k : Nat) : Bool := alF Q s w fr n k || !evF Q s w fr n k
def uF (Q : QT) (s w : Nat) (fr : Int) (n : Nat) (d : Int) (q : Nat) (k : Nat) : Bool := mayF Q s w fr n k && (wdF Q (dn Q d) q s k ^^ alF Q s w fr n k)
def wP (Q : QT) (s w : Nat) (fr : Int) (n k : Nat) : Int := Q 51 k + (if (!evF Q s w fr n k) = true then Q 51 16 else 0)
def FC (Q : QT) (s w : Nat) (fr to : Int) (n : Nat) (u : Nat → Bool) : Prop := ∃ (d : Int) (q : Nat), (fr ≤ d ∧ d ≤ to) ∧ q < nPp Q ∧ ¬ q = w ∧ u = uF Q s w fr n d q
def chG (Q : QT) (s p fr to what : Int) : Prop := (0 ≤ s ∧ s < nPp Q) ∧ (0 ≤ p ∧ p < nPp Q) ∧ ¬ s = p ∧ (0 ≤ fr ∧ fr ≤ 999) ∧ (0 ≤ to ∧ to ≤ 999) ∧ (fr ≤ to ∧ to - fr < 31) ∧ (0 ≤ what ∧ what ≤ 4)
def FZ (Q : QT) (s w : Nat) (fr to : Int) (n : Nat) (d : Int) (q : Nat) : Prop := ((fr ≤ d ∧ d ≤ to) ∧ q < nPp Q ∧ ¬ q = w ∧ ∀ k, k < 16 → uF Q s w fr n d q k = false) ∧ ∀ (d' : Int) (q' : Nat), (fr ≤ d' ∧ d' ≤ to) → q' < nPp Q → ¬ q' = w → (d' < d ∨ (d' = d ∧ q' < q)) → ∃ k, k < 16 ∧ uF Q s w fr n d' q' k = true
def dyN (fr to : Int) : Nat := (to - fr + 1).toNat
def CheP (Q : QT) (s p fr to what v : Int) : Prop := (chG Q s p fr to what → (∃ (d : Int) (q : Nat), FZ Q s.toNat p.toNat fr to (dyN fr to) d q ∧ v = (if what = 3 then d else if what = 4 then (q : Int) else -2)) ∨ ((∀ (d : Int) (q : Nat), (fr ≤ d ∧ d ≤ to) → q < nPp Q → ¬ q = p.toNat → ∃ k, k < 16 ∧ uF Q s.toNat p.toNat fr (dyN fr to) d q k = true) ∧ (¬ what ≤ 2 → v = -2) ∧ (what ≤ 2 → ∃ f, BstS (wP Q s.toNat p.toNat fr (dyN fr to)) (FC Q s.toNat p.toNat fr to (dyN fr to)) f ∧ v = (if what = 0 then prc (wP Q s.toNat p.toNat fr (dyN fr to)) f 16 else if what = 1 then bI 16 f else bI 16 (fun k => f k && !evF Q s.toNat p.toNat fr (dyN fr to) k))))) ∧ (¬ chG Q s p fr to what → v = -1)
noncomputable def cheV (Q : QT) (s p fr to what : Int) : Int := Classical.epsilon (CheP Q s p fr to what)
theorem cheV_eq {Q : QT} {s p fr to what v : Int} (h : CheP Q s p fr to what v) : cheV Q s p fr to what = v := by
  have h' : CheP Q s p fr to what (cheV Q s p fr to what) := Classical.epsilon_spec ⟨v, h⟩
  generalize cheV Q s p fr to what = v' at h' ⊢
  by_cases g : chG Q s p fr to what
  · have hno : ∀ (d : Int) (q : Nat), FZ Q s.toNat p.toNat fr to (dyN fr to) d q → ¬ (∀ (d : Int) (q : Nat), (fr ≤ d ∧ d ≤ to) → q < nPp Q → ¬ q = p.toNat → ∃ k, k < 16 ∧ uF Q s.toNat p.toNat fr (dyN fr to) d q k = true) := fun d q hz ha => by
      obtain ⟨k, hk, e⟩ := ha d q hz.1.1 hz.1.2.1 hz.1.2.2.1
      rw [hz.1.2.2.2 k hk] at e
      cases e
    rcases h.1 g with ⟨d, q, z, e⟩ | ⟨a1, a2, a3⟩
    · rcases h'.1 g with ⟨d', q', z', e'⟩ | ⟨b1, _⟩
      · have lt : ∀ d q d' q', FZ Q s.toNat p.toNat fr to (dyN fr to) d q → FZ Q s.toNat p.toNat fr to (dyN fr to) d' q' → ¬ (d' < d ∨ (d' = d ∧ q' < q)) := fun d q d' q' z z' c => by
          obtain ⟨k, hk, e⟩ := z.2 d' q' z'.1.1 z'.1.2.1 z'.1.2.2.1 c
          rw [z'.1.2.2.2 k hk] at e
          cases e
        have l1 := lt d q d' q' z z'
        have l2 := lt d' q' d q z' z
        have ed : d = d' := by omega
        have eq : q = q' := by omega
        rw [e, e', ed, eq]
      · exact absurd b1 (hno d q z)
    · rcases h'.1 g with ⟨d', q', z', e'⟩ | ⟨b1, b2, b3⟩
      · exact absurd a1 (hno d' q' z')
      · by_cases c : what ≤ 2
        · obtain ⟨f, f1, f2⟩ := a3 c
          obtain ⟨f', f1', f2'⟩ := b3 c
          obtain ⟨u1, u2⟩ := BstS_u f1' f1
          rw [f2, f2', u1, bI_ext u2, bI_ext (n := 16) (p := fun k => f' k && !evF Q s.toNat p.toNat fr (dyN fr to) k) (q := fun k => f k && !evF Q s.toNat p.toNat fr (dyN fr to) k) (fun i hi => by rw [u2 i hi])]
        · rw [a2 c, b2 c]
  · rw [h.2 g, h'.2 g]
section CR
variable {l : Launch} {G : Gt} {d : Nat} {Q : QT} {M : Mem}
theorem KX12_price {f nf : Nat → Bool} {W : Nat → Int} (hS : Sh M.2.1) (hW : ∀ k, k < 17 → M.1 51 0 k = W k ∧ 0 ≤ W k ∧ W k ≤ 99) : Cl l G (d + 1) mX12_price [vR (some (3, 0)), vI (bI 16 f), vI (bI 16 nf)] M (some (vI (prc (fun k => W k + (if nf k = true then W 16 else 0)) f 16))) M := by
  refine xX12_price_0 ?_
  have n1 : 0 ≤ bI 16 f := bI_nn
  have n2 : 0 ≤ bI 16 nf := bI_nn
  have e16 := (hW 16 (by omega))
  refine loopUp (P := fun k => Ex l G (d + 1) mX12_price 5 [some (vR (some (3, 0))), some (vI (bI 16 f)), some (vI (bI 16 nf)), some (vI (prc (fun k => W k + (if nf k = true then W 16 else 0)) f k)), some (vI (k : Int))] [] M (some (vI (prc (fun k => W k + (if nf k = true then W 16 else 0)) f 16))) M) 0 16 (by omega) ?_ ?_
  · intro k _ hk ih
    have ek := hW k (by omega)
    have t1 : tb (bI 16 f) (k : Int) = f k := by rw [tb_bI (by omega)]; simp [hk]
    have t2 : tb (bI 16 nf) (k : Int) = nf k := by rw [tb_bI (by omega)]; simp [hk]
    have pin := prc_in (w := fun k => W k + (if nf k = true then W 16 else 0)) (f := f) (n := k) (fun i hi => by have := hW i (by omega); split <;> omega)
    have es : prc (fun k => W k + (if nf k = true then W 16 else 0)) f k + (if tb (bI 16 f) (k : Int) = true then (if tb (bI 16 nf) (k : Int) = true then W k + W 16 else W k + 0 : Int) else 0 : Int) = prc (fun k => W k + (if nf k = true then W 16 else 0)) f (k + 1) := by
      rw [t1, t2]
      show _ = prc (fun k => W k + (if nf k = true then W 16 else 0)) f k + (if f k = true then W k + (if nf k = true then W 16 else 0) else 0)
      congr 1
      split
      · split <;> rfl
      · rfl
    have pin2 := prc_in (w := fun k => W k + (if nf k = true then W 16 else 0)) (f := f) (n := k + 1) (fun i hi => by have := hW i (by omega); split <;> omega)
    refine xX12_price_5 hS ?_
    rw [Int.toNat_natCast, ek.1, e16.1, es]
    exact ⟨fun c => by omega, fun _ => ⟨⟨n1, by omega, by omega⟩, fun _ => ⟨⟨by omega, n2, by omega, by omega⟩, fun _ => by unfold InR; omega, fun _ => by unfold InR; omega⟩, ⟨by unfold InR; omega, by unfold InR; omega⟩, ih⟩⟩
  · exact xX12_price_5 hS ⟨fun _ => ⟨rfl, rfl⟩, fun c => absurd (show (16 : Int) ≤ ((16 : Nat) : Int) by omega) c⟩
theorem KX12_isClear {n : Nat} {uh : Nat → Nat → Bool} {f : Nat → Bool} (hS : Sh M.2.1) (hn : n ≤ 372) (hU : ∀ h, h < n → M.1 88 0 h = bI 16 (uh h)) : ∃ r : Int, Cl l G d mX12_isClear [vR (some (3, 0)), vI (bI 16 f), vI (n : Int)] M (some (vI r)) M ∧ (r = 0 ∨ r = 1) ∧ (r = 1 ↔ ∀ h, h < n → hitU (uh h) f) := by
  have key : ∀ m k : Nat, m + k = n → ∀ x3 : Int, (x3 = 0 ∨ x3 = 1) → (x3 = 1 ↔ ∀ h, h < k → hitU (uh h) f) → ∃ r : Int, Ex l G d mX12_isClear 5 [some (vR (some (3, 0))), some (vI (bI 16 f)), some (vI (n : Int)), some (vI x3), some (vI (k : Int))] [] M (some (vI r)) M ∧ (r = 0 ∨ r = 1) ∧ (r = 1 ↔ ∀ h, h < n → hitU (uh h) f) := by
    intro m
    induction m with
    | zero =>
      intro k hk x3 h01 h
      have ek : k = n := by omega
      subst ek
      exact ⟨x3, xX12_isClear_5 hS ⟨fun _ => ⟨h01, rfl, rfl⟩, fun c => absurd (by omega) c⟩, h01, h⟩
    | succ m ih =>
      intro k hk x3 h01 h
      by_cases c0 : x3 = 0
      · refine ⟨x3, xX12_isClear_5 hS ⟨fun c => by omega, fun _ => ⟨fun _ => ⟨h01, rfl, rfl⟩, fun c => absurd c0 c⟩⟩, h01, fun e => by omega, fun e => h.mpr fun h' hh => e h' (by omega)⟩
      · have es : M.1 88 0 (k : Int).toNat = bI 16 (uh k) := by rw [Int.toNat_natCast]; exact hU k (by omega)
        obtain ⟨r, y1, y2⟩ := ih (k + 1) (by omega) (if aAnd (bI 16 (uh k)) (bI 16 f) = 0 then 0 else 1 : Int) (by split <;> omega) (by
          by_cases c : aAnd (bI 16 (uh k)) (bI 16 f) = 0
          · rw [if_pos c]
            exact ⟨fun e => by omega, fun e => absurd (e k (by omega)) (hit_and.mp c)⟩
          · rw [if_neg c]
            refine ⟨fun _ h' hh => ?_, fun _ => rfl⟩
            by_cases e : h' = k
            · rw [e]
              by_cases ch : hitU (uh k) f
              · exact ch
              · exact absurd (hit_and.mpr ch) c
            · exact h.mp (by omega) h' (by omega))
        refine ⟨r, xX12_isClear_5 hS ?_, y2⟩
        rw [es]
        exact ⟨fun c => by omega, fun _ => ⟨fun c => absurd c c0, fun _ => ⟨by omega, by unfold InR; omega, y1⟩⟩⟩
  obtain ⟨r, y1, y2⟩ := key n 0 (by omega) 1 (.inr rfl) ⟨fun _ h hh => by omega, fun _ => rfl⟩
  exact ⟨r, xX12_isClear_0 y1, y2⟩
theorem KX12_isLess {f g nf : Nat → Bool} {W : Nat → Int} (hS : Sh M.2.1) (hW : ∀ k, k < 17 → M.1 51 0 k = W k ∧ 0 ≤ W k ∧ W k ≤ 99) : ∃ r : Int, Cl l G (d + 2) mX12_isLess [vR (some (3, 0)), vI (bI 16 f), vI (bI 16 g), vI (bI 16 nf)] M (some (vI r)) M ∧ (¬ r = 0 ↔ prc (fun k => W k + (if nf k = true then W 16 else 0)) f 16 < prc (fun k => W k + (if nf k = true then W 16 else 0)) g 16 ∨ (prc (fun k => W k + (if nf k = true then W 16 else 0)) f 16 = prc (fun k => W k + (if nf k = true then W 16 else 0)) g 16 ∧ cnt f 16 < cnt g 16)) := by
  have p1 := KX12_price (l := l) (G := G) (d := d) (f := f) (nf := nf) hS hW
  have p2 := KX12_price (l := l) (G := G) (d := d) (f := g) (nf := nf) hS hW
  have b1 := KX12_bits (l := l) (G := G) (d := d + 1) (M := M) (n := 16) (f := f) (by omega)
  have b2 := KX12_bits (l := l) (G := G) (d := d + 1) (M := M) (n := 16) (f := g) (by omega)
  have pf := prc_in (w := fun k => W k + (if nf k = true then W 16 else 0)) (f := f) (n := 16) (fun i hi => by have := hW i (by omega); have := hW 16 (by omega); split <;> omega)
  have pg := prc_in (w := fun k => W k + (if nf k = true then W 16 else 0)) (f := g) (n := 16) (fun i hi => by have := hW i (by omega); have := hW 16 (by omega); split <;> omega)
  generalize prc (fun k => W k + (if nf k = true then W 16 else 0)) f 16 = x at *
  generalize prc (fun k => W k + (if nf k = true then W 16 else 0)) g 16 = y at *
  have ir : InR (x - y) := by unfold InR; omega
  by_cases c1 : x - y < 0
  · exact ⟨1, xX12_isLess_0 ⟨_, M, p1, _, M, p2, ir, fun _ => ⟨rfl, rfl⟩, fun c => absurd c1 c⟩, by omega⟩
  · by_cases c2 : x - y = 0
    · refine ⟨(if (cnt g 16 : Int) ≤ (cnt f 16 : Int) then 0 else 1 : Int), xX12_isLess_0 ⟨_, M, p1, _, M, p2, ir, fun c => absurd c c1, fun _ => ⟨fun c => absurd c2 c, fun _ => ⟨_, M, b1, _, M, b2, by split <;> omega, rfl, rfl⟩⟩⟩, ?_⟩
      split <;> omega
    · exact ⟨0, xX12_isLess_0 ⟨_, M, p1, _, M, p2, ir, fun c => absurd c c1, fun _ => ⟨fun _ => ⟨rfl, rfl⟩, fun c => absurd c c2⟩⟩, by omega⟩
/-- the best number -/
theorem ch_303 {n : Nat} {uh : Nat → Nat → Bool} {F : (Nat → Bool) → Prop} {may nf : Nat → Bool} {W : Nat → Int} {x1 x2 x3 x4 x5 x6 x7 x11 : Int} (hS : Sh M.2.1) (hn : n ≤ 372) (hU : ∀ h, h < n → M.1 88 0 h = bI 16 (uh h)) (hW : ∀ k, k < 17 → M.1 51 0 k = W k ∧ 0 ≤ W k ∧ W k ≤ 99) (hF : ∀ g, HitS F g ↔ ∀ h, h < n → hitU (uh h) g) (hsub : ∀ h, h < n → subS (uh h) may) (hne : ∀ h, h < n → ∃ k, k < 16 ∧ uh h k = true) (h5 : 0 ≤ x5 ∧ x5 ≤ 4) :
    ∀ m k : Nat, m + k = 65536 → ∀ x12 : Int, ((x12 = -1 ∧ ∀ j, j < k → ¬ (subS (kf j) may ∧ HitS F (kf j))) ∨ ∃ b : Nat, b < k ∧ x12 = (b : Int) ∧ (subS (kf b) may ∧ HitS F (kf b)) ∧ ∀ j, j < k → subS (kf j) may ∧ HitS F (kf j) → leL (fun k => W k + (if nf k = true then W 16 else 0)) (kf b) (kf j)) → ∃ v, Ex l G (d + 3) mX12_cheapest 303 [some (vR (some (3, 0))), some (vI x1), some (vI x2), some (vI x3), some (vI x4), some (vI x5), some (vI x6), some (vI x7), some (vI (bI 16 nf)), some (vI (bI 16 may)), some (vI (n : Int)), some (vI x11), some (vI x12), some (vI (k : Int))] [] M (some (vI v)) M ∧ ∃ f, BstS (fun k => W k + (if nf k = true then W 16 else 0)) F f ∧ v = (if x5 = 0 then prc (fun k => W k + (if nf k = true then W 16 else 0)) f 16 else if x5 = 1 then bI 16 f else if x5 = 2 then bI 16 (fun k => f k && nf k) else -2) := by
  have w0 : ∀ i, i < 16 → 0 ≤ (fun k => W k + (if nf k = true then W 16 else 0)) i := fun i hi => by have := hW i (by omega); have := hW 16 (by omega); dsimp only; split <;> omega
  have kb : ∀ k : Nat, k < 65536 → (k : Int) = bI 16 (kf k) := fun k hk => kf_b (n := 16) (by omega) hk
  have cut : ∀ g : Nat → Bool, HitS F g → ∃ j, j < 65536 ∧ (subS (kf j) may ∧ HitS F (kf j)) ∧ leL (fun k => W k + (if nf k = true then W 16 else 0)) (kf j) g := fun g hg => by
    have e : ∀ i, i < 16 → kf (bset 16 (fun i => g i && may i)) i = (g i && may i) := fun i hi => by
      have := bset_bit 16 (fun i => g i && may i) i
      simpa [hi, kf] using this
    refine ⟨bset 16 (fun i => g i && may i), bset_lt 16 _, ⟨fun i hi h => ?_, (hF _).mpr fun h hh => ?_⟩, sub_leL w0 fun i hi h => ?_⟩
    · rw [e i hi] at h
      exact (Bool.and_eq_true _ _ ▸ h).2
    · obtain ⟨i, hi, a, b⟩ := (hF g).mp hg h hh
      exact ⟨i, hi, a, by rw [e i hi, b, hsub h hh i hi a]; rfl⟩
    · rw [e i hi] at h
      exact (Bool.and_eq_true _ _ ▸ h).1
  intro m
  induction m with
  | zero =>
    intro k hk x12 h
    have ek : k = 65536 := by omega
    subst ek
    rcases h with ⟨a, b⟩ | ⟨b, h1, h2, h3, h4⟩
    · obtain ⟨j, hj, hok, _⟩ := cut (fun _ => true) ((hF _).mpr fun h hh => by
        obtain ⟨i, hi, e⟩ := hne h hh
        exact ⟨i, hi, e, rfl⟩)
      exact absurd hok (b j hj)
    · have hB : BstS (fun k => W k + (if nf k = true then W 16 else 0)) F (kf b) := ⟨h3.2, fun g hg => by
        obtain ⟨j, hj, hok, hle⟩ := cut g hg
        exact leL_tr (h4 j hj hok) hle⟩
      by_cases c0 : x5 = 0
      · have p1 := KX12_price (l := l) (G := G) (d := d + 1) (f := kf b) (nf := nf) hS hW
        rw [← kb b h1] at p1
        refine ⟨_, xX12_cheapest_303 ⟨fun _ => ⟨fun c => absurd c0 c, fun _ => ⟨_, M, by rw [h2]; exact p1, rfl, rfl⟩⟩, fun c => absurd (by omega) c⟩, kf b, hB, by rw [if_pos c0]⟩
      · refine ⟨_, xX12_cheapest_303 ⟨fun _ => ⟨fun _ => ⟨rfl, rfl⟩, fun c => absurd c c0⟩, fun c => absurd (by omega) c⟩, kf b, hB, ?_⟩
        rw [if_neg c0, h2, kb b h1, bI_and (by omega)]
  | succ m ih =>
    intro k hk x12 h
    have ek := kb k (by omega)
    have i1 : InR ((k : Int) + 1) := by unfold InR; omega
    have esub : aAnd (k : Int) (aXor (bI 16 may) (-1)) = 0 ↔ subS (kf k) may := by rw [ek]; exact sub_and
    have skip : ¬ (subS (kf k) may ∧ HitS F (kf k)) → ∃ v, Ex l G (d + 3) mX12_cheapest 303 [some (vR (some (3, 0))), some (vI x1), some (vI x2), some (vI x3), some (vI x4), some (vI x5), some (vI x6), some (vI x7), some (vI (bI 16 nf)), some (vI (bI 16 may)), some (vI (n : Int)), some (vI x11), some (vI x12), some (vI ((k : Int) + 1))] [] M (some (vI v)) M ∧ ∃ f, BstS (fun k => W k + (if nf k = true then W 16 else 0)) F f ∧ v = (if x5 = 0 then prc (fun k => W k + (if nf k = true then W 16 else 0)) f 16 else if x5 = 1 then bI 16 f else if x5 = 2 then bI 16 (fun k => f k && nf k) else -2) := fun hno => ih (k + 1) (by omega) x12 (by
      rcases h with ⟨a, b⟩ | ⟨b, h1, h2, h3, h4⟩
      · refine .inl ⟨a, fun j hj => ?_⟩
        by_cases e : j = k
        · rw [e]; exact hno
        · exact b j (by omega)
      · refine .inr ⟨b, by omega, h2, h3, fun j hj hh => ?_⟩
        by_cases e : j = k
        · rw [e] at hh; exact absurd hh hno
        · exact h4 j (by omega) hh)
    by_cases cs : subS (kf k) may
    · obtain ⟨r, q1, q2, q3⟩ := KX12_isClear (l := l) (G := G) (d := d + 2) (f := kf k) hS hn hU
      rw [← ek] at q1
      by_cases cr : r = 0
      · obtain ⟨v, y1, y2⟩ := skip (fun hh => by have := q3.mpr ((hF _).mp hh.2); omega)
        exact ⟨v, xX12_cheapest_303 ⟨fun c => by omega, fun _ => ⟨fun c => absurd (esub.mpr cs) c, fun _ => ⟨r, M, q1, fun _ => ⟨i1, y1⟩, fun c => absurd cr c⟩⟩⟩, y2⟩
      · have hok : subS (kf k) may ∧ HitS F (kf k) := ⟨cs, (hF _).mpr (q3.mp (by omega))⟩
        rcases h with ⟨a, b⟩ | ⟨b, h1, h2, h3, h4⟩
        · obtain ⟨v, y1, y2⟩ := ih (k + 1) (by omega) (k : Int) (.inr ⟨k, by omega, rfl, hok, fun j hj hh => by
            by_cases e : j = k
            · rw [e]; exact sub_leL w0 fun i _ h => h
            · exact absurd hh (b j (by omega))⟩)
          exact ⟨v, xX12_cheapest_303 ⟨fun c => by omega, fun _ => ⟨fun c => absurd (esub.mpr cs) c, fun _ => ⟨r, M, q1, fun c => absurd c cr, fun _ => ⟨fun _ => ⟨i1, y1⟩, fun c => absurd a c⟩⟩⟩⟩, y2⟩
        · obtain ⟨r2, t1, t2⟩ := KX12_isLess (l := l) (G := G) (d := d) (f := kf k) (g := kf b) (nf := nf) hS hW
          rw [← ek, ← kb b (by omega), ← h2] at t1
          obtain ⟨v, y1, y2⟩ := ih (k + 1) (by omega) (if r2 = 0 then x12 else (k : Int)) (.inr (by
            have eb := kb b (by omega)
            by_cases c : r2 = 0
            · rw [if_pos c]
              refine ⟨b, by omega, h2, h3, fun j hj hh => ?_⟩
              by_cases e : j = k
              · have hn2 : ¬ (prc (fun k => W k + (if nf k = true then W 16 else 0)) (kf k) 16 < prc (fun k => W k + (if nf k = true then W 16 else 0)) (kf b) 16 ∨ (prc (fun k => W k + (if nf k = true then W 16 else 0)) (kf k) 16 = prc (fun k => W k + (if nf k = true then W 16 else 0)) (kf b) 16 ∧ cnt (kf k) 16 < cnt (kf b) 16)) := fun x => (t2.mpr x) c
                rw [e]
                unfold leL
                rw [← ek, ← eb]
                omega
              · exact h4 j (by omega) hh
            · rw [if_neg c]
              have lt := t2.mp c
              refine ⟨k, by omega, rfl, hok, fun j hj hh => ?_⟩
              by_cases e : j = k
              · rw [e]; exact sub_leL w0 fun i _ h => h
              · have := h4 j (by omega) hh
                unfold leL at this ⊢
                omega))
          exact ⟨v, xX12_cheapest_303 ⟨fun c => by omega, fun _ => ⟨fun c => absurd (esub.mpr cs) c, fun _ => ⟨r, M, q1, fun c => absurd c cr, fun _ => ⟨fun c => by omega, fun _ => ⟨r2, M, t1, i1, y1⟩⟩⟩⟩⟩, y2⟩
    · obtain ⟨v, y1, y2⟩ := skip (fun hh => cs hh.1)
      exact ⟨v, xX12_cheapest_303 ⟨fun c => by omega, fun _ => ⟨fun _ => ⟨i1, y1⟩, fun c => absurd (esub.mp c) cs⟩⟩, y2⟩
end CR
