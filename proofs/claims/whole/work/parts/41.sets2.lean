/-! sets of people and words, both sides -/
theorem bI_nn {n : Nat} {p : Nat → Bool} : 0 ≤ bI n p := by unfold bI; omega
theorem bI_step {n : Nat} (h : n < 31) {p : Nat → Bool} {c : Prop} [Decidable c] (hc : c ↔ p n = true) : aOr (bI n p) (if c then aShl 1 (n : Int) else 0) = bI (n + 1) p := by
  rw [← bI_succ h p]
  congr 1
  by_cases e : c
  · rw [if_pos e, if_pos (hc.mp e)]
  · rw [if_neg e, if_neg (fun h => e (hc.mpr h))]
theorem bI_len {n m : Nat} {p : Nat → Bool} (h : n ≤ m) (hp : ∀ i, n ≤ i → i < m → p i = false) : bI n p = bI m p := by
  unfold bI
  congr 1
  induction m with
  | zero => rw [show n = 0 by omega]
  | succ m ih =>
    by_cases e : n = m + 1
    · rw [e]
    · rw [ih (by omega) (fun i a b => hp i a (by omega))]
      show _ = bset m p + _
      rw [hp m (by omega) (by omega)]
      simp
theorem bI_0 {p : Nat → Bool} : bI 0 p = 0 := rfl
theorem sh_bit {n k : Nat} {p : Nat → Bool} {s : Int} (hn : n ≤ 31) (hk : k < 32) (h0 : 0 ≤ s) (h1 : s < 31) : aShl (aAnd (aShr (bI n p) (k : Int)) 1) s = if (decide (k < n) && p k) = true then aShl 1 s else 0 := by
  rw [bit_and bI_nn (by omega) (by omega), tb_shl_bit h0 h1, tb_bI hn]
set_option maxRecDepth 4000 in
theorem xX7_marksOf_0 {l : Launch} {G : Gt} {d : Nat} {M M' : Mem} {r : Option Vl} {k0 : Nat} {x1 : Int} (h : 
    Ex l G d mX7_marksOf 4 [some (vR (some (14, k0))), some (vI x1), some (vI 0), some (vI 0)] [] M r M') : Cl l G d mX7_marksOf [vR (some (14, k0)), vI x1] M r M' := by
  show Ex l G d mX7_marksOf 0 [some (vR (some (14, k0))), some (vI x1), none, none] [] M r M'
  refine r_iconst 1 dX7_marksOf_0 rfl (InR_of rfl) ?_
  refine r_istore_n (ls' := [some (vR (some (14, k0))), some (vI x1), some (vI 0), none]) 2 dX7_marksOf_1 rfl rfl rfl rfl ?_
  refine r_iconst 3 dX7_marksOf_2 rfl (InR_of rfl) ?_
  refine r_istore_n (ls' := [some (vR (some (14, k0))), some (vI x1), some (vI 0), some (vI 0)]) 4 dX7_marksOf_3 rfl rfl rfl rfl ?_
  exact h
set_option maxRecDepth 4000 in
theorem xX7_marksOf_4 {l : Launch} {G : Gt} {d : Nat} {M M' : Mem} {r : Option Vl} {k0 : Nat} {x1 : Int} {x2 : Int} {x3 : Int} (hS : Sh M.2.1) (h : 
    (10 ≤ x3 → r = some (vI x2) ∧ M' = M) ∧ (¬ (10 ≤ x3) → ((0 ≤ x3 ∧ x3 < 10) ∧ (0 ≤ x1 ∧ x1 < 32) ∧ (0 ≤ x3 ∧ x3 < 32) ∧ InR (x3 + 1)) ∧ Ex l G d mX7_marksOf 4 [some (vR (some (14, k0))), some (vI x1), some (vI (aOr x2 (aShl (aAnd (aShr (M.1 29 k0 x3.toNat) x1) 1) x3))), some (vI (x3 + 1))] [] M r M')) : Ex l G d mX7_marksOf 4 [some (vR (some (14, k0))), some (vI x1), some (vI x2), some (vI x3)] [] M r M' := by
  refine r_iload_n 5 dX7_marksOf_4 rfl rfl ?_
  refine r_bipush 7 dX7_marksOf_5 rfl rfl ?_
  refine r_icmp_ge 10 31 dX7_marksOf_7 rfl rfl (fun c => ?_) (fun c => ?_)
  · have h := h.1 (c)
    refine r_iload_n 32 dX7_marksOf_31 rfl rfl ?_
    exact r_iret dX7_marksOf_32 rfl (.inl rfl) h.1 h.2
  · have h := h.2 (c)
    obtain ⟨⟨o_1, o_2, o_3, o_4⟩, h⟩ := h
    refine r_iload_n 11 dX7_marksOf_10 rfl rfl ?_
    refine r_aload_n 12 dX7_marksOf_11 rfl rfl ?_
    refine g_R 15 dX7_marksOf_12 rfl rfl rfl fr_7_9 (sh_7_1 hS _) ?_
    refine r_iload_n 16 dX7_marksOf_15 rfl rfl ?_
    refine a_I 10 17 dX7_marksOf_16 rfl rfl rfl rfl o_1 rfl ?_
    refine r_iload_n 18 dX7_marksOf_17 rfl rfl ?_
    refine r_ishr 19 dX7_marksOf_18 rfl o_2 ?_
    refine r_iconst 20 dX7_marksOf_19 rfl (InR_of rfl) ?_
    refine r_iand 21 dX7_marksOf_20 rfl ?_
    refine r_iload_n 22 dX7_marksOf_21 rfl rfl ?_
    refine r_ishl 23 dX7_marksOf_22 rfl o_3 ?_
    refine r_ior 24 dX7_marksOf_23 rfl ?_
    refine r_istore_n (ls' := [some (vR (some (14, k0))), some (vI x1), some (vI (aOr x2 (aShl (aAnd (aShr (M.1 29 k0 x3.toNat) x1) 1) x3))), some (vI x3)]) 25 dX7_marksOf_24 rfl rfl rfl rfl ?_
    refine r_iinc (ls' := [some (vR (some (14, k0))), some (vI x1), some (vI (aOr x2 (aShl (aAnd (aShr (M.1 29 k0 x3.toNat) x1) 1) x3))), some (vI (x3 + 1))]) 28 dX7_marksOf_25 rfl rfl rfl rfl o_4 rfl ?_
    refine r_goto 4 dX7_marksOf_28 rfl ?_
    exact h

set_option maxRecDepth 4000 in
theorem xX7_wordsOf_0 {l : Launch} {G : Gt} {d : Nat} {M M' : Mem} {r : Option Vl} {k0 : Nat} {x1 : Int} {x2 : Int} (h : 
    ∃ (r_3 : Int) (M_1 : Mem), Cl l G d mX7_marksOf [vR (some (14, k0)), vI x1] M (some (vI r_3)) M_1 ∧ Ex l G (d + 1) mX7_wordsOf 9 [some (vR (some (14, k0))), some (vI x1), some (vI x2), some (vI r_3), some (vI 0)] [] M_1 r M') : Cl l G (d + 1) mX7_wordsOf [vR (some (14, k0)), vI x1, vI x2] M r M' := by
  show Ex l G (d + 1) mX7_wordsOf 0 [some (vR (some (14, k0))), some (vI x1), some (vI x2), none, none] [] M r M'
  refine r_aload_n 1 dX7_wordsOf_0 rfl rfl ?_
  refine r_iload_n 2 dX7_wordsOf_1 rfl rfl ?_
  obtain ⟨r_3, M_1, hc_2, h⟩ := h
  refine v_1 (ci := 7) (C := (RX7, TX7, 5)) [vI x1] [] 5 dX7_wordsOf_2 rfl rfl rfl rfl rfl mo_X7_marksOf ml_7_48 rfl rfl hc_2 ?_
  refine r_istore_n (ls' := [some (vR (some (14, k0))), some (vI x1), some (vI x2), some (vI r_3), none]) 6 dX7_wordsOf_5 rfl rfl rfl rfl ?_
  refine r_iconst 7 dX7_wordsOf_6 rfl (InR_of rfl) ?_
  refine r_istore (ls' := [some (vR (some (14, k0))), some (vI x1), some (vI x2), some (vI r_3), some (vI 0)]) 9 dX7_wordsOf_7 rfl rfl rfl rfl ?_
  exact h
set_option maxRecDepth 4000 in
theorem xX7_wordsOf_9 {l : Launch} {G : Gt} {d : Nat} {M M' : Mem} {r : Option Vl} {k0 : Nat} {x1 : Int} {x2 : Int} {x3 : Int} {x4 : Int} (hS : Sh M.2.1) (h : 
    (6 ≤ x4 → r = some (vI x3) ∧ M' = M) ∧ (¬ (6 ≤ x4) → (InR (x4 * 12) ∧ InR ((x4 * 12) + x1) ∧ (0 ≤ ((x4 * 12) + x1) ∧ ((x4 * 12) + x1) < 72) ∧ (0 ≤ x2 ∧ x2 < 32) ∧ InR (10 + x4) ∧ (0 ≤ (10 + x4) ∧ (10 + x4) < 32) ∧ InR (x4 + 1)) ∧ Ex l G (d + 1) mX7_wordsOf 9 [some (vR (some (14, k0))), some (vI x1), some (vI x2), some (vI (aOr x3 (aShl (aAnd (aShr (M.1 30 k0 ((x4 * 12) + x1).toNat) x2) 1) (10 + x4)))), some (vI (x4 + 1))] [] M r M')) : Ex l G (d + 1) mX7_wordsOf 9 [some (vR (some (14, k0))), some (vI x1), some (vI x2), some (vI x3), some (vI x4)] [] M r M' := by
  refine r_iload 11 dX7_wordsOf_9 rfl rfl ?_
  refine r_bipush 13 dX7_wordsOf_11 rfl rfl ?_
  refine r_icmp_ge 16 47 dX7_wordsOf_13 rfl rfl (fun c => ?_) (fun c => ?_)
  · have h := h.1 (c)
    refine r_iload_n 48 dX7_wordsOf_47 rfl rfl ?_
    exact r_iret dX7_wordsOf_48 rfl (.inl rfl) h.1 h.2
  · have h := h.2 (c)
    obtain ⟨⟨o_1, o_2, o_3, o_4, o_5, o_6, o_7⟩, h⟩ := h
    refine r_iload_n 17 dX7_wordsOf_16 rfl rfl ?_
    refine r_aload_n 18 dX7_wordsOf_17 rfl rfl ?_
    refine g_R 21 dX7_wordsOf_18 rfl rfl rfl fr_7_15 (sh_7_2 hS _) ?_
    refine r_iload 23 dX7_wordsOf_21 rfl rfl ?_
    refine r_bipush 25 dX7_wordsOf_23 rfl rfl ?_
    refine r_imul 26 dX7_wordsOf_25 rfl o_1 ?_
    refine r_iload_n 27 dX7_wordsOf_26 rfl rfl ?_
    refine r_iadd 28 dX7_wordsOf_27 rfl o_2 ?_
    refine a_I 72 29 dX7_wordsOf_28 rfl rfl rfl rfl o_3 rfl ?_
    refine r_iload_n 30 dX7_wordsOf_29 rfl rfl ?_
    refine r_ishr 31 dX7_wordsOf_30 rfl o_4 ?_
    refine r_iconst 32 dX7_wordsOf_31 rfl (InR_of rfl) ?_
    refine r_iand 33 dX7_wordsOf_32 rfl ?_
    refine r_bipush 35 dX7_wordsOf_33 rfl rfl ?_
    refine r_iload 37 dX7_wordsOf_35 rfl rfl ?_
    refine r_iadd 38 dX7_wordsOf_37 rfl o_5 ?_
    refine r_ishl 39 dX7_wordsOf_38 rfl o_6 ?_
    refine r_ior 40 dX7_wordsOf_39 rfl ?_
    refine r_istore_n (ls' := [some (vR (some (14, k0))), some (vI x1), some (vI x2), some (vI (aOr x3 (aShl (aAnd (aShr (M.1 30 k0 ((x4 * 12) + x1).toNat) x2) 1) (10 + x4)))), some (vI x4)]) 41 dX7_wordsOf_40 rfl rfl rfl rfl ?_
    refine r_iinc (ls' := [some (vR (some (14, k0))), some (vI x1), some (vI x2), some (vI (aOr x3 (aShl (aAnd (aShr (M.1 30 k0 ((x4 * 12) + x1).toNat) x2) 1) (10 + x4)))), some (vI (x4 + 1))]) 44 dX7_wordsOf_41 rfl rfl rfl rfl o_7 rfl ?_
    refine r_goto 9 dX7_wordsOf_44 rfl ?_
    exact h

set_option maxRecDepth 4000 in
theorem xX7_wordHolders_0 {l : Launch} {G : Gt} {d : Nat} {M M' : Mem} {r : Option Vl} {k0 : Nat} {x1 : Int} {x2 : Int} (hS : Sh M.2.1) (h : 
    (10 ≤ x1 → Ex l G d mX7_wordHolders 18 [some (vR (some (14, k0))), some (vI x1), some (vI x2), some (vI 0), some (vI 0)] [] M r M') ∧ (¬ (10 ≤ x1) → ((0 ≤ x1 ∧ x1 < 10)) ∧ r = some (vI (M.1 29 k0 x1.toNat)) ∧ M' = M)) : Cl l G d mX7_wordHolders [vR (some (14, k0)), vI x1, vI x2] M r M' := by
  show Ex l G d mX7_wordHolders 0 [some (vR (some (14, k0))), some (vI x1), some (vI x2), none, none] [] M r M'
  refine r_iload_n 1 dX7_wordHolders_0 rfl rfl ?_
  refine r_bipush 3 dX7_wordHolders_1 rfl rfl ?_
  refine r_icmp_ge 6 13 dX7_wordHolders_3 rfl rfl (fun c => ?_) (fun c => ?_)
  · have h := h.1 (c)
    refine r_iconst 14 dX7_wordHolders_13 rfl (InR_of rfl) ?_
    refine r_istore_n (ls' := [some (vR (some (14, k0))), some (vI x1), some (vI x2), some (vI 0), none]) 15 dX7_wordHolders_14 rfl rfl rfl rfl ?_
    refine r_iconst 16 dX7_wordHolders_15 rfl (InR_of rfl) ?_
    refine r_istore (ls' := [some (vR (some (14, k0))), some (vI x1), some (vI x2), some (vI 0), some (vI 0)]) 18 dX7_wordHolders_16 rfl rfl rfl rfl ?_
    exact h
  · have h := h.2 (c)
    obtain ⟨o_1, h⟩ := h
    refine r_aload_n 7 dX7_wordHolders_6 rfl rfl ?_
    refine g_R 10 dX7_wordHolders_7 rfl rfl rfl fr_7_9 (sh_7_1 hS _) ?_
    refine r_iload_n 11 dX7_wordHolders_10 rfl rfl ?_
    refine a_I 10 12 dX7_wordHolders_11 rfl rfl rfl rfl o_1 rfl ?_
    exact r_iret dX7_wordHolders_12 rfl (.inl rfl) h.1 h.2
set_option maxRecDepth 4000 in
theorem xX7_wordHolders_18 {l : Launch} {G : Gt} {d : Nat} {M M' : Mem} {r : Option Vl} {k0 : Nat} {x1 : Int} {x2 : Int} {x3 : Int} {x4 : Int} (hS : Sh M.2.1) (h : 
    (12 ≤ x4 → r = some (vI x3) ∧ M' = M) ∧ (¬ (12 ≤ x4) → (InR (x1 - 10) ∧ InR ((x1 - 10) * 12) ∧ InR (((x1 - 10) * 12) + x4) ∧ (0 ≤ (((x1 - 10) * 12) + x4) ∧ (((x1 - 10) * 12) + x4) < 72) ∧ (0 ≤ x2 ∧ x2 < 32) ∧ (0 ≤ x4 ∧ x4 < 32) ∧ InR (x4 + 1)) ∧ Ex l G d mX7_wordHolders 18 [some (vR (some (14, k0))), some (vI x1), some (vI x2), some (vI (aOr x3 (aShl (aAnd (aShr (M.1 30 k0 (((x1 - 10) * 12) + x4).toNat) x2) 1) x4))), some (vI (x4 + 1))] [] M r M')) : Ex l G d mX7_wordHolders 18 [some (vR (some (14, k0))), some (vI x1), some (vI x2), some (vI x3), some (vI x4)] [] M r M' := by
  refine r_iload 20 dX7_wordHolders_18 rfl rfl ?_
  refine r_bipush 22 dX7_wordHolders_20 rfl rfl ?_
  refine r_icmp_ge 25 56 dX7_wordHolders_22 rfl rfl (fun c => ?_) (fun c => ?_)
  · have h := h.1 (c)
    refine r_iload_n 57 dX7_wordHolders_56 rfl rfl ?_
    exact r_iret dX7_wordHolders_57 rfl (.inl rfl) h.1 h.2
  · have h := h.2 (c)
    obtain ⟨⟨o_1, o_2, o_3, o_4, o_5, o_6, o_7⟩, h⟩ := h
    refine r_iload_n 26 dX7_wordHolders_25 rfl rfl ?_
    refine r_aload_n 27 dX7_wordHolders_26 rfl rfl ?_
    refine g_R 30 dX7_wordHolders_27 rfl rfl rfl fr_7_15 (sh_7_2 hS _) ?_
    refine r_iload_n 31 dX7_wordHolders_30 rfl rfl ?_
    refine r_bipush 33 dX7_wordHolders_31 rfl rfl ?_
    refine r_isub 34 dX7_wordHolders_33 rfl o_1 ?_
    refine r_bipush 36 dX7_wordHolders_34 rfl rfl ?_
    refine r_imul 37 dX7_wordHolders_36 rfl o_2 ?_
    refine r_iload 39 dX7_wordHolders_37 rfl rfl ?_
    refine r_iadd 40 dX7_wordHolders_39 rfl o_3 ?_
    refine a_I 72 41 dX7_wordHolders_40 rfl rfl rfl rfl o_4 rfl ?_
    refine r_iload_n 42 dX7_wordHolders_41 rfl rfl ?_
    refine r_ishr 43 dX7_wordHolders_42 rfl o_5 ?_
    refine r_iconst 44 dX7_wordHolders_43 rfl (InR_of rfl) ?_
    refine r_iand 45 dX7_wordHolders_44 rfl ?_
    refine r_iload 47 dX7_wordHolders_45 rfl rfl ?_
    refine r_ishl 48 dX7_wordHolders_47 rfl o_6 ?_
    refine r_ior 49 dX7_wordHolders_48 rfl ?_
    refine r_istore_n (ls' := [some (vR (some (14, k0))), some (vI x1), some (vI x2), some (vI (aOr x3 (aShl (aAnd (aShr (M.1 30 k0 (((x1 - 10) * 12) + x4).toNat) x2) 1) x4))), some (vI x4)]) 50 dX7_wordHolders_49 rfl rfl rfl rfl ?_
    refine r_iinc (ls' := [some (vR (some (14, k0))), some (vI x1), some (vI x2), some (vI (aOr x3 (aShl (aAnd (aShr (M.1 30 k0 (((x1 - 10) * 12) + x4).toNat) x2) 1) x4))), some (vI (x4 + 1))]) 53 dX7_wordHolders_50 rfl rfl rfl rfl o_7 rfl ?_
    refine r_goto 18 dX7_wordHolders_53 rfl ?_
    exact h

set_option maxRecDepth 4000 in
theorem xX12_standing_0 {l : Launch} {G : Gt} {d : Nat} {M M' : Mem} {r : Option Vl} {x1 : Int} {x2 : Int} (h : 
    Ex l G d mX12_standing 5 [some (vR (some (3, 0))), some (vI x1), some (vI x2), some (vI 0), some (vI 0)] [] M r M') : Cl l G d mX12_standing [vR (some (3, 0)), vI x1, vI x2] M r M' := by
  show Ex l G d mX12_standing 0 [some (vR (some (3, 0))), some (vI x1), some (vI x2), none, none] [] M r M'
  refine r_iconst 1 dX12_standing_0 rfl (InR_of rfl) ?_
  refine r_istore_n (ls' := [some (vR (some (3, 0))), some (vI x1), some (vI x2), some (vI 0), none]) 2 dX12_standing_1 rfl rfl rfl rfl ?_
  refine r_iconst 3 dX12_standing_2 rfl (InR_of rfl) ?_
  refine r_istore (ls' := [some (vR (some (3, 0))), some (vI x1), some (vI x2), some (vI 0), some (vI 0)]) 5 dX12_standing_3 rfl rfl rfl rfl ?_
  exact h
set_option maxRecDepth 4000 in
theorem xX12_standing_5 {l : Launch} {G : Gt} {d : Nat} {M M' : Mem} {r : Option Vl} {x1 : Int} {x2 : Int} {x3 : Int} {x4 : Int} (hS : Sh M.2.1) (h : 
    ((M.1 48 0 0) ≤ x4 → r = some (vI x3) ∧ M' = M) ∧ (¬ ((M.1 48 0 0) ≤ x4) → (InR (12 * x1) ∧ InR ((12 * x1) + x4) ∧ (0 ≤ ((12 * x1) + x4) ∧ ((12 * x1) + x4) < 24)) ∧ ((((M.1 73 0 ((12 * x1) + x4).toNat) = x2 → ((0 ≤ x4 ∧ x4 < 32)))) ∧ (InR (x4 + 1)) ∧ Ex l G d mX12_standing 5 [some (vR (some (3, 0))), some (vI x1), some (vI x2), some (vI (aOr x3 (if (M.1 73 0 ((12 * x1) + x4).toNat) = x2 then (aShl 1 x4) else 0 : Int))), some (vI (x4 + 1))] [] M r M'))) : Ex l G d mX12_standing 5 [some (vR (some (3, 0))), some (vI x1), some (vI x2), some (vI x3), some (vI x4)] [] M r M' := by
  refine r_iload 7 dX12_standing_5 rfl rfl ?_
  refine r_aload_n 8 dX12_standing_7 rfl rfl ?_
  refine g_R 11 dX12_standing_8 rfl rfl rfl fr_12_7 (sh_12_1 hS) ?_
  refine r_iconst 12 dX12_standing_11 rfl (InR_of rfl) ?_
  refine a_I 6 13 dX12_standing_12 rfl rfl rfl rfl ⟨by decide, by decide⟩ rfl ?_
  refine r_icmp_ge 16 49 dX12_standing_13 rfl rfl (fun c => ?_) (fun c => ?_)
  · have h := h.1 (c)
    refine r_iload_n 50 dX12_standing_49 rfl rfl ?_
    exact r_iret dX12_standing_50 rfl (.inl rfl) h.1 h.2
  · have h := h.2 (c)
    obtain ⟨⟨o_1, o_2, o_3⟩, h⟩ := h
    refine r_iload_n 17 dX12_standing_16 rfl rfl ?_
    refine r_aload_n 18 dX12_standing_17 rfl rfl ?_
    refine g_R 21 dX12_standing_18 rfl rfl rfl fr_12_85 (sh_12_26 hS) ?_
    refine r_bipush 23 dX12_standing_21 rfl rfl ?_
    refine r_iload_n 24 dX12_standing_23 rfl rfl ?_
    refine r_imul 25 dX12_standing_24 rfl o_1 ?_
    refine r_iload 27 dX12_standing_25 rfl rfl ?_
    refine r_iadd 28 dX12_standing_27 rfl o_2 ?_
    refine a_I 24 29 dX12_standing_28 rfl rfl rfl rfl o_3 rfl ?_
    refine r_iload_n 30 dX12_standing_29 rfl rfl ?_
    obtain ⟨h0, h⟩ := h
    have hJ_4 : Ex l G d mX12_standing 41 [some (vR (some (3, 0))), some (vI x1), some (vI x2), some (vI x3), some (vI x4)] [vI (if (M.1 73 0 ((12 * x1) + x4).toNat) = x2 then (aShl 1 x4) else 0 : Int), vI x3] M r M' := by
      obtain ⟨o_7, h⟩ := h
      refine r_ior 42 dX12_standing_41 rfl ?_
      refine r_istore_n (ls' := [some (vR (some (3, 0))), some (vI x1), some (vI x2), some (vI (aOr x3 (if (M.1 73 0 ((12 * x1) + x4).toNat) = x2 then (aShl 1 x4) else 0 : Int))), some (vI x4)]) 43 dX12_standing_42 rfl rfl rfl rfl ?_
      refine r_iinc (ls' := [some (vR (some (3, 0))), some (vI x1), some (vI x2), some (vI (aOr x3 (if (M.1 73 0 ((12 * x1) + x4).toNat) = x2 then (aShl 1 x4) else 0 : Int))), some (vI (x4 + 1))]) 46 dX12_standing_43 rfl rfl rfl rfl o_7 rfl ?_
      refine r_goto 5 dX12_standing_46 rfl ?_
      exact h
    have h := h0
    refine r_icmp_ne 33 40 dX12_standing_30 rfl rfl (fun c => ?_) (fun c => ?_)
    · have c_5 := c
      refine r_iconst 41 dX12_standing_40 rfl (InR_of rfl) ?_
      exact (Ex.at hJ_4 rfl (show [vI 0, vI x3] = [vI (if (M.1 73 0 ((12 * x1) + x4).toNat) = x2 then (aShl 1 x4) else 0 : Int), vI x3] by simp only [if_neg c_5]) rfl)
    · have c_5 := Decidable.not_not.mp c
      have h := h c_5
      have o_6 := h
      refine r_iconst 34 dX12_standing_33 rfl (InR_of rfl) ?_
      refine r_iload 36 dX12_standing_34 rfl rfl ?_
      refine r_ishl 37 dX12_standing_36 rfl o_6 ?_
      refine r_goto 41 dX12_standing_37 rfl ?_
      exact (Ex.at hJ_4 rfl (show [vI (aShl 1 x4), vI x3] = [vI (if (M.1 73 0 ((12 * x1) + x4).toNat) = x2 then (aShl 1 x4) else 0 : Int), vI x3] by simp only [if_pos c_5]) rfl)

set_option maxRecDepth 4000 in
theorem xX12_markedSet_0 {l : Launch} {G : Gt} {d : Nat} {M M' : Mem} {r : Option Vl} {x1 : Int} {x2 : Int} (h : 
    Ex l G (d + 1) mX12_markedSet 5 [some (vR (some (3, 0))), some (vI x1), some (vI x2), some (vI 0), some (vI 0)] [] M r M') : Cl l G (d + 1) mX12_markedSet [vR (some (3, 0)), vI x1, vI x2] M r M' := by
  show Ex l G (d + 1) mX12_markedSet 0 [some (vR (some (3, 0))), some (vI x1), some (vI x2), none, none] [] M r M'
  refine r_iconst 1 dX12_markedSet_0 rfl (InR_of rfl) ?_
  refine r_istore_n (ls' := [some (vR (some (3, 0))), some (vI x1), some (vI x2), some (vI 0), none]) 2 dX12_markedSet_1 rfl rfl rfl rfl ?_
  refine r_iconst 3 dX12_markedSet_2 rfl (InR_of rfl) ?_
  refine r_istore (ls' := [some (vR (some (3, 0))), some (vI x1), some (vI x2), some (vI 0), some (vI 0)]) 5 dX12_markedSet_3 rfl rfl rfl rfl ?_
  exact h
set_option maxRecDepth 4000 in
theorem xX12_markedSet_5 {l : Launch} {G : Gt} {d : Nat} {M M' : Mem} {r : Option Vl} {x1 : Int} {x2 : Int} {x3 : Int} {x4 : Int} (hS : Sh M.2.1) (h : 
    ((M.1 48 0 0) ≤ x4 → r = some (vI x3) ∧ M' = M) ∧ (¬ ((M.1 48 0 0) ≤ x4) → (InR (12 * x1) ∧ InR ((12 * x1) + x4) ∧ (0 ≤ ((12 * x1) + x4) ∧ ((12 * x1) + x4) < 24) ∧ (0 ≤ (M.1 71 0 ((12 * x1) + x4).toNat) ∧ 0 ≤ x2 ∧ x2 < 32)) ∧ (((tb (M.1 71 0 ((12 * x1) + x4).toNat) x2 = true → ((0 ≤ x4 ∧ x4 < 32)))) ∧ (InR (x4 + 1)) ∧ Ex l G (d + 1) mX12_markedSet 5 [some (vR (some (3, 0))), some (vI x1), some (vI x2), some (vI (aOr x3 (if tb (M.1 71 0 ((12 * x1) + x4).toNat) x2 = true then (aShl 1 x4) else 0 : Int))), some (vI (x4 + 1))] [] M r M'))) : Ex l G (d + 1) mX12_markedSet 5 [some (vR (some (3, 0))), some (vI x1), some (vI x2), some (vI x3), some (vI x4)] [] M r M' := by
  refine r_iload 7 dX12_markedSet_5 rfl rfl ?_
  refine r_aload_n 8 dX12_markedSet_7 rfl rfl ?_
  refine g_R 11 dX12_markedSet_8 rfl rfl rfl fr_12_7 (sh_12_1 hS) ?_
  refine r_iconst 12 dX12_markedSet_11 rfl (InR_of rfl) ?_
  refine a_I 6 13 dX12_markedSet_12 rfl rfl rfl rfl ⟨by decide, by decide⟩ rfl ?_
  refine r_icmp_ge 16 52 dX12_markedSet_13 rfl rfl (fun c => ?_) (fun c => ?_)
  · have h := h.1 (c)
    refine r_iload_n 53 dX12_markedSet_52 rfl rfl ?_
    exact r_iret dX12_markedSet_53 rfl (.inl rfl) h.1 h.2
  · have h := h.2 (c)
    obtain ⟨⟨o_1, o_2, o_3, o_4⟩, h⟩ := h
    refine r_iload_n 17 dX12_markedSet_16 rfl rfl ?_
    refine r_aload_n 18 dX12_markedSet_17 rfl rfl ?_
    refine g_R 21 dX12_markedSet_18 rfl rfl rfl fr_12_79 (sh_12_24 hS) ?_
    refine r_bipush 23 dX12_markedSet_21 rfl rfl ?_
    refine r_iload_n 24 dX12_markedSet_23 rfl rfl ?_
    refine r_imul 25 dX12_markedSet_24 rfl o_1 ?_
    refine r_iload 27 dX12_markedSet_25 rfl rfl ?_
    refine r_iadd 28 dX12_markedSet_27 rfl o_2 ?_
    refine a_I 24 29 dX12_markedSet_28 rfl rfl rfl rfl o_3 rfl ?_
    refine r_iload_n 30 dX12_markedSet_29 rfl rfl ?_
    refine c_1 [vI (M.1 71 0 ((12 * x1) + x4).toNat), vI x2] [vI x3] 33 dX12_markedSet_30 rfl rfl mo_X12_has ml_12_148 rfl rfl (KX12_has o_4) ?_
    obtain ⟨h0, h⟩ := h
    have hJ_5 : Ex l G (d + 1) mX12_markedSet 44 [some (vR (some (3, 0))), some (vI x1), some (vI x2), some (vI x3), some (vI x4)] [vI (if tb (M.1 71 0 ((12 * x1) + x4).toNat) x2 = true then (aShl 1 x4) else 0 : Int), vI x3] M r M' := by
      obtain ⟨o_8, h⟩ := h
      refine r_ior 45 dX12_markedSet_44 rfl ?_
      refine r_istore_n (ls' := [some (vR (some (3, 0))), some (vI x1), some (vI x2), some (vI (aOr x3 (if tb (M.1 71 0 ((12 * x1) + x4).toNat) x2 = true then (aShl 1 x4) else 0 : Int))), some (vI x4)]) 46 dX12_markedSet_45 rfl rfl rfl rfl ?_
      refine r_iinc (ls' := [some (vR (some (3, 0))), some (vI x1), some (vI x2), some (vI (aOr x3 (if tb (M.1 71 0 ((12 * x1) + x4).toNat) x2 = true then (aShl 1 x4) else 0 : Int))), some (vI (x4 + 1))]) 49 dX12_markedSet_46 rfl rfl rfl rfl o_8 rfl ?_
      refine r_goto 5 dX12_markedSet_49 rfl ?_
      exact h
    have h := h0
    refine r_if_eq 36 43 dX12_markedSet_33 rfl rfl (fun c => ?_) (fun c => ?_)
    · have c_6 := b2_0.mp c
      refine r_iconst 44 dX12_markedSet_43 rfl (InR_of rfl) ?_
      exact (Ex.at hJ_5 rfl (show [vI 0, vI x3] = [vI (if tb (M.1 71 0 ((12 * x1) + x4).toNat) x2 = true then (aShl 1 x4) else 0 : Int), vI x3] by simp only [if_neg c_6]) rfl)
    · have c_6 := b2_1.mp c
      have h := h c_6
      have o_7 := h
      refine r_iconst 37 dX12_markedSet_36 rfl (InR_of rfl) ?_
      refine r_iload 39 dX12_markedSet_37 rfl rfl ?_
      refine r_ishl 40 dX12_markedSet_39 rfl o_7 ?_
      refine r_goto 44 dX12_markedSet_40 rfl ?_
      exact (Ex.at hJ_5 rfl (show [vI (aShl 1 x4), vI x3] = [vI (if tb (M.1 71 0 ((12 * x1) + x4).toNat) x2 = true then (aShl 1 x4) else 0 : Int), vI x3] by simp only [if_pos c_6]) rfl)

set_option maxRecDepth 4000 in
theorem xX12_tiedSet_0 {l : Launch} {G : Gt} {d : Nat} {M M' : Mem} {r : Option Vl} {x1 : Int} {x2 : Int} {x3 : Int} (h : 
    Ex l G d mX12_tiedSet 6 [some (vR (some (3, 0))), some (vI x1), some (vI x2), some (vI x3), some (vI 0), some (vI 0)] [] M r M') : Cl l G d mX12_tiedSet [vR (some (3, 0)), vI x1, vI x2, vI x3] M r M' := by
  show Ex l G d mX12_tiedSet 0 [some (vR (some (3, 0))), some (vI x1), some (vI x2), some (vI x3), none, none] [] M r M'
  refine r_iconst 1 dX12_tiedSet_0 rfl (InR_of rfl) ?_
  refine r_istore (ls' := [some (vR (some (3, 0))), some (vI x1), some (vI x2), some (vI x3), some (vI 0), none]) 3 dX12_tiedSet_1 rfl rfl rfl rfl ?_
  refine r_iconst 4 dX12_tiedSet_3 rfl (InR_of rfl) ?_
  refine r_istore (ls' := [some (vR (some (3, 0))), some (vI x1), some (vI x2), some (vI x3), some (vI 0), some (vI 0)]) 6 dX12_tiedSet_4 rfl rfl rfl rfl ?_
  exact h
set_option maxRecDepth 4000 in
theorem xX12_tiedSet_6 {l : Launch} {G : Gt} {d : Nat} {M M' : Mem} {r : Option Vl} {x1 : Int} {x2 : Int} {x3 : Int} {x4 : Int} {x5 : Int} (hS : Sh M.2.1) (h : 
    ((M.1 48 0 0) ≤ x5 → r = some (vI x4) ∧ M' = M) ∧ (¬ ((M.1 48 0 0) ≤ x5) → (InR (12 * x1) ∧ InR ((12 * x1) + x5) ∧ InR (6 * ((12 * x1) + x5)) ∧ InR ((6 * ((12 * x1) + x5)) + x2) ∧ (0 ≤ ((6 * ((12 * x1) + x5)) + x2) ∧ ((6 * ((12 * x1) + x5)) + x2) < 144)) ∧ (((¬ ((aAnd (M.1 72 0 ((6 * ((12 * x1) + x5)) + x2).toNat) x3) = 0) → ((0 ≤ x5 ∧ x5 < 32)))) ∧ (InR (x5 + 1)) ∧ Ex l G d mX12_tiedSet 6 [some (vR (some (3, 0))), some (vI x1), some (vI x2), some (vI x3), some (vI (aOr x4 (if (aAnd (M.1 72 0 ((6 * ((12 * x1) + x5)) + x2).toNat) x3) = 0 then 0 else (aShl 1 x5) : Int))), some (vI (x5 + 1))] [] M r M'))) : Ex l G d mX12_tiedSet 6 [some (vR (some (3, 0))), some (vI x1), some (vI x2), some (vI x3), some (vI x4), some (vI x5)] [] M r M' := by
  refine r_iload 8 dX12_tiedSet_6 rfl rfl ?_
  refine r_aload_n 9 dX12_tiedSet_8 rfl rfl ?_
  refine g_R 12 dX12_tiedSet_9 rfl rfl rfl fr_12_7 (sh_12_1 hS) ?_
  refine r_iconst 13 dX12_tiedSet_12 rfl (InR_of rfl) ?_
  refine a_I 6 14 dX12_tiedSet_13 rfl rfl rfl rfl ⟨by decide, by decide⟩ rfl ?_
  refine r_icmp_ge 17 58 dX12_tiedSet_14 rfl rfl (fun c => ?_) (fun c => ?_)
  · have h := h.1 (c)
    refine r_iload 60 dX12_tiedSet_58 rfl rfl ?_
    exact r_iret dX12_tiedSet_60 rfl (.inl rfl) h.1 h.2
  · have h := h.2 (c)
    obtain ⟨⟨o_1, o_2, o_3, o_4, o_5⟩, h⟩ := h
    refine r_iload 19 dX12_tiedSet_17 rfl rfl ?_
    refine r_aload_n 20 dX12_tiedSet_19 rfl rfl ?_
    refine g_R 23 dX12_tiedSet_20 rfl rfl rfl fr_12_82 (sh_12_25 hS) ?_
    refine r_bipush 25 dX12_tiedSet_23 rfl rfl ?_
    refine r_bipush 27 dX12_tiedSet_25 rfl rfl ?_
    refine r_iload_n 28 dX12_tiedSet_27 rfl rfl ?_
    refine r_imul 29 dX12_tiedSet_28 rfl o_1 ?_
    refine r_iload 31 dX12_tiedSet_29 rfl rfl ?_
    refine r_iadd 32 dX12_tiedSet_31 rfl o_2 ?_
    refine r_imul 33 dX12_tiedSet_32 rfl o_3 ?_
    refine r_iload_n 34 dX12_tiedSet_33 rfl rfl ?_
    refine r_iadd 35 dX12_tiedSet_34 rfl o_4 ?_
    refine a_I 144 36 dX12_tiedSet_35 rfl rfl rfl rfl o_5 rfl ?_
    refine r_iload_n 37 dX12_tiedSet_36 rfl rfl ?_
    refine r_iand 38 dX12_tiedSet_37 rfl ?_
    obtain ⟨h0, h⟩ := h
    have hJ_6 : Ex l G d mX12_tiedSet 49 [some (vR (some (3, 0))), some (vI x1), some (vI x2), some (vI x3), some (vI x4), some (vI x5)] [vI (if (aAnd (M.1 72 0 ((6 * ((12 * x1) + x5)) + x2).toNat) x3) = 0 then 0 else (aShl 1 x5) : Int), vI x4] M r M' := by
      obtain ⟨o_9, h⟩ := h
      refine r_ior 50 dX12_tiedSet_49 rfl ?_
      refine r_istore (ls' := [some (vR (some (3, 0))), some (vI x1), some (vI x2), some (vI x3), some (vI (aOr x4 (if (aAnd (M.1 72 0 ((6 * ((12 * x1) + x5)) + x2).toNat) x3) = 0 then 0 else (aShl 1 x5) : Int))), some (vI x5)]) 52 dX12_tiedSet_50 rfl rfl rfl rfl ?_
      refine r_iinc (ls' := [some (vR (some (3, 0))), some (vI x1), some (vI x2), some (vI x3), some (vI (aOr x4 (if (aAnd (M.1 72 0 ((6 * ((12 * x1) + x5)) + x2).toNat) x3) = 0 then 0 else (aShl 1 x5) : Int))), some (vI (x5 + 1))]) 55 dX12_tiedSet_52 rfl rfl rfl rfl o_9 rfl ?_
      refine r_goto 6 dX12_tiedSet_55 rfl ?_
      exact h
    have h := h0
    refine r_if_eq 41 48 dX12_tiedSet_38 rfl rfl (fun c => ?_) (fun c => ?_)
    · have c_7 := c
      refine r_iconst 49 dX12_tiedSet_48 rfl (InR_of rfl) ?_
      exact (Ex.at hJ_6 rfl (show [vI 0, vI x4] = [vI (if (aAnd (M.1 72 0 ((6 * ((12 * x1) + x5)) + x2).toNat) x3) = 0 then 0 else (aShl 1 x5) : Int), vI x4] by simp only [if_pos c_7]) rfl)
    · have c_7 := c
      have h := h c_7
      have o_8 := h
      refine r_iconst 42 dX12_tiedSet_41 rfl (InR_of rfl) ?_
      refine r_iload 44 dX12_tiedSet_42 rfl rfl ?_
      refine r_ishl 45 dX12_tiedSet_44 rfl o_8 ?_
      refine r_goto 49 dX12_tiedSet_45 rfl ?_
      exact (Ex.at hJ_6 rfl (show [vI (aShl 1 x5), vI x4] = [vI (if (aAnd (M.1 72 0 ((6 * ((12 * x1) + x5)) + x2).toNat) x3) = 0 then 0 else (aShl 1 x5) : Int), vI x4] by simp only [if_neg c_7]) rfl)

set_option maxRecDepth 4000 in
theorem xX12_wordsOf_0 {l : Launch} {G : Gt} {d : Nat} {M M' : Mem} {r : Option Vl} {x1 : Int} {x2 : Int} (hS : Sh M.2.1) (h : 
    (InR (12 + x1) ∧ (0 ≤ (12 + x1) ∧ (12 + x1) < 24)) ∧ Ex l G (d + 1) mX12_wordsOf 13 [some (vR (some (3, 0))), some (vI x1), some (vI x2), some (vI (M.1 71 0 (12 + x1).toNat)), some (vI 0)] [] M r M') : Cl l G (d + 1) mX12_wordsOf [vR (some (3, 0)), vI x1, vI x2] M r M' := by
  show Ex l G (d + 1) mX12_wordsOf 0 [some (vR (some (3, 0))), some (vI x1), some (vI x2), none, none] [] M r M'
  obtain ⟨⟨o_1, o_2⟩, h⟩ := h
  refine r_aload_n 1 dX12_wordsOf_0 rfl rfl ?_
  refine g_R 4 dX12_wordsOf_1 rfl rfl rfl fr_12_79 (sh_12_24 hS) ?_
  refine r_bipush 6 dX12_wordsOf_4 rfl rfl ?_
  refine r_iload_n 7 dX12_wordsOf_6 rfl rfl ?_
  refine r_iadd 8 dX12_wordsOf_7 rfl o_1 ?_
  refine a_I 24 9 dX12_wordsOf_8 rfl rfl rfl rfl o_2 rfl ?_
  refine r_istore_n (ls' := [some (vR (some (3, 0))), some (vI x1), some (vI x2), some (vI (M.1 71 0 (12 + x1).toNat)), none]) 10 dX12_wordsOf_9 rfl rfl rfl rfl ?_
  refine r_iconst 11 dX12_wordsOf_10 rfl (InR_of rfl) ?_
  refine r_istore (ls' := [some (vR (some (3, 0))), some (vI x1), some (vI x2), some (vI (M.1 71 0 (12 + x1).toNat)), some (vI 0)]) 13 dX12_wordsOf_11 rfl rfl rfl rfl ?_
  exact h
set_option maxRecDepth 4000 in
theorem xX12_wordsOf_13 {l : Launch} {G : Gt} {d : Nat} {M M' : Mem} {r : Option Vl} {x1 : Int} {x2 : Int} {x3 : Int} {x4 : Int} (hS : Sh M.2.1) (h : 
    (6 ≤ x4 → r = some (vI x3) ∧ M' = M) ∧ (¬ (6 ≤ x4) → (InR (12 + x1) ∧ InR (6 * (12 + x1)) ∧ InR ((6 * (12 + x1)) + x4) ∧ (0 ≤ ((6 * (12 + x1)) + x4) ∧ ((6 * (12 + x1)) + x4) < 144) ∧ (0 ≤ (M.1 72 0 ((6 * (12 + x1)) + x4).toNat) ∧ 0 ≤ x2 ∧ x2 < 32)) ∧ (((tb (M.1 72 0 ((6 * (12 + x1)) + x4).toNat) x2 = true → (InR (10 + x4) ∧ (0 ≤ (10 + x4) ∧ (10 + x4) < 32)))) ∧ (InR (x4 + 1)) ∧ Ex l G (d + 1) mX12_wordsOf 13 [some (vR (some (3, 0))), some (vI x1), some (vI x2), some (vI (aOr x3 (if tb (M.1 72 0 ((6 * (12 + x1)) + x4).toNat) x2 = true then (aShl 1 (10 + x4)) else 0 : Int))), some (vI (x4 + 1))] [] M r M'))) : Ex l G (d + 1) mX12_wordsOf 13 [some (vR (some (3, 0))), some (vI x1), some (vI x2), some (vI x3), some (vI x4)] [] M r M' := by
  refine r_iload 15 dX12_wordsOf_13 rfl rfl ?_
  refine r_bipush 17 dX12_wordsOf_15 rfl rfl ?_
  refine r_icmp_ge 20 62 dX12_wordsOf_17 rfl rfl (fun c => ?_) (fun c => ?_)
  · have h := h.1 (c)
    refine r_iload_n 63 dX12_wordsOf_62 rfl rfl ?_
    exact r_iret dX12_wordsOf_63 rfl (.inl rfl) h.1 h.2
  · have h := h.2 (c)
    obtain ⟨⟨o_1, o_2, o_3, o_4, o_5⟩, h⟩ := h
    refine r_iload_n 21 dX12_wordsOf_20 rfl rfl ?_
    refine r_aload_n 22 dX12_wordsOf_21 rfl rfl ?_
    refine g_R 25 dX12_wordsOf_22 rfl rfl rfl fr_12_82 (sh_12_25 hS) ?_
    refine r_bipush 27 dX12_wordsOf_25 rfl rfl ?_
    refine r_bipush 29 dX12_wordsOf_27 rfl rfl ?_
    refine r_iload_n 30 dX12_wordsOf_29 rfl rfl ?_
    refine r_iadd 31 dX12_wordsOf_30 rfl o_1 ?_
    refine r_imul 32 dX12_wordsOf_31 rfl o_2 ?_
    refine r_iload 34 dX12_wordsOf_32 rfl rfl ?_
    refine r_iadd 35 dX12_wordsOf_34 rfl o_3 ?_
    refine a_I 144 36 dX12_wordsOf_35 rfl rfl rfl rfl o_4 rfl ?_
    refine r_iload_n 37 dX12_wordsOf_36 rfl rfl ?_
    refine c_1 [vI (M.1 72 0 ((6 * (12 + x1)) + x4).toNat), vI x2] [vI x3] 40 dX12_wordsOf_37 rfl rfl mo_X12_has ml_12_148 rfl rfl (KX12_has o_5) ?_
    obtain ⟨h0, h⟩ := h
    have hJ_6 : Ex l G (d + 1) mX12_wordsOf 54 [some (vR (some (3, 0))), some (vI x1), some (vI x2), some (vI x3), some (vI x4)] [vI (if tb (M.1 72 0 ((6 * (12 + x1)) + x4).toNat) x2 = true then (aShl 1 (10 + x4)) else 0 : Int), vI x3] M r M' := by
      obtain ⟨o_10, h⟩ := h
      refine r_ior 55 dX12_wordsOf_54 rfl ?_
      refine r_istore_n (ls' := [some (vR (some (3, 0))), some (vI x1), some (vI x2), some (vI (aOr x3 (if tb (M.1 72 0 ((6 * (12 + x1)) + x4).toNat) x2 = true then (aShl 1 (10 + x4)) else 0 : Int))), some (vI x4)]) 56 dX12_wordsOf_55 rfl rfl rfl rfl ?_
      refine r_iinc (ls' := [some (vR (some (3, 0))), some (vI x1), some (vI x2), some (vI (aOr x3 (if tb (M.1 72 0 ((6 * (12 + x1)) + x4).toNat) x2 = true then (aShl 1 (10 + x4)) else 0 : Int))), some (vI (x4 + 1))]) 59 dX12_wordsOf_56 rfl rfl rfl rfl o_10 rfl ?_
      refine r_goto 13 dX12_wordsOf_59 rfl ?_
      exact h
    have h := h0
    refine r_if_eq 43 53 dX12_wordsOf_40 rfl rfl (fun c => ?_) (fun c => ?_)
    · have c_7 := b2_0.mp c
      refine r_iconst 54 dX12_wordsOf_53 rfl (InR_of rfl) ?_
      exact (Ex.at hJ_6 rfl (show [vI 0, vI x3] = [vI (if tb (M.1 72 0 ((6 * (12 + x1)) + x4).toNat) x2 = true then (aShl 1 (10 + x4)) else 0 : Int), vI x3] by simp only [if_neg c_7]) rfl)
    · have c_7 := b2_1.mp c
      have h := h c_7
      obtain ⟨o_8, o_9⟩ := h
      refine r_iconst 44 dX12_wordsOf_43 rfl (InR_of rfl) ?_
      refine r_bipush 46 dX12_wordsOf_44 rfl rfl ?_
      refine r_iload 48 dX12_wordsOf_46 rfl rfl ?_
      refine r_iadd 49 dX12_wordsOf_48 rfl o_8 ?_
      refine r_ishl 50 dX12_wordsOf_49 rfl o_9 ?_
      refine r_goto 54 dX12_wordsOf_50 rfl ?_
      exact (Ex.at hJ_6 rfl (show [vI (aShl 1 (10 + x4)), vI x3] = [vI (if tb (M.1 72 0 ((6 * (12 + x1)) + x4).toNat) x2 = true then (aShl 1 (10 + x4)) else 0 : Int), vI x3] by simp only [if_pos c_7]) rfl)

def wdF (Q : QT) (n p s w : Nat) : Bool := if w < 10 then mkF Q n p w else tiF Q n p (w - 10) s
section S2
variable {l : Launch} {G : Gt} {d : Nat} {M : Mem}
theorem KX7_marksOf {Q : QT} {k n one : Nat} (hS : Sh M.2.1) (hL : Snap Q M.1 k n) (h1 : one < 12) : Cl l G d mX7_marksOf [vR (some (14, k)), vI (one : Int)] M (some (vI (bI 10 (fun m => mkF Q n one m)))) M := by
  refine xX7_marksOf_0 ?_
  refine loopUp (P := fun m => Ex l G d mX7_marksOf 4 [some (vR (some (14, k))), some (vI (one : Int)), some (vI (bI m (fun m => mkF Q n one m))), some (vI (m : Int))] [] M (some (vI (bI 10 (fun m => mkF Q n one m)))) M) 0 10 (by omega) ?_ ?_
  · intro m _ hm ih
    refine xX7_marksOf_4 hS ⟨fun c => absurd c (by omega), fun _ => ⟨⟨by omega, by omega, by omega, by unfold InR; omega⟩, ?_⟩⟩
    simp only [Int.toNat_natCast]
    rw [hL.1 m hm, sh_bit (by omega) (by omega) (by omega) (by omega), bI_step (by omega) (by simp [h1])]
    exact ih
  · exact xX7_marksOf_4 hS ⟨fun _ => ⟨rfl, rfl⟩, fun c => absurd (show (10 : Int) ≤ ((10 : Nat) : Int) by omega) c⟩
theorem KX7_wordsOf {Q : QT} {k n one s : Nat} (hS : Sh M.2.1) (hL : Snap Q M.1 k n) (h1 : one < 12) (h2 : s < 12) : Cl l G (d + 1) mX7_wordsOf [vR (some (14, k)), vI (one : Int), vI (s : Int)] M (some (vI (bI 16 (wdF Q n one s)))) M := by
  refine xX7_wordsOf_0 ⟨_, M, KX7_marksOf hS hL h1, ?_⟩
  have e0 : bI 10 (fun m => mkF Q n one m) = bI (10 + 0) (wdF Q n one s) := bI_ext fun i hi => by unfold wdF; rw [if_pos hi]
  rw [e0]
  refine loopUp (P := fun t => Ex l G (d + 1) mX7_wordsOf 9 [some (vR (some (14, k))), some (vI (one : Int)), some (vI (s : Int)), some (vI (bI (10 + t) (wdF Q n one s))), some (vI (t : Int))] [] M (some (vI (bI 16 (wdF Q n one s)))) M) 0 6 (by omega) ?_ ?_
  · intro t _ ht ih
    refine xX7_wordsOf_9 hS ⟨fun c => absurd c (by omega), fun _ => ⟨⟨by unfold InR; omega, by unfold InR; omega, by omega, by omega, by unfold InR; omega, by omega, by unfold InR; omega⟩, ?_⟩⟩
    rw [show ((t : Int) * 12 + (one : Int)).toNat = 12 * t + one by omega, hL.2.1 t one ht h1, sh_bit (by omega) (by omega) (by omega) (by omega), show (10 : Int) + (t : Int) = ((10 + t : Nat) : Int) by omega, bI_step (by omega) (by unfold wdF; rw [if_neg (by omega), show 10 + t - 10 = t by omega]; simp [h2])]
    exact ih
  · exact xX7_wordsOf_9 hS ⟨fun _ => ⟨rfl, rfl⟩, fun c => absurd (show (6 : Int) ≤ ((6 : Nat) : Int) by omega) c⟩
theorem KX7_wordHolders {Q : QT} {k n w s : Nat} (hS : Sh M.2.1) (hL : Snap Q M.1 k n) (h1 : w < 16) (h2 : s < 12) : Cl l G d mX7_wordHolders [vR (some (14, k)), vI (w : Int), vI (s : Int)] M (some (vI (bI 12 (fun p => wdF Q n p s w)))) M := by
  refine xX7_wordHolders_0 hS ⟨fun c => ?_, fun c => ⟨by omega, ?_, rfl⟩⟩
  · refine loopUp (P := fun p => Ex l G d mX7_wordHolders 18 [some (vR (some (14, k))), some (vI (w : Int)), some (vI (s : Int)), some (vI (bI p (fun p => wdF Q n p s w))), some (vI (p : Int))] [] M (some (vI (bI 12 (fun p => wdF Q n p s w)))) M) 0 12 (by omega) ?_ ?_
    · intro p _ hp ih
      refine xX7_wordHolders_18 hS ⟨fun c => absurd c (by omega), fun _ => ⟨⟨by unfold InR; omega, by unfold InR; omega, by unfold InR; omega, by omega, by omega, by omega, by unfold InR; omega⟩, ?_⟩⟩
      rw [show (((w : Int) - 10) * 12 + (p : Int)).toNat = 12 * (w - 10) + p by omega, hL.2.1 (w - 10) p (by omega) hp, sh_bit (by omega) (by omega) (by omega) (by omega), bI_step (by omega) (by unfold wdF; rw [if_neg (by omega)]; simp [h2])]
      exact ih
    · exact xX7_wordHolders_18 hS ⟨fun _ => ⟨rfl, rfl⟩, fun c => absurd (show (12 : Int) ≤ ((12 : Nat) : Int) by omega) c⟩
  · simp only [Int.toNat_natCast]
    rw [hL.1 w (by omega)]
    congr 2
    exact bI_ext fun i hi => by unfold wdF; rw [if_pos (by omega)]
theorem KX12_standing {Q : QT} {row n a : Nat} (hS : Sh M.2.1) (hw : WFc Q) (hH : HoldsC Q M.1) (hL : Laid Q M.1 row n) (hr : row < 2) : Cl l G d mX12_standing [vR (some (3, 0)), vI (row : Int), vI (a : Int)] M (some (vI (bI 12 (fun p => decide (p < nPp Q ∧ plF Q n p = a))))) M := by
  have h12 := nPp_le hw
  have hpp := nPp_eq hw
  have e1 := hH.1 48 0 (by omega)
  refine xX12_standing_0 ?_
  have e0 : bI 12 (fun p => decide (p < nPp Q ∧ plF Q n p = a)) = bI (nPp Q) (fun p => decide (p < nPp Q ∧ plF Q n p = a)) := (bI_len h12 (fun i h1 h2 => by simp; omega)).symm
  rw [e0]
  refine loopUp (P := fun p => Ex l G d mX12_standing 5 [some (vR (some (3, 0))), some (vI (row : Int)), some (vI (a : Int)), some (vI (bI p (fun p => decide (p < nPp Q ∧ plF Q n p = a)))), some (vI (p : Int))] [] M (some (vI (bI (nPp Q) (fun p => decide (p < nPp Q ∧ plF Q n p = a))))) M) 0 (nPp Q) (Nat.zero_le _) ?_ ?_
  · intro p _ hp ih
    refine xX12_standing_5 hS ⟨fun c => ?_, fun _ => ⟨⟨by unfold InR; omega, by unfold InR; omega, by omega⟩, fun _ => by omega, by unfold InR; omega, ?_⟩⟩
    · rw [e1, hpp] at c; omega
    · rw [show (12 * (row : Int) + (p : Int)).toNat = 12 * row + p by omega, hL.2.2 p (by omega), bI_step (by omega) (by simp [hp])]
      exact ih
  · refine xX12_standing_5 hS ⟨fun _ => ⟨rfl, rfl⟩, fun c => absurd ?_ c⟩
    rw [e1, hpp]; exact Int.le_refl _
theorem KX12_markedSet {Q : QT} {row n m : Nat} (hS : Sh M.2.1) (hw : WFc Q) (hn : n ≤ nCh Q) (hH : HoldsC Q M.1) (hL : Laid Q M.1 row n) (hr : row < 2) (hm : m < 10) : Cl l G (d + 1) mX12_markedSet [vR (some (3, 0)), vI (row : Int), vI (m : Int)] M (some (vI (bI 12 (fun p => mkF Q n p m)))) M := by
  have h12 := nPp_le hw
  have hpp := nPp_eq hw
  have e1 := hH.1 48 0 (by omega)
  refine xX12_markedSet_0 ?_
  rw [← bI_len h12 (fun i h1 h2 => mkF_out hw n i m hn (.inl h1))]
  refine loopUp (P := fun p => Ex l G (d + 1) mX12_markedSet 5 [some (vR (some (3, 0))), some (vI (row : Int)), some (vI (m : Int)), some (vI (bI p (fun p => mkF Q n p m))), some (vI (p : Int))] [] M (some (vI (bI (nPp Q) (fun p => mkF Q n p m)))) M) 0 (nPp Q) (Nat.zero_le _) ?_ ?_
  · intro p _ hp ih
    have ei : (12 * (row : Int) + (p : Int)).toNat = 12 * row + p := by omega
    refine xX12_markedSet_5 hS ⟨fun c => ?_, fun _ => ⟨⟨by unfold InR; omega, by unfold InR; omega, by omega, ?_⟩, fun _ => by omega, by unfold InR; omega, ?_⟩⟩
    · rw [e1, hpp] at c; omega
    · rw [ei, hL.1 p (by omega)]; exact ⟨bI_nn, by omega⟩
    · rw [ei, hL.1 p (by omega), tb_bI (by omega), bI_step (by omega) (by simp [hm])]
      exact ih
  · refine xX12_markedSet_5 hS ⟨fun _ => ⟨rfl, rfl⟩, fun c => absurd ?_ c⟩
    rw [e1, hpp]; exact Int.le_refl _
theorem KX12_tiedSet {Q : QT} {row n t : Nat} {to : Int} (hS : Sh M.2.1) (hw : WFc Q) (hn : n ≤ nCh Q) (hH : HoldsC Q M.1) (hL : Laid Q M.1 row n) (hr : row < 2) (ht : t < 6) : Cl l G d mX12_tiedSet [vR (some (3, 0)), vI (row : Int), vI (t : Int), vI to] M (some (vI (bI 12 (fun p => decide (p < nPp Q ∧ ¬ aAnd (bI 12 (fun q => tiF Q n p t q)) to = 0))))) M := by
  have h12 := nPp_le hw
  have hpp := nPp_eq hw
  have e1 := hH.1 48 0 (by omega)
  refine xX12_tiedSet_0 ?_
  rw [← bI_len h12 (fun i h1 h2 => by simp; omega)]
  refine loopUp (P := fun p => Ex l G d mX12_tiedSet 6 [some (vR (some (3, 0))), some (vI (row : Int)), some (vI (t : Int)), some (vI to), some (vI (bI p (fun p => decide (p < nPp Q ∧ ¬ aAnd (bI 12 (fun q => tiF Q n p t q)) to = 0)))), some (vI (p : Int))] [] M (some (vI (bI (nPp Q) (fun p => decide (p < nPp Q ∧ ¬ aAnd (bI 12 (fun q => tiF Q n p t q)) to = 0))))) M) 0 (nPp Q) (Nat.zero_le _) ?_ ?_
  · intro p _ hp ih
    have ei : (6 * (12 * (row : Int) + (p : Int)) + (t : Int)).toNat = 6 * (12 * row + p) + t := by omega
    refine xX12_tiedSet_6 hS ⟨fun c => ?_, fun _ => ⟨⟨by unfold InR; omega, by unfold InR; omega, by unfold InR; omega, by unfold InR; omega, by omega⟩, fun _ => by omega, by unfold InR; omega, ?_⟩⟩
    · rw [e1, hpp] at c; omega
    · rw [ei, hL.2.1 p t (by omega) ht]
      have e2 : (if aAnd (bI 12 (fun q => tiF Q n p t q)) to = 0 then 0 else aShl 1 (p : Int) : Int) = if ¬ aAnd (bI 12 (fun q => tiF Q n p t q)) to = 0 then aShl 1 (p : Int) else 0 := by
        by_cases e : aAnd (bI 12 (fun q => tiF Q n p t q)) to = 0 <;> simp [e]
      rw [e2, bI_step (by omega) (by simp [hp])]
      exact ih
  · refine xX12_tiedSet_6 hS ⟨fun _ => ⟨rfl, rfl⟩, fun c => absurd ?_ c⟩
    rw [e1, hpp]; exact Int.le_refl _
theorem KX12_wordsOf {Q : QT} {n q s : Nat} (hS : Sh M.2.1) (hL : Laid Q M.1 1 n) (hq : q < 12) (hs : s < 12) : Cl l G (d + 1) mX12_wordsOf [vR (some (3, 0)), vI (q : Int), vI (s : Int)] M (some (vI (bI 16 (wdF Q n q s)))) M := by
  refine xX12_wordsOf_0 hS ⟨⟨by unfold InR; omega, by omega⟩, ?_⟩
  have e0 : M.1 71 0 ((12 : Int) + (q : Int)).toNat = bI (10 + 0) (wdF Q n q s) := by
    rw [show ((12 : Int) + (q : Int)).toNat = 12 * 1 + q by omega, hL.1 q hq]
    exact bI_ext fun i hi => by unfold wdF; rw [if_pos hi]
  rw [e0]
  refine loopUp (P := fun t => Ex l G (d + 1) mX12_wordsOf 13 [some (vR (some (3, 0))), some (vI (q : Int)), some (vI (s : Int)), some (vI (bI (10 + t) (wdF Q n q s))), some (vI (t : Int))] [] M (some (vI (bI 16 (wdF Q n q s)))) M) 0 6 (by omega) ?_ ?_
  · intro t _ ht ih
    have ei : (6 * ((12 : Int) + (q : Int)) + (t : Int)).toNat = 6 * (12 * 1 + q) + t := by omega
    refine xX12_wordsOf_13 hS ⟨fun c => absurd c (by omega), fun _ => ⟨⟨by unfold InR; omega, by unfold InR; omega, by unfold InR; omega, by omega, ?_⟩, fun _ => ⟨by unfold InR; omega, by omega⟩, by unfold InR; omega, ?_⟩⟩
    · rw [ei, hL.2.1 q t hq ht]; exact ⟨bI_nn, by omega⟩
    · rw [ei, hL.2.1 q t hq ht, tb_bI (by omega), show (10 : Int) + (t : Int) = ((10 + t : Nat) : Int) by omega, bI_step (by omega) (by unfold wdF; rw [if_neg (by omega), show 10 + t - 10 = t by omega]; simp [hs])]
      exact ih
  · exact xX12_wordsOf_13 hS ⟨fun _ => ⟨rfl, rfl⟩, fun c => absurd (show (6 : Int) ≤ ((6 : Nat) : Int) by omega) c⟩
end S2
