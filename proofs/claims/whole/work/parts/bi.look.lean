/-! WORDS on the class: skipBlanks, spells, wordSign, look -/
section CW1
variable {l : Launch} {G : Gt} {d : Nat} {M : Mem} {r : Option Vl} {M' : Mem} {t : Tp} {n p : Nat} {I I' I'' : IM}
/-- the reader's text -/
def CTp (t : Tp) (n : Nat) (I : IM) : Prop := I 12 0 1 = (n : Int) ∧ n ≤ 400 ∧ ∀ i, i < 400 → I 16 0 i = t i ∧ (0 ≤ t i ∧ t i ≤ 255)
theorem CTp.up {f i : Nat} {v : Int} (h : CTp t n I) (hf : ¬ (f = 12 ∧ i = 1) ∧ ¬ f = 16) : CTp t n (upI I f 0 i v) :=
  ⟨by rw [upI_ne (by omega)]; exact h.1, h.2.1, fun j hj => by rw [upI_ne (by omega)]; exact h.2.2 j hj⟩
set_option maxRecDepth 4000 in
theorem xX2_skipBlanks_0 {l : Launch} {G : Gt} {d : Nat} {M M' : Mem} {r : Option Vl}  (hT : M.2.1 12 0 0 = some (16, 0)) (h : 
    ((M.1 12 0 1) ≤ (M.1 12 0 3) → r = none ∧ M' = ((upI M.1 12 0 2 (M.1 12 0 3)), M.2.1, M.2.2)) ∧ (¬ ((M.1 12 0 1) ≤ (M.1 12 0 3)) → ((0 ≤ (M.1 12 0 3) ∧ (M.1 12 0 3) < 400)) ∧ ((¬ ((M.1 16 0 (M.1 12 0 3).toNat) = 32) → r = none ∧ M' = ((upI M.1 12 0 2 (M.1 12 0 3)), M.2.1, M.2.2)) ∧ ((M.1 16 0 (M.1 12 0 3).toNat) = 32 → (InR ((M.1 12 0 3) + 1)) ∧ Ex l G d mX2_skipBlanks 0 [some (vR (some (12, 0)))] [] ((upI M.1 12 0 3 ((M.1 12 0 3) + 1)), M.2.1, M.2.2) r M')))) : Ex l G d mX2_skipBlanks 0 [some (vR (some (12, 0)))] [] M r M' := by
  refine r_aload_n 1 dX2_skipBlanks_0 rfl rfl ?_
  refine g_I 4 dX2_skipBlanks_1 rfl rfl rfl fi_2_28 rfl ?_
  refine r_aload_n 5 dX2_skipBlanks_4 rfl rfl ?_
  refine g_I 8 dX2_skipBlanks_5 rfl rfl rfl fi_2_24 rfl ?_
  refine r_icmp_ge 11 38 dX2_skipBlanks_8 rfl rfl (fun c => ?_) (fun c => ?_)
  · have h := h.1 (c)
    refine r_aload_n 39 dX2_skipBlanks_38 rfl rfl ?_
    refine r_aload_n 40 dX2_skipBlanks_39 rfl rfl ?_
    refine g_I 43 dX2_skipBlanks_40 rfl rfl rfl fi_2_28 rfl ?_
    refine p_I 46 dX2_skipBlanks_43 rfl rfl rfl rfl pf_2_58 (.inl rfl) rfl ?_
    exact r_vret dX2_skipBlanks_46 rfl h.1 h.2
  · have h := h.2 (c)
    obtain ⟨o_1, h⟩ := h
    refine r_aload_n 12 dX2_skipBlanks_11 rfl rfl ?_
    refine g_R 15 dX2_skipBlanks_12 rfl rfl rfl fr_2_9 hT ?_
    refine r_aload_n 16 dX2_skipBlanks_15 rfl rfl ?_
    refine g_I 19 dX2_skipBlanks_16 rfl rfl rfl fi_2_28 rfl ?_
    refine a_I 400 20 dX2_skipBlanks_19 rfl rfl rfl rfl o_1 rfl ?_
    refine r_bipush 22 dX2_skipBlanks_20 rfl rfl ?_
    refine r_icmp_ne 25 38 dX2_skipBlanks_22 rfl rfl (fun c => ?_) (fun c => ?_)
    · have h := h.1 (c)
      refine r_aload_n 39 dX2_skipBlanks_38 rfl rfl ?_
      refine r_aload_n 40 dX2_skipBlanks_39 rfl rfl ?_
      refine g_I 43 dX2_skipBlanks_40 rfl rfl rfl fi_2_28 rfl ?_
      refine p_I 46 dX2_skipBlanks_43 rfl rfl rfl rfl pf_2_58 (.inl rfl) rfl ?_
      exact r_vret dX2_skipBlanks_46 rfl h.1 h.2
    · have h := h.2 (Decidable.not_not.mp c)
      obtain ⟨o_2, h⟩ := h
      refine r_aload_n 26 dX2_skipBlanks_25 rfl rfl ?_
      refine r_dup 27 dX2_skipBlanks_26 rfl rfl ?_
      refine g_I 30 dX2_skipBlanks_27 rfl rfl rfl fi_2_28 rfl ?_
      refine r_iconst 31 dX2_skipBlanks_30 rfl (InR_of rfl) ?_
      refine r_iadd 32 dX2_skipBlanks_31 rfl o_2 ?_
      refine p_I 35 dX2_skipBlanks_32 rfl rfl rfl rfl pf_2_28 (.inl rfl) rfl ?_
      refine r_goto 0 dX2_skipBlanks_35 rfl ?_
      exact h

set_option maxRecDepth 4000 in
theorem xX2_spells_0 {l : Launch} {G : Gt} {d : Nat} {M M' : Mem} {r : Option Vl} {k1 : Nat} (hStr : cCnt M.2.2 1 = 28) (h : 
    (k1 < 14 ∧ InR ((M.1 12 0 3) - (M.1 12 0 2))) ∧ ((((sLn k1 : Nat) : Int) = ((M.1 12 0 3) - (M.1 12 0 2)) → Ex l G (d + 4) mX2_spells 20 [some (vR (some (12, 0))), some (vR (some (1, k1))), some (vI 0)] [] M r M') ∧ (¬ (((sLn k1 : Nat) : Int) = ((M.1 12 0 3) - (M.1 12 0 2))) → r = some (vI 0) ∧ M' = M))) : Cl l G (d + 4) mX2_spells [vR (some (12, 0)), vR (some (1, k1))] M r M' := by
  show Ex l G (d + 4) mX2_spells 0 [some (vR (some (12, 0))), some (vR (some (1, k1))), none] [] M r M'
  obtain ⟨⟨o_1, o_2⟩, h⟩ := h
  refine r_aload_n 1 dX2_spells_0 rfl rfl ?_
  refine s_len (j := k1) [] 4 dX2_spells_1 rfl o_1 hStr rfl ml_2_131 rfl ?_
  refine r_aload_n 5 dX2_spells_4 rfl rfl ?_
  refine g_I 8 dX2_spells_5 rfl rfl rfl fi_2_28 rfl ?_
  refine r_aload_n 9 dX2_spells_8 rfl rfl ?_
  refine g_I 12 dX2_spells_9 rfl rfl rfl fi_2_58 rfl ?_
  refine r_isub 13 dX2_spells_12 rfl o_2 ?_
  refine r_icmp_eq 16 18 dX2_spells_13 rfl rfl (fun c => ?_) (fun c => ?_)
  · have h := h.1 (c)
    refine r_iconst 19 dX2_spells_18 rfl (InR_of rfl) ?_
    refine r_istore_n (ls' := [some (vR (some (12, 0))), some (vR (some (1, k1))), some (vI 0)]) 20 dX2_spells_19 rfl rfl rfl rfl ?_
    exact h
  · have h := h.2 (c)
    refine r_iconst 17 dX2_spells_16 rfl (InR_of rfl) ?_
    exact r_iret dX2_spells_17 rfl (.inr ⟨rfl, (.inl rfl)⟩) h.1 h.2
set_option maxRecDepth 4000 in
theorem xX2_spells_20 {l : Launch} {G : Gt} {d : Nat} {M M' : Mem} {r : Option Vl} {k1 : Nat} {x2 : Int} (hT : M.2.1 12 0 0 = some (16, 0)) (hStr : cCnt M.2.2 1 = 28) (h : 
    (k1 < 14) ∧ ((((sLn k1 : Nat) : Int) ≤ x2 → r = some (vI 1) ∧ M' = M) ∧ (¬ (((sLn k1 : Nat) : Int) ≤ x2) → (InR ((M.1 12 0 2) + x2) ∧ (0 ≤ ((M.1 12 0 2) + x2) ∧ ((M.1 12 0 2) + x2) < 400) ∧ k1 < 14 ∧ (0 ≤ x2 ∧ x2 < ((sLn k1 : Nat) : Int))) ∧ (((M.1 16 0 ((M.1 12 0 2) + x2).toNat) = (sCh k1 x2.toNat) → (InR (x2 + 1)) ∧ Ex l G (d + 4) mX2_spells 20 [some (vR (some (12, 0))), some (vR (some (1, k1))), some (vI (x2 + 1))] [] M r M') ∧ (¬ ((M.1 16 0 ((M.1 12 0 2) + x2).toNat) = (sCh k1 x2.toNat)) → r = some (vI 0) ∧ M' = M))))) : Ex l G (d + 4) mX2_spells 20 [some (vR (some (12, 0))), some (vR (some (1, k1))), some (vI x2)] [] M r M' := by
  obtain ⟨o_1, h⟩ := h
  refine r_iload_n 21 dX2_spells_20 rfl rfl ?_
  refine r_aload_n 22 dX2_spells_21 rfl rfl ?_
  refine s_len (j := k1) [vI x2] 25 dX2_spells_22 rfl o_1 hStr rfl ml_2_131 rfl ?_
  refine r_icmp_ge 28 55 dX2_spells_25 rfl rfl (fun c => ?_) (fun c => ?_)
  · have h := h.1 (c)
    refine r_iconst 56 dX2_spells_55 rfl (InR_of rfl) ?_
    exact r_iret dX2_spells_56 rfl (.inr ⟨rfl, (.inr rfl)⟩) h.1 h.2
  · have h := h.2 (c)
    obtain ⟨⟨o_2, o_3, o_4, o_5⟩, h⟩ := h
    refine r_aload_n 29 dX2_spells_28 rfl rfl ?_
    refine g_R 32 dX2_spells_29 rfl rfl rfl fr_2_9 hT ?_
    refine r_aload_n 33 dX2_spells_32 rfl rfl ?_
    refine g_I 36 dX2_spells_33 rfl rfl rfl fi_2_58 rfl ?_
    refine r_iload_n 37 dX2_spells_36 rfl rfl ?_
    refine r_iadd 38 dX2_spells_37 rfl o_2 ?_
    refine a_I 400 39 dX2_spells_38 rfl rfl rfl rfl o_3 rfl ?_
    refine r_aload_n 40 dX2_spells_39 rfl rfl ?_
    refine r_iload_n 41 dX2_spells_40 rfl rfl ?_
    refine s_chr (j := k1) [vI (M.1 16 0 ((M.1 12 0 2) + x2).toNat)] 44 dX2_spells_41 rfl o_4 hStr o_5 rfl ml_2_135 rfl ?_
    refine r_icmp_eq 47 49 dX2_spells_44 rfl rfl (fun c => ?_) (fun c => ?_)
    · have h := h.1 (c)
      obtain ⟨o_6, h⟩ := h
      refine r_iinc (ls' := [some (vR (some (12, 0))), some (vR (some (1, k1))), some (vI (x2 + 1))]) 52 dX2_spells_49 rfl rfl rfl rfl o_6 rfl ?_
      refine r_goto 20 dX2_spells_52 rfl ?_
      exact h
    · have h := h.2 (c)
      refine r_iconst 48 dX2_spells_47 rfl (InR_of rfl) ?_
      exact r_iret dX2_spells_48 rfl (.inr ⟨rfl, (.inl rfl)⟩) h.1 h.2

set_option maxRecDepth 4000 in
theorem xX2_wordSign_0 {l : Launch} {G : Gt} {d : Nat} {M M' : Mem} {r : Option Vl}  (hStr : cCnt M.2.2 1 = 28) (h : 
    ∃ (r_3 : Int) (M_1 : Mem), Cl l G d mX2_spells [vR (some (12, 0)), vR (some (1, 0))] M (some (vI r_3)) M_1 ∧ cCnt M_1.2.2 1 = 28 ∧ ((r_3 = 0 → ∃ (r_6 : Int) (M_4 : Mem), Cl l G d mX2_spells [vR (some (12, 0)), vR (some (1, 1))] M_1 (some (vI r_6)) M_4 ∧ cCnt M_4.2.2 1 = 28 ∧ ((r_6 = 0 → ∃ (r_9 : Int) (M_7 : Mem), Cl l G d mX2_spells [vR (some (12, 0)), vR (some (1, 2))] M_4 (some (vI r_9)) M_7 ∧ cCnt M_7.2.2 1 = 28 ∧ ((r_9 = 0 → ∃ (r_12 : Int) (M_10 : Mem), Cl l G d mX2_spells [vR (some (12, 0)), vR (some (1, 3))] M_7 (some (vI r_12)) M_10 ∧ cCnt M_10.2.2 1 = 28 ∧ ((r_12 = 0 → ∃ (r_15 : Int) (M_13 : Mem), Cl l G d mX2_spells [vR (some (12, 0)), vR (some (1, 4))] M_10 (some (vI r_15)) M_13 ∧ cCnt M_13.2.2 1 = 28 ∧ ((r_15 = 0 → ∃ (r_18 : Int) (M_16 : Mem), Cl l G d mX2_spells [vR (some (12, 0)), vR (some (1, 5))] M_13 (some (vI r_18)) M_16 ∧ cCnt M_16.2.2 1 = 28 ∧ ((r_18 = 0 → ∃ (r_21 : Int) (M_19 : Mem), Cl l G d mX2_spells [vR (some (12, 0)), vR (some (1, 6))] M_16 (some (vI r_21)) M_19 ∧ r = some (vI (if r_21 = 0 then 32 else 31 : Int)) ∧ M' = M_19) ∧ (¬ (r_18 = 0) → r = some (vI 30) ∧ M' = M_16))) ∧ (¬ (r_15 = 0) → r = some (vI 27) ∧ M' = M_13))) ∧ (¬ (r_12 = 0) → r = some (vI 26) ∧ M' = M_10))) ∧ (¬ (r_9 = 0) → r = some (vI 25) ∧ M' = M_7))) ∧ (¬ (r_6 = 0) → r = some (vI 24) ∧ M' = M_4))) ∧ (¬ (r_3 = 0) → r = some (vI 16) ∧ M' = M_1))) : Cl l G (d + 1) mX2_wordSign [vR (some (12, 0))] M r M' := by
  show Ex l G (d + 1) mX2_wordSign 0 [some (vR (some (12, 0)))] [] M r M'
  refine r_aload_n 1 dX2_wordSign_0 rfl rfl ?_
  refine r_ldcS (j := 0) 3 dX2_wordSign_1 rfl ⟨rfl, rfl⟩ rfl hStr ?_
  obtain ⟨r_3, M_1, hc_2, hStr, h⟩ := h
  refine v_1 (ci := 2) (C := (RX2, TX2, 10)) [vR (some (1, 0))] [] 6 dX2_wordSign_3 rfl rfl rfl rfl rfl mo_X2_spells ml_2_117 rfl rfl hc_2 ?_
  refine r_if_eq 9 12 dX2_wordSign_6 rfl rfl (fun c => ?_) (fun c => ?_)
  · have h := h.1 (c)
    refine r_aload_n 13 dX2_wordSign_12 rfl rfl ?_
    refine r_ldcS (j := 1) 15 dX2_wordSign_13 rfl ⟨rfl, rfl⟩ rfl hStr ?_
    obtain ⟨r_6, M_4, hc_5, hStr, h⟩ := h
    refine v_1 (ci := 2) (C := (RX2, TX2, 10)) [vR (some (1, 1))] [] 18 dX2_wordSign_15 rfl rfl rfl rfl rfl mo_X2_spells ml_2_117 rfl rfl hc_5 ?_
    refine r_if_eq 21 24 dX2_wordSign_18 rfl rfl (fun c => ?_) (fun c => ?_)
    · have h := h.1 (c)
      refine r_aload_n 25 dX2_wordSign_24 rfl rfl ?_
      refine r_ldcS (j := 2) 27 dX2_wordSign_25 rfl ⟨rfl, rfl⟩ rfl hStr ?_
      obtain ⟨r_9, M_7, hc_8, hStr, h⟩ := h
      refine v_1 (ci := 2) (C := (RX2, TX2, 10)) [vR (some (1, 2))] [] 30 dX2_wordSign_27 rfl rfl rfl rfl rfl mo_X2_spells ml_2_117 rfl rfl hc_8 ?_
      refine r_if_eq 33 36 dX2_wordSign_30 rfl rfl (fun c => ?_) (fun c => ?_)
      · have h := h.1 (c)
        refine r_aload_n 37 dX2_wordSign_36 rfl rfl ?_
        refine r_ldcS (j := 3) 39 dX2_wordSign_37 rfl ⟨rfl, rfl⟩ rfl hStr ?_
        obtain ⟨r_12, M_10, hc_11, hStr, h⟩ := h
        refine v_1 (ci := 2) (C := (RX2, TX2, 10)) [vR (some (1, 3))] [] 42 dX2_wordSign_39 rfl rfl rfl rfl rfl mo_X2_spells ml_2_117 rfl rfl hc_11 ?_
        refine r_if_eq 45 48 dX2_wordSign_42 rfl rfl (fun c => ?_) (fun c => ?_)
        · have h := h.1 (c)
          refine r_aload_n 49 dX2_wordSign_48 rfl rfl ?_
          refine r_ldcS (j := 4) 51 dX2_wordSign_49 rfl ⟨rfl, rfl⟩ rfl hStr ?_
          obtain ⟨r_15, M_13, hc_14, hStr, h⟩ := h
          refine v_1 (ci := 2) (C := (RX2, TX2, 10)) [vR (some (1, 4))] [] 54 dX2_wordSign_51 rfl rfl rfl rfl rfl mo_X2_spells ml_2_117 rfl rfl hc_14 ?_
          refine r_if_eq 57 60 dX2_wordSign_54 rfl rfl (fun c => ?_) (fun c => ?_)
          · have h := h.1 (c)
            refine r_aload_n 61 dX2_wordSign_60 rfl rfl ?_
            refine r_ldcS (j := 5) 63 dX2_wordSign_61 rfl ⟨rfl, rfl⟩ rfl hStr ?_
            obtain ⟨r_18, M_16, hc_17, hStr, h⟩ := h
            refine v_1 (ci := 2) (C := (RX2, TX2, 10)) [vR (some (1, 5))] [] 66 dX2_wordSign_63 rfl rfl rfl rfl rfl mo_X2_spells ml_2_117 rfl rfl hc_17 ?_
            refine r_if_eq 69 72 dX2_wordSign_66 rfl rfl (fun c => ?_) (fun c => ?_)
            · have h := h.1 (c)
              refine r_aload_n 73 dX2_wordSign_72 rfl rfl ?_
              refine r_ldcS (j := 6) 75 dX2_wordSign_73 rfl ⟨rfl, rfl⟩ rfl hStr ?_
              obtain ⟨r_21, M_19, hc_20, h⟩ := h
              refine v_1 (ci := 2) (C := (RX2, TX2, 10)) [vR (some (1, 6))] [] 78 dX2_wordSign_75 rfl rfl rfl rfl rfl mo_X2_spells ml_2_117 rfl rfl hc_20 ?_
              have hJ_22 : Ex l G (d + 1) mX2_wordSign 88 [some (vR (some (12, 0)))] [vI (if r_21 = 0 then 32 else 31 : Int)] M_19 r M' := by
                exact r_iret dX2_wordSign_88 rfl (.inl rfl) h.1 h.2
              refine r_if_eq 81 86 dX2_wordSign_78 rfl rfl (fun c => ?_) (fun c => ?_)
              · have c_23 := c
                refine r_bipush 88 dX2_wordSign_86 rfl rfl ?_
                exact (Ex.at hJ_22 rfl (show [vI 32] = [vI (if r_21 = 0 then 32 else 31 : Int)] by simp only [if_pos c_23]) rfl)
              · have c_23 := c
                refine r_bipush 83 dX2_wordSign_81 rfl rfl ?_
                refine r_goto 88 dX2_wordSign_83 rfl ?_
                exact (Ex.at hJ_22 rfl (show [vI 31] = [vI (if r_21 = 0 then 32 else 31 : Int)] by simp only [if_neg c_23]) rfl)
            · have h := h.2 (c)
              refine r_bipush 71 dX2_wordSign_69 rfl rfl ?_
              exact r_iret dX2_wordSign_71 rfl (.inl rfl) h.1 h.2
          · have h := h.2 (c)
            refine r_bipush 59 dX2_wordSign_57 rfl rfl ?_
            exact r_iret dX2_wordSign_59 rfl (.inl rfl) h.1 h.2
        · have h := h.2 (c)
          refine r_bipush 47 dX2_wordSign_45 rfl rfl ?_
          exact r_iret dX2_wordSign_47 rfl (.inl rfl) h.1 h.2
      · have h := h.2 (c)
        refine r_bipush 35 dX2_wordSign_33 rfl rfl ?_
        exact r_iret dX2_wordSign_35 rfl (.inl rfl) h.1 h.2
    · have h := h.2 (c)
      refine r_bipush 23 dX2_wordSign_21 rfl rfl ?_
      exact r_iret dX2_wordSign_23 rfl (.inl rfl) h.1 h.2
  · have h := h.2 (c)
    refine r_bipush 11 dX2_wordSign_9 rfl rfl ?_
    exact r_iret dX2_wordSign_11 rfl (.inl rfl) h.1 h.2

set_option maxRecDepth 4000 in
theorem xX2_letterSign_0 {l : Launch} {G : Gt} {d : Nat} {M M' : Mem} {r : Option Vl} {x0 : Int} (h : 
    (106 < x0 → ((¬ (x0 < 117) → (InR (10 + x0) ∧ InR ((10 + x0) - 117)))) ∧ r = some (vI (if x0 < 117 then 32 else ((10 + x0) - 117) : Int)) ∧ M' = M) ∧ (¬ (106 < x0) → (InR (x0 - 97)) ∧ r = some (vI (x0 - 97)) ∧ M' = M)) : Cl l G d mX2_letterSign [vI x0] M r M' := by
  show Ex l G d mX2_letterSign 0 [some (vI x0)] [] M r M'
  refine r_iload_n 1 dX2_letterSign_0 rfl rfl ?_
  refine r_bipush 3 dX2_letterSign_1 rfl rfl ?_
  refine r_icmp_gt 6 11 dX2_letterSign_3 rfl rfl (fun c => ?_) (fun c => ?_)
  · have h := h.1 (c)
    refine r_iload_n 12 dX2_letterSign_11 rfl rfl ?_
    refine r_bipush 14 dX2_letterSign_12 rfl rfl ?_
    obtain ⟨h0, h⟩ := h
    have hJ_1 : Ex l G d mX2_letterSign 29 [some (vI x0)] [vI (if x0 < 117 then 32 else ((10 + x0) - 117) : Int)] M r M' := by
      exact r_iret dX2_letterSign_29 rfl (.inl rfl) h.1 h.2
    have h := h0
    refine r_icmp_lt 17 27 dX2_letterSign_14 rfl rfl (fun c => ?_) (fun c => ?_)
    · have c_2 := c
      refine r_bipush 29 dX2_letterSign_27 rfl rfl ?_
      exact (Ex.at hJ_1 rfl (show [vI 32] = [vI (if x0 < 117 then 32 else ((10 + x0) - 117) : Int)] by simp only [if_pos c_2]) rfl)
    · have c_2 := c
      have h := h c_2
      obtain ⟨o_3, o_4⟩ := h
      refine r_bipush 19 dX2_letterSign_17 rfl rfl ?_
      refine r_iload_n 20 dX2_letterSign_19 rfl rfl ?_
      refine r_iadd 21 dX2_letterSign_20 rfl o_3 ?_
      refine r_bipush 23 dX2_letterSign_21 rfl rfl ?_
      refine r_isub 24 dX2_letterSign_23 rfl o_4 ?_
      refine r_goto 29 dX2_letterSign_24 rfl ?_
      exact (Ex.at hJ_1 rfl (show [vI ((10 + x0) - 117)] = [vI (if x0 < 117 then 32 else ((10 + x0) - 117) : Int)] by simp only [if_neg c_2]) rfl)
  · have h := h.2 (c)
    obtain ⟨o_5, h⟩ := h
    refine r_iload_n 7 dX2_letterSign_6 rfl rfl ?_
    refine r_bipush 9 dX2_letterSign_7 rfl rfl ?_
    refine r_isub 10 dX2_letterSign_9 rfl o_5 ?_
    exact r_iret dX2_letterSign_10 rfl (.inl rfl) h.1 h.2

set_option maxRecDepth 4000 in
theorem xX2_look_0 {l : Launch} {G : Gt} {d : Nat} {M M' : Mem} {r : Option Vl}  (h : 
    ∃ (M_1 : Mem), Cl l G d mX2_skipBlanks [vR (some (12, 0))] M none M_1 ∧ M_1.2.1 12 0 0 = some (16, 0) ∧ (((M_1.1 12 0 3) < (M_1.1 12 0 1) → ((0 ≤ (M_1.1 12 0 3) ∧ (M_1.1 12 0 3) < 400)) ∧ ((97 ≤ (M_1.1 16 0 (M_1.1 12 0 3).toNat) ∧ (M_1.1 16 0 (M_1.1 12 0 3).toNat) ≤ 122 → Ex l G (d + 1) mX2_look 70 [some (vR (some (12, 0))), some (vI (M_1.1 16 0 (M_1.1 12 0 3).toNat))] [] M_1 r M') ∧ (¬ (97 ≤ (M_1.1 16 0 (M_1.1 12 0 3).toNat) ∧ (M_1.1 16 0 (M_1.1 12 0 3).toNat) ≤ 122) → (InR ((M_1.1 12 0 3) + 1)) ∧ r = some (vI (if (M_1.1 16 0 (M_1.1 12 0 3).toNat) = 91 then 28 else (if (M_1.1 16 0 (M_1.1 12 0 3).toNat) = 93 then 29 else 32 : Int) : Int)) ∧ M' = ((upI M_1.1 12 0 3 ((M_1.1 12 0 3) + 1)), M_1.2.1, M_1.2.2)))) ∧ (¬ ((M_1.1 12 0 3) < (M_1.1 12 0 1)) → r = some (vI 32) ∧ M' = M_1))) : Cl l G (d + 1) mX2_look [vR (some (12, 0))] M r M' := by
  show Ex l G (d + 1) mX2_look 0 [some (vR (some (12, 0))), none] [] M r M'
  refine r_aload_n 1 dX2_look_0 rfl rfl ?_
  obtain ⟨M_1, hc_2, hT, h⟩ := h
  refine v_0 (ci := 2) (C := (RX2, TX2, 10)) [] [] 4 dX2_look_1 rfl rfl rfl rfl rfl mo_X2_skipBlanks ml_2_98 rfl rfl hc_2 ?_
  refine r_aload_n 5 dX2_look_4 rfl rfl ?_
  refine g_I 8 dX2_look_5 rfl rfl rfl fi_2_28 rfl ?_
  refine r_aload_n 9 dX2_look_8 rfl rfl ?_
  refine g_I 12 dX2_look_9 rfl rfl rfl fi_2_24 rfl ?_
  refine r_icmp_lt 15 18 dX2_look_12 rfl rfl (fun c => ?_) (fun c => ?_)
  · have h := h.1 (c)
    obtain ⟨o_3, h⟩ := h
    refine r_aload_n 19 dX2_look_18 rfl rfl ?_
    refine g_R 22 dX2_look_19 rfl rfl rfl fr_2_9 hT ?_
    refine r_aload_n 23 dX2_look_22 rfl rfl ?_
    refine g_I 26 dX2_look_23 rfl rfl rfl fi_2_28 rfl ?_
    refine a_I 400 27 dX2_look_26 rfl rfl rfl rfl o_3 rfl ?_
    refine r_istore_n (ls' := [some (vR (some (12, 0))), some (vI (M_1.1 16 0 (M_1.1 12 0 3).toNat))]) 28 dX2_look_27 rfl rfl rfl rfl ?_
    refine r_iload_n 29 dX2_look_28 rfl rfl ?_
    refine c_1 [vI (M_1.1 16 0 (M_1.1 12 0 3).toNat)] [] 32 dX2_look_29 rfl rfl mo_X2_isSmall ml_2_105 rfl rfl (KX2_isSmall) ?_
    refine r_if_ne 35 70 dX2_look_32 rfl rfl (fun c => ?_) (fun c => ?_)
    · have h := h.1 (b2_1.mp c)
      exact h
    · have h := h.2 (b2_0.mp (Decidable.not_not.mp c))
      obtain ⟨o_4, h⟩ := h
      refine r_aload_n 36 dX2_look_35 rfl rfl ?_
      refine r_dup 37 dX2_look_36 rfl rfl ?_
      refine g_I 40 dX2_look_37 rfl rfl rfl fi_2_28 rfl ?_
      refine r_iconst 41 dX2_look_40 rfl (InR_of rfl) ?_
      refine r_iadd 42 dX2_look_41 rfl o_4 ?_
      refine p_I 45 dX2_look_42 rfl rfl rfl rfl pf_2_28 (.inl rfl) rfl ?_
      refine r_iload_n 46 dX2_look_45 rfl rfl ?_
      refine r_bipush 48 dX2_look_46 rfl rfl ?_
      have hJ_5 : Ex l G (d + 1) mX2_look 69 [some (vR (some (12, 0))), some (vI (M_1.1 16 0 (M_1.1 12 0 3).toNat))] [vI (if (M_1.1 16 0 (M_1.1 12 0 3).toNat) = 91 then 28 else (if (M_1.1 16 0 (M_1.1 12 0 3).toNat) = 93 then 29 else 32 : Int) : Int)] ((upI M_1.1 12 0 3 ((M_1.1 12 0 3) + 1)), M_1.2.1, M_1.2.2) r M' := by
        exact r_iret dX2_look_69 rfl (.inl rfl) h.1 h.2
      refine r_icmp_ne 51 56 dX2_look_48 rfl rfl (fun c => ?_) (fun c => ?_)
      · have c_6 := c
        refine r_iload_n 57 dX2_look_56 rfl rfl ?_
        refine r_bipush 59 dX2_look_57 rfl rfl ?_
        refine r_icmp_ne 62 67 dX2_look_59 rfl rfl (fun c => ?_) (fun c => ?_)
        · have c_7 := c
          refine r_bipush 69 dX2_look_67 rfl rfl ?_
          exact (Ex.at hJ_5 rfl (show [vI 32] = [vI (if (M_1.1 16 0 (M_1.1 12 0 3).toNat) = 91 then 28 else (if (M_1.1 16 0 (M_1.1 12 0 3).toNat) = 93 then 29 else 32 : Int) : Int)] by simp only [if_neg c_6, if_neg c_7]) rfl)
        · have c_7 := Decidable.not_not.mp c
          refine r_bipush 64 dX2_look_62 rfl rfl ?_
          refine r_goto 69 dX2_look_64 rfl ?_
          exact (Ex.at hJ_5 rfl (show [vI 29] = [vI (if (M_1.1 16 0 (M_1.1 12 0 3).toNat) = 91 then 28 else (if (M_1.1 16 0 (M_1.1 12 0 3).toNat) = 93 then 29 else 32 : Int) : Int)] by simp only [if_neg c_6, if_pos c_7]) rfl)
      · have c_6 := Decidable.not_not.mp c
        refine r_bipush 53 dX2_look_51 rfl rfl ?_
        refine r_goto 69 dX2_look_53 rfl ?_
        exact (Ex.at hJ_5 rfl (show [vI 28] = [vI (if (M_1.1 16 0 (M_1.1 12 0 3).toNat) = 91 then 28 else (if (M_1.1 16 0 (M_1.1 12 0 3).toNat) = 93 then 29 else 32 : Int) : Int)] by simp only [if_pos c_6]) rfl)
  · have h := h.2 (c)
    refine r_bipush 17 dX2_look_15 rfl rfl ?_
    exact r_iret dX2_look_17 rfl (.inl rfl) h.1 h.2
set_option maxRecDepth 4000 in
theorem xX2_look_70 {l : Launch} {G : Gt} {d : Nat} {M M' : Mem} {r : Option Vl} {x1 : Int} (hT : M.2.1 12 0 0 = some (16, 0)) (h : 
    ((M.1 12 0 1) ≤ (M.1 12 0 3) → Ex l G (d + 1) mX2_look 109 [some (vR (some (12, 0))), some (vI x1)] [] M r M') ∧ (¬ ((M.1 12 0 1) ≤ (M.1 12 0 3)) → ((0 ≤ (M.1 12 0 3) ∧ (M.1 12 0 3) < 400)) ∧ ((¬ (97 ≤ (M.1 16 0 (M.1 12 0 3).toNat) ∧ (M.1 16 0 (M.1 12 0 3).toNat) ≤ 122) → Ex l G (d + 1) mX2_look 109 [some (vR (some (12, 0))), some (vI x1)] [] M r M') ∧ (97 ≤ (M.1 16 0 (M.1 12 0 3).toNat) ∧ (M.1 16 0 (M.1 12 0 3).toNat) ≤ 122 → (InR ((M.1 12 0 3) + 1)) ∧ Ex l G (d + 1) mX2_look 70 [some (vR (some (12, 0))), some (vI x1)] [] ((upI M.1 12 0 3 ((M.1 12 0 3) + 1)), M.2.1, M.2.2) r M')))) : Ex l G (d + 1) mX2_look 70 [some (vR (some (12, 0))), some (vI x1)] [] M r M' := by
  refine r_aload_n 71 dX2_look_70 rfl rfl ?_
  refine g_I 74 dX2_look_71 rfl rfl rfl fi_2_28 rfl ?_
  refine r_aload_n 75 dX2_look_74 rfl rfl ?_
  refine g_I 78 dX2_look_75 rfl rfl rfl fi_2_24 rfl ?_
  refine r_icmp_ge 81 109 dX2_look_78 rfl rfl (fun c => ?_) (fun c => ?_)
  · have h := h.1 (c)
    exact h
  · have h := h.2 (c)
    obtain ⟨o_1, h⟩ := h
    refine r_aload_n 82 dX2_look_81 rfl rfl ?_
    refine g_R 85 dX2_look_82 rfl rfl rfl fr_2_9 hT ?_
    refine r_aload_n 86 dX2_look_85 rfl rfl ?_
    refine g_I 89 dX2_look_86 rfl rfl rfl fi_2_28 rfl ?_
    refine a_I 400 90 dX2_look_89 rfl rfl rfl rfl o_1 rfl ?_
    refine c_1 [vI (M.1 16 0 (M.1 12 0 3).toNat)] [] 93 dX2_look_90 rfl rfl mo_X2_isSmall ml_2_105 rfl rfl (KX2_isSmall) ?_
    refine r_if_eq 96 109 dX2_look_93 rfl rfl (fun c => ?_) (fun c => ?_)
    · have h := h.1 (b2_0.mp c)
      exact h
    · have h := h.2 (b2_1.mp c)
      obtain ⟨o_2, h⟩ := h
      refine r_aload_n 97 dX2_look_96 rfl rfl ?_
      refine r_dup 98 dX2_look_97 rfl rfl ?_
      refine g_I 101 dX2_look_98 rfl rfl rfl fi_2_28 rfl ?_
      refine r_iconst 102 dX2_look_101 rfl (InR_of rfl) ?_
      refine r_iadd 103 dX2_look_102 rfl o_2 ?_
      refine p_I 106 dX2_look_103 rfl rfl rfl rfl pf_2_28 (.inl rfl) rfl ?_
      refine r_goto 70 dX2_look_106 rfl ?_
      exact h
set_option maxRecDepth 4000 in
theorem xX2_look_109 {l : Launch} {G : Gt} {d : Nat} {M M' : Mem} {r : Option Vl} {x1 : Int} (h : 
    (InR ((M.1 12 0 3) - (M.1 12 0 2))) ∧ ((¬ (((M.1 12 0 3) - (M.1 12 0 2)) = 1) → ∃ (r_4 : Int) (M_2 : Mem), Cl l G d mX2_wordSign [vR (some (12, 0))] M (some (vI r_4)) M_2 ∧ r = some (vI r_4) ∧ M' = M_2) ∧ (((M.1 12 0 3) - (M.1 12 0 2)) = 1 → ∃ (r_7 : Int) (M_5 : Mem), Cl l G d mX2_letterSign [vI x1] M (some (vI r_7)) M_5 ∧ r = some (vI r_7) ∧ M' = M_5))) : Ex l G (d + 1) mX2_look 109 [some (vR (some (12, 0))), some (vI x1)] [] M r M' := by
  obtain ⟨o_1, h⟩ := h
  refine r_aload_n 110 dX2_look_109 rfl rfl ?_
  refine g_I 113 dX2_look_110 rfl rfl rfl fi_2_28 rfl ?_
  refine r_aload_n 114 dX2_look_113 rfl rfl ?_
  refine g_I 117 dX2_look_114 rfl rfl rfl fi_2_58 rfl ?_
  refine r_isub 118 dX2_look_117 rfl o_1 ?_
  refine r_iconst 119 dX2_look_118 rfl (InR_of rfl) ?_
  refine r_icmp_ne 122 129 dX2_look_119 rfl rfl (fun c => ?_) (fun c => ?_)
  · have h := h.1 (c)
    refine r_aload_n 130 dX2_look_129 rfl rfl ?_
    obtain ⟨r_4, M_2, hc_3, h⟩ := h
    refine v_1 (ci := 2) (C := (RX2, TX2, 10)) [] [] 133 dX2_look_130 rfl rfl rfl rfl rfl mo_X2_wordSign ml_2_112 rfl rfl hc_3 ?_
    exact r_iret dX2_look_133 rfl (.inl rfl) h.1 h.2
  · have h := h.2 (Decidable.not_not.mp c)
    refine r_iload_n 123 dX2_look_122 rfl rfl ?_
    obtain ⟨r_7, M_5, hc_6, h⟩ := h
    refine c_1 [vI x1] [] 126 dX2_look_123 rfl rfl mo_X2_letterSign ml_2_108 rfl rfl hc_6 ?_
    refine r_goto 133 dX2_look_126 rfl ?_
    exact r_iret dX2_look_133 rfl (.inl rfl) h.1 h.2

theorem KX2_skipBlanks : ∀ (k : Nat) {M : Mem} {p : Nat}, n - p = k → M.2.1 12 0 0 = some (16, 0) → CTp t n M.1 → M.1 12 0 3 = (p : Int) → p ≤ n → Cl l G d mX2_skipBlanks [vR (some (12, 0))] M none (upI (upI M.1 12 0 3 (bl t n p : Nat)) 12 0 2 (bl t n p : Nat), M.2.1, M.2.2) := by
  intro k
  induction k with
  | zero =>
    intro M p hk hX hT hp hn
    have e : bl t n p = p := rn_eq (Nat.le_refl _) hn (fun i _ _ => by omega) (.inl (by omega))
    have h1 := hT.1
    refine xX2_skipBlanks_0 hX ⟨fun _ => ⟨rfl, ?_⟩, fun h => absurd (show M.1 12 0 1 ≤ M.1 12 0 3 by omega) h⟩
    rw [e, ← hp, upI_id]
  | succ k ih =>
    intro M p hk hX hT hp hn
    have h1 := hT.1
    have h400 := hT.2.1
    obtain ⟨ht, hr⟩ := hT.2.2 p (by omega)
    refine xX2_skipBlanks_0 hX ⟨fun h => by omega, fun _ => ⟨by omega, fun h => ⟨rfl, ?_⟩, fun h => ⟨by unfold InR; omega, ?_⟩⟩⟩
    · rw [hp] at h
      have e : bl t n p = p := rn_eq (Nat.le_refl _) hn (fun i _ _ => by omega) (.inr (by simp; intro h'; exact h (by simp; omega)))
      rw [e, ← hp, upI_id]
    · rw [hp] at h
      have h' : t p = 32 := by simp at h; omega
      have e : bl t n p = bl t n (p + 1) := rn_mid (by omega) (by omega) (fun i hi hi' => by rw [show i = p by omega]; simp [h'])
      have := ih (M := (upI M.1 12 0 3 (M.1 12 0 3 + 1), M.2.1, M.2.2)) (p := p + 1) (by omega) hX (hT.up (by omega)) (by dsimp only; rw [upI_s, hp]; omega) (by omega)
      dsimp only at this
      rw [upI_up] at this
      rw [e]
      exact this
theorem KX2_spells {j : Nat} (hX : M.2.1 12 0 0 = some (16, 0)) (hStr : cCnt M.2.2 1 = 28) (hj : j < 14) (hT : CTp t n M.1) (hp : M.1 12 0 2 = (p : Int)) (hq : M.1 12 0 3 = ((we t n p : Nat) : Int)) (hn : p ≤ n) : Cl l G (d + 4) mX2_spells [vR (some (12, 0)), vR (some (1, j))] M (some (vI (if isW t n j p then 1 else 0))) M := by
  have h1 := hT.1
  have h400 := hT.2.1
  have hl4 := sLn_t j hj
  obtain ⟨w1, w2, w3, w4⟩ := rn_sp (fun i => decide (97 ≤ t i ∧ t i ≤ 122)) n p hn
  have w1 : p ≤ we t n p := w1
  have w2 : we t n p ≤ n := w2
  refine xX2_spells_0 hStr ⟨⟨hj, by unfold InR; omega⟩, fun h => ?_, fun h => ⟨?_, rfl⟩⟩
  · have e1 : we t n p = p + sLn j := by omega
    have key : ∀ k q, sLn j - q = k → q ≤ sLn j → (∀ i, i < q → t (p + i) = sCh j i) → Ex l G (d + 4) mX2_spells 20 [some (vR (some (12, 0))), some (vR (some (1, j))), some (vI (q : Int))] [] M (some (vI (if isW t n j p then 1 else 0))) M := by
      intro k
      induction k with
      | zero =>
        intro q hk h1 h2
        refine xX2_spells_20 hX hStr ⟨hj, fun _ => ⟨?_, rfl⟩, fun h => by omega⟩
        rw [if_pos (isW_i.mpr ⟨e1, fun i hi => h2 i (by omega)⟩)]
      | succ k ih =>
        intro q hk h1 h2
        obtain ⟨ht, hr⟩ := hT.2.2 (p + q) (by omega)
        have eq : (M.1 12 0 2 + (q : Int)).toNat = p + q := by omega
        refine xX2_spells_20 hX hStr ⟨hj, fun h => by omega, fun _ => ⟨⟨by unfold InR; omega, by omega, hj, by omega⟩, fun g => ⟨by unfold InR; omega, ?_⟩, fun g => ⟨?_, rfl⟩⟩⟩
        · rw [eq, Int.toNat_natCast, ht] at g
          rw [show (q : Int) + 1 = ((q + 1 : Nat) : Int) by omega]
          refine ih (q + 1) (by omega) (by omega) fun i hi => ?_
          by_cases e3 : i = q
          · subst e3; exact g
          · exact h2 i (by omega)
        · rw [eq, Int.toNat_natCast, ht] at g
          rw [if_neg (fun h' => g ((isW_i.mp h').2 q (by omega)))]
    exact key (sLn j) 0 (by omega) (by omega) (fun i hi => by omega)
  · rw [if_neg (fun h' => h (by have := (isW_i.mp h').1; omega))]
/-- what a word is -/
def wdS (t : Tp) (n p : Nat) : Int := if isW t n 0 p = true then 16 else if isW t n 1 p = true then 24 else if isW t n 2 p = true then 25 else if isW t n 3 p = true then 26 else if isW t n 4 p = true then 27 else if isW t n 5 p = true then 30 else if isW t n 6 p = true then 31 else 32
theorem KX2_wordSign (hX : M.2.1 12 0 0 = some (16, 0)) (hStr : cCnt M.2.2 1 = 28) (hT : CTp t n M.1) (hp : M.1 12 0 2 = (p : Int)) (hq : M.1 12 0 3 = ((we t n p : Nat) : Int)) (hn : p ≤ n) : Cl l G (d + 5) mX2_wordSign [vR (some (12, 0))] M (some (vI (wdS t n p))) M := by
  have w : ∀ j, j < 14 → Cl l G (d + 4) mX2_spells [vR (some (12, 0)), vR (some (1, j))] M (some (vI (if isW t n j p then 1 else 0))) M := fun j hj => KX2_spells hX hStr hj hT hp hq hn
  have no : ∀ {P : Prop} [Decidable P], ¬ P → ¬ ¬ (if P then 1 else 0 : Int) = 0 := fun h h' => h' (by rw [if_neg h])
  have yes : ∀ {P : Prop} [Decidable P], P → ¬ (if P then 1 else 0 : Int) = 0 := fun h h' => by rw [if_pos h] at h'; omega
  refine xX2_wordSign_0 hStr ⟨_, M, w 0 (by omega), hStr, fun a0 => ⟨_, M, w 1 (by omega), hStr, fun a1 => ⟨_, M, w 2 (by omega), hStr, fun a2 => ⟨_, M, w 3 (by omega), hStr, fun a3 => ⟨_, M, w 4 (by omega), hStr, fun a4 => ⟨_, M, w 5 (by omega), hStr, fun a5 => ⟨_, M, w 6 (by omega), ?_, rfl⟩, fun a5 => ⟨?_, rfl⟩⟩, fun a4 => ⟨?_, rfl⟩⟩, fun a3 => ⟨?_, rfl⟩⟩, fun a2 => ⟨?_, rfl⟩⟩, fun a1 => ⟨?_, rfl⟩⟩, fun a0 => ⟨?_, rfl⟩⟩
  all_goals unfold wdS
  · rw [if_neg (fun h => yes h a0), if_neg (fun h => yes h a1), if_neg (fun h => yes h a2), if_neg (fun h => yes h a3), if_neg (fun h => yes h a4), if_neg (fun h => yes h a5)]
    by_cases g : isW t n 6 p = true
    · rw [if_pos g, if_neg (yes g)]
    · rw [if_neg g, if_pos (by rw [if_neg g])]
  · rw [if_neg (fun h => yes h a0), if_neg (fun h => yes h a1), if_neg (fun h => yes h a2), if_neg (fun h => yes h a3), if_neg (fun h => yes h a4), if_pos (Classical.byContradiction fun h => no h a5)]
  · rw [if_neg (fun h => yes h a0), if_neg (fun h => yes h a1), if_neg (fun h => yes h a2), if_neg (fun h => yes h a3), if_pos (Classical.byContradiction fun h => no h a4)]
  · rw [if_neg (fun h => yes h a0), if_neg (fun h => yes h a1), if_neg (fun h => yes h a2), if_pos (Classical.byContradiction fun h => no h a3)]
  · rw [if_neg (fun h => yes h a0), if_neg (fun h => yes h a1), if_pos (Classical.byContradiction fun h => no h a2)]
  · rw [if_neg (fun h => yes h a0), if_pos (Classical.byContradiction fun h => no h a1)]
  · rw [if_pos (Classical.byContradiction fun h => no h a0)]
/-- what comes next at p, and where it ends -/
def ltS (x : Int) : Int := if x ≤ 106 then x - 97 else if 117 ≤ x then 10 + (x - 117) else 32
def lkS (t : Tp) (n p : Nat) : Int := if n ≤ p then 32 else if ¬ (97 ≤ t p ∧ t p ≤ 122) then (if t p = 91 then 28 else if t p = 93 then 29 else 32) else if we t n p = p + 1 then ltS (t p) else wdS t n p
def lkE (t : Tp) (n p : Nat) : Nat := if n ≤ p then p else if ¬ (97 ≤ t p ∧ t p ≤ 122) then p + 1 else we t n p
theorem KX2_look (hX : M.2.1 12 0 0 = some (16, 0)) (hStr : cCnt M.2.2 1 = 28) (hT : CTp t n M.1) (hq : M.1 12 0 3 = (p : Int)) (hn : p ≤ n) : Cl l G (d + 6) mX2_look [vR (some (12, 0))] M (some (vI (lkS t n (bl t n p)))) (upI (upI M.1 12 0 2 (bl t n p : Nat)) 12 0 3 (lkE t n (bl t n p) : Nat), M.2.1, M.2.2) := by
  have b2 : bl t n p ≤ n := (rn_ge _ _ _ hn).2
  have h400 := hT.2.1
  have k1 := KX2_skipBlanks (l := l) (G := G) (d := d + 5) (t := t) (n := n) _ rfl hX hT hq hn
  generalize bl t n p = q at b2 k1 ⊢
  obtain ⟨J, hJ⟩ : ∃ J : IM, J = upI (upI M.1 12 0 3 (q : Int)) 12 0 2 (q : Int) := ⟨_, rfl⟩
  rw [← hJ] at k1
  have TJ : CTp t n J := by rw [hJ]; exact (hT.up (by omega)).up (by omega)
  have j3 : J 12 0 3 = (q : Int) := by rw [hJ, upI_ne (by omega), upI_s]
  have j2 : J 12 0 2 = (q : Int) := by rw [hJ, upI_s]
  have j1 := TJ.1
  have fin : ∀ e : Int, upI J 12 0 3 e = upI (upI M.1 12 0 2 (q : Int)) 12 0 3 e := by
    intro e
    rw [hJ]
    funext f k i
    by_cases g3 : f = 12 ∧ k = 0 ∧ i = 3
    · obtain ⟨rfl, rfl, rfl⟩ := g3; rw [upI_s, upI_s]
    · rw [upI_ne g3, upI_ne g3]
      by_cases g2 : f = 12 ∧ k = 0 ∧ i = 2
      · obtain ⟨rfl, rfl, rfl⟩ := g2; rw [upI_s, upI_s]
      · rw [upI_ne g2, upI_ne g2, upI_ne g3]
  by_cases a0 : n ≤ q
  · have e1 : lkS t n q = 32 := by unfold lkS; rw [if_pos a0]
    have e2 : lkE t n q = q := by unfold lkE; rw [if_pos a0]
    rw [e1, e2, ← fin]
    refine xX2_look_0 ⟨_, k1, hX, fun h => by dsimp only at h; omega, fun _ => ⟨rfl, ?_⟩⟩
    rw [← j3, upI_id]
  · obtain ⟨tq, rq⟩ := TJ.2.2 q (by omega)
    have eq : (J 12 0 3).toNat = q := by omega
    by_cases a1 : 97 ≤ t q ∧ t q ≤ 122
    · obtain ⟨w1, w2, w3, w4⟩ := rn_sp (fun i => decide (97 ≤ t i ∧ t i ≤ 122)) n q b2
      have w1 : q ≤ we t n q := w1
      have w2 : we t n q ≤ n := w2
      have e1 : lkS t n q = (if we t n q = q + 1 then ltS (t q) else wdS t n q) := by unfold lkS; rw [if_neg a0, if_neg (fun h => h a1)]
      have e2 : lkE t n q = we t n q := by unfold lkE; rw [if_neg a0, if_neg (fun h => h a1)]
      rw [e1, e2, ← fin]
      have h109 : Ex l G (d + 6) mX2_look 109 [some (vR (some (12, 0))), some (vI (t q))] [] (upI J 12 0 3 ((we t n q : Nat) : Int), M.2.1, M.2.2) (some (vI (if we t n q = q + 1 then ltS (t q) else wdS t n q))) (upI J 12 0 3 ((we t n q : Nat) : Int), M.2.1, M.2.2) := by
        have g3 : (upI J 12 0 3 ((we t n q : Nat) : Int)) 12 0 3 = ((we t n q : Nat) : Int) := upI_s
        have g2 : (upI J 12 0 3 ((we t n q : Nat) : Int)) 12 0 2 = (q : Int) := by rw [upI_ne (by omega)]; exact j2
        refine xX2_look_109 ⟨by unfold InR; dsimp only; omega, fun h => ⟨_, _, KX2_wordSign (l := l) (G := G) (d := d) hX hStr (TJ.up (by omega)) g2 g3 b2, ?_, rfl⟩, fun h => ⟨ltS (t q), _, xX2_letterSign_0 ⟨fun c => ⟨fun _ => by unfold InR; omega, ?_, rfl⟩, fun c => ⟨by unfold InR; omega, ?_, rfl⟩⟩, ?_, rfl⟩⟩
        · dsimp only at h
          rw [if_neg (by omega)]
        · unfold ltS
          rw [if_neg (by omega)]
          by_cases c2 : t q < 117
          · rw [if_pos c2, if_neg (by omega)]
          · rw [if_neg c2, if_pos (by omega), show 10 + t q - 117 = 10 + (t q - 117) by omega]
        · unfold ltS
          rw [if_pos (by omega)]
        · dsimp only at h
          rw [if_pos (by omega)]
      have key : ∀ k z, we t n q - z = k → q ≤ z → z ≤ we t n q → Ex l G (d + 6) mX2_look 70 [some (vR (some (12, 0))), some (vI (t q))] [] (upI J 12 0 3 (z : Int), M.2.1, M.2.2) (some (vI (if we t n q = q + 1 then ltS (t q) else wdS t n q))) (upI J 12 0 3 ((we t n q : Nat) : Int), M.2.1, M.2.2) := by
        intro k
        induction k with
        | zero =>
          intro z hk h1 h2
          have ez : z = we t n q := by omega
          rw [ez]
          have g3 : (upI J 12 0 3 ((we t n q : Nat) : Int)) 12 0 3 = ((we t n q : Nat) : Int) := upI_s
          have g1 : (upI J 12 0 3 ((we t n q : Nat) : Int)) 12 0 1 = (n : Int) := by rw [upI_ne (by omega)]; exact j1
          refine xX2_look_70 hX ⟨fun _ => h109, fun h => ?_⟩
          dsimp only at h
          obtain ⟨tz, rz⟩ := TJ.2.2 (we t n q) (by omega)
          refine ⟨by dsimp only; omega, fun _ => h109, fun h' => ?_⟩
          dsimp only at h'
          rw [g3, Int.toNat_natCast, upI_ne (by omega), tz] at h'
          rcases w4 with w4 | w4
          · have w4 : we t n q = n := w4
            omega
          · have w4 : decide (97 ≤ t (we t n q) ∧ t (we t n q) ≤ 122) = false := w4
            simp at w4
            omega
        | succ k ih =>
          intro z hk h1 h2
          have g3 : (upI J 12 0 3 (z : Int)) 12 0 3 = (z : Int) := upI_s
          have g1 : (upI J 12 0 3 (z : Int)) 12 0 1 = (n : Int) := by rw [upI_ne (by omega)]; exact j1
          obtain ⟨tz, rz⟩ := TJ.2.2 z (by omega)
          have w5 := w3 z h1 (by show z < we t n q; omega)
          simp at w5
          refine xX2_look_70 hX ⟨fun h => by dsimp only at h; omega, fun _ => ⟨by dsimp only; omega, fun h => absurd ?_ h, fun _ => ⟨by unfold InR; dsimp only; omega, ?_⟩⟩⟩
          · dsimp only
            rw [g3, Int.toNat_natCast, upI_ne (by omega), tz]; exact w5
          · dsimp only
            rw [g3, upI_up, show (z : Int) + 1 = ((z + 1 : Nat) : Int) by omega]
            exact ih (z + 1) (by omega) (by omega) (by omega)
      refine xX2_look_0 ⟨_, k1, hX, fun _ => ⟨by dsimp only; omega, fun _ => ?_, fun h => absurd (by dsimp only; rw [eq, tq]; exact a1) h⟩, fun h => by dsimp only at h; omega⟩
      dsimp only
      rw [eq, tq]
      have := key (we t n q - q) q rfl (Nat.le_refl _) w1
      rw [← j3, upI_id] at this
      exact this
    · have e1 : lkS t n q = (if t q = 91 then 28 else if t q = 93 then 29 else 32) := by unfold lkS; rw [if_neg a0, if_pos a1]
      have e2 : lkE t n q = q + 1 := by unfold lkE; rw [if_neg a0, if_pos a1]
      rw [e1, e2, ← fin]
      refine xX2_look_0 ⟨_, k1, hX, fun _ => ⟨by dsimp only; omega, fun h => absurd (by dsimp only at h; rw [eq, tq] at h; exact h) a1, fun _ => ⟨by unfold InR; dsimp only; omega, ?_, ?_⟩⟩, fun h => by dsimp only at h; omega⟩
      · have hh : (if t q = 91 then 28 else if t q = 93 then 29 else 32 : Int) = (if J 16 0 (J 12 0 3).toNat = 91 then 28 else if J 16 0 (J 12 0 3).toNat = 93 then 29 else 32 : Int) := by rw [eq, tq]
        exact congrArg (fun z => some (vI z)) hh
      · dsimp only; rw [j3]; rfl
end CW1
