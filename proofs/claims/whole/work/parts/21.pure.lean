/-! small methods that only answer -/
set_option maxRecDepth 4000 in
theorem xX11_isPlace_0 {l : Launch} {G : Gt} {d : Nat} {M M' : Mem} {r : Option Vl} {x0 : Int} (h : 
    (((if x0 < 0 then 0 else (if 8 ≤ x0 then 0 else 1 : Int) : Int) = 0 ∨ (if x0 < 0 then 0 else (if 8 ≤ x0 then 0 else 1 : Int) : Int) = 1)) ∧ r = some (vI (if x0 < 0 then 0 else (if 8 ≤ x0 then 0 else 1 : Int) : Int)) ∧ M' = M) : Cl l G d mX11_isPlace [vI x0] M r M' := by
  show Ex l G d mX11_isPlace 0 [some (vI x0)] [] M r M'
  refine r_iload_n 1 dX11_isPlace_0 rfl rfl ?_
  have hJ_1 : Ex l G d mX11_isPlace 15 [some (vI x0)] [vI (if x0 < 0 then 0 else (if 8 ≤ x0 then 0 else 1 : Int) : Int)] M r M' := by
    obtain ⟨o_4, h⟩ := h
    exact r_iret dX11_isPlace_15 rfl (.inr ⟨rfl, o_4⟩) h.1 h.2
  refine r_if_lt 4 14 dX11_isPlace_1 rfl rfl (fun c => ?_) (fun c => ?_)
  · have c_2 := c
    refine r_iconst 15 dX11_isPlace_14 rfl (InR_of rfl) ?_
    exact (Ex.at hJ_1 rfl (show [vI 0] = [vI (if x0 < 0 then 0 else (if 8 ≤ x0 then 0 else 1 : Int) : Int)] by simp only [if_pos c_2]) rfl)
  · have c_2 := c
    refine r_iload_n 5 dX11_isPlace_4 rfl rfl ?_
    refine r_bipush 7 dX11_isPlace_5 rfl rfl ?_
    refine r_icmp_ge 10 14 dX11_isPlace_7 rfl rfl (fun c => ?_) (fun c => ?_)
    · have c_3 := c
      refine r_iconst 15 dX11_isPlace_14 rfl (InR_of rfl) ?_
      exact (Ex.at hJ_1 rfl (show [vI 0] = [vI (if x0 < 0 then 0 else (if 8 ≤ x0 then 0 else 1 : Int) : Int)] by simp only [if_neg c_2, if_pos c_3]) rfl)
    · have c_3 := c
      refine r_iconst 11 dX11_isPlace_10 rfl (InR_of rfl) ?_
      refine r_goto 15 dX11_isPlace_11 rfl ?_
      exact (Ex.at hJ_1 rfl (show [vI 1] = [vI (if x0 < 0 then 0 else (if 8 ≤ x0 then 0 else 1 : Int) : Int)] by simp only [if_neg c_2, if_neg c_3]) rfl)

set_option maxRecDepth 4000 in
theorem xX11_isDay_0 {l : Launch} {G : Gt} {d : Nat} {M M' : Mem} {r : Option Vl} {x0 : Int} (h : 
    (((if x0 < 0 then 0 else (if 999 < x0 then 0 else 1 : Int) : Int) = 0 ∨ (if x0 < 0 then 0 else (if 999 < x0 then 0 else 1 : Int) : Int) = 1)) ∧ r = some (vI (if x0 < 0 then 0 else (if 999 < x0 then 0 else 1 : Int) : Int)) ∧ M' = M) : Cl l G d mX11_isDay [vI x0] M r M' := by
  show Ex l G d mX11_isDay 0 [some (vI x0)] [] M r M'
  refine r_iload_n 1 dX11_isDay_0 rfl rfl ?_
  have hJ_1 : Ex l G d mX11_isDay 16 [some (vI x0)] [vI (if x0 < 0 then 0 else (if 999 < x0 then 0 else 1 : Int) : Int)] M r M' := by
    obtain ⟨o_4, h⟩ := h
    exact r_iret dX11_isDay_16 rfl (.inr ⟨rfl, o_4⟩) h.1 h.2
  refine r_if_lt 4 15 dX11_isDay_1 rfl rfl (fun c => ?_) (fun c => ?_)
  · have c_2 := c
    refine r_iconst 16 dX11_isDay_15 rfl (InR_of rfl) ?_
    exact (Ex.at hJ_1 rfl (show [vI 0] = [vI (if x0 < 0 then 0 else (if 999 < x0 then 0 else 1 : Int) : Int)] by simp only [if_pos c_2]) rfl)
  · have c_2 := c
    refine r_iload_n 5 dX11_isDay_4 rfl rfl ?_
    refine r_sipush 8 dX11_isDay_5 rfl rfl ?_
    refine r_icmp_gt 11 15 dX11_isDay_8 rfl rfl (fun c => ?_) (fun c => ?_)
    · have c_3 := c
      refine r_iconst 16 dX11_isDay_15 rfl (InR_of rfl) ?_
      exact (Ex.at hJ_1 rfl (show [vI 0] = [vI (if x0 < 0 then 0 else (if 999 < x0 then 0 else 1 : Int) : Int)] by simp only [if_neg c_2, if_pos c_3]) rfl)
    · have c_3 := c
      refine r_iconst 12 dX11_isDay_11 rfl (InR_of rfl) ?_
      refine r_goto 16 dX11_isDay_12 rfl ?_
      exact (Ex.at hJ_1 rfl (show [vI 1] = [vI (if x0 < 0 then 0 else (if 999 < x0 then 0 else 1 : Int) : Int)] by simp only [if_neg c_2, if_neg c_3]) rfl)

set_option maxRecDepth 4000 in
theorem xX11_isPerson_0 {l : Launch} {G : Gt} {d : Nat} {M M' : Mem} {r : Option Vl} {x1 : Int} (hS : Sh M.2.1) (h : 
    (((if x1 < 0 then 0 else (if (M.1 4 0 0) ≤ x1 then 0 else 1 : Int) : Int) = 0 ∨ (if x1 < 0 then 0 else (if (M.1 4 0 0) ≤ x1 then 0 else 1 : Int) : Int) = 1)) ∧ r = some (vI (if x1 < 0 then 0 else (if (M.1 4 0 0) ≤ x1 then 0 else 1 : Int) : Int)) ∧ M' = M) : Cl l G d mX11_isPerson [vR (some (2, 0)), vI x1] M r M' := by
  show Ex l G d mX11_isPerson 0 [some (vR (some (2, 0))), some (vI x1)] [] M r M'
  refine r_iload_n 1 dX11_isPerson_0 rfl rfl ?_
  have hJ_1 : Ex l G d mX11_isPerson 20 [some (vR (some (2, 0))), some (vI x1)] [vI (if x1 < 0 then 0 else (if (M.1 4 0 0) ≤ x1 then 0 else 1 : Int) : Int)] M r M' := by
    obtain ⟨o_4, h⟩ := h
    exact r_iret dX11_isPerson_20 rfl (.inr ⟨rfl, o_4⟩) h.1 h.2
  refine r_if_lt 4 19 dX11_isPerson_1 rfl rfl (fun c => ?_) (fun c => ?_)
  · have c_2 := c
    refine r_iconst 20 dX11_isPerson_19 rfl (InR_of rfl) ?_
    exact (Ex.at hJ_1 rfl (show [vI 0] = [vI (if x1 < 0 then 0 else (if (M.1 4 0 0) ≤ x1 then 0 else 1 : Int) : Int)] by simp only [if_pos c_2]) rfl)
  · have c_2 := c
    refine r_iload_n 5 dX11_isPerson_4 rfl rfl ?_
    refine r_aload_n 6 dX11_isPerson_5 rfl rfl ?_
    refine g_R 9 dX11_isPerson_6 rfl rfl rfl fr_11_12 (sh_11_0 hS) ?_
    refine g_I 12 dX11_isPerson_9 rfl rfl rfl fi_11_111 rfl ?_
    refine r_icmp_ge 15 19 dX11_isPerson_12 rfl rfl (fun c => ?_) (fun c => ?_)
    · have c_3 := c
      refine r_iconst 20 dX11_isPerson_19 rfl (InR_of rfl) ?_
      exact (Ex.at hJ_1 rfl (show [vI 0] = [vI (if x1 < 0 then 0 else (if (M.1 4 0 0) ≤ x1 then 0 else 1 : Int) : Int)] by simp only [if_neg c_2, if_pos c_3]) rfl)
    · have c_3 := c
      refine r_iconst 16 dX11_isPerson_15 rfl (InR_of rfl) ?_
      refine r_goto 20 dX11_isPerson_16 rfl ?_
      exact (Ex.at hJ_1 rfl (show [vI 1] = [vI (if x1 < 0 then 0 else (if (M.1 4 0 0) ≤ x1 then 0 else 1 : Int) : Int)] by simp only [if_neg c_2, if_neg c_3]) rfl)

set_option maxRecDepth 4000 in
theorem xX11_hasBit_0 {l : Launch} {G : Gt} {d : Nat} {M M' : Mem} {r : Option Vl} {x0 : Int} {x1 : Int} (h : 
    ((0 ≤ x1 ∧ x1 < 32)) ∧ r = some (vI (if (aAnd (aShr x0 x1) 1) = 1 then 1 else 0 : Int)) ∧ M' = M) : Cl l G d mX11_hasBit [vI x0, vI x1] M r M' := by
  show Ex l G d mX11_hasBit 0 [some (vI x0), some (vI x1)] [] M r M'
  obtain ⟨o_1, h⟩ := h
  refine r_iload_n 1 dX11_hasBit_0 rfl rfl ?_
  refine r_iload_n 2 dX11_hasBit_1 rfl rfl ?_
  refine r_ishr 3 dX11_hasBit_2 rfl o_1 ?_
  refine r_iconst 4 dX11_hasBit_3 rfl (InR_of rfl) ?_
  refine r_iand 5 dX11_hasBit_4 rfl ?_
  refine r_iconst 6 dX11_hasBit_5 rfl (InR_of rfl) ?_
  have hJ_2 : Ex l G d mX11_hasBit 14 [some (vI x0), some (vI x1)] [vI (if (aAnd (aShr x0 x1) 1) = 1 then 1 else 0 : Int)] M r M' := by
    exact r_iret dX11_hasBit_14 rfl (.inr ⟨rfl, b2_z⟩) h.1 h.2
  refine r_icmp_ne 9 13 dX11_hasBit_6 rfl rfl (fun c => ?_) (fun c => ?_)
  · have c_3 := c
    refine r_iconst 14 dX11_hasBit_13 rfl (InR_of rfl) ?_
    exact (Ex.at hJ_2 rfl (show [vI 0] = [vI (if (aAnd (aShr x0 x1) 1) = 1 then 1 else 0 : Int)] by simp only [if_neg c_3]) rfl)
  · have c_3 := Decidable.not_not.mp c
    refine r_iconst 10 dX11_hasBit_9 rfl (InR_of rfl) ?_
    refine r_goto 14 dX11_hasBit_10 rfl ?_
    exact (Ex.at hJ_2 rfl (show [vI 1] = [vI (if (aAnd (aShr x0 x1) 1) = 1 then 1 else 0 : Int)] by simp only [if_pos c_3]) rfl)

set_option maxRecDepth 4000 in
theorem xX8_dayOfChange_0 {l : Launch} {G : Gt} {d : Nat} {M M' : Mem} {r : Option Vl} {x0 : Int} (h : 
    r = some (vI (aShr x0 15)) ∧ M' = M) : Cl l G d mX8_dayOfChange [vI x0] M r M' := by
  show Ex l G d mX8_dayOfChange 0 [some (vI x0)] [] M r M'
  refine r_iload_n 1 dX8_dayOfChange_0 rfl rfl ?_
  refine r_bipush 3 dX8_dayOfChange_1 rfl rfl ?_
  refine r_ishr 4 dX8_dayOfChange_3 rfl ⟨by decide, by decide⟩ ?_
  exact r_iret dX8_dayOfChange_4 rfl (.inl rfl) h.1 h.2

set_option maxRecDepth 4000 in
theorem xX5_isRight_0 {l : Launch} {G : Gt} {d : Nat} {M M' : Mem} {r : Option Vl} {k0 : Nat} (h : 
    (((if (M.1 5 k0 5) = 1 then (if (M.1 5 k0 8) = (M.1 5 k0 2) then 1 else 0 : Int) else 0 : Int) = 0 ∨ (if (M.1 5 k0 5) = 1 then (if (M.1 5 k0 8) = (M.1 5 k0 2) then 1 else 0 : Int) else 0 : Int) = 1)) ∧ r = some (vI (if (M.1 5 k0 5) = 1 then (if (M.1 5 k0 8) = (M.1 5 k0 2) then 1 else 0 : Int) else 0 : Int)) ∧ M' = M) : Cl l G d mX5_isRight [vR (some (5, k0))] M r M' := by
  show Ex l G d mX5_isRight 0 [some (vR (some (5, k0)))] [] M r M'
  refine r_aload_n 1 dX5_isRight_0 rfl rfl ?_
  refine g_I 4 dX5_isRight_1 rfl rfl rfl fi_5_34 rfl ?_
  refine r_iconst 5 dX5_isRight_4 rfl (InR_of rfl) ?_
  have hJ_1 : Ex l G d mX5_isRight 24 [some (vR (some (5, k0)))] [vI (if (M.1 5 k0 5) = 1 then (if (M.1 5 k0 8) = (M.1 5 k0 2) then 1 else 0 : Int) else 0 : Int)] M r M' := by
    obtain ⟨o_4, h⟩ := h
    exact r_iret dX5_isRight_24 rfl (.inr ⟨rfl, o_4⟩) h.1 h.2
  refine r_icmp_ne 8 23 dX5_isRight_5 rfl rfl (fun c => ?_) (fun c => ?_)
  · have c_2 := c
    refine r_iconst 24 dX5_isRight_23 rfl (InR_of rfl) ?_
    exact (Ex.at hJ_1 rfl (show [vI 0] = [vI (if (M.1 5 k0 5) = 1 then (if (M.1 5 k0 8) = (M.1 5 k0 2) then 1 else 0 : Int) else 0 : Int)] by simp only [if_neg c_2]) rfl)
  · have c_2 := Decidable.not_not.mp c
    refine r_aload_n 9 dX5_isRight_8 rfl rfl ?_
    refine g_I 12 dX5_isRight_9 rfl rfl rfl fi_5_9 rfl ?_
    refine r_aload_n 13 dX5_isRight_12 rfl rfl ?_
    refine g_I 16 dX5_isRight_13 rfl rfl rfl fi_5_22 rfl ?_
    refine r_icmp_ne 19 23 dX5_isRight_16 rfl rfl (fun c => ?_) (fun c => ?_)
    · have c_3 := c
      refine r_iconst 24 dX5_isRight_23 rfl (InR_of rfl) ?_
      exact (Ex.at hJ_1 rfl (show [vI 0] = [vI (if (M.1 5 k0 5) = 1 then (if (M.1 5 k0 8) = (M.1 5 k0 2) then 1 else 0 : Int) else 0 : Int)] by simp only [if_pos c_2, if_neg c_3]) rfl)
    · have c_3 := Decidable.not_not.mp c
      refine r_iconst 20 dX5_isRight_19 rfl (InR_of rfl) ?_
      refine r_goto 24 dX5_isRight_20 rfl ?_
      exact (Ex.at hJ_1 rfl (show [vI 1] = [vI (if (M.1 5 k0 5) = 1 then (if (M.1 5 k0 8) = (M.1 5 k0 2) then 1 else 0 : Int) else 0 : Int)] by simp only [if_pos c_2, if_pos c_3]) rfl)

set_option maxRecDepth 4000 in
theorem xX7_seenFrom_0 {l : Launch} {G : Gt} {d : Nat} {M M' : Mem} {r : Option Vl} {k0 : Nat} {x1 : Int} {x2 : Int} (hS : Sh M.2.1) (h : 
    ((0 ≤ x1 ∧ x1 < 32) ∧ (0 ≤ x1 ∧ x1 < 12) ∧ (0 ≤ (M.1 31 k0 x1.toNat) ∧ (M.1 31 k0 x1.toNat) < 8)) ∧ r = some (vI (aOr (aOr (aShl 1 x1) x2) (M.1 32 k0 (M.1 31 k0 x1.toNat).toNat))) ∧ M' = M) : Cl l G d mX7_seenFrom [vR (some (14, k0)), vI x1, vI x2] M r M' := by
  show Ex l G d mX7_seenFrom 0 [some (vR (some (14, k0))), some (vI x1), some (vI x2)] [] M r M'
  obtain ⟨⟨o_1, o_2, o_3⟩, h⟩ := h
  refine r_iconst 1 dX7_seenFrom_0 rfl (InR_of rfl) ?_
  refine r_iload_n 2 dX7_seenFrom_1 rfl rfl ?_
  refine r_ishl 3 dX7_seenFrom_2 rfl o_1 ?_
  refine r_iload_n 4 dX7_seenFrom_3 rfl rfl ?_
  refine r_ior 5 dX7_seenFrom_4 rfl ?_
  refine r_aload_n 6 dX7_seenFrom_5 rfl rfl ?_
  refine g_R 9 dX7_seenFrom_6 rfl rfl rfl fr_7_21 (sh_7_4 hS _) ?_
  refine r_aload_n 10 dX7_seenFrom_9 rfl rfl ?_
  refine g_R 13 dX7_seenFrom_10 rfl rfl rfl fr_7_18 (sh_7_3 hS _) ?_
  refine r_iload_n 14 dX7_seenFrom_13 rfl rfl ?_
  refine a_I 12 15 dX7_seenFrom_14 rfl rfl rfl rfl o_2 rfl ?_
  refine a_I 8 16 dX7_seenFrom_15 rfl rfl rfl rfl o_3 rfl ?_
  refine r_ior 17 dX7_seenFrom_16 rfl ?_
  exact r_iret dX7_seenFrom_17 rfl (.inl rfl) h.1 h.2

set_option maxRecDepth 4000 in
theorem xX11_everybody_0 {l : Launch} {G : Gt} {d : Nat} {M M' : Mem} {r : Option Vl}  (hS : Sh M.2.1) (h : 
    ((0 ≤ (M.1 4 0 0) ∧ (M.1 4 0 0) < 32) ∧ InR ((aShl 1 (M.1 4 0 0)) - 1)) ∧ r = some (vI ((aShl 1 (M.1 4 0 0)) - 1)) ∧ M' = M) : Cl l G d mX11_everybody [vR (some (2, 0))] M r M' := by
  show Ex l G d mX11_everybody 0 [some (vR (some (2, 0)))] [] M r M'
  obtain ⟨⟨o_1, o_2⟩, h⟩ := h
  refine r_iconst 1 dX11_everybody_0 rfl (InR_of rfl) ?_
  refine r_aload_n 2 dX11_everybody_1 rfl rfl ?_
  refine g_R 5 dX11_everybody_2 rfl rfl rfl fr_11_12 (sh_11_0 hS) ?_
  refine g_I 8 dX11_everybody_5 rfl rfl rfl fi_11_111 rfl ?_
  refine r_ishl 9 dX11_everybody_8 rfl o_1 ?_
  refine r_iconst 10 dX11_everybody_9 rfl (InR_of rfl) ?_
  refine r_isub 11 dX11_everybody_10 rfl o_2 ?_
  exact r_iret dX11_everybody_11 rfl (.inl rfl) h.1 h.2

set_option maxRecDepth 4000 in
theorem xX2_isSmall_0 {l : Launch} {G : Gt} {d : Nat} {M M' : Mem} {r : Option Vl} {x0 : Int} (h : 
    (((if x0 < 97 then 0 else (if 122 < x0 then 0 else 1 : Int) : Int) = 0 ∨ (if x0 < 97 then 0 else (if 122 < x0 then 0 else 1 : Int) : Int) = 1)) ∧ r = some (vI (if x0 < 97 then 0 else (if 122 < x0 then 0 else 1 : Int) : Int)) ∧ M' = M) : Cl l G d mX2_isSmall [vI x0] M r M' := by
  show Ex l G d mX2_isSmall 0 [some (vI x0)] [] M r M'
  refine r_iload_n 1 dX2_isSmall_0 rfl rfl ?_
  refine r_bipush 3 dX2_isSmall_1 rfl rfl ?_
  have hJ_1 : Ex l G d mX2_isSmall 17 [some (vI x0)] [vI (if x0 < 97 then 0 else (if 122 < x0 then 0 else 1 : Int) : Int)] M r M' := by
    obtain ⟨o_4, h⟩ := h
    exact r_iret dX2_isSmall_17 rfl (.inr ⟨rfl, o_4⟩) h.1 h.2
  refine r_icmp_lt 6 16 dX2_isSmall_3 rfl rfl (fun c => ?_) (fun c => ?_)
  · have c_2 := c
    refine r_iconst 17 dX2_isSmall_16 rfl (InR_of rfl) ?_
    exact (Ex.at hJ_1 rfl (show [vI 0] = [vI (if x0 < 97 then 0 else (if 122 < x0 then 0 else 1 : Int) : Int)] by simp only [if_pos c_2]) rfl)
  · have c_2 := c
    refine r_iload_n 7 dX2_isSmall_6 rfl rfl ?_
    refine r_bipush 9 dX2_isSmall_7 rfl rfl ?_
    refine r_icmp_gt 12 16 dX2_isSmall_9 rfl rfl (fun c => ?_) (fun c => ?_)
    · have c_3 := c
      refine r_iconst 17 dX2_isSmall_16 rfl (InR_of rfl) ?_
      exact (Ex.at hJ_1 rfl (show [vI 0] = [vI (if x0 < 97 then 0 else (if 122 < x0 then 0 else 1 : Int) : Int)] by simp only [if_neg c_2, if_pos c_3]) rfl)
    · have c_3 := c
      refine r_iconst 13 dX2_isSmall_12 rfl (InR_of rfl) ?_
      refine r_goto 17 dX2_isSmall_13 rfl ?_
      exact (Ex.at hJ_1 rfl (show [vI 1] = [vI (if x0 < 97 then 0 else (if 122 < x0 then 0 else 1 : Int) : Int)] by simp only [if_neg c_2, if_neg c_3]) rfl)

set_option maxRecDepth 4000 in
theorem xX2_isDigit_0 {l : Launch} {G : Gt} {d : Nat} {M M' : Mem} {r : Option Vl} {x0 : Int} (h : 
    (((if x0 < 48 then 0 else (if 57 < x0 then 0 else 1 : Int) : Int) = 0 ∨ (if x0 < 48 then 0 else (if 57 < x0 then 0 else 1 : Int) : Int) = 1)) ∧ r = some (vI (if x0 < 48 then 0 else (if 57 < x0 then 0 else 1 : Int) : Int)) ∧ M' = M) : Cl l G d mX2_isDigit [vI x0] M r M' := by
  show Ex l G d mX2_isDigit 0 [some (vI x0)] [] M r M'
  refine r_iload_n 1 dX2_isDigit_0 rfl rfl ?_
  refine r_bipush 3 dX2_isDigit_1 rfl rfl ?_
  have hJ_1 : Ex l G d mX2_isDigit 17 [some (vI x0)] [vI (if x0 < 48 then 0 else (if 57 < x0 then 0 else 1 : Int) : Int)] M r M' := by
    obtain ⟨o_4, h⟩ := h
    exact r_iret dX2_isDigit_17 rfl (.inr ⟨rfl, o_4⟩) h.1 h.2
  refine r_icmp_lt 6 16 dX2_isDigit_3 rfl rfl (fun c => ?_) (fun c => ?_)
  · have c_2 := c
    refine r_iconst 17 dX2_isDigit_16 rfl (InR_of rfl) ?_
    exact (Ex.at hJ_1 rfl (show [vI 0] = [vI (if x0 < 48 then 0 else (if 57 < x0 then 0 else 1 : Int) : Int)] by simp only [if_pos c_2]) rfl)
  · have c_2 := c
    refine r_iload_n 7 dX2_isDigit_6 rfl rfl ?_
    refine r_bipush 9 dX2_isDigit_7 rfl rfl ?_
    refine r_icmp_gt 12 16 dX2_isDigit_9 rfl rfl (fun c => ?_) (fun c => ?_)
    · have c_3 := c
      refine r_iconst 17 dX2_isDigit_16 rfl (InR_of rfl) ?_
      exact (Ex.at hJ_1 rfl (show [vI 0] = [vI (if x0 < 48 then 0 else (if 57 < x0 then 0 else 1 : Int) : Int)] by simp only [if_neg c_2, if_pos c_3]) rfl)
    · have c_3 := c
      refine r_iconst 13 dX2_isDigit_12 rfl (InR_of rfl) ?_
      refine r_goto 17 dX2_isDigit_13 rfl ?_
      exact (Ex.at hJ_1 rfl (show [vI 1] = [vI (if x0 < 48 then 0 else (if 57 < x0 then 0 else 1 : Int) : Int)] by simp only [if_neg c_2, if_neg c_3]) rfl)

set_option maxRecDepth 4000 in
theorem xX12_in_0 {l : Launch} {G : Gt} {d : Nat} {M M' : Mem} {r : Option Vl} {x0 : Int} {x2 : Int} {x4 : Int} (h : 
    (((if (if x2 < x0 then 1 else if x0 = x2 then 0 else -1 : Int) < 0 then 0 else (if 0 < (if x4 < x0 then 1 else if x0 = x4 then 0 else -1 : Int) then 0 else 1 : Int) : Int) = 0 ∨ (if (if x2 < x0 then 1 else if x0 = x2 then 0 else -1 : Int) < 0 then 0 else (if 0 < (if x4 < x0 then 1 else if x0 = x4 then 0 else -1 : Int) then 0 else 1 : Int) : Int) = 1)) ∧ r = some (vI (if (if x2 < x0 then 1 else if x0 = x2 then 0 else -1 : Int) < 0 then 0 else (if 0 < (if x4 < x0 then 1 else if x0 = x4 then 0 else -1 : Int) then 0 else 1 : Int) : Int)) ∧ M' = M) : Cl l G d mX12_in [vL x0, vL x2, vL x4] M r M' := by
  show Ex l G d mX12_in 0 [some (vL x0), none, some (vL x2), none, some (vL x4), none] [] M r M'
  refine r_lload_n 1 dX12_in_0 rfl rfl ?_
  refine r_lload_n 2 dX12_in_1 rfl rfl ?_
  refine r_lcmp 3 dX12_in_2 rfl ?_
  have hJ_1 : Ex l G d mX12_in 18 [some (vL x0), none, some (vL x2), none, some (vL x4), none] [vI (if (if x2 < x0 then 1 else if x0 = x2 then 0 else -1 : Int) < 0 then 0 else (if 0 < (if x4 < x0 then 1 else if x0 = x4 then 0 else -1 : Int) then 0 else 1 : Int) : Int)] M r M' := by
    obtain ⟨o_4, h⟩ := h
    exact r_iret dX12_in_18 rfl (.inr ⟨rfl, o_4⟩) h.1 h.2
  refine r_if_lt 6 17 dX12_in_3 rfl rfl (fun c => ?_) (fun c => ?_)
  · have c_2 := c
    refine r_iconst 18 dX12_in_17 rfl (InR_of rfl) ?_
    exact (Ex.at hJ_1 rfl (show [vI 0] = [vI (if (if x2 < x0 then 1 else if x0 = x2 then 0 else -1 : Int) < 0 then 0 else (if 0 < (if x4 < x0 then 1 else if x0 = x4 then 0 else -1 : Int) then 0 else 1 : Int) : Int)] by simp only [if_pos c_2]) rfl)
  · have c_2 := c
    refine r_lload_n 7 dX12_in_6 rfl rfl ?_
    refine r_lload 9 dX12_in_7 rfl rfl ?_
    refine r_lcmp 10 dX12_in_9 rfl ?_
    refine r_if_gt 13 17 dX12_in_10 rfl rfl (fun c => ?_) (fun c => ?_)
    · have c_3 := c
      refine r_iconst 18 dX12_in_17 rfl (InR_of rfl) ?_
      exact (Ex.at hJ_1 rfl (show [vI 0] = [vI (if (if x2 < x0 then 1 else if x0 = x2 then 0 else -1 : Int) < 0 then 0 else (if 0 < (if x4 < x0 then 1 else if x0 = x4 then 0 else -1 : Int) then 0 else 1 : Int) : Int)] by simp only [if_neg c_2, if_pos c_3]) rfl)
    · have c_3 := c
      refine r_iconst 14 dX12_in_13 rfl (InR_of rfl) ?_
      refine r_goto 18 dX12_in_14 rfl ?_
      exact (Ex.at hJ_1 rfl (show [vI 1] = [vI (if (if x2 < x0 then 1 else if x0 = x2 then 0 else -1 : Int) < 0 then 0 else (if 0 < (if x4 < x0 then 1 else if x0 = x4 then 0 else -1 : Int) then 0 else 1 : Int) : Int)] by simp only [if_neg c_2, if_neg c_3]) rfl)

set_option maxRecDepth 4000 in
theorem xX12_has_0 {l : Launch} {G : Gt} {d : Nat} {M M' : Mem} {r : Option Vl} {x0 : Int} {x1 : Int} (h : 
    ((0 ≤ x1 ∧ x1 < 32)) ∧ r = some (vI (if (aAnd (aShr x0 x1) 1) = 1 then 1 else 0 : Int)) ∧ M' = M) : Cl l G d mX12_has [vI x0, vI x1] M r M' := by
  show Ex l G d mX12_has 0 [some (vI x0), some (vI x1)] [] M r M'
  obtain ⟨o_1, h⟩ := h
  refine r_iload_n 1 dX12_has_0 rfl rfl ?_
  refine r_iload_n 2 dX12_has_1 rfl rfl ?_
  refine r_ishr 3 dX12_has_2 rfl o_1 ?_
  refine r_iconst 4 dX12_has_3 rfl (InR_of rfl) ?_
  refine r_iand 5 dX12_has_4 rfl ?_
  refine r_iconst 6 dX12_has_5 rfl (InR_of rfl) ?_
  have hJ_2 : Ex l G d mX12_has 14 [some (vI x0), some (vI x1)] [vI (if (aAnd (aShr x0 x1) 1) = 1 then 1 else 0 : Int)] M r M' := by
    exact r_iret dX12_has_14 rfl (.inr ⟨rfl, b2_z⟩) h.1 h.2
  refine r_icmp_ne 9 13 dX12_has_6 rfl rfl (fun c => ?_) (fun c => ?_)
  · have c_3 := c
    refine r_iconst 14 dX12_has_13 rfl (InR_of rfl) ?_
    exact (Ex.at hJ_2 rfl (show [vI 0] = [vI (if (aAnd (aShr x0 x1) 1) = 1 then 1 else 0 : Int)] by simp only [if_neg c_3]) rfl)
  · have c_3 := Decidable.not_not.mp c
    refine r_iconst 10 dX12_has_9 rfl (InR_of rfl) ?_
    refine r_goto 14 dX12_has_10 rfl ?_
    exact (Ex.at hJ_2 rfl (show [vI 1] = [vI (if (aAnd (aShr x0 x1) 1) = 1 then 1 else 0 : Int)] by simp only [if_pos c_3]) rfl)

set_option maxRecDepth 4000 in
theorem xX12_with_0 {l : Launch} {G : Gt} {d : Nat} {M M' : Mem} {r : Option Vl} {x0 : Int} {x1 : Int} {x2 : Int} (h : 
    ((¬ (x2 = 1) → ((0 ≤ x1 ∧ x1 < 32))) ∧ (x2 = 1 → ((0 ≤ x1 ∧ x1 < 32)))) ∧ r = some (vI (if x2 = 1 then (aOr x0 (aShl 1 x1)) else (aAnd x0 (aXor (aShl 1 x1) (-1))) : Int)) ∧ M' = M) : Cl l G d mX12_with [vI x0, vI x1, vI x2] M r M' := by
  show Ex l G d mX12_with 0 [some (vI x0), some (vI x1), some (vI x2)] [] M r M'
  refine r_iload_n 1 dX12_with_0 rfl rfl ?_
  refine r_iconst 2 dX12_with_1 rfl (InR_of rfl) ?_
  obtain ⟨h0, h⟩ := h
  have hJ_1 : Ex l G d mX12_with 20 [some (vI x0), some (vI x1), some (vI x2)] [vI (if x2 = 1 then (aOr x0 (aShl 1 x1)) else (aAnd x0 (aXor (aShl 1 x1) (-1))) : Int)] M r M' := by
    exact r_iret dX12_with_20 rfl (.inl rfl) h.1 h.2
  have h := h0
  refine r_icmp_ne 5 13 dX12_with_2 rfl rfl (fun c => ?_) (fun c => ?_)
  · have c_2 := c
    have h := h.1 c_2
    have o_3 := h
    refine r_iload_n 14 dX12_with_13 rfl rfl ?_
    refine r_iconst 15 dX12_with_14 rfl (InR_of rfl) ?_
    refine r_iload_n 16 dX12_with_15 rfl rfl ?_
    refine r_ishl 17 dX12_with_16 rfl o_3 ?_
    refine r_iconst 18 dX12_with_17 rfl (InR_of rfl) ?_
    refine r_ixor 19 dX12_with_18 rfl ?_
    refine r_iand 20 dX12_with_19 rfl ?_
    exact (Ex.at hJ_1 rfl (show [vI (aAnd x0 (aXor (aShl 1 x1) (-1)))] = [vI (if x2 = 1 then (aOr x0 (aShl 1 x1)) else (aAnd x0 (aXor (aShl 1 x1) (-1))) : Int)] by simp only [if_neg c_2]) rfl)
  · have c_2 := Decidable.not_not.mp c
    have h := h.2 c_2
    have o_4 := h
    refine r_iload_n 6 dX12_with_5 rfl rfl ?_
    refine r_iconst 7 dX12_with_6 rfl (InR_of rfl) ?_
    refine r_iload_n 8 dX12_with_7 rfl rfl ?_
    refine r_ishl 9 dX12_with_8 rfl o_4 ?_
    refine r_ior 10 dX12_with_9 rfl ?_
    refine r_goto 20 dX12_with_10 rfl ?_
    exact (Ex.at hJ_1 rfl (show [vI (aOr x0 (aShl 1 x1))] = [vI (if x2 = 1 then (aOr x0 (aShl 1 x1)) else (aAnd x0 (aXor (aShl 1 x1) (-1))) : Int)] by simp only [if_pos c_2]) rfl)

set_option maxRecDepth 4000 in
theorem xX12_at_0 {l : Launch} {G : Gt} {d : Nat} {M M' : Mem} {r : Option Vl} {x1 : Int} {x2 : Int} (h : 
    (InR (8 * x1) ∧ InR ((8 * x1) + x2)) ∧ r = some (vI ((8 * x1) + x2)) ∧ M' = M) : Cl l G d mX12_at [vR (some (3, 0)), vI x1, vI x2] M r M' := by
  show Ex l G d mX12_at 0 [some (vR (some (3, 0))), some (vI x1), some (vI x2)] [] M r M'
  obtain ⟨⟨o_1, o_2⟩, h⟩ := h
  refine r_bipush 2 dX12_at_0 rfl rfl ?_
  refine r_iload_n 3 dX12_at_2 rfl rfl ?_
  refine r_imul 4 dX12_at_3 rfl o_1 ?_
  refine r_iload_n 5 dX12_at_4 rfl rfl ?_
  refine r_iadd 6 dX12_at_5 rfl o_2 ?_
  exact r_iret dX12_at_6 rfl (.inl rfl) h.1 h.2

theorem hb_eq {x n : Int} (h : 0 ≤ x ∧ 0 ≤ n ∧ n < 32) : (if (aAnd (aShr x n) 1) = 1 then 1 else 0 : Int) = if tb x n = true then 1 else 0 := by
  rw [bit_and h.1 h.2.1 h.2.2]
  by_cases e : tb x n = true <;> simp [e]
section PU
variable {l : Launch} {G : Gt} {d : Nat} {M : Mem}
theorem KX11_isPlace {x : Int} : Cl l G d mX11_isPlace [vI x] M (some (vI (if 0 ≤ x ∧ x < 8 then 1 else 0))) M := xX11_isPlace_0 ⟨(by (repeat' split) <;> first | rfl | (left; rfl) | (right; rfl) | (exfalso; omega)), (by (repeat' split) <;> first | rfl | (left; rfl) | (right; rfl) | (exfalso; omega)), rfl⟩
theorem KX11_isDay {x : Int} : Cl l G d mX11_isDay [vI x] M (some (vI (if 0 ≤ x ∧ x ≤ 999 then 1 else 0))) M := xX11_isDay_0 ⟨(by (repeat' split) <;> first | rfl | (left; rfl) | (right; rfl) | (exfalso; omega)), (by (repeat' split) <;> first | rfl | (left; rfl) | (right; rfl) | (exfalso; omega)), rfl⟩
theorem KX11_isPerson {x : Int} (hS : Sh M.2.1) : Cl l G d mX11_isPerson [vR (some (2, 0)), vI x] M (some (vI (if 0 ≤ x ∧ x < M.1 4 0 0 then 1 else 0))) M := xX11_isPerson_0 hS ⟨(by (repeat' split) <;> first | rfl | (left; rfl) | (right; rfl) | (exfalso; omega)), (by (repeat' split) <;> first | rfl | (left; rfl) | (right; rfl) | (exfalso; omega)), rfl⟩
theorem KX11_hasBit {x n : Int} (h : 0 ≤ x ∧ 0 ≤ n ∧ n < 32) : Cl l G d mX11_hasBit [vI x, vI n] M (some (vI (if tb x n = true then 1 else 0))) M := xX11_hasBit_0 ⟨h.2, by rw [hb_eq h], rfl⟩
theorem KX8_dayOfChange {x : Int} : Cl l G d mX8_dayOfChange [vI x] M (some (vI (aShr x 15))) M := xX8_dayOfChange_0 ⟨rfl, rfl⟩
theorem KX5_isRight {k : Nat} : Cl l G d mX5_isRight [vR (some (5, k))] M (some (vI (if M.1 5 k 5 = 1 ∧ M.1 5 k 8 = M.1 5 k 2 then 1 else 0))) M := xX5_isRight_0 ⟨(by (repeat' split) <;> first | rfl | (left; rfl) | (right; rfl) | (exfalso; omega)), (by (repeat' split) <;> first | rfl | (left; rfl) | (right; rfl) | (exfalso; omega)), rfl⟩
theorem KX7_seenFrom {k : Nat} {x n : Int} (hS : Sh M.2.1) (h : (0 ≤ x ∧ x < 12) ∧ 0 ≤ M.1 31 k x.toNat ∧ M.1 31 k x.toNat < 8) : Cl l G d mX7_seenFrom [vR (some (14, k)), vI x, vI n] M (some (vI (aOr (aOr (aShl 1 x) n) (M.1 32 k (M.1 31 k x.toNat).toNat)))) M := xX7_seenFrom_0 hS ⟨⟨by omega, h.1, h.2⟩, rfl, rfl⟩
theorem KX11_everybody (hS : Sh M.2.1) (h : 0 ≤ M.1 4 0 0 ∧ M.1 4 0 0 ≤ 12) : Cl l G d mX11_everybody [vR (some (2, 0))] M (some (vI (aShl 1 (M.1 4 0 0) - 1))) M := by
  refine xX11_everybody_0 hS ⟨⟨by omega, ?_⟩, rfl, rfl⟩
  obtain ⟨w, hw⟩ := Int.eq_ofNat_of_zero_le h.1
  rw [hw, pow_sub_one (by omega)]
  exact bI_in (by omega) _
theorem KX2_isSmall {x : Int} : Cl l G d mX2_isSmall [vI x] M (some (vI (if 97 ≤ x ∧ x ≤ 122 then 1 else 0))) M := xX2_isSmall_0 ⟨(by (repeat' split) <;> first | rfl | (left; rfl) | (right; rfl) | (exfalso; omega)), (by (repeat' split) <;> first | rfl | (left; rfl) | (right; rfl) | (exfalso; omega)), rfl⟩
theorem KX2_isDigit {x : Int} : Cl l G d mX2_isDigit [vI x] M (some (vI (if 48 ≤ x ∧ x ≤ 57 then 1 else 0))) M := xX2_isDigit_0 ⟨(by (repeat' split) <;> first | rfl | (left; rfl) | (right; rfl) | (exfalso; omega)), (by (repeat' split) <;> first | rfl | (left; rfl) | (right; rfl) | (exfalso; omega)), rfl⟩
theorem KX12_in {x a b : Int} : Cl l G d mX12_in [vL x, vL a, vL b] M (some (vI (if a ≤ x ∧ x ≤ b then 1 else 0))) M := xX12_in_0 ⟨(by (repeat' split) <;> first | rfl | (left; rfl) | (right; rfl) | (exfalso; omega)), (by (repeat' split) <;> first | rfl | (left; rfl) | (right; rfl) | (exfalso; omega)), rfl⟩
theorem KX12_has {x n : Int} (h : 0 ≤ x ∧ 0 ≤ n ∧ n < 32) : Cl l G d mX12_has [vI x, vI n] M (some (vI (if tb x n = true then 1 else 0))) M := xX12_has_0 ⟨h.2, by rw [hb_eq h], rfl⟩
theorem KX12_with {x k i : Int} (h : 0 ≤ k ∧ k < 32) : Cl l G d mX12_with [vI x, vI k, vI i] M (some (vI (if i = 1 then aOr x (aShl 1 k) else aAnd x (aXor (aShl 1 k) (-1))))) M := xX12_with_0 ⟨⟨fun _ => h, fun _ => h⟩, rfl, rfl⟩
theorem KX12_at {x y : Int} (h : InR (8 * x) ∧ InR (8 * x + y)) : Cl l G d mX12_at [vR (some (3, 0)), vI x, vI y] M (some (vI (8 * x + y))) M := xX12_at_0 ⟨h, rfl, rfl⟩
end PU
set_option maxRecDepth 4000 in
theorem xX11_areTwo_0 {l : Launch} {G : Gt} {d : Nat} {M M' : Mem} {r : Option Vl} {x1 : Int} {x2 : Int} (hS : Sh M.2.1) (h : 
    (((if 0 ≤ x1 ∧ x1 < (M.1 4 0 0) then (if 0 ≤ x2 ∧ x2 < (M.1 4 0 0) then (if x1 = x2 then 0 else 1 : Int) else 0 : Int) else 0 : Int) = 0 ∨ (if 0 ≤ x1 ∧ x1 < (M.1 4 0 0) then (if 0 ≤ x2 ∧ x2 < (M.1 4 0 0) then (if x1 = x2 then 0 else 1 : Int) else 0 : Int) else 0 : Int) = 1)) ∧ r = some (vI (if 0 ≤ x1 ∧ x1 < (M.1 4 0 0) then (if 0 ≤ x2 ∧ x2 < (M.1 4 0 0) then (if x1 = x2 then 0 else 1 : Int) else 0 : Int) else 0 : Int)) ∧ M' = M) : Cl l G (d + 1) mX11_areTwo [vR (some (2, 0)), vI x1, vI x2] M r M' := by
  show Ex l G (d + 1) mX11_areTwo 0 [some (vR (some (2, 0))), some (vI x1), some (vI x2)] [] M r M'
  refine r_aload_n 1 dX11_areTwo_0 rfl rfl ?_
  refine r_iload_n 2 dX11_areTwo_1 rfl rfl ?_
  refine v_1 (ci := 11) (C := (RX11, TX11, 16)) [vI x1] [] 5 dX11_areTwo_2 rfl rfl rfl rfl rfl mo_X11_isPerson ml_11_127 rfl rfl (KX11_isPerson hS) ?_
  have hJ_1 : Ex l G (d + 1) mX11_areTwo 26 [some (vR (some (2, 0))), some (vI x1), some (vI x2)] [vI (if 0 ≤ x1 ∧ x1 < (M.1 4 0 0) then (if 0 ≤ x2 ∧ x2 < (M.1 4 0 0) then (if x1 = x2 then 0 else 1 : Int) else 0 : Int) else 0 : Int)] M r M' := by
    obtain ⟨o_5, h⟩ := h
    exact r_iret dX11_areTwo_26 rfl (.inr ⟨rfl, o_5⟩) h.1 h.2
  refine r_if_eq 8 25 dX11_areTwo_5 rfl rfl (fun c => ?_) (fun c => ?_)
  · have c_2 := b2_0.mp c
    refine r_iconst 26 dX11_areTwo_25 rfl (InR_of rfl) ?_
    exact (Ex.at hJ_1 rfl (show [vI 0] = [vI (if 0 ≤ x1 ∧ x1 < (M.1 4 0 0) then (if 0 ≤ x2 ∧ x2 < (M.1 4 0 0) then (if x1 = x2 then 0 else 1 : Int) else 0 : Int) else 0 : Int)] by simp only [if_neg c_2]) rfl)
  · have c_2 := b2_1.mp c
    refine r_aload_n 9 dX11_areTwo_8 rfl rfl ?_
    refine r_iload_n 10 dX11_areTwo_9 rfl rfl ?_
    refine v_1 (ci := 11) (C := (RX11, TX11, 16)) [vI x2] [] 13 dX11_areTwo_10 rfl rfl rfl rfl rfl mo_X11_isPerson ml_11_127 rfl rfl (KX11_isPerson hS) ?_
    refine r_if_eq 16 25 dX11_areTwo_13 rfl rfl (fun c => ?_) (fun c => ?_)
    · have c_3 := b2_0.mp c
      refine r_iconst 26 dX11_areTwo_25 rfl (InR_of rfl) ?_
      exact (Ex.at hJ_1 rfl (show [vI 0] = [vI (if 0 ≤ x1 ∧ x1 < (M.1 4 0 0) then (if 0 ≤ x2 ∧ x2 < (M.1 4 0 0) then (if x1 = x2 then 0 else 1 : Int) else 0 : Int) else 0 : Int)] by simp only [if_pos c_2, if_neg c_3]) rfl)
    · have c_3 := b2_1.mp c
      refine r_iload_n 17 dX11_areTwo_16 rfl rfl ?_
      refine r_iload_n 18 dX11_areTwo_17 rfl rfl ?_
      refine r_icmp_eq 21 25 dX11_areTwo_18 rfl rfl (fun c => ?_) (fun c => ?_)
      · have c_4 := c
        refine r_iconst 26 dX11_areTwo_25 rfl (InR_of rfl) ?_
        exact (Ex.at hJ_1 rfl (show [vI 0] = [vI (if 0 ≤ x1 ∧ x1 < (M.1 4 0 0) then (if 0 ≤ x2 ∧ x2 < (M.1 4 0 0) then (if x1 = x2 then 0 else 1 : Int) else 0 : Int) else 0 : Int)] by simp only [if_pos c_2, if_pos c_3, if_pos c_4]) rfl)
      · have c_4 := c
        refine r_iconst 22 dX11_areTwo_21 rfl (InR_of rfl) ?_
        refine r_goto 26 dX11_areTwo_22 rfl ?_
        exact (Ex.at hJ_1 rfl (show [vI 1] = [vI (if 0 ≤ x1 ∧ x1 < (M.1 4 0 0) then (if 0 ≤ x2 ∧ x2 < (M.1 4 0 0) then (if x1 = x2 then 0 else 1 : Int) else 0 : Int) else 0 : Int)] by simp only [if_pos c_2, if_pos c_3, if_neg c_4]) rfl)

set_option maxRecDepth 4000 in
theorem xX11_isSpan_0 {l : Launch} {G : Gt} {d : Nat} {M M' : Mem} {r : Option Vl} {x0 : Int} {x1 : Int} (h : 
    ((0 ≤ x0 ∧ x0 ≤ 999 → (0 ≤ x1 ∧ x1 ≤ 999 → (¬ (x1 < x0) → (InR (x1 - x0)))))) ∧ ((((if 0 ≤ x0 ∧ x0 ≤ 999 then (if 0 ≤ x1 ∧ x1 ≤ 999 then (if x1 < x0 then 0 else (if 31 ≤ (x1 - x0) then 0 else 1 : Int) : Int) else 0 : Int) else 0 : Int) = 0 ∨ (if 0 ≤ x0 ∧ x0 ≤ 999 then (if 0 ≤ x1 ∧ x1 ≤ 999 then (if x1 < x0 then 0 else (if 31 ≤ (x1 - x0) then 0 else 1 : Int) : Int) else 0 : Int) else 0 : Int) = 1)) ∧ r = some (vI (if 0 ≤ x0 ∧ x0 ≤ 999 then (if 0 ≤ x1 ∧ x1 ≤ 999 then (if x1 < x0 then 0 else (if 31 ≤ (x1 - x0) then 0 else 1 : Int) : Int) else 0 : Int) else 0 : Int)) ∧ M' = M)) : Cl l G (d + 1) mX11_isSpan [vI x0, vI x1] M r M' := by
  show Ex l G (d + 1) mX11_isSpan 0 [some (vI x0), some (vI x1)] [] M r M'
  refine r_iload_n 1 dX11_isSpan_0 rfl rfl ?_
  refine c_1 [vI x0] [] 4 dX11_isSpan_1 rfl rfl mo_X11_isDay ml_11_124 rfl rfl (KX11_isDay) ?_
  obtain ⟨h0, h⟩ := h
  have hJ_1 : Ex l G (d + 1) mX11_isSpan 32 [some (vI x0), some (vI x1)] [vI (if 0 ≤ x0 ∧ x0 ≤ 999 then (if 0 ≤ x1 ∧ x1 ≤ 999 then (if x1 < x0 then 0 else (if 31 ≤ (x1 - x0) then 0 else 1 : Int) : Int) else 0 : Int) else 0 : Int)] M r M' := by
    obtain ⟨o_7, h⟩ := h
    exact r_iret dX11_isSpan_32 rfl (.inr ⟨rfl, o_7⟩) h.1 h.2
  have h := h0
  refine r_if_eq 7 31 dX11_isSpan_4 rfl rfl (fun c => ?_) (fun c => ?_)
  · have c_2 := b2_0.mp c
    refine r_iconst 32 dX11_isSpan_31 rfl (InR_of rfl) ?_
    exact (Ex.at hJ_1 rfl (show [vI 0] = [vI (if 0 ≤ x0 ∧ x0 ≤ 999 then (if 0 ≤ x1 ∧ x1 ≤ 999 then (if x1 < x0 then 0 else (if 31 ≤ (x1 - x0) then 0 else 1 : Int) : Int) else 0 : Int) else 0 : Int)] by simp only [if_neg c_2]) rfl)
  · have c_2 := b2_1.mp c
    have h := h c_2
    refine r_iload_n 8 dX11_isSpan_7 rfl rfl ?_
    refine c_1 [vI x1] [] 11 dX11_isSpan_8 rfl rfl mo_X11_isDay ml_11_124 rfl rfl (KX11_isDay) ?_
    refine r_if_eq 14 31 dX11_isSpan_11 rfl rfl (fun c => ?_) (fun c => ?_)
    · have c_3 := b2_0.mp c
      refine r_iconst 32 dX11_isSpan_31 rfl (InR_of rfl) ?_
      exact (Ex.at hJ_1 rfl (show [vI 0] = [vI (if 0 ≤ x0 ∧ x0 ≤ 999 then (if 0 ≤ x1 ∧ x1 ≤ 999 then (if x1 < x0 then 0 else (if 31 ≤ (x1 - x0) then 0 else 1 : Int) : Int) else 0 : Int) else 0 : Int)] by simp only [if_pos c_2, if_neg c_3]) rfl)
    · have c_3 := b2_1.mp c
      have h := h c_3
      refine r_iload_n 15 dX11_isSpan_14 rfl rfl ?_
      refine r_iload_n 16 dX11_isSpan_15 rfl rfl ?_
      refine r_icmp_gt 19 31 dX11_isSpan_16 rfl rfl (fun c => ?_) (fun c => ?_)
      · have c_4 := c
        refine r_iconst 32 dX11_isSpan_31 rfl (InR_of rfl) ?_
        exact (Ex.at hJ_1 rfl (show [vI 0] = [vI (if 0 ≤ x0 ∧ x0 ≤ 999 then (if 0 ≤ x1 ∧ x1 ≤ 999 then (if x1 < x0 then 0 else (if 31 ≤ (x1 - x0) then 0 else 1 : Int) : Int) else 0 : Int) else 0 : Int)] by simp only [if_pos c_2, if_pos c_3, if_pos c_4]) rfl)
      · have c_4 := c
        have h := h c_4
        have o_5 := h
        refine r_iload_n 20 dX11_isSpan_19 rfl rfl ?_
        refine r_iload_n 21 dX11_isSpan_20 rfl rfl ?_
        refine r_isub 22 dX11_isSpan_21 rfl o_5 ?_
        refine r_bipush 24 dX11_isSpan_22 rfl rfl ?_
        refine r_icmp_ge 27 31 dX11_isSpan_24 rfl rfl (fun c => ?_) (fun c => ?_)
        · have c_6 := c
          refine r_iconst 32 dX11_isSpan_31 rfl (InR_of rfl) ?_
          exact (Ex.at hJ_1 rfl (show [vI 0] = [vI (if 0 ≤ x0 ∧ x0 ≤ 999 then (if 0 ≤ x1 ∧ x1 ≤ 999 then (if x1 < x0 then 0 else (if 31 ≤ (x1 - x0) then 0 else 1 : Int) : Int) else 0 : Int) else 0 : Int)] by simp only [if_pos c_2, if_pos c_3, if_neg c_4, if_pos c_6]) rfl)
        · have c_6 := c
          refine r_iconst 28 dX11_isSpan_27 rfl (InR_of rfl) ?_
          refine r_goto 32 dX11_isSpan_28 rfl ?_
          exact (Ex.at hJ_1 rfl (show [vI 1] = [vI (if 0 ≤ x0 ∧ x0 ≤ 999 then (if 0 ≤ x1 ∧ x1 ≤ 999 then (if x1 < x0 then 0 else (if 31 ≤ (x1 - x0) then 0 else 1 : Int) : Int) else 0 : Int) else 0 : Int)] by simp only [if_pos c_2, if_pos c_3, if_neg c_4, if_neg c_6]) rfl)

set_option maxRecDepth 4000 in
theorem xX12_isPlace_0 {l : Launch} {G : Gt} {d : Nat} {M M' : Mem} {r : Option Vl} {x0 : Int} (h : 
    r = some (vI (if 0 ≤ x0 ∧ x0 ≤ 7 then 1 else 0 : Int)) ∧ M' = M) : Cl l G (d + 1) mX12_isPlace [vI x0] M r M' := by
  show Ex l G (d + 1) mX12_isPlace 0 [some (vI x0)] [] M r M'
  refine r_iload_n 1 dX12_isPlace_0 rfl rfl ?_
  refine r_i2l 2 dX12_isPlace_1 rfl ?_
  refine r_lconst (x := 0) 3 dX12_isPlace_2 rfl (by decide +kernel) (InR_of rfl) ?_
  refine r_ldc2 (n := 7) 6 dX12_isPlace_3 rfl (inT6 (List.mem_of_getElem? (i := 82) rfl) rfl) (by decide +kernel) (InR_of rfl) ?_
  refine c_1 [vL x0, vL 0, vL 7] [] 9 dX12_isPlace_6 rfl rfl mo_X12_in ml_12_154 rfl rfl (KX12_in) ?_
  exact r_iret dX12_isPlace_9 rfl (.inr ⟨rfl, b2_z⟩) h.1 h.2

set_option maxRecDepth 4000 in
theorem xX12_isDay_0 {l : Launch} {G : Gt} {d : Nat} {M M' : Mem} {r : Option Vl} {x0 : Int} (h : 
    r = some (vI (if 0 ≤ x0 ∧ x0 ≤ 999 then 1 else 0 : Int)) ∧ M' = M) : Cl l G (d + 1) mX12_isDay [vI x0] M r M' := by
  show Ex l G (d + 1) mX12_isDay 0 [some (vI x0)] [] M r M'
  refine r_iload_n 1 dX12_isDay_0 rfl rfl ?_
  refine r_i2l 2 dX12_isDay_1 rfl ?_
  refine r_lconst (x := 0) 3 dX12_isDay_2 rfl (by decide +kernel) (InR_of rfl) ?_
  refine r_ldc2 (n := 999) 6 dX12_isDay_3 rfl (inT6 (List.mem_of_getElem? (i := 102) rfl) rfl) (by decide +kernel) (InR_of rfl) ?_
  refine c_1 [vL x0, vL 0, vL 999] [] 9 dX12_isDay_6 rfl rfl mo_X12_in ml_12_154 rfl rfl (KX12_in) ?_
  exact r_iret dX12_isDay_9 rfl (.inr ⟨rfl, b2_z⟩) h.1 h.2

set_option maxRecDepth 4000 in
theorem xX12_isPerson_0 {l : Launch} {G : Gt} {d : Nat} {M M' : Mem} {r : Option Vl} {x1 : Int} (hS : Sh M.2.1) (h : 
    (InR ((M.1 48 0 0) - 1)) ∧ r = some (vI (if 0 ≤ x1 ∧ x1 ≤ ((M.1 48 0 0) - 1) then 1 else 0 : Int)) ∧ M' = M) : Cl l G (d + 1) mX12_isPerson [vR (some (3, 0)), vI x1] M r M' := by
  show Ex l G (d + 1) mX12_isPerson 0 [some (vR (some (3, 0))), some (vI x1)] [] M r M'
  obtain ⟨o_1, h⟩ := h
  refine r_iload_n 1 dX12_isPerson_0 rfl rfl ?_
  refine r_i2l 2 dX12_isPerson_1 rfl ?_
  refine r_lconst (x := 0) 3 dX12_isPerson_2 rfl (by decide +kernel) (InR_of rfl) ?_
  refine r_aload_n 4 dX12_isPerson_3 rfl rfl ?_
  refine g_R 7 dX12_isPerson_4 rfl rfl rfl fr_12_7 (sh_12_1 hS) ?_
  refine r_iconst 8 dX12_isPerson_7 rfl (InR_of rfl) ?_
  refine a_I 6 9 dX12_isPerson_8 rfl rfl rfl rfl ⟨by decide, by decide⟩ rfl ?_
  refine r_iconst 10 dX12_isPerson_9 rfl (InR_of rfl) ?_
  refine r_isub 11 dX12_isPerson_10 rfl o_1 ?_
  refine r_i2l 12 dX12_isPerson_11 rfl ?_
  refine c_1 [vL x1, vL 0, vL ((M.1 48 0 0) - 1)] [] 15 dX12_isPerson_12 rfl rfl mo_X12_in ml_12_154 rfl rfl (KX12_in) ?_
  exact r_iret dX12_isPerson_15 rfl (.inr ⟨rfl, b2_z⟩) h.1 h.2

set_option maxRecDepth 4000 in
theorem xX12_isSmall_0 {l : Launch} {G : Gt} {d : Nat} {M M' : Mem} {r : Option Vl} {x0 : Int} (h : 
    r = some (vI (if 97 ≤ x0 ∧ x0 ≤ 122 then 1 else 0 : Int)) ∧ M' = M) : Cl l G (d + 1) mX12_isSmall [vI x0] M r M' := by
  show Ex l G (d + 1) mX12_isSmall 0 [some (vI x0)] [] M r M'
  refine r_iload_n 1 dX12_isSmall_0 rfl rfl ?_
  refine r_i2l 2 dX12_isSmall_1 rfl ?_
  refine r_ldc2 (n := 97) 5 dX12_isSmall_2 rfl (inT6 (List.mem_of_getElem? (i := 205) rfl) rfl) (by decide +kernel) (InR_of rfl) ?_
  refine r_ldc2 (n := 122) 8 dX12_isSmall_5 rfl (inT6 (List.mem_of_getElem? (i := 206) rfl) rfl) (by decide +kernel) (InR_of rfl) ?_
  refine c_1 [vL x0, vL 97, vL 122] [] 11 dX12_isSmall_8 rfl rfl mo_X12_in ml_12_154 rfl rfl (KX12_in) ?_
  exact r_iret dX12_isSmall_11 rfl (.inr ⟨rfl, b2_z⟩) h.1 h.2

set_option maxRecDepth 4000 in
theorem xX12_isCover_0 {l : Launch} {G : Gt} {d : Nat} {M M' : Mem} {r : Option Vl} {x1 : Int} (h : 
    (InR ((M.1 3 0 33) - 1)) ∧ r = some (vI (if 0 ≤ x1 ∧ x1 ≤ ((M.1 3 0 33) - 1) then 1 else 0 : Int)) ∧ M' = M) : Cl l G (d + 1) mX12_isCover [vR (some (3, 0)), vI x1] M r M' := by
  show Ex l G (d + 1) mX12_isCover 0 [some (vR (some (3, 0))), some (vI x1)] [] M r M'
  obtain ⟨o_1, h⟩ := h
  refine r_iload_n 1 dX12_isCover_0 rfl rfl ?_
  refine r_i2l 2 dX12_isCover_1 rfl ?_
  refine r_lconst (x := 0) 3 dX12_isCover_2 rfl (by decide +kernel) (InR_of rfl) ?_
  refine r_aload_n 4 dX12_isCover_3 rfl rfl ?_
  refine g_I 7 dX12_isCover_4 rfl rfl rfl fi_12_309 rfl ?_
  refine r_iconst 8 dX12_isCover_7 rfl (InR_of rfl) ?_
  refine r_isub 9 dX12_isCover_8 rfl o_1 ?_
  refine r_i2l 10 dX12_isCover_9 rfl ?_
  refine c_1 [vL x1, vL 0, vL ((M.1 3 0 33) - 1)] [] 13 dX12_isCover_10 rfl rfl mo_X12_in ml_12_154 rfl rfl (KX12_in) ?_
  exact r_iret dX12_isCover_13 rfl (.inr ⟨rfl, b2_z⟩) h.1 h.2

set_option maxRecDepth 4000 in
theorem xX12_isRight_0 {l : Launch} {G : Gt} {d : Nat} {M M' : Mem} {r : Option Vl} {x1 : Int} (hS : Sh M.2.1) (h : 
    ((0 ≤ x1 ∧ x1 < 8)) ∧ ((((M.1 66 0 x1.toNat) = 1 → ((0 ≤ x1 ∧ x1 < 8)))) ∧ ((((if (M.1 66 0 x1.toNat) = 1 then (if (M.1 69 0 x1.toNat) = (M.1 64 0 x1.toNat) then 1 else 0 : Int) else 0 : Int) = 0 ∨ (if (M.1 66 0 x1.toNat) = 1 then (if (M.1 69 0 x1.toNat) = (M.1 64 0 x1.toNat) then 1 else 0 : Int) else 0 : Int) = 1)) ∧ r = some (vI (if (M.1 66 0 x1.toNat) = 1 then (if (M.1 69 0 x1.toNat) = (M.1 64 0 x1.toNat) then 1 else 0 : Int) else 0 : Int)) ∧ M' = M))) : Cl l G d mX12_isRight [vR (some (3, 0)), vI x1] M r M' := by
  show Ex l G d mX12_isRight 0 [some (vR (some (3, 0))), some (vI x1)] [] M r M'
  obtain ⟨o_1, h⟩ := h
  refine r_aload_n 1 dX12_isRight_0 rfl rfl ?_
  refine g_R 4 dX12_isRight_1 rfl rfl rfl fr_12_64 (sh_12_19 hS) ?_
  refine r_iload_n 5 dX12_isRight_4 rfl rfl ?_
  refine a_I 8 6 dX12_isRight_5 rfl rfl rfl rfl o_1 rfl ?_
  refine r_iconst 7 dX12_isRight_6 rfl (InR_of rfl) ?_
  obtain ⟨h0, h⟩ := h
  have hJ_2 : Ex l G d mX12_isRight 30 [some (vR (some (3, 0))), some (vI x1)] [vI (if (M.1 66 0 x1.toNat) = 1 then (if (M.1 69 0 x1.toNat) = (M.1 64 0 x1.toNat) then 1 else 0 : Int) else 0 : Int)] M r M' := by
    obtain ⟨o_6, h⟩ := h
    exact r_iret dX12_isRight_30 rfl (.inr ⟨rfl, o_6⟩) h.1 h.2
  have h := h0
  refine r_icmp_ne 10 29 dX12_isRight_7 rfl rfl (fun c => ?_) (fun c => ?_)
  · have c_3 := c
    refine r_iconst 30 dX12_isRight_29 rfl (InR_of rfl) ?_
    exact (Ex.at hJ_2 rfl (show [vI 0] = [vI (if (M.1 66 0 x1.toNat) = 1 then (if (M.1 69 0 x1.toNat) = (M.1 64 0 x1.toNat) then 1 else 0 : Int) else 0 : Int)] by simp only [if_neg c_3]) rfl)
  · have c_3 := Decidable.not_not.mp c
    have h := h c_3
    have o_4 := h
    refine r_aload_n 11 dX12_isRight_10 rfl rfl ?_
    refine g_R 14 dX12_isRight_11 rfl rfl rfl fr_12_73 (sh_12_22 hS) ?_
    refine r_iload_n 15 dX12_isRight_14 rfl rfl ?_
    refine a_I 8 16 dX12_isRight_15 rfl rfl rfl rfl o_4 rfl ?_
    refine r_aload_n 17 dX12_isRight_16 rfl rfl ?_
    refine g_R 20 dX12_isRight_17 rfl rfl rfl fr_12_58 (sh_12_17 hS) ?_
    refine r_iload_n 21 dX12_isRight_20 rfl rfl ?_
    refine a_I 8 22 dX12_isRight_21 rfl rfl rfl rfl o_4 rfl ?_
    refine r_icmp_ne 25 29 dX12_isRight_22 rfl rfl (fun c => ?_) (fun c => ?_)
    · have c_5 := c
      refine r_iconst 30 dX12_isRight_29 rfl (InR_of rfl) ?_
      exact (Ex.at hJ_2 rfl (show [vI 0] = [vI (if (M.1 66 0 x1.toNat) = 1 then (if (M.1 69 0 x1.toNat) = (M.1 64 0 x1.toNat) then 1 else 0 : Int) else 0 : Int)] by simp only [if_pos c_3, if_neg c_5]) rfl)
    · have c_5 := Decidable.not_not.mp c
      refine r_iconst 26 dX12_isRight_25 rfl (InR_of rfl) ?_
      refine r_goto 30 dX12_isRight_26 rfl ?_
      exact (Ex.at hJ_2 rfl (show [vI 1] = [vI (if (M.1 66 0 x1.toNat) = 1 then (if (M.1 69 0 x1.toNat) = (M.1 64 0 x1.toNat) then 1 else 0 : Int) else 0 : Int)] by simp only [if_pos c_3, if_pos c_5]) rfl)

section PU
variable {l : Launch} {G : Gt} {d : Nat} {M : Mem}
theorem KX11_areTwo {x y : Int} (hS : Sh M.2.1) : Cl l G (d + 1) mX11_areTwo [vR (some (2, 0)), vI x, vI y] M (some (vI (if (0 ≤ x ∧ x < M.1 4 0 0) ∧ (0 ≤ y ∧ y < M.1 4 0 0) ∧ ¬ x = y then 1 else 0))) M := xX11_areTwo_0 hS ⟨(by (repeat' split) <;> first | rfl | (left; rfl) | (right; rfl) | (exfalso; omega)), (by (repeat' split) <;> first | rfl | (left; rfl) | (right; rfl) | (exfalso; omega)), rfl⟩
theorem KX11_isSpan {x y : Int} : Cl l G (d + 1) mX11_isSpan [vI x, vI y] M (some (vI (if (0 ≤ x ∧ x ≤ 999) ∧ (0 ≤ y ∧ y ≤ 999) ∧ x ≤ y ∧ y - x < 31 then 1 else 0))) M := xX11_isSpan_0 ⟨fun _ _ _ => by unfold InR; omega, (by (repeat' split) <;> first | rfl | (left; rfl) | (right; rfl) | (exfalso; omega)), (by (repeat' split) <;> first | rfl | (left; rfl) | (right; rfl) | (exfalso; omega)), rfl⟩
theorem KX12_isPlace {x : Int} : Cl l G (d + 1) mX12_isPlace [vI x] M (some (vI (if 0 ≤ x ∧ x < 8 then 1 else 0))) M := xX12_isPlace_0 ⟨(by (repeat' split) <;> first | rfl | (left; rfl) | (right; rfl) | (exfalso; omega)), rfl⟩
theorem KX12_isDay {x : Int} : Cl l G (d + 1) mX12_isDay [vI x] M (some (vI (if 0 ≤ x ∧ x ≤ 999 then 1 else 0))) M := xX12_isDay_0 ⟨(by (repeat' split) <;> first | rfl | (left; rfl) | (right; rfl) | (exfalso; omega)), rfl⟩
theorem KX12_isSmall {x : Int} : Cl l G (d + 1) mX12_isSmall [vI x] M (some (vI (if 97 ≤ x ∧ x ≤ 122 then 1 else 0))) M := xX12_isSmall_0 ⟨(by (repeat' split) <;> first | rfl | (left; rfl) | (right; rfl) | (exfalso; omega)), rfl⟩
theorem KX12_isPerson {x : Int} (hS : Sh M.2.1) (h : InR (M.1 48 0 0 - 1)) : Cl l G (d + 1) mX12_isPerson [vR (some (3, 0)), vI x] M (some (vI (if 0 ≤ x ∧ x < M.1 48 0 0 then 1 else 0))) M := xX12_isPerson_0 hS ⟨h, (by (repeat' split) <;> first | rfl | (left; rfl) | (right; rfl) | (exfalso; omega)), rfl⟩
theorem KX12_isCover {x : Int} (h : InR (M.1 3 0 33 - 1)) : Cl l G (d + 1) mX12_isCover [vR (some (3, 0)), vI x] M (some (vI (if 0 ≤ x ∧ x < M.1 3 0 33 then 1 else 0))) M := xX12_isCover_0 ⟨h, (by (repeat' split) <;> first | rfl | (left; rfl) | (right; rfl) | (exfalso; omega)), rfl⟩
theorem KX12_isRight {k : Int} (hS : Sh M.2.1) (h : 0 ≤ k ∧ k < 8) : Cl l G d mX12_isRight [vR (some (3, 0)), vI k] M (some (vI (if M.1 66 0 k.toNat = 1 ∧ M.1 69 0 k.toNat = M.1 64 0 k.toNat then 1 else 0))) M := xX12_isRight_0 hS ⟨h, fun _ => h, (by (repeat' split) <;> first | rfl | (left; rfl) | (right; rfl) | (exfalso; omega)), (by (repeat' split) <;> first | rfl | (left; rfl) | (right; rfl) | (exfalso; omega)), rfl⟩
end PU
set_option maxRecDepth 4000 in
theorem xX12_isRead_0 {l : Launch} {G : Gt} {d : Nat} {M M' : Mem} {r : Option Vl} {x1 : Int} {x2 : Int} {x3 : Int} (hS : Sh M.2.1) (h : 
    (InR ((M.1 3 0 33) - 1)) ∧ (((0 ≤ x1 ∧ x1 < (M.1 3 0 33) → (InR ((M.1 48 0 0) - 1)))) ∧ ((((if 0 ≤ x1 ∧ x1 < (M.1 3 0 33) then (if 0 ≤ x2 ∧ x2 < (M.1 48 0 0) then (if 0 ≤ x3 ∧ x3 ≤ 999 then 1 else 0 : Int) else 0 : Int) else 0 : Int) = 0 ∨ (if 0 ≤ x1 ∧ x1 < (M.1 3 0 33) then (if 0 ≤ x2 ∧ x2 < (M.1 48 0 0) then (if 0 ≤ x3 ∧ x3 ≤ 999 then 1 else 0 : Int) else 0 : Int) else 0 : Int) = 1)) ∧ r = some (vI (if 0 ≤ x1 ∧ x1 < (M.1 3 0 33) then (if 0 ≤ x2 ∧ x2 < (M.1 48 0 0) then (if 0 ≤ x3 ∧ x3 ≤ 999 then 1 else 0 : Int) else 0 : Int) else 0 : Int)) ∧ M' = M))) : Cl l G (d + 2) mX12_isRead [vR (some (3, 0)), vI x1, vI x2, vI x3] M r M' := by
  show Ex l G (d + 2) mX12_isRead 0 [some (vR (some (3, 0))), some (vI x1), some (vI x2), some (vI x3)] [] M r M'
  obtain ⟨o_1, h⟩ := h
  refine r_aload_n 1 dX12_isRead_0 rfl rfl ?_
  refine r_iload_n 2 dX12_isRead_1 rfl rfl ?_
  refine v_1 (ci := 12) (C := (RX12, TX12, 68)) [vI x1] [] 5 dX12_isRead_2 rfl rfl rfl rfl rfl mo_X12_isCover ml_12_331 rfl rfl (KX12_isCover o_1) ?_
  obtain ⟨h0, h⟩ := h
  have hJ_2 : Ex l G (d + 2) mX12_isRead 28 [some (vR (some (3, 0))), some (vI x1), some (vI x2), some (vI x3)] [vI (if 0 ≤ x1 ∧ x1 < (M.1 3 0 33) then (if 0 ≤ x2 ∧ x2 < (M.1 48 0 0) then (if 0 ≤ x3 ∧ x3 ≤ 999 then 1 else 0 : Int) else 0 : Int) else 0 : Int)] M r M' := by
    obtain ⟨o_7, h⟩ := h
    exact r_iret dX12_isRead_28 rfl (.inr ⟨rfl, o_7⟩) h.1 h.2
  have h := h0
  refine r_if_eq 8 27 dX12_isRead_5 rfl rfl (fun c => ?_) (fun c => ?_)
  · have c_3 := b2_0.mp c
    refine r_iconst 28 dX12_isRead_27 rfl (InR_of rfl) ?_
    exact (Ex.at hJ_2 rfl (show [vI 0] = [vI (if 0 ≤ x1 ∧ x1 < (M.1 3 0 33) then (if 0 ≤ x2 ∧ x2 < (M.1 48 0 0) then (if 0 ≤ x3 ∧ x3 ≤ 999 then 1 else 0 : Int) else 0 : Int) else 0 : Int)] by simp only [if_neg c_3]) rfl)
  · have c_3 := b2_1.mp c
    have h := h c_3
    have o_4 := h
    refine r_aload_n 9 dX12_isRead_8 rfl rfl ?_
    refine r_iload_n 10 dX12_isRead_9 rfl rfl ?_
    refine v_1 (ci := 12) (C := (RX12, TX12, 68)) [vI x2] [] 13 dX12_isRead_10 rfl rfl rfl rfl rfl mo_X12_isPerson ml_12_175 rfl rfl (KX12_isPerson hS o_4) ?_
    refine r_if_eq 16 27 dX12_isRead_13 rfl rfl (fun c => ?_) (fun c => ?_)
    · have c_5 := b2_0.mp c
      refine r_iconst 28 dX12_isRead_27 rfl (InR_of rfl) ?_
      exact (Ex.at hJ_2 rfl (show [vI 0] = [vI (if 0 ≤ x1 ∧ x1 < (M.1 3 0 33) then (if 0 ≤ x2 ∧ x2 < (M.1 48 0 0) then (if 0 ≤ x3 ∧ x3 ≤ 999 then 1 else 0 : Int) else 0 : Int) else 0 : Int)] by simp only [if_pos c_3, if_neg c_5]) rfl)
    · have c_5 := b2_1.mp c
      refine r_iload_n 17 dX12_isRead_16 rfl rfl ?_
      refine c_1 [vI x3] [] 20 dX12_isRead_17 rfl rfl mo_X12_isDay ml_12_170 rfl rfl (KX12_isDay) ?_
      refine r_if_eq 23 27 dX12_isRead_20 rfl rfl (fun c => ?_) (fun c => ?_)
      · have c_6 := b2_0.mp c
        refine r_iconst 28 dX12_isRead_27 rfl (InR_of rfl) ?_
        exact (Ex.at hJ_2 rfl (show [vI 0] = [vI (if 0 ≤ x1 ∧ x1 < (M.1 3 0 33) then (if 0 ≤ x2 ∧ x2 < (M.1 48 0 0) then (if 0 ≤ x3 ∧ x3 ≤ 999 then 1 else 0 : Int) else 0 : Int) else 0 : Int)] by simp only [if_pos c_3, if_pos c_5, if_neg c_6]) rfl)
      · have c_6 := b2_1.mp c
        refine r_iconst 24 dX12_isRead_23 rfl (InR_of rfl) ?_
        refine r_goto 28 dX12_isRead_24 rfl ?_
        exact (Ex.at hJ_2 rfl (show [vI 1] = [vI (if 0 ≤ x1 ∧ x1 < (M.1 3 0 33) then (if 0 ≤ x2 ∧ x2 < (M.1 48 0 0) then (if 0 ≤ x3 ∧ x3 ≤ 999 then 1 else 0 : Int) else 0 : Int) else 0 : Int)] by simp only [if_pos c_3, if_pos c_5, if_pos c_6]) rfl)

set_option maxRecDepth 4000 in
theorem xX12_isLetter_0 {l : Launch} {G : Gt} {d : Nat} {M M' : Mem} {r : Option Vl} {x1 : Int} {x2 : Int} {x3 : Int} {x4 : Int} (hS : Sh M.2.1) (h : 
    (InR ((M.1 48 0 0) - 1)) ∧ (((0 ≤ x1 ∧ x1 < (M.1 48 0 0) → (InR ((M.1 3 0 33) - 1)))) ∧ ((((if 0 ≤ x1 ∧ x1 < (M.1 48 0 0) then (if 0 ≤ x2 ∧ x2 < (M.1 3 0 33) then (if 0 ≤ x3 ∧ x3 < 8 then (if 0 ≤ x4 ∧ x4 ≤ 999 then 1 else 0 : Int) else 0 : Int) else 0 : Int) else 0 : Int) = 0 ∨ (if 0 ≤ x1 ∧ x1 < (M.1 48 0 0) then (if 0 ≤ x2 ∧ x2 < (M.1 3 0 33) then (if 0 ≤ x3 ∧ x3 < 8 then (if 0 ≤ x4 ∧ x4 ≤ 999 then 1 else 0 : Int) else 0 : Int) else 0 : Int) else 0 : Int) = 1)) ∧ r = some (vI (if 0 ≤ x1 ∧ x1 < (M.1 48 0 0) then (if 0 ≤ x2 ∧ x2 < (M.1 3 0 33) then (if 0 ≤ x3 ∧ x3 < 8 then (if 0 ≤ x4 ∧ x4 ≤ 999 then 1 else 0 : Int) else 0 : Int) else 0 : Int) else 0 : Int)) ∧ M' = M))) : Cl l G (d + 2) mX12_isLetter [vR (some (3, 0)), vI x1, vI x2, vI x3, vI x4] M r M' := by
  show Ex l G (d + 2) mX12_isLetter 0 [some (vR (some (3, 0))), some (vI x1), some (vI x2), some (vI x3), some (vI x4)] [] M r M'
  obtain ⟨o_1, h⟩ := h
  refine r_aload_n 1 dX12_isLetter_0 rfl rfl ?_
  refine r_iload_n 2 dX12_isLetter_1 rfl rfl ?_
  refine v_1 (ci := 12) (C := (RX12, TX12, 68)) [vI x1] [] 5 dX12_isLetter_2 rfl rfl rfl rfl rfl mo_X12_isPerson ml_12_175 rfl rfl (KX12_isPerson hS o_1) ?_
  obtain ⟨h0, h⟩ := h
  have hJ_2 : Ex l G (d + 2) mX12_isLetter 36 [some (vR (some (3, 0))), some (vI x1), some (vI x2), some (vI x3), some (vI x4)] [vI (if 0 ≤ x1 ∧ x1 < (M.1 48 0 0) then (if 0 ≤ x2 ∧ x2 < (M.1 3 0 33) then (if 0 ≤ x3 ∧ x3 < 8 then (if 0 ≤ x4 ∧ x4 ≤ 999 then 1 else 0 : Int) else 0 : Int) else 0 : Int) else 0 : Int)] M r M' := by
    obtain ⟨o_8, h⟩ := h
    exact r_iret dX12_isLetter_36 rfl (.inr ⟨rfl, o_8⟩) h.1 h.2
  have h := h0
  refine r_if_eq 8 35 dX12_isLetter_5 rfl rfl (fun c => ?_) (fun c => ?_)
  · have c_3 := b2_0.mp c
    refine r_iconst 36 dX12_isLetter_35 rfl (InR_of rfl) ?_
    exact (Ex.at hJ_2 rfl (show [vI 0] = [vI (if 0 ≤ x1 ∧ x1 < (M.1 48 0 0) then (if 0 ≤ x2 ∧ x2 < (M.1 3 0 33) then (if 0 ≤ x3 ∧ x3 < 8 then (if 0 ≤ x4 ∧ x4 ≤ 999 then 1 else 0 : Int) else 0 : Int) else 0 : Int) else 0 : Int)] by simp only [if_neg c_3]) rfl)
  · have c_3 := b2_1.mp c
    have h := h c_3
    have o_4 := h
    refine r_aload_n 9 dX12_isLetter_8 rfl rfl ?_
    refine r_iload_n 10 dX12_isLetter_9 rfl rfl ?_
    refine v_1 (ci := 12) (C := (RX12, TX12, 68)) [vI x2] [] 13 dX12_isLetter_10 rfl rfl rfl rfl rfl mo_X12_isCover ml_12_331 rfl rfl (KX12_isCover o_4) ?_
    refine r_if_eq 16 35 dX12_isLetter_13 rfl rfl (fun c => ?_) (fun c => ?_)
    · have c_5 := b2_0.mp c
      refine r_iconst 36 dX12_isLetter_35 rfl (InR_of rfl) ?_
      exact (Ex.at hJ_2 rfl (show [vI 0] = [vI (if 0 ≤ x1 ∧ x1 < (M.1 48 0 0) then (if 0 ≤ x2 ∧ x2 < (M.1 3 0 33) then (if 0 ≤ x3 ∧ x3 < 8 then (if 0 ≤ x4 ∧ x4 ≤ 999 then 1 else 0 : Int) else 0 : Int) else 0 : Int) else 0 : Int)] by simp only [if_pos c_3, if_neg c_5]) rfl)
    · have c_5 := b2_1.mp c
      refine r_iload_n 17 dX12_isLetter_16 rfl rfl ?_
      refine c_1 [vI x3] [] 20 dX12_isLetter_17 rfl rfl mo_X12_isPlace ml_12_160 rfl rfl (KX12_isPlace) ?_
      refine r_if_eq 23 35 dX12_isLetter_20 rfl rfl (fun c => ?_) (fun c => ?_)
      · have c_6 := b2_0.mp c
        refine r_iconst 36 dX12_isLetter_35 rfl (InR_of rfl) ?_
        exact (Ex.at hJ_2 rfl (show [vI 0] = [vI (if 0 ≤ x1 ∧ x1 < (M.1 48 0 0) then (if 0 ≤ x2 ∧ x2 < (M.1 3 0 33) then (if 0 ≤ x3 ∧ x3 < 8 then (if 0 ≤ x4 ∧ x4 ≤ 999 then 1 else 0 : Int) else 0 : Int) else 0 : Int) else 0 : Int)] by simp only [if_pos c_3, if_pos c_5, if_neg c_6]) rfl)
      · have c_6 := b2_1.mp c
        refine r_iload 25 dX12_isLetter_23 rfl rfl ?_
        refine c_1 [vI x4] [] 28 dX12_isLetter_25 rfl rfl mo_X12_isDay ml_12_170 rfl rfl (KX12_isDay) ?_
        refine r_if_eq 31 35 dX12_isLetter_28 rfl rfl (fun c => ?_) (fun c => ?_)
        · have c_7 := b2_0.mp c
          refine r_iconst 36 dX12_isLetter_35 rfl (InR_of rfl) ?_
          exact (Ex.at hJ_2 rfl (show [vI 0] = [vI (if 0 ≤ x1 ∧ x1 < (M.1 48 0 0) then (if 0 ≤ x2 ∧ x2 < (M.1 3 0 33) then (if 0 ≤ x3 ∧ x3 < 8 then (if 0 ≤ x4 ∧ x4 ≤ 999 then 1 else 0 : Int) else 0 : Int) else 0 : Int) else 0 : Int)] by simp only [if_pos c_3, if_pos c_5, if_pos c_6, if_neg c_7]) rfl)
        · have c_7 := b2_1.mp c
          refine r_iconst 32 dX12_isLetter_31 rfl (InR_of rfl) ?_
          refine r_goto 36 dX12_isLetter_32 rfl ?_
          exact (Ex.at hJ_2 rfl (show [vI 1] = [vI (if 0 ≤ x1 ∧ x1 < (M.1 48 0 0) then (if 0 ≤ x2 ∧ x2 < (M.1 3 0 33) then (if 0 ≤ x3 ∧ x3 < 8 then (if 0 ≤ x4 ∧ x4 ≤ 999 then 1 else 0 : Int) else 0 : Int) else 0 : Int) else 0 : Int)] by simp only [if_pos c_3, if_pos c_5, if_pos c_6, if_pos c_7]) rfl)

section PU
variable {l : Launch} {G : Gt} {d : Nat} {M : Mem}
theorem KX12_isRead {c p q : Int} (hS : Sh M.2.1) (h : InR (M.1 3 0 33 - 1) ∧ InR (M.1 48 0 0 - 1)) : Cl l G (d + 2) mX12_isRead [vR (some (3, 0)), vI c, vI p, vI q] M (some (vI (if (0 ≤ c ∧ c < M.1 3 0 33) ∧ (0 ≤ p ∧ p < M.1 48 0 0) ∧ (0 ≤ q ∧ q ≤ 999) then 1 else 0))) M := xX12_isRead_0 hS ⟨h.1, fun _ => h.2, (by (repeat' split) <;> first | rfl | (left; rfl) | (right; rfl) | (exfalso; omega)), (by (repeat' split) <;> first | rfl | (left; rfl) | (right; rfl) | (exfalso; omega)), rfl⟩
theorem KX12_isLetter {p c q e : Int} (hS : Sh M.2.1) (h : InR (M.1 3 0 33 - 1) ∧ InR (M.1 48 0 0 - 1)) : Cl l G (d + 2) mX12_isLetter [vR (some (3, 0)), vI p, vI c, vI q, vI e] M (some (vI (if (0 ≤ p ∧ p < M.1 48 0 0) ∧ (0 ≤ c ∧ c < M.1 3 0 33) ∧ (0 ≤ q ∧ q < 8) ∧ (0 ≤ e ∧ e ≤ 999) then 1 else 0))) M := xX12_isLetter_0 hS ⟨h.2, fun _ => h.1, (by (repeat' split) <;> first | rfl | (left; rfl) | (right; rfl) | (exfalso; omega)), (by (repeat' split) <;> first | rfl | (left; rfl) | (right; rfl) | (exfalso; omega)), rfl⟩
end PU
