/-! cover on the reference: the loop -/
section RW8
variable {l : Launch} {G : Gt} {d : Nat} {M : Mem} {r : Option Vl} {M' : Mem} {t : Tp} {n sl q p : Nat} {e dp ti cn x1 x2 : Int} {o s : List (Int × Int)} {I I' I'' : IM} {c c' : Cf}
set_option maxRecDepth 4000 in
theorem xX12_cover_0 {l : Launch} {G : Gt} {d : Nat} {M M' : Mem} {r : Option Vl}  (h : 
    (¬ ((M.1 3 0 33) = 8) → ∃ (M_1 : Mem), Cl l G d mX12_heads [vR (some (3, 0))] ((upI (upI (upI (upI (upI (upI (upI (upI M.1 3 0 32 (M.1 3 0 33)) 3 0 30 0) 3 0 31 0) 3 0 34 0) 3 0 35 0) 3 0 36 0) 3 0 37 0) 3 0 38 0), M.2.1, M.2.2) none M_1 ∧ Ex l G (d + 1) mX12_cover 60 [some (vR (some (3, 0))), some (vI 1)] [] M_1 r M') ∧ ((M.1 3 0 33) = 8 → r = some (vI (-1)) ∧ M' = M)) : Cl l G (d + 1) mX12_cover [vR (some (3, 0))] M r M' := by
  show Ex l G (d + 1) mX12_cover 0 [some (vR (some (3, 0))), none] [] M r M'
  refine r_aload_n 1 dX12_cover_0 rfl rfl ?_
  refine g_I 4 dX12_cover_1 rfl rfl rfl fi_12_309 rfl ?_
  refine r_bipush 6 dX12_cover_4 rfl rfl ?_
  refine r_icmp_ne 9 11 dX12_cover_6 rfl rfl (fun c => ?_) (fun c => ?_)
  · have h := h.1 (c)
    refine r_aload_n 12 dX12_cover_11 rfl rfl ?_
    refine r_aload_n 13 dX12_cover_12 rfl rfl ?_
    refine g_I 16 dX12_cover_13 rfl rfl rfl fi_12_309 rfl ?_
    refine p_I 19 dX12_cover_16 rfl rfl rfl rfl pf_12_241 (.inl rfl) rfl ?_
    refine r_aload_n 20 dX12_cover_19 rfl rfl ?_
    refine r_iconst 21 dX12_cover_20 rfl (InR_of rfl) ?_
    refine p_I 24 dX12_cover_21 rfl rfl rfl rfl pf_12_218 (.inl rfl) rfl ?_
    refine r_aload_n 25 dX12_cover_24 rfl rfl ?_
    refine r_iconst 26 dX12_cover_25 rfl (InR_of rfl) ?_
    refine p_I 29 dX12_cover_26 rfl rfl rfl rfl pf_12_215 (.inl rfl) rfl ?_
    refine r_aload_n 30 dX12_cover_29 rfl rfl ?_
    refine r_iconst 31 dX12_cover_30 rfl (InR_of rfl) ?_
    refine p_I 34 dX12_cover_31 rfl rfl rfl rfl pf_12_244 (.inl rfl) rfl ?_
    refine r_aload_n 35 dX12_cover_34 rfl rfl ?_
    refine r_iconst 36 dX12_cover_35 rfl (InR_of rfl) ?_
    refine p_I 39 dX12_cover_36 rfl rfl rfl rfl pf_12_272 (.inl rfl) rfl ?_
    refine r_aload_n 40 dX12_cover_39 rfl rfl ?_
    refine r_iconst 41 dX12_cover_40 rfl (InR_of rfl) ?_
    refine p_I 44 dX12_cover_41 rfl rfl rfl rfl pf_12_280 (.inl rfl) rfl ?_
    refine r_aload_n 45 dX12_cover_44 rfl rfl ?_
    refine r_iconst 46 dX12_cover_45 rfl (InR_of rfl) ?_
    refine p_I 49 dX12_cover_46 rfl rfl rfl rfl pf_12_250 (.inl rfl) rfl ?_
    refine r_aload_n 50 dX12_cover_49 rfl rfl ?_
    refine r_iconst 51 dX12_cover_50 rfl (InR_of rfl) ?_
    refine p_I 54 dX12_cover_51 rfl rfl rfl rfl pf_12_247 (.inl rfl) rfl ?_
    refine r_aload_n 55 dX12_cover_54 rfl rfl ?_
    obtain ⟨M_1, hc_2, h⟩ := h
    refine v_0 (ci := 12) (C := (RX12, TX12, 68)) [] [] 58 dX12_cover_55 rfl rfl rfl rfl rfl mo_X12_heads ml_12_312 rfl rfl hc_2 ?_
    refine r_iconst 59 dX12_cover_58 rfl (InR_of rfl) ?_
    refine r_istore_n (ls' := [some (vR (some (3, 0))), some (vI 1)]) 60 dX12_cover_59 rfl rfl rfl rfl ?_
    exact h
  · have h := h.2 (Decidable.not_not.mp c)
    refine r_iconst 10 dX12_cover_9 rfl (InR_of rfl) ?_
    exact r_iret dX12_cover_10 rfl (.inl rfl) h.1 h.2
set_option maxRecDepth 4000 in
theorem xX12_cover_60 {l : Launch} {G : Gt} {d : Nat} {M M' : Mem} {r : Option Vl} {x1 : Int} (h : 
    (x1 = 0 → Ex l G (d + 1) mX12_cover 111 [some (vR (some (3, 0))), some (vI x1)] [] M r M') ∧ (¬ (x1 = 0) → (¬ ((M.1 3 0 31) = 0) → Ex l G (d + 1) mX12_cover 111 [some (vR (some (3, 0))), some (vI x1)] [] M r M') ∧ ((M.1 3 0 31) = 0 → Ex l G (d + 1) mX12_cover 71 [some (vR (some (3, 0))), some (vI x1)] [] M r M'))) : Ex l G (d + 1) mX12_cover 60 [some (vR (some (3, 0))), some (vI x1)] [] M r M' := by
  refine r_iload_n 61 dX12_cover_60 rfl rfl ?_
  refine r_if_eq 64 111 dX12_cover_61 rfl rfl (fun c => ?_) (fun c => ?_)
  · have h := h.1 (c)
    exact h
  · have h := h.2 (c)
    refine r_aload_n 65 dX12_cover_64 rfl rfl ?_
    refine g_I 68 dX12_cover_65 rfl rfl rfl fi_12_215 rfl ?_
    refine r_if_ne 71 111 dX12_cover_68 rfl rfl (fun c => ?_) (fun c => ?_)
    · have h := h.1 (c)
      exact h
    · have h := h.2 (Decidable.not_not.mp c)
      exact h
set_option maxRecDepth 4000 in
theorem xX12_cover_71 {l : Launch} {G : Gt} {d : Nat} {M M' : Mem} {r : Option Vl} {x1 : Int} (h : 
    (¬ ((M.1 3 0 31) = 0) → Ex l G (d + 1) mX12_cover 92 [some (vR (some (3, 0))), some (vI x1)] [] M r M') ∧ ((M.1 3 0 31) = 0 → ∃ (r_3 : Int) (M_1 : Mem), Cl l G d mX12_fact [vR (some (3, 0))] M (some (vI r_3)) M_1 ∧ ((¬ (r_3 = 0) → Ex l G (d + 1) mX12_cover 92 [some (vR (some (3, 0))), some (vI x1)] [] M_1 r M') ∧ (r_3 = 0 → ∃ (M_4 : Mem), Cl l G d mX12_blanks [vR (some (3, 0))] M_1 none M_4 ∧ Ex l G (d + 1) mX12_cover 71 [some (vR (some (3, 0))), some (vI x1)] [] M_4 r M')))) : Ex l G (d + 1) mX12_cover 71 [some (vR (some (3, 0))), some (vI x1)] [] M r M' := by
  refine r_aload_n 72 dX12_cover_71 rfl rfl ?_
  refine g_I 75 dX12_cover_72 rfl rfl rfl fi_12_215 rfl ?_
  refine r_if_ne 78 92 dX12_cover_75 rfl rfl (fun c => ?_) (fun c => ?_)
  · have h := h.1 (c)
    exact h
  · have h := h.2 (Decidable.not_not.mp c)
    refine r_aload_n 79 dX12_cover_78 rfl rfl ?_
    obtain ⟨r_3, M_1, hc_2, h⟩ := h
    refine v_1 (ci := 12) (C := (RX12, TX12, 68)) [] [] 82 dX12_cover_79 rfl rfl rfl rfl rfl mo_X12_fact ml_12_315 rfl rfl hc_2 ?_
    refine r_if_ne 85 92 dX12_cover_82 rfl rfl (fun c => ?_) (fun c => ?_)
    · have h := h.1 (c)
      exact h
    · have h := h.2 (Decidable.not_not.mp c)
      refine r_aload_n 86 dX12_cover_85 rfl rfl ?_
      obtain ⟨M_4, hc_5, h⟩ := h
      refine v_0 (ci := 12) (C := (RX12, TX12, 68)) [] [] 89 dX12_cover_86 rfl rfl rfl rfl rfl mo_X12_blanks ml_12_256 rfl rfl hc_5 ?_
      refine r_goto 71 dX12_cover_89 rfl ?_
      exact h
set_option maxRecDepth 4000 in
theorem xX12_cover_92 {l : Launch} {G : Gt} {d : Nat} {M M' : Mem} {r : Option Vl} {x1 : Int} (h : 
    (¬ ((M.1 3 0 31) = 0) → Ex l G (d + 1) mX12_cover 60 [some (vR (some (3, 0))), some (vI x1)] [] M r M') ∧ ((M.1 3 0 31) = 0 → ∃ (M_1 : Mem), Cl l G d mX12_closes [vR (some (3, 0))] M none M_1 ∧ (∃ (r_5 : Int) (M_3 : Mem), Cl l G d mX12_follows [vR (some (3, 0))] M_1 (some (vI r_5)) M_3 ∧ Ex l G (d + 1) mX12_cover 60 [some (vR (some (3, 0))), some (vI r_5)] [] M_3 r M'))) : Ex l G (d + 1) mX12_cover 92 [some (vR (some (3, 0))), some (vI x1)] [] M r M' := by
  refine r_aload_n 93 dX12_cover_92 rfl rfl ?_
  refine g_I 96 dX12_cover_93 rfl rfl rfl fi_12_215 rfl ?_
  refine r_if_ne 99 60 dX12_cover_96 rfl rfl (fun c => ?_) (fun c => ?_)
  · have h := h.1 (c)
    exact h
  · have h := h.2 (Decidable.not_not.mp c)
    refine r_aload_n 100 dX12_cover_99 rfl rfl ?_
    obtain ⟨M_1, hc_2, h⟩ := h
    refine v_0 (ci := 12) (C := (RX12, TX12, 68)) [] [] 103 dX12_cover_100 rfl rfl rfl rfl rfl mo_X12_closes ml_12_298 rfl rfl hc_2 ?_
    refine r_aload_n 104 dX12_cover_103 rfl rfl ?_
    obtain ⟨r_5, M_3, hc_4, h⟩ := h
    refine v_1 (ci := 12) (C := (RX12, TX12, 68)) [] [] 107 dX12_cover_104 rfl rfl rfl rfl rfl mo_X12_follows ml_12_319 rfl rfl hc_4 ?_
    refine r_istore_n (ls' := [some (vR (some (3, 0))), some (vI r_5)]) 108 dX12_cover_107 rfl rfl rfl rfl ?_
    refine r_goto 60 dX12_cover_108 rfl ?_
    exact h
set_option maxRecDepth 4000 in
theorem xX12_cover_111 {l : Launch} {G : Gt} {d : Nat} {M M' : Mem} {r : Option Vl} {x1 : Int} (h : 
    ∃ (M_1 : Mem), Cl l G d mX12_gives [vR (some (3, 0)), vI 6] M none M_1 ∧ ((¬ ((M_1.1 3 0 31) = 0) → Ex l G (d + 1) mX12_cover 140 [some (vR (some (3, 0))), some (vI x1)] [] M_1 r M') ∧ ((M_1.1 3 0 31) = 0 → ((M_1.1 3 0 38) ≤ 0 → Ex l G (d + 1) mX12_cover 140 [some (vR (some (3, 0))), some (vI x1)] [] M_1 r M') ∧ (¬ ((M_1.1 3 0 38) ≤ 0) → ∃ (M_3 : Mem), Cl l G d mX12_fails [vR (some (3, 0)), vI 0, vI (M_1.1 3 0 29)] M_1 none M_3 ∧ Ex l G (d + 1) mX12_cover 140 [some (vR (some (3, 0))), some (vI x1)] [] M_3 r M')))) : Ex l G (d + 1) mX12_cover 111 [some (vR (some (3, 0))), some (vI x1)] [] M r M' := by
  refine r_aload_n 112 dX12_cover_111 rfl rfl ?_
  refine r_bipush 114 dX12_cover_112 rfl rfl ?_
  obtain ⟨M_1, hc_2, h⟩ := h
  refine v_0 (ci := 12) (C := (RX12, TX12, 68)) [vI 6] [] 117 dX12_cover_114 rfl rfl rfl rfl rfl mo_X12_gives ml_12_295 rfl rfl hc_2 ?_
  refine r_aload_n 118 dX12_cover_117 rfl rfl ?_
  refine g_I 121 dX12_cover_118 rfl rfl rfl fi_12_215 rfl ?_
  refine r_if_ne 124 140 dX12_cover_121 rfl rfl (fun c => ?_) (fun c => ?_)
  · have h := h.1 (c)
    exact h
  · have h := h.2 (Decidable.not_not.mp c)
    refine r_aload_n 125 dX12_cover_124 rfl rfl ?_
    refine g_I 128 dX12_cover_125 rfl rfl rfl fi_12_247 rfl ?_
    refine r_if_le 131 140 dX12_cover_128 rfl rfl (fun c => ?_) (fun c => ?_)
    · have h := h.1 (c)
      exact h
    · have h := h.2 (c)
      refine r_aload_n 132 dX12_cover_131 rfl rfl ?_
      refine r_iconst 133 dX12_cover_132 rfl (InR_of rfl) ?_
      refine r_aload_n 134 dX12_cover_133 rfl rfl ?_
      refine g_I 137 dX12_cover_134 rfl rfl rfl fi_12_209 rfl ?_
      obtain ⟨M_3, hc_4, h⟩ := h
      refine v_0 (ci := 12) (C := (RX12, TX12, 68)) [vI 0, vI (M_1.1 3 0 29)] [] 140 dX12_cover_137 rfl rfl rfl rfl rfl mo_X12_fails ml_12_253 rfl rfl hc_4 ?_
      exact h
set_option maxRecDepth 4000 in
theorem xX12_cover_140 {l : Launch} {G : Gt} {d : Nat} {M M' : Mem} {r : Option Vl} {x1 : Int} (hS : Sh M.2.1) (h : 
    ((0 ≤ (M.1 3 0 32) ∧ (M.1 3 0 32) < 8)) ∧ ((InR ((M.1 3 0 33) + (if (M.1 3 0 31) = 0 then 1 else 0 : Int))) ∧ ((((M.1 3 0 31) ≤ 0 → (InR (((M.1 3 0 33) + (if (M.1 3 0 31) = 0 then 1 else 0 : Int)) - 1))) ∧ (¬ ((M.1 3 0 31) ≤ 0) → (InR ((-2) - (M.1 3 0 31))))) ∧ r = some (vI (if (M.1 3 0 31) ≤ 0 then (((M.1 3 0 33) + (if (M.1 3 0 31) = 0 then 1 else 0 : Int)) - 1) else ((-2) - (M.1 3 0 31)) : Int)) ∧ M' = ((upI (upI (upI M.1 3 0 29 0) 79 0 (M.1 3 0 32).toNat (M.1 3 0 34)) 3 0 33 ((M.1 3 0 33) + (if (M.1 3 0 31) = 0 then 1 else 0 : Int))), M.2.1, M.2.2)))) : Ex l G (d + 1) mX12_cover 140 [some (vR (some (3, 0))), some (vI x1)] [] M r M' := by
  obtain ⟨o_1, h⟩ := h
  refine r_aload_n 141 dX12_cover_140 rfl rfl ?_
  refine r_iconst 142 dX12_cover_141 rfl (InR_of rfl) ?_
  refine p_I 145 dX12_cover_142 rfl rfl rfl rfl pf_12_209 (.inl rfl) rfl ?_
  refine r_aload_n 146 dX12_cover_145 rfl rfl ?_
  refine g_R 149 dX12_cover_146 rfl rfl rfl fr_12_104 (mR_0 (sh_12_42 hS)) ?_
  refine r_aload_n 150 dX12_cover_149 rfl rfl ?_
  refine g_I 153 dX12_cover_150 rfl rfl rfl fi_12_241 (mI_0 (upI_i (by decide))) ?_
  refine r_aload_n 154 dX12_cover_153 rfl rfl ?_
  refine g_I 157 dX12_cover_154 rfl rfl rfl fi_12_244 (mI_0 (upI_i (by decide))) ?_
  refine s_I 8 158 dX12_cover_157 rfl rfl (by decide) rfl rfl o_1 ?_
  refine r_aload_n 159 dX12_cover_158 rfl rfl ?_
  refine r_dup 160 dX12_cover_159 rfl rfl ?_
  refine g_I 163 dX12_cover_160 rfl rfl rfl fi_12_309 (mI_0 ((upI_f rfl).trans (upI_i (by decide)))) ?_
  refine r_aload_n 164 dX12_cover_163 rfl rfl ?_
  refine g_I 167 dX12_cover_164 rfl rfl rfl fi_12_215 (mI_0 ((upI_f rfl).trans (upI_i (by decide)))) ?_
  have hJ_2 : Ex l G (d + 1) mX12_cover 175 [some (vR (some (3, 0))), some (vI x1)] [vI (if (M.1 3 0 31) = 0 then 1 else 0 : Int), vI (M.1 3 0 33), vR (some (3, 0))] ((upI (upI M.1 3 0 29 0) 79 0 (M.1 3 0 32).toNat (M.1 3 0 34)), M.2.1, M.2.2) r M' := by
    obtain ⟨o_4, h⟩ := h
    refine r_iadd 176 dX12_cover_175 rfl o_4 ?_
    refine p_I 179 dX12_cover_176 rfl rfl rfl rfl pf_12_309 (.inl rfl) rfl ?_
    refine r_aload_n 180 dX12_cover_179 rfl rfl ?_
    refine g_I 183 dX12_cover_180 rfl rfl rfl fi_12_215 (mI_0 ((upI_i (by decide)).trans ((upI_f rfl).trans (upI_i (by decide))))) ?_
    obtain ⟨h0, h⟩ := h
    have hJ_5 : Ex l G (d + 1) mX12_cover 202 [some (vR (some (3, 0))), some (vI x1)] [vI (if (M.1 3 0 31) ≤ 0 then (((M.1 3 0 33) + (if (M.1 3 0 31) = 0 then 1 else 0 : Int)) - 1) else ((-2) - (M.1 3 0 31)) : Int)] ((upI (upI (upI M.1 3 0 29 0) 79 0 (M.1 3 0 32).toNat (M.1 3 0 34)) 3 0 33 ((M.1 3 0 33) + (if (M.1 3 0 31) = 0 then 1 else 0 : Int))), M.2.1, M.2.2) r M' := by
      exact r_iret dX12_cover_202 rfl (.inl rfl) h.1 h.2
    have h := h0
    refine r_if_le 186 196 dX12_cover_183 rfl rfl (fun c => ?_) (fun c => ?_)
    · have c_6 := c
      have h := h.1 c_6
      have o_7 := h
      refine r_aload_n 197 dX12_cover_196 rfl rfl ?_
      refine g_I 200 dX12_cover_197 rfl rfl rfl fi_12_309 (mI_0 (upI_s)) ?_
      refine r_iconst 201 dX12_cover_200 rfl (InR_of rfl) ?_
      refine r_isub 202 dX12_cover_201 rfl o_7 ?_
      exact (Ex.at hJ_5 rfl (show [vI (((M.1 3 0 33) + (if (M.1 3 0 31) = 0 then 1 else 0 : Int)) - 1)] = [vI (if (M.1 3 0 31) ≤ 0 then (((M.1 3 0 33) + (if (M.1 3 0 31) = 0 then 1 else 0 : Int)) - 1) else ((-2) - (M.1 3 0 31)) : Int)] by simp only [if_pos c_6]) rfl)
    · have c_6 := c
      have h := h.2 c_6
      have o_8 := h
      refine r_bipush 188 dX12_cover_186 rfl rfl ?_
      refine r_aload_n 189 dX12_cover_188 rfl rfl ?_
      refine g_I 192 dX12_cover_189 rfl rfl rfl fi_12_215 (mI_0 ((upI_i (by decide)).trans ((upI_f rfl).trans (upI_i (by decide))))) ?_
      refine r_isub 193 dX12_cover_192 rfl o_8 ?_
      refine r_goto 202 dX12_cover_193 rfl ?_
      exact (Ex.at hJ_5 rfl (show [vI ((-2) - (M.1 3 0 31))] = [vI (if (M.1 3 0 31) ≤ 0 then (((M.1 3 0 33) + (if (M.1 3 0 31) = 0 then 1 else 0 : Int)) - 1) else ((-2) - (M.1 3 0 31)) : Int)] by simp only [if_neg c_6]) rfl)
  refine r_if_ne 170 174 dX12_cover_167 rfl rfl (fun c => ?_) (fun c => ?_)
  · have c_3 := c
    refine r_iconst 175 dX12_cover_174 rfl (InR_of rfl) ?_
    exact (Ex.at hJ_2 rfl (show [vI 0, vI (M.1 3 0 33), vR (some (3, 0))] = [vI (if (M.1 3 0 31) = 0 then 1 else 0 : Int), vI (M.1 3 0 33), vR (some (3, 0))] by simp only [if_neg c_3]) rfl)
  · have c_3 := Decidable.not_not.mp c
    refine r_iconst 171 dX12_cover_170 rfl (InR_of rfl) ?_
    refine r_goto 175 dX12_cover_171 rfl ?_
    exact (Ex.at hJ_2 rfl (show [vI 1, vI (M.1 3 0 33), vR (some (3, 0))] = [vI (if (M.1 3 0 31) = 0 then 1 else 0 : Int), vI (M.1 3 0 33), vR (some (3, 0))] by simp only [if_pos c_3]) rfl)

/-- a fact's step goes on -/
def ltE (p : Nat) (c : Cf) : Prop := cE c = 0 → p < cP c
theorem ltE_A {p : Nat} (hp : p ≤ n) : ltE p (stA t n c p) := by
  have f0 : ∀ q k, ltE p (flC c q k) := fun q k h => by have h' : 1 + 8 * (q : Int) + k = 0 := h; omega
  unfold stA stA1 stA2 stA3 stA4
  repeat' split
  all_goals first | exact f0 _ _ | exact fun _ => Nat.lt_succ_self p | exact fun _ => (by show p < p + 3; omega) | exact fun _ => (by show p < p + 2; omega) | skip
  rename_i g0 g1 g2 g3 g4 g5 g6 g7 g8
  intro _
  have h2 := isW_n hp g5
  have e3 : sLn 0 = 2 := rfl
  obtain ⟨d1, d2⟩ := rn_ge (fun i => decide (t i = 32)) n (p + 2) (by omega)
  have d1 : p + 2 ≤ bl t n (p + 2) := d1
  obtain ⟨f1, f2⟩ := rn_ge (fun i => decide (48 ≤ t i ∧ t i ≤ 57)) n (bl t n (p + 2)) d2
  have f1 : bl t n (p + 2) ≤ dg t n (bl t n (p + 2)) := f1
  show p < dg t n (bl t n (p + 2))
  omega
/-- how the loop ends -/
def EnR (sl : Nat) (t : Tp) (n : Nat) (c : Cf) (I : IM) : Prop := (cM c = 2 ∧ cE c = 0 ∧ bl t n (cP c) = n ∧ Hc sl t n n c I) ∨ (cM c = 3 ∧ ¬ cE c = 0 ∧ Fl sl t n (cE c) I)
theorem cov_71 : ∀ (k : Nat) {M : Mem} {c : Cf} {q : Nat} {x1 : Int}, n - cP c = k → Sh M.2.1 → cCnt M.2.2 1 = 28 → Hc sl t n q c M.1 → q ≤ n → bl t n q = bl t n (cP c) → InvD n c → cM c = 0 → cE c = 0 → ∃ (I' : IM) (y : Int) (c' : Cf), (∀ {r M'}, Ex l G (d + 6) mX12_cover 111 [some (vR (some (3, 0))), some (vI y)] [] (I', M.2.1, M.2.2) r M' → Ex l G (d + 6) mX12_cover 71 [some (vR (some (3, 0))), some (vI x1)] [] M r M') ∧ frV sl M.1 I' ∧ Rn t n c c' ∧ EnR sl t n c' I' := by
  intro k
  induction k using Nat.strongRecOn with
  | ind k ih =>
    intro M c q x1 hk hS hStr h hq hb hi hm he
    obtain ⟨I1, b, k1, k2, k3⟩ := KX12_fact (l := l) (G := G) (d := d) hS hStr h hq hb hi.1 hm he
    have h31 : M.1 3 0 31 = 0 := h.2.2.2.1
    have i1 := (hi.1 he).1
    obtain ⟨b1, b2⟩ := rn_ge (fun i => decide (t i = 32)) n (cP c) i1
    have b1 : cP c ≤ bl t n (cP c) := b1
    have b2 : bl t n (cP c) ≤ n := b2
    have hlt := ltE_A (t := t) (n := n) (c := c) b2
    rw [← step_0 hm] at hlt
    have run1 : Rn t n c (step t n c) := Rn.one rfl
    have hi1 := InvD_step (t := t) hi
    generalize step t n c = c1 at k3 hlt run1 hi1
    rcases k3 with ⟨e1, hmb, hc1⟩ | ⟨e1, hm1, q1, o1, dp1, ti1, cn1, s1, g1, g2, g3⟩
    · have hp1 : bl t n (cP c) < cP c1 := hlt e1
      have j1 := (hi1.1 e1).1
      rcases hmb with ⟨m1, rfl⟩ | ⟨m1, rfl⟩
      · have hl := (hi1.1 e1).2.1
        have hn := h.1.2.1
        obtain ⟨I2, v1, v2, v3⟩ := KX12_closes (l := l) (G := G) (d := d + 4) (M := (I1, M.2.1, M.2.2)) hS hc1 (by omega)
        have ec : c1 = (1, cP c1, 0, cO c1, cC c1, cS c1) := by
          rcases c1 with ⟨a, b, e, o, k, s⟩
          have m1' : a = 1 := m1
          have e1' : e = 0 := e1
          rw [m1', e1']
        have run2 : Rn t n c1 (2, cP c1, 0, cO c1 ++ clO (cS c1), cC c1, clS (cS c1)) := by
          have := cl_run (t := t) (n := n) (p := cP c1) (e := 0) (c := cC c1) (s := cS c1) (o := cO c1)
          rw [← ec] at this
          exact this
        obtain ⟨I3, b', c', w1, w2, w3, w4⟩ := KX12_follows (l := l) (G := G) (d := d) (M := (I2, M.2.1, M.2.2)) (c := (2, cP c1, 0, cO c1 ++ clO (cS c1), cC c1, clS (cS c1))) hS hStr v2 (InvD_run run2 hi1) rfl rfl
        have hI1 : I1 3 0 31 = 0 := hc1.2.2.2.1
        have to60 : ∀ {r M'}, Ex l G (d + 6) mX12_cover 60 [some (vR (some (3, 0))), some (vI b')] [] (I3, M.2.1, M.2.2) r M' → Ex l G (d + 6) mX12_cover 71 [some (vR (some (3, 0))), some (vI x1)] [] M r M' := fun x => xX12_cover_71 ⟨fun c => absurd h31 c, fun _ => ⟨1, _, k1, fun _ => xX12_cover_92 ⟨fun c => absurd hI1 c, fun _ => ⟨_, v1, _, _, w1, x⟩⟩, fun c => by omega⟩⟩
        have fr3 := (k2.tr v3).tr w2
        have run3 := run1.tr (run2.tr w3)
        rcases w4 with ⟨rfl, m2, e2, hc2, hlt2⟩ | ⟨rfl, m2, e2, eb, hc2⟩ | ⟨rfl, m2, e2, fl⟩
        · have hlt2 : cP c1 < cP c' := hlt2
          have hi2 := InvD_run run3 hi
          have hI3 : I3 3 0 31 = 0 := hc2.2.2.2.1
          obtain ⟨I4, y, c4, z1, z2, z3, z4⟩ := ih (n - cP c') (by have := (hi2.1 e2).1; omega) (M := (I3, M.2.1, M.2.2)) (c := c') (q := cP c') (x1 := 1) rfl hS hStr hc2 (hi2.1 e2).1 rfl hi2 m2 e2
          exact ⟨I4, y, c4, fun x => to60 (xX12_cover_60 ⟨fun c => by omega, fun _ => ⟨fun c => absurd hI3 c, fun _ => z1 x⟩⟩), fr3.tr z2, run3.tr z3, z4⟩
        · exact ⟨I3, 0, c', fun x => to60 (xX12_cover_60 ⟨fun _ => x, fun c => absurd rfl c⟩), fr3, run3, .inl ⟨m2, e2, eb, hc2⟩⟩
        · exact ⟨I3, 0, c', fun x => to60 (xX12_cover_60 ⟨fun _ => x, fun c => absurd rfl c⟩), fr3, run3, .inr ⟨m2, e2, fl⟩⟩
      · obtain ⟨w1, w2, w3⟩ := Rg_bl (l := l) (G := G) (d := d + 5) (M := (I1, M.2.1, M.2.2)) hS hc1 j1
        obtain ⟨c1', c2'⟩ := rn_ge (fun i => decide (t i = 32)) n (cP c1) j1
        obtain ⟨I4, y, c4, z1, z2, z3, z4⟩ := ih (n - cP c1) (by omega) (M := (upI I1 3 0 30 ((bl t n (cP c1) : Nat) : Int), M.2.1, M.2.2)) (c := c1) (q := bl t n (cP c1)) (x1 := x1) rfl hS hStr w2 c2' (rn_rn _ _ _ j1) hi1 m1 e1
        exact ⟨I4, y, c4, fun x => xX12_cover_71 ⟨fun c => absurd h31 c, fun _ => ⟨0, _, k1, fun c => absurd rfl c, fun _ => ⟨_, w1, z1 x⟩⟩⟩, (k2.tr w3).tr z2, run1.tr z3, z4⟩
    · have to111 : ∀ {I' : IM} {r M'}, ¬ I' 3 0 31 = 0 → Ex l G (d + 6) mX12_cover 111 [some (vR (some (3, 0))), some (vI x1)] [] (I', M.2.1, M.2.2) r M' → Ex l G (d + 6) mX12_cover 92 [some (vR (some (3, 0))), some (vI x1)] [] (I', M.2.1, M.2.2) r M' := fun hn x => xX12_cover_92 ⟨fun _ => xX12_cover_60 ⟨fun _ => x, fun _ => ⟨fun _ => x, fun c => absurd c hn⟩⟩, fun c => absurd c hn⟩
      by_cases hb0 : b = 0
      · obtain ⟨w1, w2, w3⟩ := Rg_bl (l := l) (G := G) (d := d + 5) (M := (I1, M.2.1, M.2.2)) hS g1 (g3 hb0)
        have hI : ¬ (upI I1 3 0 30 ((bl t n q1 : Nat) : Int)) 3 0 31 = 0 := by rw [w2.2.2.2.1]; exact e1
        exact ⟨_, x1, c1, fun x => xX12_cover_71 ⟨fun c => absurd h31 c, fun _ => ⟨b, _, k1, fun c => absurd hb0 c, fun _ => ⟨_, w1, xX12_cover_71 ⟨fun _ => to111 hI x, fun c => absurd c hI⟩⟩⟩⟩, k2.tr w3, run1, .inr ⟨hm1, e1, _, _, _, _, _, _, w2, g2⟩⟩
      · have hI : ¬ I1 3 0 31 = 0 := by rw [g1.2.2.2.1]; exact e1
        exact ⟨I1, x1, c1, fun x => xX12_cover_71 ⟨fun c => absurd h31 c, fun _ => ⟨b, _, k1, fun _ => to111 hI x, fun c => absurd c hb0⟩⟩, k2, run1, .inr ⟨hm1, e1, _, _, _, _, _, _, g1, g2⟩⟩
end RW8
