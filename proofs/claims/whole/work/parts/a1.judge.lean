/-! sure: the class, judging from the last day to the first -/
set_option maxRecDepth 4000 in
theorem xX9_judgeAt_0 {l : Launch} {G : Gt} {d : Nat} {M M' : Mem} {r : Option Vl} {x1 : Int} {x2 : Int} {x3 : Int} {k4 : Nat} (hS : Sh M.2.1) (h : 
    (InR (x1 * 8) ∧ InR ((x1 * 8) + x2) ∧ (0 ≤ ((x1 * 8) + x2) ∧ ((x1 * 8) + x2) < 488)) ∧ (((¬ ((aOr (M.1 41 0 ((x1 * 8) + x2).toNat) (M.1 42 0 ((x1 * 8) + x2).toNat)) = 0) → ((0 ≤ ((x1 * 8) + x2) ∧ ((x1 * 8) + x2) < 488) ∧ (0 ≤ x3 ∧ x3 < 32)))) ∧ ((0 ≤ ((x1 * 8) + x2) ∧ ((x1 * 8) + x2) < 488) ∧ (0 ≤ (M.1 41 0 ((x1 * 8) + x2).toNat) ∧ 0 ≤ x3 ∧ x3 < 32)) ∧ Ex l G (d + 1) mX9_judgeAt 75 [some (vR (some (10, 0))), some (vI x1), some (vI x2), some (vI x3), some (vR (some (34, k4))), some (vI ((x1 * 8) + x2)), some (vI (if (aOr (M.1 41 0 ((x1 * 8) + x2).toNat) (M.1 42 0 ((x1 * 8) + x2).toNat)) = 0 then 0 else (if (aAnd (M.1 41 0 ((x1 * 8) + x2).toNat) (aXor (aShl 1 x3) (-1))) = 0 then 1 else 0 : Int) : Int)), some (vI (if tb (M.1 41 0 ((x1 * 8) + x2).toNat) x3 = true then x1 else 1000 : Int)), some (vI 0), none] [] M r M')) : Cl l G (d + 1) mX9_judgeAt [vR (some (10, 0)), vI x1, vI x2, vI x3, vR (some (34, k4))] M r M' := by
  show Ex l G (d + 1) mX9_judgeAt 0 [some (vR (some (10, 0))), some (vI x1), some (vI x2), some (vI x3), some (vR (some (34, k4))), none, none, none, none, none] [] M r M'
  obtain ⟨⟨o_1, o_2, o_3⟩, h⟩ := h
  refine r_iload_n 1 dX9_judgeAt_0 rfl rfl ?_
  refine r_bipush 3 dX9_judgeAt_1 rfl rfl ?_
  refine r_imul 4 dX9_judgeAt_3 rfl o_1 ?_
  refine r_iload_n 5 dX9_judgeAt_4 rfl rfl ?_
  refine r_iadd 6 dX9_judgeAt_5 rfl o_2 ?_
  refine r_istore (ls' := [some (vR (some (10, 0))), some (vI x1), some (vI x2), some (vI x3), some (vR (some (34, k4))), some (vI ((x1 * 8) + x2)), none, none, none, none]) 8 dX9_judgeAt_6 rfl rfl rfl rfl ?_
  refine r_aload_n 9 dX9_judgeAt_8 rfl rfl ?_
  refine g_R 12 dX9_judgeAt_9 rfl rfl rfl fr_9_15 (sh_9_1 hS) ?_
  refine r_iload 14 dX9_judgeAt_12 rfl rfl ?_
  refine a_I 488 15 dX9_judgeAt_14 rfl rfl rfl rfl o_3 rfl ?_
  refine r_aload_n 16 dX9_judgeAt_15 rfl rfl ?_
  refine g_R 19 dX9_judgeAt_16 rfl rfl rfl fr_9_18 (sh_9_2 hS) ?_
  refine r_iload 21 dX9_judgeAt_19 rfl rfl ?_
  refine a_I 488 22 dX9_judgeAt_21 rfl rfl rfl rfl o_3 rfl ?_
  refine r_ior 23 dX9_judgeAt_22 rfl ?_
  obtain ⟨h0, h⟩ := h
  have hJ_4 : Ex l G (d + 1) mX9_judgeAt 47 [some (vR (some (10, 0))), some (vI x1), some (vI x2), some (vI x3), some (vR (some (34, k4))), some (vI ((x1 * 8) + x2)), none, none, none, none] [vI (if (aOr (M.1 41 0 ((x1 * 8) + x2).toNat) (M.1 42 0 ((x1 * 8) + x2).toNat)) = 0 then 0 else (if (aAnd (M.1 41 0 ((x1 * 8) + x2).toNat) (aXor (aShl 1 x3) (-1))) = 0 then 1 else 0 : Int) : Int)] M r M' := by
    obtain ⟨⟨o_9, o_10⟩, h⟩ := h
    refine r_istore (ls' := [some (vR (some (10, 0))), some (vI x1), some (vI x2), some (vI x3), some (vR (some (34, k4))), some (vI ((x1 * 8) + x2)), some (vI (if (aOr (M.1 41 0 ((x1 * 8) + x2).toNat) (M.1 42 0 ((x1 * 8) + x2).toNat)) = 0 then 0 else (if (aAnd (M.1 41 0 ((x1 * 8) + x2).toNat) (aXor (aShl 1 x3) (-1))) = 0 then 1 else 0 : Int) : Int)), none, none, none]) 49 dX9_judgeAt_47 rfl rfl rfl rfl ?_
    refine r_aload_n 50 dX9_judgeAt_49 rfl rfl ?_
    refine g_R 53 dX9_judgeAt_50 rfl rfl rfl fr_9_15 (sh_9_1 hS) ?_
    refine r_iload 55 dX9_judgeAt_53 rfl rfl ?_
    refine a_I 488 56 dX9_judgeAt_55 rfl rfl rfl rfl o_9 rfl ?_
    refine r_iload_n 57 dX9_judgeAt_56 rfl rfl ?_
    refine n_1 [vI (M.1 41 0 ((x1 * 8) + x2).toNat), vI x3] [] 60 dX9_judgeAt_57 rfl rfl mo_X11_hasBit ml_9_52 rfl rfl (KX11_hasBit o_10) ?_
    have hJ_11 : Ex l G (d + 1) mX9_judgeAt 70 [some (vR (some (10, 0))), some (vI x1), some (vI x2), some (vI x3), some (vR (some (34, k4))), some (vI ((x1 * 8) + x2)), some (vI (if (aOr (M.1 41 0 ((x1 * 8) + x2).toNat) (M.1 42 0 ((x1 * 8) + x2).toNat)) = 0 then 0 else (if (aAnd (M.1 41 0 ((x1 * 8) + x2).toNat) (aXor (aShl 1 x3) (-1))) = 0 then 1 else 0 : Int) : Int)), none, none, none] [vI (if tb (M.1 41 0 ((x1 * 8) + x2).toNat) x3 = true then x1 else 1000 : Int)] M r M' := by
      refine r_istore (ls' := [some (vR (some (10, 0))), some (vI x1), some (vI x2), some (vI x3), some (vR (some (34, k4))), some (vI ((x1 * 8) + x2)), some (vI (if (aOr (M.1 41 0 ((x1 * 8) + x2).toNat) (M.1 42 0 ((x1 * 8) + x2).toNat)) = 0 then 0 else (if (aAnd (M.1 41 0 ((x1 * 8) + x2).toNat) (aXor (aShl 1 x3) (-1))) = 0 then 1 else 0 : Int) : Int)), some (vI (if tb (M.1 41 0 ((x1 * 8) + x2).toNat) x3 = true then x1 else 1000 : Int)), none, none]) 72 dX9_judgeAt_70 rfl rfl rfl rfl ?_
      refine r_iconst 73 dX9_judgeAt_72 rfl (InR_of rfl) ?_
      refine r_istore (ls' := [some (vR (some (10, 0))), some (vI x1), some (vI x2), some (vI x3), some (vR (some (34, k4))), some (vI ((x1 * 8) + x2)), some (vI (if (aOr (M.1 41 0 ((x1 * 8) + x2).toNat) (M.1 42 0 ((x1 * 8) + x2).toNat)) = 0 then 0 else (if (aAnd (M.1 41 0 ((x1 * 8) + x2).toNat) (aXor (aShl 1 x3) (-1))) = 0 then 1 else 0 : Int) : Int)), some (vI (if tb (M.1 41 0 ((x1 * 8) + x2).toNat) x3 = true then x1 else 1000 : Int)), some (vI 0), none]) 75 dX9_judgeAt_73 rfl rfl rfl rfl ?_
      exact h
    refine r_if_eq 63 67 dX9_judgeAt_60 rfl rfl (fun c => ?_) (fun c => ?_)
    · have c_12 := b2_0.mp c
      refine r_sipush 70 dX9_judgeAt_67 rfl rfl ?_
      exact (Ex.at hJ_11 rfl (show [vI 1000] = [vI (if tb (M.1 41 0 ((x1 * 8) + x2).toNat) x3 = true then x1 else 1000 : Int)] by first | (simp only [if_neg c_12]; done) | contradiction) rfl)
    · have c_12 := b2_1.mp c
      refine r_iload_n 64 dX9_judgeAt_63 rfl rfl ?_
      refine r_goto 70 dX9_judgeAt_64 rfl ?_
      exact (Ex.at hJ_11 rfl (show [vI x1] = [vI (if tb (M.1 41 0 ((x1 * 8) + x2).toNat) x3 = true then x1 else 1000 : Int)] by first | (simp only [if_pos c_12]; done) | contradiction) rfl)
  have h := h0
  refine r_if_eq 26 46 dX9_judgeAt_23 rfl rfl (fun c => ?_) (fun c => ?_)
  · have c_5 := c
    refine r_iconst 47 dX9_judgeAt_46 rfl (InR_of rfl) ?_
    exact (Ex.at hJ_4 rfl (show [vI 0] = [vI (if (aOr (M.1 41 0 ((x1 * 8) + x2).toNat) (M.1 42 0 ((x1 * 8) + x2).toNat)) = 0 then 0 else (if (aAnd (M.1 41 0 ((x1 * 8) + x2).toNat) (aXor (aShl 1 x3) (-1))) = 0 then 1 else 0 : Int) : Int)] by first | (simp only [if_pos c_5]; done) | contradiction) rfl)
  · have c_5 := c
    have h := h c_5
    obtain ⟨o_6, o_7⟩ := h
    refine r_aload_n 27 dX9_judgeAt_26 rfl rfl ?_
    refine g_R 30 dX9_judgeAt_27 rfl rfl rfl fr_9_15 (sh_9_1 hS) ?_
    refine r_iload 32 dX9_judgeAt_30 rfl rfl ?_
    refine a_I 488 33 dX9_judgeAt_32 rfl rfl rfl rfl o_6 rfl ?_
    refine r_iconst 34 dX9_judgeAt_33 rfl (InR_of rfl) ?_
    refine r_iload_n 35 dX9_judgeAt_34 rfl rfl ?_
    refine r_ishl 36 dX9_judgeAt_35 rfl o_7 ?_
    refine r_iconst 37 dX9_judgeAt_36 rfl (InR_of rfl) ?_
    refine r_ixor 38 dX9_judgeAt_37 rfl ?_
    refine r_iand 39 dX9_judgeAt_38 rfl ?_
    refine r_if_ne 42 46 dX9_judgeAt_39 rfl rfl (fun c => ?_) (fun c => ?_)
    · have c_8 := c
      refine r_iconst 47 dX9_judgeAt_46 rfl (InR_of rfl) ?_
      exact (Ex.at hJ_4 rfl (show [vI 0] = [vI (if (aOr (M.1 41 0 ((x1 * 8) + x2).toNat) (M.1 42 0 ((x1 * 8) + x2).toNat)) = 0 then 0 else (if (aAnd (M.1 41 0 ((x1 * 8) + x2).toNat) (aXor (aShl 1 x3) (-1))) = 0 then 1 else 0 : Int) : Int)] by first | (simp only [if_neg c_5, if_neg c_8]; done) | contradiction) rfl)
    · have c_8 := Decidable.not_not.mp c
      refine r_iconst 43 dX9_judgeAt_42 rfl (InR_of rfl) ?_
      refine r_goto 47 dX9_judgeAt_43 rfl ?_
      exact (Ex.at hJ_4 rfl (show [vI 1] = [vI (if (aOr (M.1 41 0 ((x1 * 8) + x2).toNat) (M.1 42 0 ((x1 * 8) + x2).toNat)) = 0 then 0 else (if (aAnd (M.1 41 0 ((x1 * 8) + x2).toNat) (aXor (aShl 1 x3) (-1))) = 0 then 1 else 0 : Int) : Int)] by first | (simp only [if_neg c_5, if_pos c_8]; done) | contradiction) rfl)
set_option maxRecDepth 4000 in
theorem xX9_judgeAt_75 {l : Launch} {G : Gt} {d : Nat} {M M' : Mem} {r : Option Vl} {x1 : Int} {x2 : Int} {x3 : Int} {k4 : Nat} {x5 : Int} {x6 : Int} {x7 : Int} {x8 : Int} (hS : Sh M.2.1) (h : 
    (8 ≤ x8 → ((0 ≤ x5 ∧ x5 < 488) ∧ (0 ≤ x1 ∧ x1 < 61)) ∧ (((¬ (x6 = 0) → ((0 ≤ x2 ∧ x2 < 32)))) ∧ ((0 ≤ x1 ∧ x1 < 61)) ∧ r = none ∧ M' = ((upI (upI M.1 44 0 x5.toNat x7) 43 0 x1.toNat (aOr (M.1 43 0 x1.toNat) (if x6 = 0 then 0 else (aShl 1 x2) : Int))), M.2.1, M.2.2))) ∧ (¬ (8 ≤ x8) → ((0 ≤ x5 ∧ x5 < 488) ∧ (0 ≤ (M.1 42 0 x5.toNat) ∧ 0 ≤ x8 ∧ x8 < 32)) ∧ (((tb (M.1 42 0 x5.toNat) x8 = true → (InR (x2 * 8) ∧ InR ((x2 * 8) + x8) ∧ (0 ≤ ((x2 * 8) + x8) ∧ ((x2 * 8) + x8) < 64) ∧ InR (x1 + (M.1 34 k4 ((x2 * 8) + x8).toNat))) ∧ ((x6 = 0 → (¬ (61 ≤ (x1 + (M.1 34 k4 ((x2 * 8) + x8).toNat))) → (InR ((x1 + (M.1 34 k4 ((x2 * 8) + x8).toNat)) * 8) ∧ InR (((x1 + (M.1 34 k4 ((x2 * 8) + x8).toNat)) * 8) + x8) ∧ (0 ≤ (((x1 + (M.1 34 k4 ((x2 * 8) + x8).toNat)) * 8) + x8) ∧ (((x1 + (M.1 34 k4 ((x2 * 8) + x8).toNat)) * 8) + x8) < 488)))) ∧ (¬ (x6 = 0) → (61 ≤ (x1 + (M.1 34 k4 ((x2 * 8) + x8).toNat)) → (¬ (61 ≤ (x1 + (M.1 34 k4 ((x2 * 8) + x8).toNat))) → (InR ((x1 + (M.1 34 k4 ((x2 * 8) + x8).toNat)) * 8) ∧ InR (((x1 + (M.1 34 k4 ((x2 * 8) + x8).toNat)) * 8) + x8) ∧ (0 ≤ (((x1 + (M.1 34 k4 ((x2 * 8) + x8).toNat)) * 8) + x8) ∧ (((x1 + (M.1 34 k4 ((x2 * 8) + x8).toNat)) * 8) + x8) < 488)))) ∧ (¬ (61 ≤ (x1 + (M.1 34 k4 ((x2 * 8) + x8).toNat))) → ((0 ≤ (x1 + (M.1 34 k4 ((x2 * 8) + x8).toNat)) ∧ (x1 + (M.1 34 k4 ((x2 * 8) + x8).toNat)) < 61) ∧ (0 ≤ (M.1 43 0 (x1 + (M.1 34 k4 ((x2 * 8) + x8).toNat)).toNat) ∧ 0 ≤ x8 ∧ x8 < 32)) ∧ ((¬ (tb (M.1 43 0 (x1 + (M.1 34 k4 ((x2 * 8) + x8).toNat)).toNat) x8 = true) → (¬ (61 ≤ (x1 + (M.1 34 k4 ((x2 * 8) + x8).toNat))) → (InR ((x1 + (M.1 34 k4 ((x2 * 8) + x8).toNat)) * 8) ∧ InR (((x1 + (M.1 34 k4 ((x2 * 8) + x8).toNat)) * 8) + x8) ∧ (0 ≤ (((x1 + (M.1 34 k4 ((x2 * 8) + x8).toNat)) * 8) + x8) ∧ (((x1 + (M.1 34 k4 ((x2 * 8) + x8).toNat)) * 8) + x8) < 488)))) ∧ (tb (M.1 43 0 (x1 + (M.1 34 k4 ((x2 * 8) + x8).toNat)).toNat) x8 = true → (¬ (61 ≤ (x1 + (M.1 34 k4 ((x2 * 8) + x8).toNat))) → (InR ((x1 + (M.1 34 k4 ((x2 * 8) + x8).toNat)) * 8) ∧ InR (((x1 + (M.1 34 k4 ((x2 * 8) + x8).toNat)) * 8) + x8) ∧ (0 ≤ (((x1 + (M.1 34 k4 ((x2 * 8) + x8).toNat)) * 8) + x8) ∧ (((x1 + (M.1 34 k4 ((x2 * 8) + x8).toNat)) * 8) + x8) < 488)))))))))) ∧ (InR (x8 + 1)) ∧ Ex l G (d + 1) mX9_judgeAt 75 [some (vR (some (10, 0))), some (vI x1), some (vI x2), some (vI x3), some (vR (some (34, k4))), some (vI x5), some (vI (if tb (M.1 42 0 x5.toNat) x8 = true then (if x6 = 0 then 0 else (if 61 ≤ (x1 + (M.1 34 k4 ((x2 * 8) + x8).toNat)) then 0 else (if tb (M.1 43 0 (x1 + (M.1 34 k4 ((x2 * 8) + x8).toNat)).toNat) x8 = true then 1 else 0 : Int) : Int) : Int) else x6 : Int)), some (vI (if tb (M.1 42 0 x5.toNat) x8 = true then (if 61 ≤ (x1 + (M.1 34 k4 ((x2 * 8) + x8).toNat)) then x7 else (if (M.1 44 0 (((x1 + (M.1 34 k4 ((x2 * 8) + x8).toNat)) * 8) + x8).toNat) < x7 then (M.1 44 0 (((x1 + (M.1 34 k4 ((x2 * 8) + x8).toNat)) * 8) + x8).toNat) else x7 : Int) : Int) else x7 : Int)), some (vI (x8 + 1)), none] [] M r M'))) : Ex l G (d + 1) mX9_judgeAt 75 [some (vR (some (10, 0))), some (vI x1), some (vI x2), some (vI x3), some (vR (some (34, k4))), some (vI x5), some (vI x6), some (vI x7), some (vI x8), none] [] M r M' := by
  refine r_iload 77 dX9_judgeAt_75 rfl rfl ?_
  refine r_bipush 79 dX9_judgeAt_77 rfl rfl ?_
  refine r_icmp_ge 82 183 dX9_judgeAt_79 rfl rfl (fun c => ?_) (fun c => ?_)
  · have h := h.1 (c)
    obtain ⟨⟨o_1, o_2⟩, h⟩ := h
    refine r_aload_n 184 dX9_judgeAt_183 rfl rfl ?_
    refine g_R 187 dX9_judgeAt_184 rfl rfl rfl fr_9_24 (sh_9_4 hS) ?_
    refine r_iload 189 dX9_judgeAt_187 rfl rfl ?_
    refine r_iload 191 dX9_judgeAt_189 rfl rfl ?_
    refine s_I 488 192 dX9_judgeAt_191 rfl rfl (by decide) rfl rfl o_1 ?_
    refine r_aload_n 193 dX9_judgeAt_192 rfl rfl ?_
    refine g_R 196 dX9_judgeAt_193 rfl rfl rfl fr_9_21 (mR_0 (sh_9_3 hS)) ?_
    refine r_iload_n 197 dX9_judgeAt_196 rfl rfl ?_
    refine r_dup2 198 dX9_judgeAt_197 rfl rfl ?_
    refine a_I 61 199 dX9_judgeAt_198 rfl rfl rfl rfl o_2 (mI_0 (upI_f rfl)) ?_
    refine r_iload 201 dX9_judgeAt_199 rfl rfl ?_
    obtain ⟨h0, h⟩ := h
    have hJ_3 : Ex l G (d + 1) mX9_judgeAt 211 [some (vR (some (10, 0))), some (vI x1), some (vI x2), some (vI x3), some (vR (some (34, k4))), some (vI x5), some (vI x6), some (vI x7), some (vI x8), none] [vI (if x6 = 0 then 0 else (aShl 1 x2) : Int), vI (M.1 43 0 x1.toNat), vI x1, vR (some (43, 0))] ((upI M.1 44 0 x5.toNat x7), M.2.1, M.2.2) r M' := by
      obtain ⟨o_6, h⟩ := h
      refine r_ior 212 dX9_judgeAt_211 rfl ?_
      refine s_I 61 213 dX9_judgeAt_212 rfl rfl (by decide) rfl rfl o_6 ?_
      exact r_vret dX9_judgeAt_213 rfl h.1 h.2
    have h := h0
    refine r_if_eq 204 210 dX9_judgeAt_201 rfl rfl (fun c => ?_) (fun c => ?_)
    · have c_4 := c
      refine r_iconst 211 dX9_judgeAt_210 rfl (InR_of rfl) ?_
      exact (Ex.at hJ_3 rfl (show [vI 0, vI (M.1 43 0 x1.toNat), vI x1, vR (some (43, 0))] = [vI (if x6 = 0 then 0 else (aShl 1 x2) : Int), vI (M.1 43 0 x1.toNat), vI x1, vR (some (43, 0))] by first | (simp only [if_pos c_4]; done) | contradiction) rfl)
    · have c_4 := c
      have h := h c_4
      have o_5 := h
      refine r_iconst 205 dX9_judgeAt_204 rfl (InR_of rfl) ?_
      refine r_iload_n 206 dX9_judgeAt_205 rfl rfl ?_
      refine r_ishl 207 dX9_judgeAt_206 rfl o_5 ?_
      refine r_goto 211 dX9_judgeAt_207 rfl ?_
      exact (Ex.at hJ_3 rfl (show [vI (aShl 1 x2), vI (M.1 43 0 x1.toNat), vI x1, vR (some (43, 0))] = [vI (if x6 = 0 then 0 else (aShl 1 x2) : Int), vI (M.1 43 0 x1.toNat), vI x1, vR (some (43, 0))] by first | (simp only [if_neg c_4]; done) | contradiction) rfl)
  · have h := h.2 (c)
    obtain ⟨⟨o_7, o_8⟩, h⟩ := h
    refine r_aload_n 83 dX9_judgeAt_82 rfl rfl ?_
    refine g_R 86 dX9_judgeAt_83 rfl rfl rfl fr_9_18 (sh_9_2 hS) ?_
    refine r_iload 88 dX9_judgeAt_86 rfl rfl ?_
    refine a_I 488 89 dX9_judgeAt_88 rfl rfl rfl rfl o_7 rfl ?_
    refine r_iload 91 dX9_judgeAt_89 rfl rfl ?_
    refine n_1 [vI (M.1 42 0 x5.toNat), vI x8] [] 94 dX9_judgeAt_91 rfl rfl mo_X11_hasBit ml_9_52 rfl rfl (KX11_hasBit o_8) ?_
    obtain ⟨h0, h⟩ := h
    have hJ_9 : Ex l G (d + 1) mX9_judgeAt 177 [some (vR (some (10, 0))), some (vI x1), some (vI x2), some (vI x3), some (vR (some (34, k4))), some (vI x5), some (vI (if tb (M.1 42 0 x5.toNat) x8 = true then (if x6 = 0 then 0 else (if 61 ≤ (x1 + (M.1 34 k4 ((x2 * 8) + x8).toNat)) then 0 else (if tb (M.1 43 0 (x1 + (M.1 34 k4 ((x2 * 8) + x8).toNat)).toNat) x8 = true then 1 else 0 : Int) : Int) : Int) else x6 : Int)), some (vI (if tb (M.1 42 0 x5.toNat) x8 = true then (if 61 ≤ (x1 + (M.1 34 k4 ((x2 * 8) + x8).toNat)) then x7 else (if (M.1 44 0 (((x1 + (M.1 34 k4 ((x2 * 8) + x8).toNat)) * 8) + x8).toNat) < x7 then (M.1 44 0 (((x1 + (M.1 34 k4 ((x2 * 8) + x8).toNat)) * 8) + x8).toNat) else x7 : Int) : Int) else x7 : Int)), some (vI x8), none] [] M r M' := by
      obtain ⟨o_36, h⟩ := h
      refine r_iinc (ls' := [some (vR (some (10, 0))), some (vI x1), some (vI x2), some (vI x3), some (vR (some (34, k4))), some (vI x5), some (vI (if tb (M.1 42 0 x5.toNat) x8 = true then (if x6 = 0 then 0 else (if 61 ≤ (x1 + (M.1 34 k4 ((x2 * 8) + x8).toNat)) then 0 else (if tb (M.1 43 0 (x1 + (M.1 34 k4 ((x2 * 8) + x8).toNat)).toNat) x8 = true then 1 else 0 : Int) : Int) : Int) else x6 : Int)), some (vI (if tb (M.1 42 0 x5.toNat) x8 = true then (if 61 ≤ (x1 + (M.1 34 k4 ((x2 * 8) + x8).toNat)) then x7 else (if (M.1 44 0 (((x1 + (M.1 34 k4 ((x2 * 8) + x8).toNat)) * 8) + x8).toNat) < x7 then (M.1 44 0 (((x1 + (M.1 34 k4 ((x2 * 8) + x8).toNat)) * 8) + x8).toNat) else x7 : Int) : Int) else x7 : Int)), some (vI (x8 + 1)), none]) 180 dX9_judgeAt_177 rfl rfl rfl rfl o_36 rfl ?_
      refine r_goto 75 dX9_judgeAt_180 rfl ?_
      exact h
    have h := h0
    refine r_if_eq 97 177 dX9_judgeAt_94 rfl rfl (fun c => ?_) (fun c => ?_)
    · have c_10 := b2_0.mp c
      exact (Ex.at hJ_9 (show [some (vR (some (10, 0))), some (vI x1), some (vI x2), some (vI x3), some (vR (some (34, k4))), some (vI x5), some (vI x6), some (vI x7), some (vI x8), none] = [some (vR (some (10, 0))), some (vI x1), some (vI x2), some (vI x3), some (vR (some (34, k4))), some (vI x5), some (vI (if tb (M.1 42 0 x5.toNat) x8 = true then (if x6 = 0 then 0 else (if 61 ≤ (x1 + (M.1 34 k4 ((x2 * 8) + x8).toNat)) then 0 else (if tb (M.1 43 0 (x1 + (M.1 34 k4 ((x2 * 8) + x8).toNat)).toNat) x8 = true then 1 else 0 : Int) : Int) : Int) else x6 : Int)), some (vI (if tb (M.1 42 0 x5.toNat) x8 = true then (if 61 ≤ (x1 + (M.1 34 k4 ((x2 * 8) + x8).toNat)) then x7 else (if (M.1 44 0 (((x1 + (M.1 34 k4 ((x2 * 8) + x8).toNat)) * 8) + x8).toNat) < x7 then (M.1 44 0 (((x1 + (M.1 34 k4 ((x2 * 8) + x8).toNat)) * 8) + x8).toNat) else x7 : Int) : Int) else x7 : Int)), some (vI x8), none] by first | (simp only [if_neg c_10]; done) | contradiction) rfl rfl)
    · have c_10 := b2_1.mp c
      have h := h c_10
      obtain ⟨⟨o_11, o_12, o_13, o_14⟩, h⟩ := h
      refine r_iload_n 98 dX9_judgeAt_97 rfl rfl ?_
      refine r_aload 100 dX9_judgeAt_98 rfl rfl ?_
      refine r_iload_n 101 dX9_judgeAt_100 rfl rfl ?_
      refine r_bipush 103 dX9_judgeAt_101 rfl rfl ?_
      refine r_imul 104 dX9_judgeAt_103 rfl o_11 ?_
      refine r_iload 106 dX9_judgeAt_104 rfl rfl ?_
      refine r_iadd 107 dX9_judgeAt_106 rfl o_12 ?_
      refine a_I 64 108 dX9_judgeAt_107 rfl rfl rfl rfl o_13 rfl ?_
      refine r_iadd 109 dX9_judgeAt_108 rfl o_14 ?_
      refine r_istore (ls' := [some (vR (some (10, 0))), some (vI x1), some (vI x2), some (vI x3), some (vR (some (34, k4))), some (vI x5), some (vI x6), some (vI x7), some (vI x8), some (vI (x1 + (M.1 34 k4 ((x2 * 8) + x8).toNat)))]) 111 dX9_judgeAt_109 rfl rfl rfl rfl ?_
      refine r_iload 113 dX9_judgeAt_111 rfl rfl ?_
      refine r_if_eq 116 142 dX9_judgeAt_113 rfl rfl (fun c => ?_) (fun c => ?_)
      · have c_15 := c
        have h := h.1 c_15
        refine r_iconst 143 dX9_judgeAt_142 rfl (InR_of rfl) ?_
        refine r_istore (ls' := [some (vR (some (10, 0))), some (vI x1), some (vI x2), some (vI x3), some (vR (some (34, k4))), some (vI x5), some (vI 0), some (vI x7), some (vI x8), some (vI (x1 + (M.1 34 k4 ((x2 * 8) + x8).toNat)))]) 145 dX9_judgeAt_143 rfl rfl rfl rfl ?_
        refine r_iload 147 dX9_judgeAt_145 rfl rfl ?_
        refine r_bipush 149 dX9_judgeAt_147 rfl rfl ?_
        refine r_icmp_ge 152 173 dX9_judgeAt_149 rfl rfl (fun c => ?_) (fun c => ?_)
        · have c_16 := c
          refine r_iload 175 dX9_judgeAt_173 rfl rfl ?_
          refine r_istore (ls' := [some (vR (some (10, 0))), some (vI x1), some (vI x2), some (vI x3), some (vR (some (34, k4))), some (vI x5), some (vI 0), some (vI x7), some (vI x8), some (vI (x1 + (M.1 34 k4 ((x2 * 8) + x8).toNat)))]) 177 dX9_judgeAt_175 rfl rfl rfl rfl ?_
          exact (Ex.weak (Ex.at hJ_9 (show [some (vR (some (10, 0))), some (vI x1), some (vI x2), some (vI x3), some (vR (some (34, k4))), some (vI x5), some (vI 0), some (vI x7), some (vI x8), none] = [some (vR (some (10, 0))), some (vI x1), some (vI x2), some (vI x3), some (vR (some (34, k4))), some (vI x5), some (vI (if tb (M.1 42 0 x5.toNat) x8 = true then (if x6 = 0 then 0 else (if 61 ≤ (x1 + (M.1 34 k4 ((x2 * 8) + x8).toNat)) then 0 else (if tb (M.1 43 0 (x1 + (M.1 34 k4 ((x2 * 8) + x8).toNat)).toNat) x8 = true then 1 else 0 : Int) : Int) : Int) else x6 : Int)), some (vI (if tb (M.1 42 0 x5.toNat) x8 = true then (if 61 ≤ (x1 + (M.1 34 k4 ((x2 * 8) + x8).toNat)) then x7 else (if (M.1 44 0 (((x1 + (M.1 34 k4 ((x2 * 8) + x8).toNat)) * 8) + x8).toNat) < x7 then (M.1 44 0 (((x1 + (M.1 34 k4 ((x2 * 8) + x8).toNat)) * 8) + x8).toNat) else x7 : Int) : Int) else x7 : Int)), some (vI x8), none] by first | (simp only [if_pos c_10, if_pos c_15, if_pos c_16]; done) | contradiction) rfl rfl) ⟨rfl, rfl, rfl, rfl, rfl, rfl, rfl, rfl, rfl, trivial⟩)
        · have c_16 := c
          have h := h c_16
          obtain ⟨o_17, o_18, o_19⟩ := h
          refine r_iload 154 dX9_judgeAt_152 rfl rfl ?_
          refine r_aload_n 155 dX9_judgeAt_154 rfl rfl ?_
          refine g_R 158 dX9_judgeAt_155 rfl rfl rfl fr_9_24 (sh_9_4 hS) ?_
          refine r_iload 160 dX9_judgeAt_158 rfl rfl ?_
          refine r_bipush 162 dX9_judgeAt_160 rfl rfl ?_
          refine r_imul 163 dX9_judgeAt_162 rfl o_17 ?_
          refine r_iload 165 dX9_judgeAt_163 rfl rfl ?_
          refine r_iadd 166 dX9_judgeAt_165 rfl o_18 ?_
          refine a_I 488 167 dX9_judgeAt_166 rfl rfl rfl rfl o_19 rfl ?_
          refine r_min 170 dX9_judgeAt_167 rfl (inT4 (List.mem_of_getElem? (i := 158) rfl) rfl) rfl ?_
          refine r_goto 175 dX9_judgeAt_170 rfl ?_
          refine r_istore (ls' := [some (vR (some (10, 0))), some (vI x1), some (vI x2), some (vI x3), some (vR (some (34, k4))), some (vI x5), some (vI 0), some (vI (if (M.1 44 0 (((x1 + (M.1 34 k4 ((x2 * 8) + x8).toNat)) * 8) + x8).toNat) < x7 then (M.1 44 0 (((x1 + (M.1 34 k4 ((x2 * 8) + x8).toNat)) * 8) + x8).toNat) else x7 : Int)), some (vI x8), some (vI (x1 + (M.1 34 k4 ((x2 * 8) + x8).toNat)))]) 177 dX9_judgeAt_175 rfl rfl rfl rfl ?_
          exact (Ex.weak (Ex.at hJ_9 (show [some (vR (some (10, 0))), some (vI x1), some (vI x2), some (vI x3), some (vR (some (34, k4))), some (vI x5), some (vI 0), some (vI (if (M.1 44 0 (((x1 + (M.1 34 k4 ((x2 * 8) + x8).toNat)) * 8) + x8).toNat) < x7 then (M.1 44 0 (((x1 + (M.1 34 k4 ((x2 * 8) + x8).toNat)) * 8) + x8).toNat) else x7 : Int)), some (vI x8), none] = [some (vR (some (10, 0))), some (vI x1), some (vI x2), some (vI x3), some (vR (some (34, k4))), some (vI x5), some (vI (if tb (M.1 42 0 x5.toNat) x8 = true then (if x6 = 0 then 0 else (if 61 ≤ (x1 + (M.1 34 k4 ((x2 * 8) + x8).toNat)) then 0 else (if tb (M.1 43 0 (x1 + (M.1 34 k4 ((x2 * 8) + x8).toNat)).toNat) x8 = true then 1 else 0 : Int) : Int) : Int) else x6 : Int)), some (vI (if tb (M.1 42 0 x5.toNat) x8 = true then (if 61 ≤ (x1 + (M.1 34 k4 ((x2 * 8) + x8).toNat)) then x7 else (if (M.1 44 0 (((x1 + (M.1 34 k4 ((x2 * 8) + x8).toNat)) * 8) + x8).toNat) < x7 then (M.1 44 0 (((x1 + (M.1 34 k4 ((x2 * 8) + x8).toNat)) * 8) + x8).toNat) else x7 : Int) : Int) else x7 : Int)), some (vI x8), none] by first | (simp only [if_pos c_10, if_pos c_15, if_neg c_16]; done) | contradiction) rfl rfl) ⟨rfl, rfl, rfl, rfl, rfl, rfl, rfl, rfl, rfl, trivial⟩)
      · have c_15 := c
        have h := h.2 c_15
        refine r_iload 118 dX9_judgeAt_116 rfl rfl ?_
        refine r_bipush 120 dX9_judgeAt_118 rfl rfl ?_
        refine r_icmp_ge 123 142 dX9_judgeAt_120 rfl rfl (fun c => ?_) (fun c => ?_)
        · have c_20 := c
          have h := h.1 c_20
          refine r_iconst 143 dX9_judgeAt_142 rfl (InR_of rfl) ?_
          refine r_istore (ls' := [some (vR (some (10, 0))), some (vI x1), some (vI x2), some (vI x3), some (vR (some (34, k4))), some (vI x5), some (vI 0), some (vI x7), some (vI x8), some (vI (x1 + (M.1 34 k4 ((x2 * 8) + x8).toNat)))]) 145 dX9_judgeAt_143 rfl rfl rfl rfl ?_
          refine r_iload 147 dX9_judgeAt_145 rfl rfl ?_
          refine r_bipush 149 dX9_judgeAt_147 rfl rfl ?_
          refine r_icmp_ge 152 173 dX9_judgeAt_149 rfl rfl (fun c => ?_) (fun c => ?_)
          · have c_21 := c
            refine r_iload 175 dX9_judgeAt_173 rfl rfl ?_
            refine r_istore (ls' := [some (vR (some (10, 0))), some (vI x1), some (vI x2), some (vI x3), some (vR (some (34, k4))), some (vI x5), some (vI 0), some (vI x7), some (vI x8), some (vI (x1 + (M.1 34 k4 ((x2 * 8) + x8).toNat)))]) 177 dX9_judgeAt_175 rfl rfl rfl rfl ?_
            exact (Ex.weak (Ex.at hJ_9 (show [some (vR (some (10, 0))), some (vI x1), some (vI x2), some (vI x3), some (vR (some (34, k4))), some (vI x5), some (vI 0), some (vI x7), some (vI x8), none] = [some (vR (some (10, 0))), some (vI x1), some (vI x2), some (vI x3), some (vR (some (34, k4))), some (vI x5), some (vI (if tb (M.1 42 0 x5.toNat) x8 = true then (if x6 = 0 then 0 else (if 61 ≤ (x1 + (M.1 34 k4 ((x2 * 8) + x8).toNat)) then 0 else (if tb (M.1 43 0 (x1 + (M.1 34 k4 ((x2 * 8) + x8).toNat)).toNat) x8 = true then 1 else 0 : Int) : Int) : Int) else x6 : Int)), some (vI (if tb (M.1 42 0 x5.toNat) x8 = true then (if 61 ≤ (x1 + (M.1 34 k4 ((x2 * 8) + x8).toNat)) then x7 else (if (M.1 44 0 (((x1 + (M.1 34 k4 ((x2 * 8) + x8).toNat)) * 8) + x8).toNat) < x7 then (M.1 44 0 (((x1 + (M.1 34 k4 ((x2 * 8) + x8).toNat)) * 8) + x8).toNat) else x7 : Int) : Int) else x7 : Int)), some (vI x8), none] by first | (simp only [if_pos c_10, if_neg c_15, if_pos c_20, if_pos c_21]; done) | contradiction) rfl rfl) ⟨rfl, rfl, rfl, rfl, rfl, rfl, rfl, rfl, rfl, trivial⟩)
          · have c_21 := c
            have h := h c_21
            obtain ⟨o_22, o_23, o_24⟩ := h
            refine r_iload 154 dX9_judgeAt_152 rfl rfl ?_
            refine r_aload_n 155 dX9_judgeAt_154 rfl rfl ?_
            refine g_R 158 dX9_judgeAt_155 rfl rfl rfl fr_9_24 (sh_9_4 hS) ?_
            refine r_iload 160 dX9_judgeAt_158 rfl rfl ?_
            refine r_bipush 162 dX9_judgeAt_160 rfl rfl ?_
            refine r_imul 163 dX9_judgeAt_162 rfl o_22 ?_
            refine r_iload 165 dX9_judgeAt_163 rfl rfl ?_
            refine r_iadd 166 dX9_judgeAt_165 rfl o_23 ?_
            refine a_I 488 167 dX9_judgeAt_166 rfl rfl rfl rfl o_24 rfl ?_
            refine r_min 170 dX9_judgeAt_167 rfl (inT4 (List.mem_of_getElem? (i := 158) rfl) rfl) rfl ?_
            refine r_goto 175 dX9_judgeAt_170 rfl ?_
            refine r_istore (ls' := [some (vR (some (10, 0))), some (vI x1), some (vI x2), some (vI x3), some (vR (some (34, k4))), some (vI x5), some (vI 0), some (vI (if (M.1 44 0 (((x1 + (M.1 34 k4 ((x2 * 8) + x8).toNat)) * 8) + x8).toNat) < x7 then (M.1 44 0 (((x1 + (M.1 34 k4 ((x2 * 8) + x8).toNat)) * 8) + x8).toNat) else x7 : Int)), some (vI x8), some (vI (x1 + (M.1 34 k4 ((x2 * 8) + x8).toNat)))]) 177 dX9_judgeAt_175 rfl rfl rfl rfl ?_
            exact (Ex.weak (Ex.at hJ_9 (show [some (vR (some (10, 0))), some (vI x1), some (vI x2), some (vI x3), some (vR (some (34, k4))), some (vI x5), some (vI 0), some (vI (if (M.1 44 0 (((x1 + (M.1 34 k4 ((x2 * 8) + x8).toNat)) * 8) + x8).toNat) < x7 then (M.1 44 0 (((x1 + (M.1 34 k4 ((x2 * 8) + x8).toNat)) * 8) + x8).toNat) else x7 : Int)), some (vI x8), none] = [some (vR (some (10, 0))), some (vI x1), some (vI x2), some (vI x3), some (vR (some (34, k4))), some (vI x5), some (vI (if tb (M.1 42 0 x5.toNat) x8 = true then (if x6 = 0 then 0 else (if 61 ≤ (x1 + (M.1 34 k4 ((x2 * 8) + x8).toNat)) then 0 else (if tb (M.1 43 0 (x1 + (M.1 34 k4 ((x2 * 8) + x8).toNat)).toNat) x8 = true then 1 else 0 : Int) : Int) : Int) else x6 : Int)), some (vI (if tb (M.1 42 0 x5.toNat) x8 = true then (if 61 ≤ (x1 + (M.1 34 k4 ((x2 * 8) + x8).toNat)) then x7 else (if (M.1 44 0 (((x1 + (M.1 34 k4 ((x2 * 8) + x8).toNat)) * 8) + x8).toNat) < x7 then (M.1 44 0 (((x1 + (M.1 34 k4 ((x2 * 8) + x8).toNat)) * 8) + x8).toNat) else x7 : Int) : Int) else x7 : Int)), some (vI x8), none] by first | (simp only [if_pos c_10, if_neg c_15, if_pos c_20, if_neg c_21]; done) | contradiction) rfl rfl) ⟨rfl, rfl, rfl, rfl, rfl, rfl, rfl, rfl, rfl, trivial⟩)
        · have c_20 := c
          have h := h.2 c_20
          obtain ⟨⟨o_25, o_26⟩, h⟩ := h
          refine r_aload_n 124 dX9_judgeAt_123 rfl rfl ?_
          refine g_R 127 dX9_judgeAt_124 rfl rfl rfl fr_9_21 (sh_9_3 hS) ?_
          refine r_iload 129 dX9_judgeAt_127 rfl rfl ?_
          refine a_I 61 130 dX9_judgeAt_129 rfl rfl rfl rfl o_25 rfl ?_
          refine r_iload 132 dX9_judgeAt_130 rfl rfl ?_
          refine n_1 [vI (M.1 43 0 (x1 + (M.1 34 k4 ((x2 * 8) + x8).toNat)).toNat), vI x8] [] 135 dX9_judgeAt_132 rfl rfl mo_X11_hasBit ml_9_52 rfl rfl (KX11_hasBit o_26) ?_
          refine r_if_eq 138 142 dX9_judgeAt_135 rfl rfl (fun c => ?_) (fun c => ?_)
          · have c_27 := b2_0.mp c
            have h := h.1 c_27
            refine r_iconst 143 dX9_judgeAt_142 rfl (InR_of rfl) ?_
            refine r_istore (ls' := [some (vR (some (10, 0))), some (vI x1), some (vI x2), some (vI x3), some (vR (some (34, k4))), some (vI x5), some (vI 0), some (vI x7), some (vI x8), some (vI (x1 + (M.1 34 k4 ((x2 * 8) + x8).toNat)))]) 145 dX9_judgeAt_143 rfl rfl rfl rfl ?_
            refine r_iload 147 dX9_judgeAt_145 rfl rfl ?_
            refine r_bipush 149 dX9_judgeAt_147 rfl rfl ?_
            refine r_icmp_ge 152 173 dX9_judgeAt_149 rfl rfl (fun c => ?_) (fun c => ?_)
            · have c_28 := c
              refine r_iload 175 dX9_judgeAt_173 rfl rfl ?_
              refine r_istore (ls' := [some (vR (some (10, 0))), some (vI x1), some (vI x2), some (vI x3), some (vR (some (34, k4))), some (vI x5), some (vI 0), some (vI x7), some (vI x8), some (vI (x1 + (M.1 34 k4 ((x2 * 8) + x8).toNat)))]) 177 dX9_judgeAt_175 rfl rfl rfl rfl ?_
              exact (Ex.weak (Ex.at hJ_9 (show [some (vR (some (10, 0))), some (vI x1), some (vI x2), some (vI x3), some (vR (some (34, k4))), some (vI x5), some (vI 0), some (vI x7), some (vI x8), none] = [some (vR (some (10, 0))), some (vI x1), some (vI x2), some (vI x3), some (vR (some (34, k4))), some (vI x5), some (vI (if tb (M.1 42 0 x5.toNat) x8 = true then (if x6 = 0 then 0 else (if 61 ≤ (x1 + (M.1 34 k4 ((x2 * 8) + x8).toNat)) then 0 else (if tb (M.1 43 0 (x1 + (M.1 34 k4 ((x2 * 8) + x8).toNat)).toNat) x8 = true then 1 else 0 : Int) : Int) : Int) else x6 : Int)), some (vI (if tb (M.1 42 0 x5.toNat) x8 = true then (if 61 ≤ (x1 + (M.1 34 k4 ((x2 * 8) + x8).toNat)) then x7 else (if (M.1 44 0 (((x1 + (M.1 34 k4 ((x2 * 8) + x8).toNat)) * 8) + x8).toNat) < x7 then (M.1 44 0 (((x1 + (M.1 34 k4 ((x2 * 8) + x8).toNat)) * 8) + x8).toNat) else x7 : Int) : Int) else x7 : Int)), some (vI x8), none] by first | (simp only [if_pos c_10, if_neg c_15, if_neg c_20, if_neg c_27, if_pos c_28]; done) | contradiction) rfl rfl) ⟨rfl, rfl, rfl, rfl, rfl, rfl, rfl, rfl, rfl, trivial⟩)
            · have c_28 := c
              have h := h c_28
              obtain ⟨o_29, o_30, o_31⟩ := h
              refine r_iload 154 dX9_judgeAt_152 rfl rfl ?_
              refine r_aload_n 155 dX9_judgeAt_154 rfl rfl ?_
              refine g_R 158 dX9_judgeAt_155 rfl rfl rfl fr_9_24 (sh_9_4 hS) ?_
              refine r_iload 160 dX9_judgeAt_158 rfl rfl ?_
              refine r_bipush 162 dX9_judgeAt_160 rfl rfl ?_
              refine r_imul 163 dX9_judgeAt_162 rfl o_29 ?_
              refine r_iload 165 dX9_judgeAt_163 rfl rfl ?_
              refine r_iadd 166 dX9_judgeAt_165 rfl o_30 ?_
              refine a_I 488 167 dX9_judgeAt_166 rfl rfl rfl rfl o_31 rfl ?_
              refine r_min 170 dX9_judgeAt_167 rfl (inT4 (List.mem_of_getElem? (i := 158) rfl) rfl) rfl ?_
              refine r_goto 175 dX9_judgeAt_170 rfl ?_
              refine r_istore (ls' := [some (vR (some (10, 0))), some (vI x1), some (vI x2), some (vI x3), some (vR (some (34, k4))), some (vI x5), some (vI 0), some (vI (if (M.1 44 0 (((x1 + (M.1 34 k4 ((x2 * 8) + x8).toNat)) * 8) + x8).toNat) < x7 then (M.1 44 0 (((x1 + (M.1 34 k4 ((x2 * 8) + x8).toNat)) * 8) + x8).toNat) else x7 : Int)), some (vI x8), some (vI (x1 + (M.1 34 k4 ((x2 * 8) + x8).toNat)))]) 177 dX9_judgeAt_175 rfl rfl rfl rfl ?_
              exact (Ex.weak (Ex.at hJ_9 (show [some (vR (some (10, 0))), some (vI x1), some (vI x2), some (vI x3), some (vR (some (34, k4))), some (vI x5), some (vI 0), some (vI (if (M.1 44 0 (((x1 + (M.1 34 k4 ((x2 * 8) + x8).toNat)) * 8) + x8).toNat) < x7 then (M.1 44 0 (((x1 + (M.1 34 k4 ((x2 * 8) + x8).toNat)) * 8) + x8).toNat) else x7 : Int)), some (vI x8), none] = [some (vR (some (10, 0))), some (vI x1), some (vI x2), some (vI x3), some (vR (some (34, k4))), some (vI x5), some (vI (if tb (M.1 42 0 x5.toNat) x8 = true then (if x6 = 0 then 0 else (if 61 ≤ (x1 + (M.1 34 k4 ((x2 * 8) + x8).toNat)) then 0 else (if tb (M.1 43 0 (x1 + (M.1 34 k4 ((x2 * 8) + x8).toNat)).toNat) x8 = true then 1 else 0 : Int) : Int) : Int) else x6 : Int)), some (vI (if tb (M.1 42 0 x5.toNat) x8 = true then (if 61 ≤ (x1 + (M.1 34 k4 ((x2 * 8) + x8).toNat)) then x7 else (if (M.1 44 0 (((x1 + (M.1 34 k4 ((x2 * 8) + x8).toNat)) * 8) + x8).toNat) < x7 then (M.1 44 0 (((x1 + (M.1 34 k4 ((x2 * 8) + x8).toNat)) * 8) + x8).toNat) else x7 : Int) : Int) else x7 : Int)), some (vI x8), none] by first | (simp only [if_pos c_10, if_neg c_15, if_neg c_20, if_neg c_27, if_neg c_28]; done) | contradiction) rfl rfl) ⟨rfl, rfl, rfl, rfl, rfl, rfl, rfl, rfl, rfl, trivial⟩)
          · have c_27 := b2_1.mp c
            have h := h.2 c_27
            refine r_iconst 139 dX9_judgeAt_138 rfl (InR_of rfl) ?_
            refine r_goto 143 dX9_judgeAt_139 rfl ?_
            refine r_istore (ls' := [some (vR (some (10, 0))), some (vI x1), some (vI x2), some (vI x3), some (vR (some (34, k4))), some (vI x5), some (vI 1), some (vI x7), some (vI x8), some (vI (x1 + (M.1 34 k4 ((x2 * 8) + x8).toNat)))]) 145 dX9_judgeAt_143 rfl rfl rfl rfl ?_
            refine r_iload 147 dX9_judgeAt_145 rfl rfl ?_
            refine r_bipush 149 dX9_judgeAt_147 rfl rfl ?_
            refine r_icmp_ge 152 173 dX9_judgeAt_149 rfl rfl (fun c => ?_) (fun c => ?_)
            · have c_32 := c
              refine r_iload 175 dX9_judgeAt_173 rfl rfl ?_
              refine r_istore (ls' := [some (vR (some (10, 0))), some (vI x1), some (vI x2), some (vI x3), some (vR (some (34, k4))), some (vI x5), some (vI 1), some (vI x7), some (vI x8), some (vI (x1 + (M.1 34 k4 ((x2 * 8) + x8).toNat)))]) 177 dX9_judgeAt_175 rfl rfl rfl rfl ?_
              exact (Ex.weak (Ex.at hJ_9 (show [some (vR (some (10, 0))), some (vI x1), some (vI x2), some (vI x3), some (vR (some (34, k4))), some (vI x5), some (vI 1), some (vI x7), some (vI x8), none] = [some (vR (some (10, 0))), some (vI x1), some (vI x2), some (vI x3), some (vR (some (34, k4))), some (vI x5), some (vI (if tb (M.1 42 0 x5.toNat) x8 = true then (if x6 = 0 then 0 else (if 61 ≤ (x1 + (M.1 34 k4 ((x2 * 8) + x8).toNat)) then 0 else (if tb (M.1 43 0 (x1 + (M.1 34 k4 ((x2 * 8) + x8).toNat)).toNat) x8 = true then 1 else 0 : Int) : Int) : Int) else x6 : Int)), some (vI (if tb (M.1 42 0 x5.toNat) x8 = true then (if 61 ≤ (x1 + (M.1 34 k4 ((x2 * 8) + x8).toNat)) then x7 else (if (M.1 44 0 (((x1 + (M.1 34 k4 ((x2 * 8) + x8).toNat)) * 8) + x8).toNat) < x7 then (M.1 44 0 (((x1 + (M.1 34 k4 ((x2 * 8) + x8).toNat)) * 8) + x8).toNat) else x7 : Int) : Int) else x7 : Int)), some (vI x8), none] by first | (simp only [if_pos c_10, if_neg c_15, if_neg c_20, if_pos c_27, if_pos c_32]; done) | contradiction) rfl rfl) ⟨rfl, rfl, rfl, rfl, rfl, rfl, rfl, rfl, rfl, trivial⟩)
            · have c_32 := c
              have h := h c_32
              obtain ⟨o_33, o_34, o_35⟩ := h
              refine r_iload 154 dX9_judgeAt_152 rfl rfl ?_
              refine r_aload_n 155 dX9_judgeAt_154 rfl rfl ?_
              refine g_R 158 dX9_judgeAt_155 rfl rfl rfl fr_9_24 (sh_9_4 hS) ?_
              refine r_iload 160 dX9_judgeAt_158 rfl rfl ?_
              refine r_bipush 162 dX9_judgeAt_160 rfl rfl ?_
              refine r_imul 163 dX9_judgeAt_162 rfl o_33 ?_
              refine r_iload 165 dX9_judgeAt_163 rfl rfl ?_
              refine r_iadd 166 dX9_judgeAt_165 rfl o_34 ?_
              refine a_I 488 167 dX9_judgeAt_166 rfl rfl rfl rfl o_35 rfl ?_
              refine r_min 170 dX9_judgeAt_167 rfl (inT4 (List.mem_of_getElem? (i := 158) rfl) rfl) rfl ?_
              refine r_goto 175 dX9_judgeAt_170 rfl ?_
              refine r_istore (ls' := [some (vR (some (10, 0))), some (vI x1), some (vI x2), some (vI x3), some (vR (some (34, k4))), some (vI x5), some (vI 1), some (vI (if (M.1 44 0 (((x1 + (M.1 34 k4 ((x2 * 8) + x8).toNat)) * 8) + x8).toNat) < x7 then (M.1 44 0 (((x1 + (M.1 34 k4 ((x2 * 8) + x8).toNat)) * 8) + x8).toNat) else x7 : Int)), some (vI x8), some (vI (x1 + (M.1 34 k4 ((x2 * 8) + x8).toNat)))]) 177 dX9_judgeAt_175 rfl rfl rfl rfl ?_
              exact (Ex.weak (Ex.at hJ_9 (show [some (vR (some (10, 0))), some (vI x1), some (vI x2), some (vI x3), some (vR (some (34, k4))), some (vI x5), some (vI 1), some (vI (if (M.1 44 0 (((x1 + (M.1 34 k4 ((x2 * 8) + x8).toNat)) * 8) + x8).toNat) < x7 then (M.1 44 0 (((x1 + (M.1 34 k4 ((x2 * 8) + x8).toNat)) * 8) + x8).toNat) else x7 : Int)), some (vI x8), none] = [some (vR (some (10, 0))), some (vI x1), some (vI x2), some (vI x3), some (vR (some (34, k4))), some (vI x5), some (vI (if tb (M.1 42 0 x5.toNat) x8 = true then (if x6 = 0 then 0 else (if 61 ≤ (x1 + (M.1 34 k4 ((x2 * 8) + x8).toNat)) then 0 else (if tb (M.1 43 0 (x1 + (M.1 34 k4 ((x2 * 8) + x8).toNat)).toNat) x8 = true then 1 else 0 : Int) : Int) : Int) else x6 : Int)), some (vI (if tb (M.1 42 0 x5.toNat) x8 = true then (if 61 ≤ (x1 + (M.1 34 k4 ((x2 * 8) + x8).toNat)) then x7 else (if (M.1 44 0 (((x1 + (M.1 34 k4 ((x2 * 8) + x8).toNat)) * 8) + x8).toNat) < x7 then (M.1 44 0 (((x1 + (M.1 34 k4 ((x2 * 8) + x8).toNat)) * 8) + x8).toNat) else x7 : Int) : Int) else x7 : Int)), some (vI x8), none] by first | (simp only [if_pos c_10, if_neg c_15, if_neg c_20, if_pos c_27, if_neg c_32]; done) | contradiction) rfl rfl) ⟨rfl, rfl, rfl, rfl, rfl, rfl, rfl, rfl, rfl, trivial⟩)

set_option maxRecDepth 4000 in
theorem xX9_judge_0 {l : Launch} {G : Gt} {d : Nat} {M M' : Mem} {r : Option Vl} {x1 : Int} {k2 : Nat} (hS : Sh M.2.1) (h : 
    Ex l G (d + 1) mX9_judge 21 [some (vR (some (10, 0))), some (vI x1), some (vR (some (34, k2))), some (vI 60), none] [] ((flI (flI M.1 43 0 61 0) 44 0 488 1000), M.2.1, M.2.2) r M') : Cl l G (d + 1) mX9_judge [vR (some (10, 0)), vI x1, vR (some (34, k2))] M r M' := by
  show Ex l G (d + 1) mX9_judge 0 [some (vR (some (10, 0))), some (vI x1), some (vR (some (34, k2))), none, none] [] M r M'
  refine r_aload_n 1 dX9_judge_0 rfl rfl ?_
  refine g_R 4 dX9_judge_1 rfl rfl rfl fr_9_21 (sh_9_3 hS) ?_
  refine r_iconst 5 dX9_judge_4 rfl (InR_of rfl) ?_
  refine c_0 [vR (some (43, 0)), vI 0] [] 8 dX9_judge_5 rfl rfl mo_J7_fill_53178 ml_9_27 rfl rfl (KJ7_fl (n := 61) rfl (by decide) rfl (by decide)) ?_
  refine r_aload_n 9 dX9_judge_8 rfl rfl ?_
  refine g_R 12 dX9_judge_9 rfl rfl rfl fr_9_24 (mR_0 (sh_9_4 hS)) ?_
  refine r_sipush 15 dX9_judge_12 rfl rfl ?_
  refine c_0 [vR (some (44, 0)), vI 1000] [] 18 dX9_judge_15 rfl rfl mo_J7_fill_53178 ml_9_27 rfl rfl (KJ7_fl (n := 488) rfl (by decide) rfl (by decide)) ?_
  refine r_bipush 20 dX9_judge_18 rfl rfl ?_
  refine r_istore_n (ls' := [some (vR (some (10, 0))), some (vI x1), some (vR (some (34, k2))), some (vI 60), none]) 21 dX9_judge_20 rfl rfl rfl rfl ?_
  exact h
set_option maxRecDepth 4000 in
theorem xX9_judge_21 {l : Launch} {G : Gt} {d : Nat} {M M' : Mem} {r : Option Vl} {x1 : Int} {k2 : Nat} {x3 : Int} (h : 
    (x3 < 0 → r = none ∧ M' = M) ∧ (¬ (x3 < 0) → Ex l G (d + 1) mX9_judge 28 [some (vR (some (10, 0))), some (vI x1), some (vR (some (34, k2))), some (vI x3), some (vI 0)] [] M r M')) : Ex l G (d + 1) mX9_judge 21 [some (vR (some (10, 0))), some (vI x1), some (vR (some (34, k2))), some (vI x3), none] [] M r M' := by
  refine r_iload_n 22 dX9_judge_21 rfl rfl ?_
  refine r_if_lt 25 70 dX9_judge_22 rfl rfl (fun c => ?_) (fun c => ?_)
  · have h := h.1 (c)
    exact r_vret dX9_judge_70 rfl h.1 h.2
  · have h := h.2 (c)
    refine r_iconst 26 dX9_judge_25 rfl (InR_of rfl) ?_
    refine r_istore (ls' := [some (vR (some (10, 0))), some (vI x1), some (vR (some (34, k2))), some (vI x3), some (vI 0)]) 28 dX9_judge_26 rfl rfl rfl rfl ?_
    exact h
set_option maxRecDepth 4000 in
theorem xX9_judge_28 {l : Launch} {G : Gt} {d : Nat} {M M' : Mem} {r : Option Vl} {x1 : Int} {k2 : Nat} {x3 : Int} {x4 : Int} (hS : Sh M.2.1) (h : 
    (8 ≤ x4 → (InR (x3 + (-1))) ∧ Ex l G (d + 1) mX9_judge 21 [some (vR (some (10, 0))), some (vI x1), some (vR (some (34, k2))), some (vI (x3 + (-1))), none] [] M r M') ∧ (¬ (8 ≤ x4) → ((0 ≤ x3 ∧ x3 < 61) ∧ (0 ≤ (M.1 40 0 x3.toNat) ∧ 0 ≤ x4 ∧ x4 < 32)) ∧ ((¬ (tb (M.1 40 0 x3.toNat) x4 = true) → (InR (x4 + 1)) ∧ Ex l G (d + 1) mX9_judge 28 [some (vR (some (10, 0))), some (vI x1), some (vR (some (34, k2))), some (vI x3), some (vI (x4 + 1))] [] M r M') ∧ (tb (M.1 40 0 x3.toNat) x4 = true → ∃ (M_5 : Mem), Cl l G d mX9_judgeAt [vR (some (10, 0)), vI x3, vI x4, vI x1, vR (some (34, k2))] M none M_5 ∧ (InR (x4 + 1)) ∧ Ex l G (d + 1) mX9_judge 28 [some (vR (some (10, 0))), some (vI x1), some (vR (some (34, k2))), some (vI x3), some (vI (x4 + 1))] [] M_5 r M')))) : Ex l G (d + 1) mX9_judge 28 [some (vR (some (10, 0))), some (vI x1), some (vR (some (34, k2))), some (vI x3), some (vI x4)] [] M r M' := by
  refine r_iload 30 dX9_judge_28 rfl rfl ?_
  refine r_bipush 32 dX9_judge_30 rfl rfl ?_
  refine r_icmp_ge 35 64 dX9_judge_32 rfl rfl (fun c => ?_) (fun c => ?_)
  · have h := h.1 (c)
    obtain ⟨o_1, h⟩ := h
    refine r_iinc (ls' := [some (vR (some (10, 0))), some (vI x1), some (vR (some (34, k2))), some (vI (x3 + (-1))), some (vI x4)]) 67 dX9_judge_64 rfl rfl rfl rfl o_1 rfl ?_
    refine r_goto 21 dX9_judge_67 rfl ?_
    exact Ex.weak h ⟨rfl, rfl, rfl, rfl, trivial⟩
  · have h := h.2 (c)
    obtain ⟨⟨o_2, o_3⟩, h⟩ := h
    refine r_aload_n 36 dX9_judge_35 rfl rfl ?_
    refine g_R 39 dX9_judge_36 rfl rfl rfl fr_9_11 (sh_9_0 hS) ?_
    refine r_iload_n 40 dX9_judge_39 rfl rfl ?_
    refine a_I 61 41 dX9_judge_40 rfl rfl rfl rfl o_2 rfl ?_
    refine r_iload 43 dX9_judge_41 rfl rfl ?_
    refine n_1 [vI (M.1 40 0 x3.toNat), vI x4] [] 46 dX9_judge_43 rfl rfl mo_X11_hasBit ml_9_52 rfl rfl (KX11_hasBit o_3) ?_
    refine r_if_eq 49 58 dX9_judge_46 rfl rfl (fun c => ?_) (fun c => ?_)
    · have h := h.1 (b2_0.mp c)
      obtain ⟨o_4, h⟩ := h
      refine r_iinc (ls' := [some (vR (some (10, 0))), some (vI x1), some (vR (some (34, k2))), some (vI x3), some (vI (x4 + 1))]) 61 dX9_judge_58 rfl rfl rfl rfl o_4 rfl ?_
      refine r_goto 28 dX9_judge_61 rfl ?_
      exact h
    · have h := h.2 (b2_1.mp c)
      refine r_aload_n 50 dX9_judge_49 rfl rfl ?_
      refine r_iload_n 51 dX9_judge_50 rfl rfl ?_
      refine r_iload 53 dX9_judge_51 rfl rfl ?_
      refine r_iload_n 54 dX9_judge_53 rfl rfl ?_
      refine r_aload_n 55 dX9_judge_54 rfl rfl ?_
      obtain ⟨M_5, hc_6, h⟩ := h
      refine v_0 (ci := 9) (C := (RX9, TX9, 5)) [vI x3, vI x4, vI x1, vR (some (34, k2))] [] 58 dX9_judge_55 rfl rfl rfl rfl rfl mo_X9_judgeAt ml_9_73 rfl rfl hc_6 ?_
      obtain ⟨o_7, h⟩ := h
      refine r_iinc (ls' := [some (vR (some (10, 0))), some (vI x1), some (vR (some (34, k2))), some (vI x3), some (vI (x4 + 1))]) 61 dX9_judge_58 rfl rfl rfl rfl o_7 rfl ?_
      refine r_goto 28 dX9_judge_61 rfl ?_
      exact h

set_option maxRecDepth 4000 in
theorem xX9_sureFrom_0 {l : Launch} {G : Gt} {d : Nat} {M M' : Mem} {r : Option Vl} {x1 : Int} (hS : Sh M.2.1) (h : 
    ((0 ≤ (M.1 43 0 0) ∧ 0 ≤ x1 ∧ x1 < 32)) ∧ r = some (vI (if tb (M.1 43 0 0) x1 = true then 1 else 0 : Int)) ∧ M' = M) : Cl l G (d + 1) mX9_sureFrom [vR (some (10, 0)), vI x1] M r M' := by
  show Ex l G (d + 1) mX9_sureFrom 0 [some (vR (some (10, 0))), some (vI x1)] [] M r M'
  obtain ⟨o_1, h⟩ := h
  refine r_aload_n 1 dX9_sureFrom_0 rfl rfl ?_
  refine g_R 4 dX9_sureFrom_1 rfl rfl rfl fr_9_21 (sh_9_3 hS) ?_
  refine r_iconst 5 dX9_sureFrom_4 rfl (InR_of rfl) ?_
  refine a_I 61 6 dX9_sureFrom_5 rfl rfl rfl rfl ⟨by decide, by decide⟩ rfl ?_
  refine r_iload_n 7 dX9_sureFrom_6 rfl rfl ?_
  refine n_1 [vI (M.1 43 0 0), vI x1] [] 10 dX9_sureFrom_7 rfl rfl mo_X11_hasBit ml_9_52 rfl rfl (KX11_hasBit o_1) ?_
  have hJ_2 : Ex l G (d + 1) mX9_sureFrom 18 [some (vR (some (10, 0))), some (vI x1)] [vI (if tb (M.1 43 0 0) x1 = true then 1 else 0 : Int)] M r M' := by
    exact r_iret dX9_sureFrom_18 rfl (.inl rfl) h.1 h.2
  refine r_if_eq 13 17 dX9_sureFrom_10 rfl rfl (fun c => ?_) (fun c => ?_)
  · have c_3 := b2_0.mp c
    refine r_iconst 18 dX9_sureFrom_17 rfl (InR_of rfl) ?_
    exact (Ex.at hJ_2 rfl (show [vI 0] = [vI (if tb (M.1 43 0 0) x1 = true then 1 else 0 : Int)] by simp only [if_neg c_3]) rfl)
  · have c_3 := b2_1.mp c
    refine r_iconst 14 dX9_sureFrom_13 rfl (InR_of rfl) ?_
    refine r_goto 18 dX9_sureFrom_14 rfl ?_
    exact (Ex.at hJ_2 rfl (show [vI 1] = [vI (if tb (M.1 43 0 0) x1 = true then 1 else 0 : Int)] by simp only [if_pos c_3]) rfl)

set_option maxRecDepth 4000 in
theorem xX9_soonFrom_0 {l : Launch} {G : Gt} {d : Nat} {M M' : Mem} {r : Option Vl} {x1 : Int} (hS : Sh M.2.1) (h : 
    ((0 ≤ x1 ∧ x1 < 488)) ∧ (((¬ ((M.1 44 0 x1.toNat) = 1000) → ((0 ≤ x1 ∧ x1 < 488)))) ∧ r = some (vI (if (M.1 44 0 x1.toNat) = 1000 then (-2) else (M.1 44 0 x1.toNat) : Int)) ∧ M' = M)) : Cl l G d mX9_soonFrom [vR (some (10, 0)), vI x1] M r M' := by
  show Ex l G d mX9_soonFrom 0 [some (vR (some (10, 0))), some (vI x1)] [] M r M'
  obtain ⟨o_1, h⟩ := h
  refine r_aload_n 1 dX9_soonFrom_0 rfl rfl ?_
  refine g_R 4 dX9_soonFrom_1 rfl rfl rfl fr_9_24 (sh_9_4 hS) ?_
  refine r_iload_n 5 dX9_soonFrom_4 rfl rfl ?_
  refine a_I 488 6 dX9_soonFrom_5 rfl rfl rfl rfl o_1 rfl ?_
  refine r_sipush 9 dX9_soonFrom_6 rfl rfl ?_
  obtain ⟨h0, h⟩ := h
  have hJ_2 : Ex l G d mX9_soonFrom 23 [some (vR (some (10, 0))), some (vI x1)] [vI (if (M.1 44 0 x1.toNat) = 1000 then (-2) else (M.1 44 0 x1.toNat) : Int)] M r M' := by
    exact r_iret dX9_soonFrom_23 rfl (.inl rfl) h.1 h.2
  have h := h0
  refine r_icmp_ne 12 17 dX9_soonFrom_9 rfl rfl (fun c => ?_) (fun c => ?_)
  · have c_3 := c
    have h := h c_3
    have o_4 := h
    refine r_aload_n 18 dX9_soonFrom_17 rfl rfl ?_
    refine g_R 21 dX9_soonFrom_18 rfl rfl rfl fr_9_24 (sh_9_4 hS) ?_
    refine r_iload_n 22 dX9_soonFrom_21 rfl rfl ?_
    refine a_I 488 23 dX9_soonFrom_22 rfl rfl rfl rfl o_4 rfl ?_
    exact (Ex.at hJ_2 rfl (show [vI (M.1 44 0 x1.toNat)] = [vI (if (M.1 44 0 x1.toNat) = 1000 then (-2) else (M.1 44 0 x1.toNat) : Int)] by simp only [if_neg c_3]) rfl)
  · have c_3 := Decidable.not_not.mp c
    refine r_bipush 14 dX9_soonFrom_12 rfl rfl ?_
    refine r_goto 23 dX9_soonFrom_14 rfl ?_
    exact (Ex.at hJ_2 rfl (show [vI (-2)] = [vI (if (M.1 44 0 x1.toNat) = 1000 then (-2) else (M.1 44 0 x1.toNat) : Int)] by simp only [if_pos c_3]) rfl)

set_option maxRecDepth 4000 in
theorem xX11_sure_0 {l : Launch} {G : Gt} {d : Nat} {M M' : Mem} {r : Option Vl} {x1 : Int} {x2 : Int} {x3 : Int} {x4 : Int} {x5 : Int} {x6 : Int} (h : 
    ∃ (o_3 : Option Nm) (M_1 : Mem), Cl l G (d + 1) mX11_coverOf [vR (some (2, 0)), vI x2] M (some (vR o_3)) M_1 ∧ Sh M_1.2.1 ∧ ((o_3 = none → r = some (vI (-1)) ∧ M' = M_1) ∧ (¬ (o_3 = none) → (¬ ((0 ≤ x1 ∧ x1 < (M_1.1 4 0 0)) ∧ (0 ≤ x3 ∧ x3 < (M_1.1 4 0 0)) ∧ ¬ x1 = x3) → r = some (vI (-1)) ∧ M' = M_1) ∧ ((0 ≤ x1 ∧ x1 < (M_1.1 4 0 0)) ∧ (0 ≤ x3 ∧ x3 < (M_1.1 4 0 0)) ∧ ¬ x1 = x3 → (¬ (0 ≤ x4 ∧ x4 < 8) → r = some (vI (-1)) ∧ M' = M_1) ∧ (0 ≤ x4 ∧ x4 < 8 → (0 ≤ x5 ∧ x5 ≤ 999 → (x6 < 0 → r = some (vI (-1)) ∧ M' = M_1) ∧ (¬ (x6 < 0) → (x6 ≤ 1 → ∃ k_4 : Nat, o_3 = some (13, k_4) ∧ (∃ (M_6 : Mem), Cl l G (d + 1) mX5_begin [vR (some (5, 8)), vR (some (13, k_4)), vI x1, vI x3, vI x4, vI x5] M_1 none M_6 ∧ Sh M_6.2.1 ∧ (∃ (M_8 : Mem), Cl l G (d + 1) mX9_spread [vR (some (10, 0)), vR (some (5, 8)), vR (some (9, 0)), vR (some (34, 0))] M_6 none M_8 ∧ Sh M_8.2.1 ∧ (∃ (M_10 : Mem), Cl l G (d + 1) mX9_judge [vR (some (10, 0)), vI x3, vR (some (34, 0))] M_8 none M_10 ∧ Sh M_10.2.1 ∧ ((¬ (x6 = 0) → ∃ (r_14 : Int) (M_12 : Mem), Cl l G (d + 1) mX9_soonFrom [vR (some (10, 0)), vI x4] M_10 (some (vI r_14)) M_12 ∧ r = some (vI r_14) ∧ M' = M_12) ∧ (x6 = 0 → ∃ (r_17 : Int) (M_15 : Mem), Cl l G (d + 1) mX9_sureFrom [vR (some (10, 0)), vI x4] M_10 (some (vI r_17)) M_15 ∧ r = some (vI r_17) ∧ M' = M_15)))))) ∧ (¬ (x6 ≤ 1) → r = some (vI (-1)) ∧ M' = M_1))) ∧ (¬ (0 ≤ x5 ∧ x5 ≤ 999) → r = some (vI (-1)) ∧ M' = M_1)))))) : Cl l G (d + 2) mX11_sure [vR (some (2, 0)), vI x1, vI x2, vI x3, vI x4, vI x5, vI x6] M r M' := by
  show Ex l G (d + 2) mX11_sure 0 [some (vR (some (2, 0))), some (vI x1), some (vI x2), some (vI x3), some (vI x4), some (vI x5), some (vI x6), none] [] M r M'
  refine r_aload_n 1 dX11_sure_0 rfl rfl ?_
  refine r_iload_n 2 dX11_sure_1 rfl rfl ?_
  obtain ⟨o_3, M_1, hc_2, hS, h⟩ := h
  refine v_1 (ci := 11) (C := (RX11, TX11, 16)) [vI x2] [] 5 dX11_sure_2 rfl rfl rfl rfl rfl mo_X11_coverOf ml_11_187 rfl rfl hc_2 ?_
  refine r_astore (ls' := [some (vR (some (2, 0))), some (vI x1), some (vI x2), some (vI x3), some (vI x4), some (vI x5), some (vI x6), some (vR o_3)]) 7 dX11_sure_5 rfl rfl rfl rfl ?_
  refine r_aload 9 dX11_sure_7 rfl rfl ?_
  refine r_ifnull 12 37 dX11_sure_9 rfl rfl (fun c => ?_) (fun c => ?_)
  · have h := h.1 (c)
    refine r_iconst 38 dX11_sure_37 rfl (InR_of rfl) ?_
    exact r_iret dX11_sure_38 rfl (.inl rfl) h.1 h.2
  · have h := h.2 (c)
    refine r_aload_n 13 dX11_sure_12 rfl rfl ?_
    refine r_iload_n 14 dX11_sure_13 rfl rfl ?_
    refine r_iload_n 15 dX11_sure_14 rfl rfl ?_
    refine v_1 (ci := 11) (C := (RX11, TX11, 16)) [vI x1, vI x3] [] 18 dX11_sure_15 rfl rfl rfl rfl rfl mo_X11_areTwo ml_11_130 rfl rfl (KX11_areTwo hS) ?_
    refine r_if_eq 21 37 dX11_sure_18 rfl rfl (fun c => ?_) (fun c => ?_)
    · have h := h.1 (b2_0.mp c)
      refine r_iconst 38 dX11_sure_37 rfl (InR_of rfl) ?_
      exact r_iret dX11_sure_38 rfl (.inl rfl) h.1 h.2
    · have h := h.2 (b2_1.mp c)
      refine r_iload 23 dX11_sure_21 rfl rfl ?_
      refine c_1 [vI x4] [] 26 dX11_sure_23 rfl rfl mo_X11_isPlace ml_11_96 rfl rfl (KX11_isPlace) ?_
      refine r_if_eq 29 37 dX11_sure_26 rfl rfl (fun c => ?_) (fun c => ?_)
      · have h := h.1 (b2_0.mp c)
        refine r_iconst 38 dX11_sure_37 rfl (InR_of rfl) ?_
        exact r_iret dX11_sure_38 rfl (.inl rfl) h.1 h.2
      · have h := h.2 (b2_1.mp c)
        refine r_iload 31 dX11_sure_29 rfl rfl ?_
        refine c_1 [vI x5] [] 34 dX11_sure_31 rfl rfl mo_X11_isDay ml_11_124 rfl rfl (KX11_isDay) ?_
        refine r_if_ne 37 39 dX11_sure_34 rfl rfl (fun c => ?_) (fun c => ?_)
        · have h := h.1 (b2_1.mp c)
          refine r_iload 41 dX11_sure_39 rfl rfl ?_
          refine r_if_lt 44 50 dX11_sure_41 rfl rfl (fun c => ?_) (fun c => ?_)
          · have h := h.1 (c)
            refine r_iconst 51 dX11_sure_50 rfl (InR_of rfl) ?_
            exact r_iret dX11_sure_51 rfl (.inl rfl) h.1 h.2
          · have h := h.2 (c)
            refine r_iload 46 dX11_sure_44 rfl rfl ?_
            refine r_iconst 47 dX11_sure_46 rfl (InR_of rfl) ?_
            refine r_icmp_le 50 52 dX11_sure_47 rfl rfl (fun c => ?_) (fun c => ?_)
            · have h := h.1 (c)
              refine r_aload_n 53 dX11_sure_52 rfl rfl ?_
              refine g_R 56 dX11_sure_53 rfl rfl rfl fr_11_72 (sh_11_8 hS) ?_
              refine r_aload 58 dX11_sure_56 rfl rfl ?_
              refine r_iload_n 59 dX11_sure_58 rfl rfl ?_
              refine r_iload_n 60 dX11_sure_59 rfl rfl ?_
              refine r_iload 62 dX11_sure_60 rfl rfl ?_
              refine r_iload 64 dX11_sure_62 rfl rfl ?_
              obtain ⟨k_4, e_5, h⟩ := h
              refine Ex.at (st2 := [vI x5, vI x4, vI x3, vI x1, vR (some (13, k_4)), vR (some (5, 8))]) ?_ rfl (show [vI x5, vI x4, vI x3, vI x1, vR o_3, vR (some (5, 8))] = [vI x5, vI x4, vI x3, vI x1, vR (some (13, k_4)), vR (some (5, 8))] by rw [e_5]) rfl
              obtain ⟨M_6, hc_7, hS, h⟩ := h
              refine v_0 (ci := 5) (C := (RX5, TX5, 12)) [vR (some (13, k_4)), vI x1, vI x3, vI x4, vI x5] [] 67 dX11_sure_64 rfl rfl rfl rfl rfl mo_X5_begin ml_11_234 rfl rfl hc_7 ?_
              refine r_aload_n 68 dX11_sure_67 rfl rfl ?_
              refine g_R 71 dX11_sure_68 rfl rfl rfl fr_11_51 (sh_11_5 hS) ?_
              refine r_aload_n 72 dX11_sure_71 rfl rfl ?_
              refine g_R 75 dX11_sure_72 rfl rfl rfl fr_11_72 (sh_11_8 hS) ?_
              refine r_aload_n 76 dX11_sure_75 rfl rfl ?_
              refine g_R 79 dX11_sure_76 rfl rfl rfl fr_11_44 (sh_11_4 hS) ?_
              refine r_aload_n 80 dX11_sure_79 rfl rfl ?_
              refine g_R 83 dX11_sure_80 rfl rfl rfl fr_11_12 (sh_11_0 hS) ?_
              refine g_R 86 dX11_sure_83 rfl rfl rfl fr_11_104 (sh_8_3 hS _) ?_
              obtain ⟨M_8, hc_9, hS, h⟩ := h
              refine v_0 (ci := 9) (C := (RX9, TX9, 5)) [vR (some (5, 8)), vR (some (9, 0)), vR (some (34, 0))] [] 89 dX11_sure_86 rfl rfl rfl rfl rfl mo_X9_spread ml_11_262 rfl rfl hc_9 ?_
              refine r_aload_n 90 dX11_sure_89 rfl rfl ?_
              refine g_R 93 dX11_sure_90 rfl rfl rfl fr_11_51 (sh_11_5 hS) ?_
              refine r_iload_n 94 dX11_sure_93 rfl rfl ?_
              refine r_aload_n 95 dX11_sure_94 rfl rfl ?_
              refine g_R 98 dX11_sure_95 rfl rfl rfl fr_11_12 (sh_11_0 hS) ?_
              refine g_R 101 dX11_sure_98 rfl rfl rfl fr_11_104 (sh_8_3 hS _) ?_
              obtain ⟨M_10, hc_11, hS, h⟩ := h
              refine v_0 (ci := 9) (C := (RX9, TX9, 5)) [vI x3, vR (some (34, 0))] [] 104 dX11_sure_101 rfl rfl rfl rfl rfl mo_X9_judge ml_11_266 rfl rfl hc_11 ?_
              refine r_iload 106 dX11_sure_104 rfl rfl ?_
              refine r_if_ne 109 121 dX11_sure_106 rfl rfl (fun c => ?_) (fun c => ?_)
              · have h := h.1 (c)
                refine r_aload_n 122 dX11_sure_121 rfl rfl ?_
                refine g_R 125 dX11_sure_122 rfl rfl rfl fr_11_51 (sh_11_5 hS) ?_
                refine r_iload 127 dX11_sure_125 rfl rfl ?_
                obtain ⟨r_14, M_12, hc_13, h⟩ := h
                refine v_1 (ci := 9) (C := (RX9, TX9, 5)) [vI x4] [] 130 dX11_sure_127 rfl rfl rfl rfl rfl mo_X9_soonFrom ml_11_273 rfl rfl hc_13 ?_
                exact r_iret dX11_sure_130 rfl (.inl rfl) h.1 h.2
              · have h := h.2 (Decidable.not_not.mp c)
                refine r_aload_n 110 dX11_sure_109 rfl rfl ?_
                refine g_R 113 dX11_sure_110 rfl rfl rfl fr_11_51 (sh_11_5 hS) ?_
                refine r_iload 115 dX11_sure_113 rfl rfl ?_
                obtain ⟨r_17, M_15, hc_16, h⟩ := h
                refine v_1 (ci := 9) (C := (RX9, TX9, 5)) [vI x4] [] 118 dX11_sure_115 rfl rfl rfl rfl rfl mo_X9_sureFrom ml_11_270 rfl rfl hc_16 ?_
                refine r_goto 130 dX11_sure_118 rfl ?_
                exact r_iret dX11_sure_130 rfl (.inl rfl) h.1 h.2
            · have h := h.2 (c)
              refine r_iconst 51 dX11_sure_50 rfl (InR_of rfl) ?_
              exact r_iret dX11_sure_51 rfl (.inl rfl) h.1 h.2
        · have h := h.2 (b2_0.mp (Decidable.not_not.mp c))
          refine r_iconst 38 dX11_sure_37 rfl (InR_of rfl) ?_
          exact r_iret dX11_sure_38 rfl (.inl rfl) h.1 h.2

def SJ (I : IM) (a p : Nat) : Int := if tb (I 43 0 a) (p : Int) = true then 1 else 0
def TJ (I : IM) (a p : Nat) : Int := if I 44 0 (8 * a + p) = 1000 then -2 else I 44 0 (8 * a + p)
def miU (E : Int → Prop) (u : Int) : Prop := (u = 1000 ∧ ∀ x, ¬ E x) ∨ (E u ∧ ∀ x, E x → u ≤ x)
def jF (I : IM) : Prop := (∀ i, i < 61 → ∃ f, I 43 0 i = bI 8 f) ∧ ∀ i, i < 488 → (0 ≤ I 44 0 i ∧ I 44 0 i ≤ 60) ∨ I 44 0 i = 1000
theorem SJ_01 {I : IM} {a p : Nat} : SJ I a p = 0 ∨ SJ I a p = 1 := by unfold SJ; split <;> omega
section JA
variable {l : Launch} {G : Gt} {d : Nat} {Q : QT} {M : Mem}
theorem miU_or {E : Int → Prop} {u w : Int} (hE : ∀ x, E x → 0 ≤ x ∧ x ≤ 60) (h : miU E u) (hw : (0 ≤ w ∧ w ≤ 60) ∨ w = 1000) : miU (fun x => E x ∨ (x = (if w = 1000 then -2 else w) ∧ 0 ≤ x)) (if w < u then w else u) := by
  rcases h with ⟨h1, h2⟩ | ⟨h1, h2⟩
  · by_cases c : w = 1000
    · rw [if_neg (show ¬ w < u by omega)]
      exact .inl ⟨h1, fun x y => y.elim (h2 x) fun z => by rw [if_pos c] at z; omega⟩
    · rw [if_pos (show w < u by omega)]
      exact .inr ⟨.inr ⟨by rw [if_neg c], by omega⟩, fun x y => y.elim (fun z => absurd z (h2 x)) fun z => by rw [if_neg c] at z; omega⟩
  · have hu := hE u h1
    by_cases c : w < u
    · rw [if_pos c]
      exact .inr ⟨.inr ⟨by rw [if_neg (show ¬ w = 1000 by omega)], by omega⟩, fun x y => y.elim (fun z => by have := h2 x z; omega) fun z => by rw [if_neg (show ¬ w = 1000 by omega)] at z; omega⟩
    · rw [if_neg c]
      refine .inr ⟨.inl h1, fun x y => y.elim (h2 x) fun z => ?_⟩
      by_cases c2 : w = 1000
      · rw [if_pos c2] at z; omega
      · rw [if_neg c2] at z; omega
theorem miU_T {E : Int → Prop} {u : Int} (hE : ∀ x, E x → 0 ≤ x ∧ x ≤ 60) (h : miU E u) : miT E (if u = 1000 then -2 else u) ∧ ((0 ≤ u ∧ u ≤ 60) ∨ u = 1000) := by
  rcases h with ⟨h1, h2⟩ | ⟨h1, h2⟩
  · rw [if_pos h1]; exact ⟨.inl ⟨rfl, h2⟩, .inr h1⟩
  · have hu := hE u h1
    rw [if_neg (by omega)]
    exact ⟨.inr ⟨h1, h2⟩, .inl hu⟩
theorem KX9_judgeAt {a p who : Nat} {o t : Nat → Bool} {O N : Nat → Prop} (hR : RelB Q M) (hw : WFr Q) (ha : a ≤ 60) (hp : p < 8) (hwho : who < nPp Q) (h12 : nPp Q ≤ 12) (e1 : M.1 41 0 (8 * a + p) = bI 12 o) (e2 : M.1 42 0 (8 * a + p) = bI 8 t) (ho : ∀ q, q < 12 → (o q = true ↔ O q)) (hO : ∀ q, O q → q < nPp Q) (ht : ∀ v, v < 8 → (t v = true ↔ N v)) (hrd : ∀ v : Nat, v < 8 → N v → 1 ≤ rd Q (p : Int) (v : Int)) (hF : jF M.1) (hno : tb (M.1 43 0 a) (p : Int) = false) :
    ∃ I', Cl l G (d + 1) mX9_judgeAt [vR (some (10, 0)), vI (a : Int), vI (p : Int), vI (who : Int), vR (some (34, 0))] M none (I', M.2.1, M.2.2) ∧ (∀ f k i, ¬ ((f = 43 ∨ f = 44) ∧ k = 0) → I' f k i = M.1 f k i) ∧ jF I' ∧ (SJ I' a p = 1 ↔ gdS Q O N (who : Int) (SJ M.1) a p) ∧ miT (elT Q O N (who : Int) (TJ M.1) a p) (TJ I' a p) ∧ ∀ a' p', ¬ (a' = a ∧ p' = p) → p' < 8 → SJ I' a' p' = SJ M.1 a' p' ∧ TJ I' a' p' = TJ M.1 a' p' := by
  have nO : 0 ≤ bI 12 o := bI_nn
  have nN : 0 ≤ bI 8 t := bI_nn
  have ei : ((a : Int) * 8 + (p : Int)).toNat = 8 * a + p := by omega
  have key : ∀ n v : Nat, n + v = 8 → ∀ x6 x7 : Int, (x6 = 0 ∨ x6 = 1) → (x6 = 1 ↔ (((∃ q, q < nPp Q ∧ O q) ∨ ∃ v, v < 8 ∧ N v) ∧ (∀ q, q < nPp Q → O q → (q : Int) = (who : Int)) ∧ ∀ v' : Nat, v' < v → N v' → (a : Int) + rd Q (p : Int) (v' : Int) ≤ 60 ∧ SJ M.1 (a + (rd Q (p : Int) (v' : Int)).toNat) v' = 1)) → miU (fun x => (x = (a : Int) ∧ ∃ q, q < nPp Q ∧ O q ∧ (q : Int) = (who : Int)) ∨ ∃ v' : Nat, v' < v ∧ N v' ∧ (a : Int) + rd Q (p : Int) (v' : Int) ≤ 60 ∧ x = TJ M.1 (a + (rd Q (p : Int) (v' : Int)).toNat) v' ∧ 0 ≤ x) x7 → ∃ x6' x7' : Int, (x6' = 0 ∨ x6' = 1) ∧ (x6' = 1 ↔ gdS Q O N (who : Int) (SJ M.1) a p) ∧ miU (elT Q O N (who : Int) (TJ M.1) a p) x7' ∧ ∀ M', M' = (upI (upI M.1 44 0 (8 * a + p) x7') 43 0 a (aOr (M.1 43 0 a) (if x6' = 0 then 0 else aShl 1 (p : Int) : Int)), M.2.1, M.2.2) → Ex l G (d + 1) mX9_judgeAt 75 [some (vR (some (10, 0))), some (vI (a : Int)), some (vI (p : Int)), some (vI (who : Int)), some (vR (some (34, 0))), some (vI ((a : Int) * 8 + (p : Int))), some (vI x6), some (vI x7), some (vI (v : Int)), none] [] M none M' := by
    intro n
    induction n with
    | zero =>
      intro v hv x6 x7 h6 h6' h7
      have ev : v = 8 := by omega
      subst ev
      refine ⟨x6, x7, h6, h6', h7, fun M' hM' => xX9_judgeAt_75 hR.1.1 ?_⟩
      rw [ei, Int.toNat_natCast, hM']
      exact ⟨fun _ => ⟨⟨by omega, by omega⟩, fun _ => by omega, by omega, rfl, rfl⟩, fun c => absurd (by omega) c⟩
    | succ n ih =>
      intro v hv x6 x7 h6 h6' h7
      have er : M.1 34 0 ((p : Int) * 8 + (v : Int)).toNat = rd Q (p : Int) (v : Int) := by
        rw [show ((p : Int) * 8 + (v : Int)).toNat = 8 * p + v by omega]
        exact hR.2.2 p v hp (by omega)
      have hr := rd_in hw (p : Int) (v : Int)
      have tv : tb (bI 8 t) (v : Int) = t v := by rw [tb_bI (by omega)]; simp [show v < 8 by omega]
      have hE : ∀ x, ((x = (a : Int) ∧ ∃ q, q < nPp Q ∧ O q ∧ (q : Int) = (who : Int)) ∨ ∃ v' : Nat, v' < v ∧ N v' ∧ (a : Int) + rd Q (p : Int) (v' : Int) ≤ 60 ∧ x = TJ M.1 (a + (rd Q (p : Int) (v' : Int)).toNat) v' ∧ 0 ≤ x) → 0 ≤ x ∧ x ≤ 60 := by
        rintro x (⟨h, _⟩ | ⟨v', hv', hn, h60, hx, h0⟩)
        · omega
        · refine ⟨h0, ?_⟩
          have := hF.2 (8 * (a + (rd Q (p : Int) (v' : Int)).toNat) + v') (by have := rd_in hw (p : Int) (v' : Int); omega)
          unfold TJ at hx
          split at hx <;> omega
      by_cases cN : N v
      · have etv := (ht v (by omega)).mpr cN
        have h1 := hrd v (by omega) cN
        have ec : ((a : Int) + rd Q (p : Int) (v : Int)).toNat = a + (rd Q (p : Int) (v : Int)).toNat := by omega
        by_cases c60 : 61 ≤ (a : Int) + rd Q (p : Int) (v : Int)
        · obtain ⟨y6, y7, z1, z2, z3, z4⟩ := ih (v + 1) (by omega) 0 x7 (.inl rfl) ⟨fun h => by omega, fun ⟨_, _, h⟩ => by have := (h v (by omega) cN).1; omega⟩ (by
            have e : (fun x => (x = (a : Int) ∧ ∃ q, q < nPp Q ∧ O q ∧ (q : Int) = (who : Int)) ∨ ∃ v' : Nat, v' < v + 1 ∧ N v' ∧ (a : Int) + rd Q (p : Int) (v' : Int) ≤ 60 ∧ x = TJ M.1 (a + (rd Q (p : Int) (v' : Int)).toNat) v' ∧ 0 ≤ x) = (fun x => (x = (a : Int) ∧ ∃ q, q < nPp Q ∧ O q ∧ (q : Int) = (who : Int)) ∨ ∃ v' : Nat, v' < v ∧ N v' ∧ (a : Int) + rd Q (p : Int) (v' : Int) ≤ 60 ∧ x = TJ M.1 (a + (rd Q (p : Int) (v' : Int)).toNat) v' ∧ 0 ≤ x) := funext fun x => propext ⟨fun y => y.elim .inl fun ⟨v', a1, a2, a3, a4⟩ => .inr ⟨v', by
                by_cases e : v' = v
                · rw [e] at a3; omega
                · omega, a2, a3, a4⟩, fun y => y.elim .inl fun ⟨v', a1, a2⟩ => .inr ⟨v', by omega, a2⟩⟩
            rw [e]
            exact h7)
          refine ⟨y6, y7, z1, z2, z3, fun M' hM' => xX9_judgeAt_75 hR.1.1 ?_⟩
          have t1 : tb (M.1 42 0 ((a : Int) * 8 + (p : Int)).toNat) (v : Int) = true := by rw [ei, e2, tv]; exact etv
          have n1 : 0 ≤ M.1 42 0 ((a : Int) * 8 + (p : Int)).toNat := by rw [ei, e2]; exact nN
          rw [er, if_pos t1, if_pos t1, if_pos c60, if_pos c60]
          have e0 : (if x6 = 0 then 0 else 0 : Int) = 0 := by split <;> rfl
          rw [e0]
          exact ⟨fun c => by omega, fun _ => ⟨⟨by omega, n1, by omega, by omega⟩, fun _ => ⟨⟨by unfold InR; omega, by unfold InR; omega, by omega, by unfold InR; omega⟩, fun _ c => absurd c60 c, fun _ => ⟨fun _ c => absurd c60 c, fun c => absurd c60 c⟩⟩, by unfold InR; omega, z4 M' hM'⟩⟩
        · have eI : (((a : Int) + rd Q (p : Int) (v : Int)) * 8 + (v : Int)).toNat = 8 * (a + (rd Q (p : Int) (v : Int)).toNat) + v := by omega
          have hs := hF.2 (8 * (a + (rd Q (p : Int) (v : Int)).toNat) + v) (by omega)
          obtain ⟨fs, hfs⟩ := hF.1 (a + (rd Q (p : Int) (v : Int)).toNat) (by omega)
          have nS : 0 ≤ M.1 43 0 (a + (rd Q (p : Int) (v : Int)).toNat) := by rw [hfs]; exact bI_nn
          obtain ⟨y6, y7, z1, z2, z3, z4⟩ := ih (v + 1) (by omega) (if x6 = 0 then 0 else (if tb (M.1 43 0 (a + (rd Q (p : Int) (v : Int)).toNat)) (v : Int) = true then 1 else 0 : Int) : Int) (if M.1 44 0 (8 * (a + (rd Q (p : Int) (v : Int)).toNat) + v) < x7 then M.1 44 0 (8 * (a + (rd Q (p : Int) (v : Int)).toNat) + v) else x7) (by (repeat' split) <;> omega) (by
            have eSJ : (if tb (M.1 43 0 (a + (rd Q (p : Int) (v : Int)).toNat)) (v : Int) = true then 1 else 0 : Int) = SJ M.1 (a + (rd Q (p : Int) (v : Int)).toNat) v := rfl
            rw [eSJ]
            have h01 := SJ_01 (I := M.1) (a := a + (rd Q (p : Int) (v : Int)).toNat) (p := v)
            by_cases c6 : x6 = 0
            · rw [if_pos c6]
              refine ⟨fun h => by omega, fun ⟨g1, g2, g3⟩ => ?_⟩
              have := h6'.mpr ⟨g1, g2, fun v' hv' hn => g3 v' (by omega) hn⟩
              omega
            · rw [if_neg c6]
              obtain ⟨g1, g2, g3⟩ := h6'.mp (by omega)
              refine ⟨fun h => ⟨g1, g2, fun v' hv' hn => ?_⟩, fun ⟨_, _, h⟩ => (h v (by omega) cN).2⟩
              by_cases e : v' = v
              · subst e; exact ⟨by omega, h⟩
              · exact g3 v' (by omega) hn) (by
            have e : (fun x => (x = (a : Int) ∧ ∃ q, q < nPp Q ∧ O q ∧ (q : Int) = (who : Int)) ∨ ∃ v' : Nat, v' < v + 1 ∧ N v' ∧ (a : Int) + rd Q (p : Int) (v' : Int) ≤ 60 ∧ x = TJ M.1 (a + (rd Q (p : Int) (v' : Int)).toNat) v' ∧ 0 ≤ x) = (fun x => ((x = (a : Int) ∧ ∃ q, q < nPp Q ∧ O q ∧ (q : Int) = (who : Int)) ∨ ∃ v' : Nat, v' < v ∧ N v' ∧ (a : Int) + rd Q (p : Int) (v' : Int) ≤ 60 ∧ x = TJ M.1 (a + (rd Q (p : Int) (v' : Int)).toNat) v' ∧ 0 ≤ x) ∨ (x = (if M.1 44 0 (8 * (a + (rd Q (p : Int) (v : Int)).toNat) + v) = 1000 then -2 else M.1 44 0 (8 * (a + (rd Q (p : Int) (v : Int)).toNat) + v)) ∧ 0 ≤ x)) := funext fun x => propext (by
              constructor
              · rintro (y | ⟨v', a1, a2, a3, a4, a5⟩)
                · exact .inl (.inl y)
                · by_cases e : v' = v
                  · subst e; exact .inr ⟨a4, a5⟩
                  · exact .inl (.inr ⟨v', by omega, a2, a3, a4, a5⟩)
              · rintro ((y | ⟨v', a1, a2⟩) | ⟨a4, a5⟩)
                · exact .inl y
                · exact .inr ⟨v', by omega, a2⟩
                · exact .inr ⟨v, by omega, cN, by omega, a4, a5⟩)
            rw [e]
            exact miU_or hE h7 hs)
          refine ⟨y6, y7, z1, z2, z3, fun M' hM' => xX9_judgeAt_75 hR.1.1 ?_⟩
          have t1 : tb (M.1 42 0 ((a : Int) * 8 + (p : Int)).toNat) (v : Int) = true := by rw [ei, e2, tv]; exact etv
          have n1 : 0 ≤ M.1 42 0 ((a : Int) * 8 + (p : Int)).toNat := by rw [ei, e2]; exact nN
          rw [er, if_pos t1, if_pos t1, if_neg c60, if_neg c60, ec, eI]
          have hb : InR (((a : Int) + rd Q (p : Int) (v : Int)) * 8) ∧ InR (((a : Int) + rd Q (p : Int) (v : Int)) * 8 + (v : Int)) ∧ 0 ≤ ((a : Int) + rd Q (p : Int) (v : Int)) * 8 + (v : Int) ∧ ((a : Int) + rd Q (p : Int) (v : Int)) * 8 + (v : Int) < 488 := ⟨by unfold InR; omega, by unfold InR; omega, by omega⟩
          exact ⟨fun c => by omega, fun _ => ⟨⟨by omega, n1, by omega, by omega⟩, fun _ => ⟨⟨by unfold InR; omega, by unfold InR; omega, by omega, by unfold InR; omega⟩, fun _ _ => hb, fun _ => ⟨fun _ _ => hb, fun _ => ⟨⟨by omega, nS, by omega, by omega⟩, fun _ _ => hb, fun _ _ => hb⟩⟩⟩, by unfold InR; omega, z4 M' hM'⟩⟩
      · have t1 : ¬ tb (M.1 42 0 ((a : Int) * 8 + (p : Int)).toNat) (v : Int) = true := by
          rw [ei, e2, tv]
          exact fun h => cN ((ht v (by omega)).mp h)
        have n1 : 0 ≤ M.1 42 0 ((a : Int) * 8 + (p : Int)).toNat := by rw [ei, e2]; exact nN
        obtain ⟨y6, y7, z1, z2, z3, z4⟩ := ih (v + 1) (by omega) x6 x7 h6 (h6'.trans ⟨fun ⟨g1, g2, g3⟩ => ⟨g1, g2, fun v' hv' hn => by
            by_cases e : v' = v
            · rw [e] at hn; exact absurd hn cN
            · exact g3 v' (by omega) hn⟩, fun ⟨g1, g2, g3⟩ => ⟨g1, g2, fun v' hv' hn => g3 v' (by omega) hn⟩⟩) (by
          have e : (fun x => (x = (a : Int) ∧ ∃ q, q < nPp Q ∧ O q ∧ (q : Int) = (who : Int)) ∨ ∃ v' : Nat, v' < v + 1 ∧ N v' ∧ (a : Int) + rd Q (p : Int) (v' : Int) ≤ 60 ∧ x = TJ M.1 (a + (rd Q (p : Int) (v' : Int)).toNat) v' ∧ 0 ≤ x) = (fun x => (x = (a : Int) ∧ ∃ q, q < nPp Q ∧ O q ∧ (q : Int) = (who : Int)) ∨ ∃ v' : Nat, v' < v ∧ N v' ∧ (a : Int) + rd Q (p : Int) (v' : Int) ≤ 60 ∧ x = TJ M.1 (a + (rd Q (p : Int) (v' : Int)).toNat) v' ∧ 0 ≤ x) := funext fun x => propext ⟨fun y => y.elim .inl fun ⟨v', a1, a2, a3, a4⟩ => .inr ⟨v', by
              by_cases e : v' = v
              · rw [e] at a2; exact absurd a2 cN
              · omega, a2, a3, a4⟩, fun y => y.elim .inl fun ⟨v', a1, a2⟩ => .inr ⟨v', by omega, a2⟩⟩
          rw [e]
          exact h7)
        refine ⟨y6, y7, z1, z2, z3, fun M' hM' => xX9_judgeAt_75 hR.1.1 ?_⟩
        rw [if_neg t1, if_neg t1]
        exact ⟨fun c => by omega, fun _ => ⟨⟨by omega, n1, by omega, by omega⟩, fun c => absurd c t1, by unfold InR; omega, z4 M' hM'⟩⟩
  have hall : aOr (bI 12 o) (bI 8 t) = 0 ↔ ¬ ((∃ q, q < nPp Q ∧ O q) ∨ ∃ v, v < 8 ∧ N v) := by
    rw [bI_or0]
    constructor
    · rintro ⟨h1, h2⟩ (⟨q, hq, x⟩ | ⟨v, hv, x⟩)
      · have := (ho q (by omega)).mpr x
        rw [h1 q (by omega)] at this; cases this
      · have := (ht v hv).mpr x
        rw [h2 v hv] at this; cases this
    · intro h
      refine ⟨fun q hq => ?_, fun v hv => ?_⟩
      · cases e : o q with
        | false => rfl
        | true => have := (ho q hq).mp e; exact absurd (.inl ⟨q, hO q this, this⟩) h
      · cases e : t v with
        | false => rfl
        | true => exact absurd (.inr ⟨v, hv, (ht v hv).mp e⟩) h
  have hone : aAnd (bI 12 o) (aXor (aShl 1 (who : Int)) (-1)) = 0 ↔ ∀ q, q < nPp Q → O q → (q : Int) = (who : Int) := by
    rw [bI_one (n := 12) (by omega) (by omega), bI_diff (by omega), bI_zero_iff (by omega)]
    constructor
    · intro h q hq x
      have := h q (by omega)
      rw [(ho q (by omega)).mpr x] at this
      simp at this
      omega
    · intro h q hq
      cases e : o q with
      | false => rfl
      | true =>
        have x := (ho q hq).mp e
        have := h q (hO q x) x
        simp
        omega
  have two : tb (bI 12 o) (who : Int) = o who := by rw [tb_bI (by omega)]; simp [show who < 12 by omega]
  obtain ⟨x6, x7, z1, z2, z3, z4⟩ := key 8 0 rfl (if aOr (bI 12 o) (bI 8 t) = 0 then 0 else (if aAnd (bI 12 o) (aXor (aShl 1 (who : Int)) (-1)) = 0 then 1 else 0 : Int) : Int) (if tb (bI 12 o) (who : Int) = true then (a : Int) else 1000 : Int) (by (repeat' split) <;> omega) (by
    by_cases c1 : aOr (bI 12 o) (bI 8 t) = 0
    · rw [if_pos c1]
      exact ⟨fun h => by omega, fun h => absurd h.1 (hall.mp c1)⟩
    · rw [if_neg c1]
      have hyes : (∃ q, q < nPp Q ∧ O q) ∨ ∃ v, v < 8 ∧ N v := by
        by_cases ex : (∃ q, q < nPp Q ∧ O q) ∨ ∃ v, v < 8 ∧ N v
        · exact ex
        · exact absurd (hall.mpr ex) c1
      by_cases c2 : aAnd (bI 12 o) (aXor (aShl 1 (who : Int)) (-1)) = 0
      · rw [if_pos c2]
        exact ⟨fun _ => ⟨hyes, hone.mp c2, fun v' hv' => by omega⟩, fun _ => rfl⟩
      · rw [if_neg c2]
        exact ⟨fun h => by omega, fun h => absurd (hone.mpr h.2.1) c2⟩) (by
    by_cases c : tb (bI 12 o) (who : Int) = true
    · rw [if_pos c]
      rw [two] at c
      exact .inr ⟨.inl ⟨rfl, who, hwho, (ho who (by omega)).mp c, rfl⟩, fun x y => y.elim (fun z => by omega) fun ⟨v', h, _⟩ => by omega⟩
    · rw [if_neg c]
      rw [two] at c
      refine .inl ⟨rfl, fun x y => y.elim (fun ⟨_, q, h1, h2, h3⟩ => ?_) fun ⟨v', h, _⟩ => by omega⟩
      have eq : q = who := by omega
      rw [eq] at h2
      exact c ((ho who (by omega)).mpr h2))
  have hE : ∀ x, elT Q O N (who : Int) (TJ M.1) a p x → 0 ≤ x ∧ x ≤ 60 := by
    rintro x (⟨h, _⟩ | ⟨v', hv', hn, h60, hx, h0⟩)
    · omega
    · refine ⟨h0, ?_⟩
      have := hF.2 (8 * (a + (rd Q (p : Int) (v' : Int)).toNat) + v') (by have := rd_in hw (p : Int) (v' : Int); omega)
      unfold TJ at hx
      split at hx <;> omega
  obtain ⟨w1, w2⟩ := miU_T hE z3
  obtain ⟨fa, hfa⟩ := hF.1 a (by omega)
  have hset : aOr (M.1 43 0 a) (if x6 = 0 then 0 else aShl 1 (p : Int) : Int) = bI 8 (fun i => fa i || (decide (i = p) && decide (x6 = 1))) := by
    rcases z1 with h | h
    · rw [if_pos h, hfa, bI_zor (by omega)]
      exact bI_ext fun i _ => by simp [h]
    · rw [if_neg (by omega), bI_set hp hfa]
      exact bI_ext fun i _ => by simp [h]
  have fap : fa p = false := by rw [hfa, tb_bI (by omega)] at hno; simpa [hp] using hno
  refine ⟨upI (upI M.1 44 0 (8 * a + p) x7) 43 0 a (aOr (M.1 43 0 a) (if x6 = 0 then 0 else aShl 1 (p : Int) : Int)), xX9_judgeAt_0 hR.1.1 ?_, ?_, ⟨?_, ?_⟩, ?_, ?_, ?_⟩
  rotate_left 1
  · intro f k i hn
    rw [upI_o (fun e => hn ⟨.inl e.1, e.2⟩), upI_o (fun e => hn ⟨.inr e.1, e.2⟩)]
  · intro i hi
    by_cases e : i = a
    · rw [e, upI_s]; exact ⟨_, hset⟩
    · rw [upI_i e, upI_o (by omega)]; exact hF.1 i hi
  · intro i hi
    rw [upI_o (by omega)]
    by_cases e : i = 8 * a + p
    · rw [e, upI_s]; exact w2
    · rw [upI_i e]; exact hF.2 i hi
  · rw [← z2]
    unfold SJ
    rw [upI_s, hset, tb_bI (by omega)]
    simp [hp, fap]
  · have : TJ (upI (upI M.1 44 0 (8 * a + p) x7) 43 0 a (aOr (M.1 43 0 a) (if x6 = 0 then 0 else aShl 1 (p : Int) : Int))) a p = if x7 = 1000 then -2 else x7 := by
      unfold TJ
      rw [upI_o (show ¬ (44 = 43 ∧ 0 = 0) by omega), upI_s]
    rw [this]
    exact w1
  · intro a' p' hn hp'
    constructor
    · unfold SJ
      by_cases e : a' = a
      · rw [e, upI_s, hset, hfa, tb_bI (by omega), tb_bI (by omega)]
        simp [show ¬ p' = p by omega]
      · rw [upI_i e, upI_o (by omega)]
    · unfold TJ
      rw [upI_o (show ¬ (44 = 43 ∧ 0 = 0) by omega), upI_i (by omega)]
  · rw [ei, e1, e2]
    exact ⟨⟨by unfold InR; omega, by unfold InR; omega, by omega⟩, fun _ => ⟨by omega, by omega⟩, ⟨by omega, nO, by omega, by omega⟩, z4 _ rfl⟩
theorem rgT_new {cv s : Nat} {who day : Int} {S S' T T' : Nat → Nat → Int} {a p : Nat} (c4 : S' a p = 0 ∨ S' a p = 1) (c5 : S' a p = 1 ↔ gdS Q (opA Q cv s day a p) (ntA Q cv s day a p) who S a p) (c6 : miT (elT Q (opA Q cv s day a p) (ntA Q cv s day a p) who T a p) (T' a p)) (hn : ∀ v, v < 8 → ntA Q cv s day a p v → (a : Int) + rd Q (p : Int) (v : Int) ≤ 60 → S' (a + (rd Q (p : Int) (v : Int)).toNat) v = S (a + (rd Q (p : Int) (v : Int)).toNat) v ∧ T' (a + (rd Q (p : Int) (v : Int)).toNat) v = T (a + (rd Q (p : Int) (v : Int)).toNat) v) : rgT Q cv s who day S' T' a p := by
  refine ⟨c4, c5.trans ?_, ?_⟩
  · unfold gdS
    exact ⟨fun ⟨x, y, z⟩ => ⟨x, y, fun v hv hx => ⟨(z v hv hx).1, by rw [(hn v hv hx (z v hv hx).1).1]; exact (z v hv hx).2⟩⟩, fun ⟨x, y, z⟩ => ⟨x, y, fun v hv hx => ⟨(z v hv hx).1, by rw [← (hn v hv hx (z v hv hx).1).1]; exact (z v hv hx).2⟩⟩⟩
  · have e : elT Q (opA Q cv s day a p) (ntA Q cv s day a p) who T' a p = elT Q (opA Q cv s day a p) (ntA Q cv s day a p) who T a p := funext fun x => propext (by
      unfold elT
      exact ⟨fun y => y.elim .inl fun ⟨v, hv, hx, hr, h2, h0⟩ => .inr ⟨v, hv, hx, hr, by rw [← (hn v hv hx hr).2]; exact h2, h0⟩, fun y => y.elim .inl fun ⟨v, hv, hx, hr, h2, h0⟩ => .inr ⟨v, hv, hx, hr, by rw [(hn v hv hx hr).2]; exact h2, h0⟩⟩)
    rw [e]
    exact c6
def JdI (Q : QT) (cv s : Nat) (who day : Int) (M : Mem) (a q : Nat) (I : IM) : Prop := (∀ f k i, ¬ ((f = 43 ∨ f = 44) ∧ k = 0) → I f k i = M.1 f k i) ∧ jF I ∧ (∀ a' p' : Nat, ((a < a' ∧ a' ≤ 60) ∨ (a' = a ∧ p' < q)) → p' < 8 → tb (M.1 40 0 a') (p' : Int) = true → rgT Q cv s who day (SJ I) (TJ I) a' p') ∧ ∀ a' p' : Nat, (a' < a ∨ (a' = a ∧ q ≤ p')) → p' < 8 → tb (I 43 0 a') (p' : Int) = false
theorem judge_28 {cv s who pl a : Nat} {day : Int} {M0 : Mem} (hq : WFQ Q) (hwho : who < nPp Q) (ha : a ≤ 60) (hM : SpI Q cv s day pl M0 61 0 M) : ∀ n q : Nat, n + q = 8 → ∀ I, JdI Q cv s (who : Int) day M a q I → ∃ I', JdI Q cv s (who : Int) day M a 8 I' ∧ ∀ res M'', Ex l G (d + 2) mX9_judge 21 [some (vR (some (10, 0))), some (vI (who : Int)), some (vR (some (34, 0))), some (vI ((a : Int) + (-1))), none] [] (I', M.2.1, M.2.2) res M'' → Ex l G (d + 2) mX9_judge 28 [some (vR (some (10, 0))), some (vI (who : Int)), some (vR (some (34, 0))), some (vI (a : Int)), some (vI (q : Int))] [] (I, M.2.1, M.2.2) res M'' := by
  have h12 := nPp_le hq.1
  have hR := hM.1
  intro n
  induction n with
  | zero =>
    intro q hq8 I hI
    have eq8 : q = 8 := by omega
    subst eq8
    exact ⟨I, hI, fun res M'' hx => xX9_judge_28 hR.1.1 ⟨fun _ => ⟨by unfold InR; omega, hx⟩, fun c => absurd (by omega) c⟩⟩
  | succ n ih =>
    intro q hq8 I hI
    obtain ⟨hI1, hI2, hI3, hI4⟩ := hI
    obtain ⟨fa, hfa⟩ := hM.2.2.2.1 a (by omega)
    have er : I 40 0 (a : Int).toNat = M.1 40 0 a := by rw [Int.toNat_natCast]; exact hI1 _ _ _ (by omega)
    have nb : 0 ≤ M.1 40 0 a := by rw [hfa]; exact bI_nn
    have hle : ¬ (8 ≤ (q : Int)) := by omega
    have i1 : InR ((q : Int) + 1) := by unfold InR; omega
    have b0 : (0 ≤ (a : Int) ∧ (a : Int) < 61) ∧ (0 ≤ M.1 40 0 a ∧ 0 ≤ (q : Int) ∧ (q : Int) < 32) := by omega
    by_cases ct : tb (M.1 40 0 a) (q : Int) = true
    · have RI : RelB Q (I, M.2.1, M.2.2) := hR.fr (hR.1.I fun f k i hr => hI1 f k i (by unfold relF at hr; omega)) (frB.I fun f k i hn => hI1 f k i (by unfold scC at hn; omega))
      obtain ⟨o, t, g1, g2, g3, g4, g5⟩ := hM.2.2.2.2.2 a q (by omega) ha (by omega) ct
      obtain ⟨I', k1, k2, k3, k4, k5, k6⟩ := KX9_judgeAt (l := l) (G := G) (d := d) (M := (I, M.2.1, M.2.2)) (a := a) (p := q) (who := who) (o := o) (t := t) (O := opA Q cv s day a q) (N := ntA Q cv s day a q) RI hq.2.1 ha (by omega) hwho h12 (by dsimp only; rw [hI1 _ _ _ (by omega)]; exact g1) (by dsimp only; rw [hI1 _ _ _ (by omega)]; exact g2) g3 (fun q' ⟨r, _, x, _⟩ => x) g4 (fun v _ hn => ntA_rd hq.2.1 hn) hI2 (hI4 a q (.inr ⟨rfl, Nat.le_refl _⟩) (by omega))
      dsimp only at k2 k4 k5 k6
      have hJ : JdI Q cv s (who : Int) day M a (q + 1) I' := by
        refine ⟨fun f k i hn => (k2 f k i hn).trans (hI1 f k i hn), k3, fun a' p' hh hp' hre => ?_, fun a' p' hh hp' => ?_⟩
        · by_cases e : a' = a ∧ p' = q
          · obtain ⟨rfl, rfl⟩ := e
            refine rgT_new SJ_01 k4 k5 (fun v hv hn _ => ?_)
            have := ntA_rd hq.2.1 hn
            exact k6 _ v (by omega) hv
          · refine rgT_c (hI3 a' p' (by omega) hp' hre) (k6 a' p' e hp') (fun v hv hn _ => ?_)
            have := ntA_rd hq.2.1 hn
            exact k6 _ v (by omega) hv
        · have h := hI4 a' p' (by omega) hp'
          have e := (k6 a' p' (by omega) hp').1
          unfold SJ at e
          rw [h, if_neg (show ¬ false = true by simp)] at e
          cases e2 : tb (I' 43 0 a') (p' : Int) with
          | false => rfl
          | true => rw [e2, if_pos rfl] at e; omega
      obtain ⟨I2, x1, x2⟩ := ih (q + 1) (by omega) I' hJ
      refine ⟨I2, x1, fun res M'' hx => xX9_judge_28 hR.1.1 ?_⟩
      dsimp only
      rw [er]
      exact ⟨fun c => absurd c hle, fun _ => ⟨b0, fun c => absurd ct c, fun _ => ⟨_, k1, i1, x2 res M'' hx⟩⟩⟩
    · obtain ⟨I2, x1, x2⟩ := ih (q + 1) (by omega) I ⟨hI1, hI2, fun a' p' hh hp' hre => by
        by_cases e : a' = a ∧ p' = q
        · rw [e.1, e.2] at hre; exact absurd hre ct
        · exact hI3 a' p' (by omega) hp' hre, fun a' p' hh hp' => hI4 a' p' (by omega) hp'⟩
      refine ⟨I2, x1, fun res M'' hx => xX9_judge_28 hR.1.1 ?_⟩
      dsimp only
      rw [er]
      exact ⟨fun c => absurd c hle, fun _ => ⟨b0, fun _ => ⟨i1, x2 res M'' hx⟩, fun c => absurd c ct⟩⟩
theorem KX9_judge {cv s who pl : Nat} {day : Int} {M0 : Mem} (hq : WFQ Q) (hwho : who < nPp Q) (hM : SpI Q cv s day pl M0 61 0 M) : ∃ I', Cl l G (d + 2) mX9_judge [vR (some (10, 0)), vI (who : Int), vR (some (34, 0))] M none (I', M.2.1, M.2.2) ∧ (∀ f k i, ¬ ((f = 43 ∨ f = 44) ∧ k = 0) → I' f k i = M.1 f k i) ∧ jF I' ∧ ∀ a p : Nat, a ≤ 60 → p < 8 → tb (M.1 40 0 a) (p : Int) = true → rgT Q cv s (who : Int) day (SJ I') (TJ I') a p := by
  have key : ∀ m : Nat, m ≤ 61 → ∀ I, ((∀ f k i, ¬ ((f = 43 ∨ f = 44) ∧ k = 0) → I f k i = M.1 f k i) ∧ jF I ∧ (∀ a' p' : Nat, m ≤ a' → a' ≤ 60 → p' < 8 → tb (M.1 40 0 a') (p' : Int) = true → rgT Q cv s (who : Int) day (SJ I) (TJ I) a' p') ∧ ∀ a' p' : Nat, a' < m → p' < 8 → tb (I 43 0 a') (p' : Int) = false) → ∃ I', Ex l G (d + 2) mX9_judge 21 [some (vR (some (10, 0))), some (vI (who : Int)), some (vR (some (34, 0))), some (vI ((m : Int) + (-1))), none] [] (I, M.2.1, M.2.2) none (I', M.2.1, M.2.2) ∧ (∀ f k i, ¬ ((f = 43 ∨ f = 44) ∧ k = 0) → I' f k i = M.1 f k i) ∧ jF I' ∧ ∀ a p : Nat, a ≤ 60 → p < 8 → tb (M.1 40 0 a) (p : Int) = true → rgT Q cv s (who : Int) day (SJ I') (TJ I') a p := by
    intro m
    induction m with
    | zero =>
      intro _ I ⟨h1, h2, h3, h4⟩
      exact ⟨I, xX9_judge_21 ⟨fun _ => ⟨rfl, rfl⟩, fun c => absurd (by omega) c⟩, h1, h2, fun a p => h3 a p (by omega)⟩
    | succ a ih =>
      intro ha I ⟨h1, h2, h3, h4⟩
      obtain ⟨I2, ⟨j1, j2, j3, j4⟩, x2⟩ := judge_28 (l := l) (G := G) (d := d) (who := who) (a := a) hq hwho (by omega) hM 8 0 rfl I ⟨h1, h2, fun a' p' hh hp' hre => h3 a' p' (by omega) (by omega) hp' hre, fun a' p' hh hp' => h4 a' p' (by omega) hp'⟩
      obtain ⟨I', y1, y2⟩ := ih (by omega) I2 ⟨j1, j2, fun a' p' k1 k2 k3 k4 => by
        by_cases e : a' = a
        · exact j3 a' p' (.inr ⟨e, k3⟩) k3 k4
        · exact j3 a' p' (.inl (by omega)) k3 k4, fun a' p' k1 k2 => j4 a' p' (.inl k1) k2⟩
      refine ⟨I', xX9_judge_21 ⟨fun c => by omega, fun _ => ?_⟩, y2⟩
      rw [show ((a + 1 : Nat) : Int) + (-1) = (a : Int) by omega]
      exact x2 _ _ y1
  have f1 : ∀ f k i, ¬ ((f = 43 ∨ f = 44) ∧ k = 0) → flI (flI M.1 43 0 61 0) 44 0 488 1000 f k i = M.1 f k i := fun f k i hn => by
    unfold flI
    rw [seI_o (fun e => hn ⟨.inr e.1, e.2⟩), seI_o (fun e => hn ⟨.inl e.1, e.2⟩)]
  have f2 : ∀ i, i < 61 → flI (flI M.1 43 0 61 0) 44 0 488 1000 43 0 i = 0 := fun i hi => by
    unfold flI
    rw [seI_o (by omega), seI_s, if_pos hi]
  have f3 : ∀ i, i < 488 → flI (flI M.1 43 0 61 0) 44 0 488 1000 44 0 i = 1000 := fun i hi => by
    unfold flI
    rw [seI_s, if_pos hi]
  obtain ⟨I', x1, x2⟩ := key 61 (by omega) (flI (flI M.1 43 0 61 0) 44 0 488 1000) ⟨f1, ⟨fun i hi => ⟨fun _ => false, by rw [f2 i hi, bI_false]⟩, fun i hi => .inr (f3 i hi)⟩, fun a' p' k1 k2 => by omega, fun a' p' k1 k2 => by rw [f2 a' k1, tb_zero]⟩
  exact ⟨I', xX9_judge_0 hM.1.1.1 x1, x2⟩
theorem KX11_sure {s c p pl day what : Int} (hR : RelB Q M) (hq : WFQ Q) : ∃ M', Cl l G (d + 5) mX11_sure [vR (some (2, 0)), vI s, vI c, vI p, vI pl, vI day, vI what] M (some (vI (surV Q s c p pl day what))) M' ∧ RelB Q M' ∧ frB M M' := by
  have h12 := nPp_le hq.1
  have e1 := cppl_eq hq.1 hR.1
  have hco := KX11_coverOf (l := l) (G := G) (d := d + 4) (c := c) hR.1 hq.2.2.2.2
  by_cases g : surG Q s c p pl day what
  · have gg := g
    obtain ⟨g1, g2, g3, g4, g5, g6, g7⟩ := gg
    rw [if_pos g2] at hco
    have b := KX5_begin (l := l) (G := G) (d := d + 3) (M := M) (k0 := 8) (cv := c.toNat) (s := s) (p := p) (pl := pl) (day := day) g5
    have R1 : RelB Q (seI M.1 5 8 (begL (M.1 5 8) s p pl day), upR M.2.1 5 8 0 (some (13, c.toNat)), M.2.2) := hR.beg
    obtain ⟨M2, k1, k2⟩ := KX9_spread (l := l) (G := G) (d := d) (cv := c.toNat) (s := s.toNat) (pl := pl.toNat) (day := day) R1 hq (by omega) (by omega) (by omega) g6 ⟨by dsimp only; rw [upR_s], by dsimp only; rw [seI_s]; show s = _; omega, by dsimp only; rw [seI_s]; rfl⟩ (by dsimp only; rw [seI_s]; show pl = _; omega)
    obtain ⟨I3, j1, j2, j3, j4⟩ := KX9_judge (l := l) (G := G) (d := d + 2) (who := p.toNat) hq (by omega) k2
    rw [show ((p.toNat : Nat) : Int) = p by omega] at j1 j4
    have R3 : RelB Q (I3, M2.2.1, M2.2.2) := k2.1.fr (k2.1.1.I fun f k i hr => j2 f k i (by unfold relF at hr; omega)) (frB.I fun f k i hn => j2 f k i (by unfold scC at hn; omega))
    have f3 : frB M (I3, M2.2.1, M2.2.2) := (frB.beg.tr k2.2.1).tr (frB.I fun f k i hn => j2 f k i (by unfold scC at hn; omega))
    have hSur : SurP Q s c p pl day what (if what = 0 then SJ I3 0 pl.toNat else TJ I3 0 pl.toNat) := by
      refine ⟨fun _ => ⟨fun a q => a ≤ 60 ∧ q < 8 ∧ tb (M2.1 40 0 a) (q : Int) = true, SJ I3, TJ I3, fun a q hx => ⟨j4 a q hx.1 hx.2.1 hx.2.2, fun v hv hn h6 => ?_⟩, ⟨by omega, by omega, k2.2.2.2.2.1⟩, rfl⟩, fun n => absurd g n⟩
      obtain ⟨o, t, _, _, _, _, z⟩ := k2.2.2.2.2.2 a q (by omega) hx.1 hx.2.1 hx.2.2
      exact ⟨by omega, hv, z v hv hn h6⟩
    rw [surV_eq hq.2.1 hSur]
    obtain ⟨f0, hf0⟩ := j3.1 0 (by omega)
    have n0 : 0 ≤ I3 43 0 0 := by rw [hf0]; exact bI_nn
    have epl : ((pl.toNat : Nat) : Int) = pl := by omega
    have q1 := xX9_sureFrom_0 (l := l) (G := G) (d := d + 3) (M := (I3, M2.2.1, M2.2.2)) (M' := (I3, M2.2.1, M2.2.2)) (r := some (vI (SJ I3 0 pl.toNat))) (x1 := pl) R3.1.1 ⟨⟨n0, by omega, by omega⟩, by unfold SJ; rw [epl], rfl⟩
    have q2 := xX9_soonFrom_0 (l := l) (G := G) (d := d + 4) (M := (I3, M2.2.1, M2.2.2)) (M' := (I3, M2.2.1, M2.2.2)) (r := some (vI (TJ I3 0 pl.toNat))) (x1 := pl) R3.1.1 ⟨by omega, fun _ => by omega, by unfold TJ; rw [show 8 * 0 + pl.toNat = pl.toNat by omega], rfl⟩
    refine ⟨(I3, M2.2.1, M2.2.2), xX11_sure_0 ⟨_, M, hco, hR.1.1, fun a => absurd a (by simp), fun _ => ?_⟩, R3, f3⟩
    rw [e1]
    refine ⟨fun a => absurd ⟨g1, g3, g4⟩ a, fun _ => ⟨fun a => absurd g5 a, fun _ => ⟨fun _ => ⟨fun a => by omega, fun _ => ⟨fun _ => ⟨c.toNat, rfl, _, b, R1.1.1, M2, k1, k2.1.1.1, _, j1, R3.1.1, fun w => ?_, fun w => ?_⟩, fun a => by omega⟩⟩, fun a => absurd g6 a⟩⟩⟩
    · exact ⟨_, _, q2, by rw [if_neg w], rfl⟩
    · exact ⟨_, _, q1, by rw [if_pos w], rfl⟩
  · rw [surV_eq (v := -1) hq.2.1 ⟨fun n => absurd n g, fun _ => rfl⟩]
    refine ⟨M, xX11_sure_0 ⟨_, M, hco, hR.1.1, fun _ => ⟨rfl, rfl⟩, fun a => ?_⟩, hR, frB.rf⟩
    rw [e1]
    have g2 : 0 ≤ c ∧ c < nCv Q := by
      by_cases g2 : 0 ≤ c ∧ c < nCv Q
      · exact g2
      · rw [if_neg g2] at a; exact absurd rfl a
    exact ⟨fun _ => ⟨rfl, rfl⟩, fun g1 => ⟨fun _ => ⟨rfl, rfl⟩, fun g3 => ⟨fun g4 => ⟨fun _ => ⟨rfl, rfl⟩, fun g5 => ⟨fun g6 => absurd ⟨g1.1, g2, g1.2.1, g1.2.2, g3, g4, by omega⟩ g, fun _ => ⟨rfl, rfl⟩⟩⟩, fun _ => ⟨rfl, rfl⟩⟩⟩⟩
end JA
