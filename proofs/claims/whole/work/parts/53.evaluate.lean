/-! whom a cover fits: the class -/
set_option maxRecDepth 4000 in
theorem xX3_evaluate_0 {l : Launch} {G : Gt} {d : Nat} {M M' : Mem} {r : Option Vl} {k1 : Nat} {x2 : Int} {k3 : Nat} {x4 : Int} (h : 
    Ex l G d mX3_evaluate 6 [some (vR (some (8, 0))), some (vR (some (13, k1))), some (vI x2), some (vR (some (14, k3))), some (vI x4), some (vI 0), some (vI 0), none, none, none, none] [] M r M') : Cl l G d mX3_evaluate [vR (some (8, 0)), vR (some (13, k1)), vI x2, vR (some (14, k3)), vI x4] M r M' := by
  show Ex l G d mX3_evaluate 0 [some (vR (some (8, 0))), some (vR (some (13, k1))), some (vI x2), some (vR (some (14, k3))), some (vI x4), none, none, none, none, none, none] [] M r M'
  refine r_iconst 1 dX3_evaluate_0 rfl (InR_of rfl) ?_
  refine r_istore (ls' := [some (vR (some (8, 0))), some (vR (some (13, k1))), some (vI x2), some (vR (some (14, k3))), some (vI x4), some (vI 0), none, none, none, none, none]) 3 dX3_evaluate_1 rfl rfl rfl rfl ?_
  refine r_iconst 4 dX3_evaluate_3 rfl (InR_of rfl) ?_
  refine r_istore (ls' := [some (vR (some (8, 0))), some (vR (some (13, k1))), some (vI x2), some (vR (some (14, k3))), some (vI x4), some (vI 0), some (vI 0), none, none, none, none]) 6 dX3_evaluate_4 rfl rfl rfl rfl ?_
  exact h
set_option maxRecDepth 4000 in
theorem xX3_evaluate_6 {l : Launch} {G : Gt} {d : Nat} {M M' : Mem} {r : Option Vl} {k1 : Nat} {x2 : Int} {k3 : Nat} {x4 : Int} {x5 : Int} {x6 : Int} (hS : Sh M.2.1) (h : 
    (InR (aLen M.2.2 47 k1 : Int)) ∧ (((aLen M.2.2 47 k1 : Int) ≤ x6 → ((0 ≤ x5 ∧ x5 < 401)) ∧ r = some (vI (M.1 23 0 x5.toNat)) ∧ M' = M) ∧ (¬ ((aLen M.2.2 47 k1 : Int) ≤ x6) → (400 ≤ x5 → ((0 ≤ x5 ∧ x5 < 401)) ∧ r = some (vI (M.1 23 0 x5.toNat)) ∧ M' = M) ∧ (¬ (400 ≤ x5) → ((0 ≤ x6 ∧ x6 < (aLen M.2.2 47 k1 : Int))) ∧ ((10 ≤ (M.1 47 k1 x6.toNat) → (16 ≤ (M.1 47 k1 x6.toNat) → (24 ≤ (M.1 47 k1 x6.toNat) → (¬ ((M.1 47 k1 x6.toNat) = 24) → (¬ ((M.1 47 k1 x6.toNat) = 25) → (x5 ≤ 1 → (InR (x6 + 1)) ∧ Ex l G d mX3_evaluate 6 [some (vR (some (8, 0))), some (vR (some (13, k1))), some (vI x2), some (vR (some (14, k3))), some (vI x4), some (vI x5), some (vI (x6 + 1)), none, none, none, none] [] M r M') ∧ (¬ (x5 ≤ 1) → (InR (x5 + (-1)) ∧ InR ((x5 + (-1)) + 1) ∧ (0 ≤ ((x5 + (-1)) + 1) ∧ ((x5 + (-1)) + 1) < 401)) ∧ (((¬ ((M.1 47 k1 x6.toNat) = 26) → ((0 ≤ (x5 + (-1)) ∧ (x5 + (-1)) < 401))) ∧ ((M.1 47 k1 x6.toNat) = 26 → ((0 ≤ (x5 + (-1)) ∧ (x5 + (-1)) < 401)))) ∧ ((0 ≤ (x5 + (-1)) ∧ (x5 + (-1)) < 401) ∧ InR (x6 + 1)) ∧ Ex l G d mX3_evaluate 6 [some (vR (some (8, 0))), some (vR (some (13, k1))), some (vI x2), some (vR (some (14, k3))), some (vI x4), some (vI (x5 + (-1))), some (vI (x6 + 1)), none, none, none, none] [] ((upI M.1 23 0 (x5 + (-1)).toNat (if (M.1 47 k1 x6.toNat) = 26 then (aAnd (M.1 23 0 (x5 + (-1)).toNat) (M.1 23 0 ((x5 + (-1)) + 1).toNat)) else (aOr (M.1 23 0 (x5 + (-1)).toNat) (M.1 23 0 ((x5 + (-1)) + 1).toNat)) : Int)), M.2.1, M.2.2) r M'))) ∧ ((M.1 47 k1 x6.toNat) = 25 → ((0 ≤ x5 ∧ x5 < 401) ∧ InR (x6 + 1)) ∧ Ex l G d mX3_evaluate 6 [some (vR (some (8, 0))), some (vR (some (13, k1))), some (vI x2), some (vR (some (14, k3))), some (vI x4), some (vI x5), some (vI (x6 + 1)), none, none, none, none] [] ((upI M.1 23 0 x5.toNat (aAnd x4 (aXor (M.1 23 0 x5.toNat) (-1)))), M.2.1, M.2.2) r M')) ∧ ((M.1 47 k1 x6.toNat) = 24 → (InR (x5 + 1) ∧ (0 ≤ x2 ∧ x2 < 32) ∧ (0 ≤ (x5 + 1) ∧ (x5 + 1) < 401) ∧ InR (x6 + 1)) ∧ Ex l G d mX3_evaluate 6 [some (vR (some (8, 0))), some (vR (some (13, k1))), some (vI x2), some (vR (some (14, k3))), some (vI x4), some (vI (x5 + 1)), some (vI (x6 + 1)), none, none, none, none] [] ((upI M.1 23 0 (x5 + 1).toNat (aAnd (aShl 1 x2) x4)), M.2.1, M.2.2) r M')) ∧ (¬ (24 ≤ (M.1 47 k1 x6.toNat)) → (InR (x5 + 1) ∧ InR ((M.1 47 k1 x6.toNat) - 16) ∧ (0 ≤ ((M.1 47 k1 x6.toNat) - 16) ∧ ((M.1 47 k1 x6.toNat) - 16) < 8) ∧ (0 ≤ (x5 + 1) ∧ (x5 + 1) < 401) ∧ InR (x6 + 1)) ∧ Ex l G d mX3_evaluate 6 [some (vR (some (8, 0))), some (vR (some (13, k1))), some (vI x2), some (vR (some (14, k3))), some (vI x4), some (vI (x5 + 1)), some (vI (x6 + 1)), none, none, none, none] [] ((upI M.1 23 0 (x5 + 1).toNat (aAnd (M.1 32 k3 ((M.1 47 k1 x6.toNat) - 16).toNat) x4)), M.2.1, M.2.2) r M')) ∧ (¬ (16 ≤ (M.1 47 k1 x6.toNat)) → ((0 ≤ x5 ∧ x5 < 401) ∧ InR ((M.1 47 k1 x6.toNat) - 10) ∧ InR (((M.1 47 k1 x6.toNat) - 10) * 12)) ∧ Ex l G d mX3_evaluate 100 [some (vR (some (8, 0))), some (vR (some (13, k1))), some (vI x2), some (vR (some (14, k3))), some (vI x4), some (vI x5), some (vI x6), some (vI (M.1 47 k1 x6.toNat)), some (vI (M.1 23 0 x5.toNat)), some (vI (((M.1 47 k1 x6.toNat) - 10) * 12)), some (vI 0)] [] ((upI M.1 23 0 x5.toNat 0), M.2.1, M.2.2) r M')) ∧ (¬ (10 ≤ (M.1 47 k1 x6.toNat)) → (InR (x5 + 1) ∧ (0 ≤ (M.1 47 k1 x6.toNat) ∧ (M.1 47 k1 x6.toNat) < 10) ∧ (0 ≤ (x5 + 1) ∧ (x5 + 1) < 401) ∧ InR (x6 + 1)) ∧ Ex l G d mX3_evaluate 6 [some (vR (some (8, 0))), some (vR (some (13, k1))), some (vI x2), some (vR (some (14, k3))), some (vI x4), some (vI (x5 + 1)), some (vI (x6 + 1)), none, none, none, none] [] ((upI M.1 23 0 (x5 + 1).toNat (aAnd (M.1 29 k3 (M.1 47 k1 x6.toNat).toNat) x4)), M.2.1, M.2.2) r M')))))) : Ex l G d mX3_evaluate 6 [some (vR (some (8, 0))), some (vR (some (13, k1))), some (vI x2), some (vR (some (14, k3))), some (vI x4), some (vI x5), some (vI x6), none, none, none, none] [] M r M' := by
  obtain ⟨o_1, h⟩ := h
  refine r_iload 8 dX3_evaluate_6 rfl rfl ?_
  refine r_aload_n 9 dX3_evaluate_8 rfl rfl ?_
  refine g_R 12 dX3_evaluate_9 rfl rfl rfl fr_3_56 (sh_1_1 hS _) ?_
  refine r_alen (v := (aLen M.2.2 47 k1 : Int)) 13 dX3_evaluate_12 rfl rfl (.inl rfl) rfl o_1 ?_
  refine r_icmp_ge 16 300 dX3_evaluate_13 rfl rfl (fun c => ?_) (fun c => ?_)
  · have h := h.1 (c)
    obtain ⟨o_2, h⟩ := h
    refine r_aload_n 301 dX3_evaluate_300 rfl rfl ?_
    refine g_R 304 dX3_evaluate_301 rfl rfl rfl fr_3_9 (sh_3_0 hS) ?_
    refine r_iload 306 dX3_evaluate_304 rfl rfl ?_
    refine a_I 401 307 dX3_evaluate_306 rfl rfl rfl rfl o_2 rfl ?_
    exact r_iret dX3_evaluate_307 rfl (.inl rfl) h.1 h.2
  · have h := h.2 (c)
    refine r_iload 18 dX3_evaluate_16 rfl rfl ?_
    refine r_sipush 21 dX3_evaluate_18 rfl rfl ?_
    refine r_icmp_ge 24 300 dX3_evaluate_21 rfl rfl (fun c => ?_) (fun c => ?_)
    · have h := h.1 (c)
      obtain ⟨o_3, h⟩ := h
      refine r_aload_n 301 dX3_evaluate_300 rfl rfl ?_
      refine g_R 304 dX3_evaluate_301 rfl rfl rfl fr_3_9 (sh_3_0 hS) ?_
      refine r_iload 306 dX3_evaluate_304 rfl rfl ?_
      refine a_I 401 307 dX3_evaluate_306 rfl rfl rfl rfl o_3 rfl ?_
      exact r_iret dX3_evaluate_307 rfl (.inl rfl) h.1 h.2
    · have h := h.2 (c)
      obtain ⟨o_4, h⟩ := h
      refine r_aload_n 25 dX3_evaluate_24 rfl rfl ?_
      refine g_R 28 dX3_evaluate_25 rfl rfl rfl fr_3_56 (sh_1_1 hS _) ?_
      refine r_iload 30 dX3_evaluate_28 rfl rfl ?_
      refine a_I (aLen M.2.2 47 k1 : Int) 31 dX3_evaluate_30 rfl rfl rfl rfl o_4 rfl ?_
      refine r_istore (ls' := [some (vR (some (8, 0))), some (vR (some (13, k1))), some (vI x2), some (vR (some (14, k3))), some (vI x4), some (vI x5), some (vI x6), some (vI (M.1 47 k1 x6.toNat)), none, none, none]) 33 dX3_evaluate_31 rfl rfl rfl rfl ?_
      refine r_iload 35 dX3_evaluate_33 rfl rfl ?_
      refine r_bipush 37 dX3_evaluate_35 rfl rfl ?_
      refine r_icmp_ge 40 63 dX3_evaluate_37 rfl rfl (fun c => ?_) (fun c => ?_)
      · have h := h.1 (c)
        refine r_iload 65 dX3_evaluate_63 rfl rfl ?_
        refine r_bipush 67 dX3_evaluate_65 rfl rfl ?_
        refine r_icmp_ge 70 149 dX3_evaluate_67 rfl rfl (fun c => ?_) (fun c => ?_)
        · have h := h.1 (c)
          refine r_iload 151 dX3_evaluate_149 rfl rfl ?_
          refine r_bipush 153 dX3_evaluate_151 rfl rfl ?_
          refine r_icmp_ge 156 182 dX3_evaluate_153 rfl rfl (fun c => ?_) (fun c => ?_)
          · have h := h.1 (c)
            refine r_iload 184 dX3_evaluate_182 rfl rfl ?_
            refine r_bipush 186 dX3_evaluate_184 rfl rfl ?_
            refine r_icmp_ne 189 208 dX3_evaluate_186 rfl rfl (fun c => ?_) (fun c => ?_)
            · have h := h.1 (c)
              refine r_iload 210 dX3_evaluate_208 rfl rfl ?_
              refine r_bipush 212 dX3_evaluate_210 rfl rfl ?_
              refine r_icmp_ne 215 237 dX3_evaluate_212 rfl rfl (fun c => ?_) (fun c => ?_)
              · have h := h.1 (c)
                refine r_iload 239 dX3_evaluate_237 rfl rfl ?_
                refine r_iconst 240 dX3_evaluate_239 rfl (InR_of rfl) ?_
                refine r_icmp_le 243 294 dX3_evaluate_240 rfl rfl (fun c => ?_) (fun c => ?_)
                · have h := h.1 (c)
                  obtain ⟨o_5, h⟩ := h
                  refine r_iinc (ls' := [some (vR (some (8, 0))), some (vR (some (13, k1))), some (vI x2), some (vR (some (14, k3))), some (vI x4), some (vI x5), some (vI (x6 + 1)), some (vI (M.1 47 k1 x6.toNat)), none, none, none]) 297 dX3_evaluate_294 rfl rfl rfl rfl o_5 rfl ?_
                  refine r_goto 6 dX3_evaluate_297 rfl ?_
                  exact Ex.weak h ⟨rfl, rfl, rfl, rfl, rfl, rfl, rfl, trivial⟩
                · have h := h.2 (c)
                  obtain ⟨⟨o_6, o_7, o_8⟩, h⟩ := h
                  refine r_iinc (ls' := [some (vR (some (8, 0))), some (vR (some (13, k1))), some (vI x2), some (vR (some (14, k3))), some (vI x4), some (vI (x5 + (-1))), some (vI x6), some (vI (M.1 47 k1 x6.toNat)), none, none, none]) 246 dX3_evaluate_243 rfl rfl rfl rfl o_6 rfl ?_
                  refine r_aload_n 247 dX3_evaluate_246 rfl rfl ?_
                  refine g_R 250 dX3_evaluate_247 rfl rfl rfl fr_3_9 (sh_3_0 hS) ?_
                  refine r_iload 252 dX3_evaluate_250 rfl rfl ?_
                  refine r_iconst 253 dX3_evaluate_252 rfl (InR_of rfl) ?_
                  refine r_iadd 254 dX3_evaluate_253 rfl o_7 ?_
                  refine a_I 401 255 dX3_evaluate_254 rfl rfl rfl rfl o_8 rfl ?_
                  refine r_istore (ls' := [some (vR (some (8, 0))), some (vR (some (13, k1))), some (vI x2), some (vR (some (14, k3))), some (vI x4), some (vI (x5 + (-1))), some (vI x6), some (vI (M.1 47 k1 x6.toNat)), some (vI (M.1 23 0 ((x5 + (-1)) + 1).toNat)), none, none]) 257 dX3_evaluate_255 rfl rfl rfl rfl ?_
                  refine r_aload_n 258 dX3_evaluate_257 rfl rfl ?_
                  refine g_R 261 dX3_evaluate_258 rfl rfl rfl fr_3_9 (sh_3_0 hS) ?_
                  refine r_iload 263 dX3_evaluate_261 rfl rfl ?_
                  refine r_iload 265 dX3_evaluate_263 rfl rfl ?_
                  refine r_bipush 267 dX3_evaluate_265 rfl rfl ?_
                  obtain ⟨h0, h⟩ := h
                  have hJ_9 : Ex l G d mX3_evaluate 293 [some (vR (some (8, 0))), some (vR (some (13, k1))), some (vI x2), some (vR (some (14, k3))), some (vI x4), some (vI (x5 + (-1))), some (vI x6), some (vI (M.1 47 k1 x6.toNat)), some (vI (M.1 23 0 ((x5 + (-1)) + 1).toNat)), none, none] [vI (if (M.1 47 k1 x6.toNat) = 26 then (aAnd (M.1 23 0 (x5 + (-1)).toNat) (M.1 23 0 ((x5 + (-1)) + 1).toNat)) else (aOr (M.1 23 0 (x5 + (-1)).toNat) (M.1 23 0 ((x5 + (-1)) + 1).toNat)) : Int), vI (x5 + (-1)), vR (some (23, 0))] M r M' := by
                    obtain ⟨⟨o_13, o_14⟩, h⟩ := h
                    refine s_I 401 294 dX3_evaluate_293 rfl rfl (by decide) rfl rfl o_13 ?_
                    refine r_iinc (ls' := [some (vR (some (8, 0))), some (vR (some (13, k1))), some (vI x2), some (vR (some (14, k3))), some (vI x4), some (vI (x5 + (-1))), some (vI (x6 + 1)), some (vI (M.1 47 k1 x6.toNat)), some (vI (M.1 23 0 ((x5 + (-1)) + 1).toNat)), none, none]) 297 dX3_evaluate_294 rfl rfl rfl rfl o_14 rfl ?_
                    refine r_goto 6 dX3_evaluate_297 rfl ?_
                    exact Ex.weak h ⟨rfl, rfl, rfl, rfl, rfl, rfl, rfl, trivial⟩
                  have h := h0
                  refine r_icmp_ne 270 283 dX3_evaluate_267 rfl rfl (fun c => ?_) (fun c => ?_)
                  · have c_10 := c
                    have h := h.1 c_10
                    have o_11 := h
                    refine r_aload_n 284 dX3_evaluate_283 rfl rfl ?_
                    refine g_R 287 dX3_evaluate_284 rfl rfl rfl fr_3_9 (sh_3_0 hS) ?_
                    refine r_iload 289 dX3_evaluate_287 rfl rfl ?_
                    refine a_I 401 290 dX3_evaluate_289 rfl rfl rfl rfl o_11 rfl ?_
                    refine r_iload 292 dX3_evaluate_290 rfl rfl ?_
                    refine r_ior 293 dX3_evaluate_292 rfl ?_
                    exact (Ex.at hJ_9 rfl (show [vI (aOr (M.1 23 0 (x5 + (-1)).toNat) (M.1 23 0 ((x5 + (-1)) + 1).toNat)), vI (x5 + (-1)), vR (some (23, 0))] = [vI (if (M.1 47 k1 x6.toNat) = 26 then (aAnd (M.1 23 0 (x5 + (-1)).toNat) (M.1 23 0 ((x5 + (-1)) + 1).toNat)) else (aOr (M.1 23 0 (x5 + (-1)).toNat) (M.1 23 0 ((x5 + (-1)) + 1).toNat)) : Int), vI (x5 + (-1)), vR (some (23, 0))] by simp only [if_neg c_10]) rfl)
                  · have c_10 := Decidable.not_not.mp c
                    have h := h.2 c_10
                    have o_12 := h
                    refine r_aload_n 271 dX3_evaluate_270 rfl rfl ?_
                    refine g_R 274 dX3_evaluate_271 rfl rfl rfl fr_3_9 (sh_3_0 hS) ?_
                    refine r_iload 276 dX3_evaluate_274 rfl rfl ?_
                    refine a_I 401 277 dX3_evaluate_276 rfl rfl rfl rfl o_12 rfl ?_
                    refine r_iload 279 dX3_evaluate_277 rfl rfl ?_
                    refine r_iand 280 dX3_evaluate_279 rfl ?_
                    refine r_goto 293 dX3_evaluate_280 rfl ?_
                    exact (Ex.at hJ_9 rfl (show [vI (aAnd (M.1 23 0 (x5 + (-1)).toNat) (M.1 23 0 ((x5 + (-1)) + 1).toNat)), vI (x5 + (-1)), vR (some (23, 0))] = [vI (if (M.1 47 k1 x6.toNat) = 26 then (aAnd (M.1 23 0 (x5 + (-1)).toNat) (M.1 23 0 ((x5 + (-1)) + 1).toNat)) else (aOr (M.1 23 0 (x5 + (-1)).toNat) (M.1 23 0 ((x5 + (-1)) + 1).toNat)) : Int), vI (x5 + (-1)), vR (some (23, 0))] by simp only [if_pos c_10]) rfl)
              · have h := h.2 (Decidable.not_not.mp c)
                obtain ⟨⟨o_15, o_16⟩, h⟩ := h
                refine r_aload_n 216 dX3_evaluate_215 rfl rfl ?_
                refine g_R 219 dX3_evaluate_216 rfl rfl rfl fr_3_9 (sh_3_0 hS) ?_
                refine r_iload 221 dX3_evaluate_219 rfl rfl ?_
                refine r_iload 223 dX3_evaluate_221 rfl rfl ?_
                refine r_aload_n 224 dX3_evaluate_223 rfl rfl ?_
                refine g_R 227 dX3_evaluate_224 rfl rfl rfl fr_3_9 (sh_3_0 hS) ?_
                refine r_iload 229 dX3_evaluate_227 rfl rfl ?_
                refine a_I 401 230 dX3_evaluate_229 rfl rfl rfl rfl o_15 rfl ?_
                refine r_iconst 231 dX3_evaluate_230 rfl (InR_of rfl) ?_
                refine r_ixor 232 dX3_evaluate_231 rfl ?_
                refine r_iand 233 dX3_evaluate_232 rfl ?_
                refine s_I 401 234 dX3_evaluate_233 rfl rfl (by decide) rfl rfl o_15 ?_
                refine r_goto 294 dX3_evaluate_234 rfl ?_
                refine r_iinc (ls' := [some (vR (some (8, 0))), some (vR (some (13, k1))), some (vI x2), some (vR (some (14, k3))), some (vI x4), some (vI x5), some (vI (x6 + 1)), some (vI (M.1 47 k1 x6.toNat)), none, none, none]) 297 dX3_evaluate_294 rfl rfl rfl rfl o_16 rfl ?_
                refine r_goto 6 dX3_evaluate_297 rfl ?_
                exact Ex.weak h ⟨rfl, rfl, rfl, rfl, rfl, rfl, rfl, trivial⟩
            · have h := h.2 (Decidable.not_not.mp c)
              obtain ⟨⟨o_17, o_18, o_19, o_20⟩, h⟩ := h
              refine r_iinc (ls' := [some (vR (some (8, 0))), some (vR (some (13, k1))), some (vI x2), some (vR (some (14, k3))), some (vI x4), some (vI (x5 + 1)), some (vI x6), some (vI (M.1 47 k1 x6.toNat)), none, none, none]) 192 dX3_evaluate_189 rfl rfl rfl rfl o_17 rfl ?_
              refine r_aload_n 193 dX3_evaluate_192 rfl rfl ?_
              refine g_R 196 dX3_evaluate_193 rfl rfl rfl fr_3_9 (sh_3_0 hS) ?_
              refine r_iload 198 dX3_evaluate_196 rfl rfl ?_
              refine r_iconst 199 dX3_evaluate_198 rfl (InR_of rfl) ?_
              refine r_iload_n 200 dX3_evaluate_199 rfl rfl ?_
              refine r_ishl 201 dX3_evaluate_200 rfl o_18 ?_
              refine r_iload 203 dX3_evaluate_201 rfl rfl ?_
              refine r_iand 204 dX3_evaluate_203 rfl ?_
              refine s_I 401 205 dX3_evaluate_204 rfl rfl (by decide) rfl rfl o_19 ?_
              refine r_goto 294 dX3_evaluate_205 rfl ?_
              refine r_iinc (ls' := [some (vR (some (8, 0))), some (vR (some (13, k1))), some (vI x2), some (vR (some (14, k3))), some (vI x4), some (vI (x5 + 1)), some (vI (x6 + 1)), some (vI (M.1 47 k1 x6.toNat)), none, none, none]) 297 dX3_evaluate_294 rfl rfl rfl rfl o_20 rfl ?_
              refine r_goto 6 dX3_evaluate_297 rfl ?_
              exact Ex.weak h ⟨rfl, rfl, rfl, rfl, rfl, rfl, rfl, trivial⟩
          · have h := h.2 (c)
            obtain ⟨⟨o_21, o_22, o_23, o_24, o_25⟩, h⟩ := h
            refine r_iinc (ls' := [some (vR (some (8, 0))), some (vR (some (13, k1))), some (vI x2), some (vR (some (14, k3))), some (vI x4), some (vI (x5 + 1)), some (vI x6), some (vI (M.1 47 k1 x6.toNat)), none, none, none]) 159 dX3_evaluate_156 rfl rfl rfl rfl o_21 rfl ?_
            refine r_aload_n 160 dX3_evaluate_159 rfl rfl ?_
            refine g_R 163 dX3_evaluate_160 rfl rfl rfl fr_3_9 (sh_3_0 hS) ?_
            refine r_iload 165 dX3_evaluate_163 rfl rfl ?_
            refine r_aload_n 166 dX3_evaluate_165 rfl rfl ?_
            refine g_R 169 dX3_evaluate_166 rfl rfl rfl fr_3_65 (sh_7_4 hS _) ?_
            refine r_iload 171 dX3_evaluate_169 rfl rfl ?_
            refine r_bipush 173 dX3_evaluate_171 rfl rfl ?_
            refine r_isub 174 dX3_evaluate_173 rfl o_22 ?_
            refine a_I 8 175 dX3_evaluate_174 rfl rfl rfl rfl o_23 rfl ?_
            refine r_iload 177 dX3_evaluate_175 rfl rfl ?_
            refine r_iand 178 dX3_evaluate_177 rfl ?_
            refine s_I 401 179 dX3_evaluate_178 rfl rfl (by decide) rfl rfl o_24 ?_
            refine r_goto 294 dX3_evaluate_179 rfl ?_
            refine r_iinc (ls' := [some (vR (some (8, 0))), some (vR (some (13, k1))), some (vI x2), some (vR (some (14, k3))), some (vI x4), some (vI (x5 + 1)), some (vI (x6 + 1)), some (vI (M.1 47 k1 x6.toNat)), none, none, none]) 297 dX3_evaluate_294 rfl rfl rfl rfl o_25 rfl ?_
            refine r_goto 6 dX3_evaluate_297 rfl ?_
            exact Ex.weak h ⟨rfl, rfl, rfl, rfl, rfl, rfl, rfl, trivial⟩
        · have h := h.2 (c)
          obtain ⟨⟨o_26, o_27, o_28⟩, h⟩ := h
          refine r_aload_n 71 dX3_evaluate_70 rfl rfl ?_
          refine g_R 74 dX3_evaluate_71 rfl rfl rfl fr_3_9 (sh_3_0 hS) ?_
          refine r_iload 76 dX3_evaluate_74 rfl rfl ?_
          refine a_I 401 77 dX3_evaluate_76 rfl rfl rfl rfl o_26 rfl ?_
          refine r_istore (ls' := [some (vR (some (8, 0))), some (vR (some (13, k1))), some (vI x2), some (vR (some (14, k3))), some (vI x4), some (vI x5), some (vI x6), some (vI (M.1 47 k1 x6.toNat)), some (vI (M.1 23 0 x5.toNat)), none, none]) 79 dX3_evaluate_77 rfl rfl rfl rfl ?_
          refine r_iload 81 dX3_evaluate_79 rfl rfl ?_
          refine r_bipush 83 dX3_evaluate_81 rfl rfl ?_
          refine r_isub 84 dX3_evaluate_83 rfl o_27 ?_
          refine r_bipush 86 dX3_evaluate_84 rfl rfl ?_
          refine r_imul 87 dX3_evaluate_86 rfl o_28 ?_
          refine r_istore (ls' := [some (vR (some (8, 0))), some (vR (some (13, k1))), some (vI x2), some (vR (some (14, k3))), some (vI x4), some (vI x5), some (vI x6), some (vI (M.1 47 k1 x6.toNat)), some (vI (M.1 23 0 x5.toNat)), some (vI (((M.1 47 k1 x6.toNat) - 10) * 12)), none]) 89 dX3_evaluate_87 rfl rfl rfl rfl ?_
          refine r_aload_n 90 dX3_evaluate_89 rfl rfl ?_
          refine g_R 93 dX3_evaluate_90 rfl rfl rfl fr_3_9 (sh_3_0 hS) ?_
          refine r_iload 95 dX3_evaluate_93 rfl rfl ?_
          refine r_iconst 96 dX3_evaluate_95 rfl (InR_of rfl) ?_
          refine s_I 401 97 dX3_evaluate_96 rfl rfl (by decide) rfl rfl o_26 ?_
          refine r_iconst 98 dX3_evaluate_97 rfl (InR_of rfl) ?_
          refine r_istore (ls' := [some (vR (some (8, 0))), some (vR (some (13, k1))), some (vI x2), some (vR (some (14, k3))), some (vI x4), some (vI x5), some (vI x6), some (vI (M.1 47 k1 x6.toNat)), some (vI (M.1 23 0 x5.toNat)), some (vI (((M.1 47 k1 x6.toNat) - 10) * 12)), some (vI 0)]) 100 dX3_evaluate_98 rfl rfl rfl rfl ?_
          exact h
      · have h := h.2 (c)
        obtain ⟨⟨o_29, o_30, o_31, o_32⟩, h⟩ := h
        refine r_iinc (ls' := [some (vR (some (8, 0))), some (vR (some (13, k1))), some (vI x2), some (vR (some (14, k3))), some (vI x4), some (vI (x5 + 1)), some (vI x6), some (vI (M.1 47 k1 x6.toNat)), none, none, none]) 43 dX3_evaluate_40 rfl rfl rfl rfl o_29 rfl ?_
        refine r_aload_n 44 dX3_evaluate_43 rfl rfl ?_
        refine g_R 47 dX3_evaluate_44 rfl rfl rfl fr_3_9 (sh_3_0 hS) ?_
        refine r_iload 49 dX3_evaluate_47 rfl rfl ?_
        refine r_aload_n 50 dX3_evaluate_49 rfl rfl ?_
        refine g_R 53 dX3_evaluate_50 rfl rfl rfl fr_3_59 (sh_7_1 hS _) ?_
        refine r_iload 55 dX3_evaluate_53 rfl rfl ?_
        refine a_I 10 56 dX3_evaluate_55 rfl rfl rfl rfl o_30 rfl ?_
        refine r_iload 58 dX3_evaluate_56 rfl rfl ?_
        refine r_iand 59 dX3_evaluate_58 rfl ?_
        refine s_I 401 60 dX3_evaluate_59 rfl rfl (by decide) rfl rfl o_31 ?_
        refine r_goto 294 dX3_evaluate_60 rfl ?_
        refine r_iinc (ls' := [some (vR (some (8, 0))), some (vR (some (13, k1))), some (vI x2), some (vR (some (14, k3))), some (vI x4), some (vI (x5 + 1)), some (vI (x6 + 1)), some (vI (M.1 47 k1 x6.toNat)), none, none, none]) 297 dX3_evaluate_294 rfl rfl rfl rfl o_32 rfl ?_
        refine r_goto 6 dX3_evaluate_297 rfl ?_
        exact Ex.weak h ⟨rfl, rfl, rfl, rfl, rfl, rfl, rfl, trivial⟩
set_option maxRecDepth 4000 in
theorem xX3_evaluate_100 {l : Launch} {G : Gt} {d : Nat} {M M' : Mem} {r : Option Vl} {k1 : Nat} {x2 : Int} {k3 : Nat} {x4 : Int} {x5 : Int} {x6 : Int} {x7 : Int} {x8 : Int} {x9 : Int} {x10 : Int} (hS : Sh M.2.1) (h : 
    (12 ≤ x10 → (InR (x6 + 1)) ∧ Ex l G d mX3_evaluate 6 [some (vR (some (8, 0))), some (vR (some (13, k1))), some (vI x2), some (vR (some (14, k3))), some (vI x4), some (vI x5), some (vI (x6 + 1)), none, none, none, none] [] M r M') ∧ (¬ (12 ≤ x10) → (InR (x9 + x10) ∧ (0 ≤ (x9 + x10) ∧ (x9 + x10) < 72)) ∧ (((aAnd (M.1 30 k3 (x9 + x10).toNat) x8) = 0 → (InR (x10 + 1)) ∧ Ex l G d mX3_evaluate 100 [some (vR (some (8, 0))), some (vR (some (13, k1))), some (vI x2), some (vR (some (14, k3))), some (vI x4), some (vI x5), some (vI x6), some (vI x7), some (vI x8), some (vI x9), some (vI (x10 + 1))] [] M r M') ∧ (¬ ((aAnd (M.1 30 k3 (x9 + x10).toNat) x8) = 0) → ((0 ≤ x5 ∧ x5 < 401) ∧ (0 ≤ x10 ∧ x10 < 32) ∧ InR (x10 + 1)) ∧ Ex l G d mX3_evaluate 100 [some (vR (some (8, 0))), some (vR (some (13, k1))), some (vI x2), some (vR (some (14, k3))), some (vI x4), some (vI x5), some (vI x6), some (vI x7), some (vI x8), some (vI x9), some (vI (x10 + 1))] [] ((upI M.1 23 0 x5.toNat (aOr (M.1 23 0 x5.toNat) (aAnd (aShl 1 x10) x4))), M.2.1, M.2.2) r M')))) : Ex l G d mX3_evaluate 100 [some (vR (some (8, 0))), some (vR (some (13, k1))), some (vI x2), some (vR (some (14, k3))), some (vI x4), some (vI x5), some (vI x6), some (vI x7), some (vI x8), some (vI x9), some (vI x10)] [] M r M' := by
  refine r_iload 102 dX3_evaluate_100 rfl rfl ?_
  refine r_bipush 104 dX3_evaluate_102 rfl rfl ?_
  refine r_icmp_ge 107 146 dX3_evaluate_104 rfl rfl (fun c => ?_) (fun c => ?_)
  · have h := h.1 (c)
    obtain ⟨o_1, h⟩ := h
    refine r_goto 294 dX3_evaluate_146 rfl ?_
    refine r_iinc (ls' := [some (vR (some (8, 0))), some (vR (some (13, k1))), some (vI x2), some (vR (some (14, k3))), some (vI x4), some (vI x5), some (vI (x6 + 1)), some (vI x7), some (vI x8), some (vI x9), some (vI x10)]) 297 dX3_evaluate_294 rfl rfl rfl rfl o_1 rfl ?_
    refine r_goto 6 dX3_evaluate_297 rfl ?_
    exact Ex.weak h ⟨rfl, rfl, rfl, rfl, rfl, rfl, rfl, trivial⟩
  · have h := h.2 (c)
    obtain ⟨⟨o_2, o_3⟩, h⟩ := h
    refine r_aload_n 108 dX3_evaluate_107 rfl rfl ?_
    refine g_R 111 dX3_evaluate_108 rfl rfl rfl fr_3_62 (sh_7_2 hS _) ?_
    refine r_iload 113 dX3_evaluate_111 rfl rfl ?_
    refine r_iload 115 dX3_evaluate_113 rfl rfl ?_
    refine r_iadd 116 dX3_evaluate_115 rfl o_2 ?_
    refine a_I 72 117 dX3_evaluate_116 rfl rfl rfl rfl o_3 rfl ?_
    refine r_iload 119 dX3_evaluate_117 rfl rfl ?_
    refine r_iand 120 dX3_evaluate_119 rfl ?_
    refine r_if_eq 123 140 dX3_evaluate_120 rfl rfl (fun c => ?_) (fun c => ?_)
    · have h := h.1 (c)
      obtain ⟨o_4, h⟩ := h
      refine r_iinc (ls' := [some (vR (some (8, 0))), some (vR (some (13, k1))), some (vI x2), some (vR (some (14, k3))), some (vI x4), some (vI x5), some (vI x6), some (vI x7), some (vI x8), some (vI x9), some (vI (x10 + 1))]) 143 dX3_evaluate_140 rfl rfl rfl rfl o_4 rfl ?_
      refine r_goto 100 dX3_evaluate_143 rfl ?_
      exact h
    · have h := h.2 (c)
      obtain ⟨⟨o_5, o_6, o_7⟩, h⟩ := h
      refine r_aload_n 124 dX3_evaluate_123 rfl rfl ?_
      refine g_R 127 dX3_evaluate_124 rfl rfl rfl fr_3_9 (sh_3_0 hS) ?_
      refine r_iload 129 dX3_evaluate_127 rfl rfl ?_
      refine r_dup2 130 dX3_evaluate_129 rfl rfl ?_
      refine a_I 401 131 dX3_evaluate_130 rfl rfl rfl rfl o_5 rfl ?_
      refine r_iconst 132 dX3_evaluate_131 rfl (InR_of rfl) ?_
      refine r_iload 134 dX3_evaluate_132 rfl rfl ?_
      refine r_ishl 135 dX3_evaluate_134 rfl o_6 ?_
      refine r_iload 137 dX3_evaluate_135 rfl rfl ?_
      refine r_iand 138 dX3_evaluate_137 rfl ?_
      refine r_ior 139 dX3_evaluate_138 rfl ?_
      refine s_I 401 140 dX3_evaluate_139 rfl rfl (by decide) rfl rfl o_5 ?_
      refine r_iinc (ls' := [some (vR (some (8, 0))), some (vR (some (13, k1))), some (vI x2), some (vR (some (14, k3))), some (vI x4), some (vI x5), some (vI x6), some (vI x7), some (vI x8), some (vI x9), some (vI (x10 + 1))]) 143 dX3_evaluate_140 rfl rfl rfl rfl o_7 rfl ?_
      refine r_goto 100 dX3_evaluate_143 rfl ?_
      exact h

set_option maxRecDepth 4000 in
theorem xX11_seenBy_0 {l : Launch} {G : Gt} {d : Nat} {M M' : Mem} {r : Option Vl} {x1 : Int} {k2 : Nat} (hS : Sh M.2.1) (h : 
    ((0 ≤ x1 ∧ x1 < 12) ∧ ((0 ≤ x1 ∧ x1 < 12) ∧ 0 ≤ (M.1 31 k2 x1.toNat) ∧ (M.1 31 k2 x1.toNat) < 8)) ∧ r = some (vI (aOr (aOr (aShl 1 x1) (M.1 36 0 x1.toNat)) (M.1 32 k2 (M.1 31 k2 x1.toNat).toNat))) ∧ M' = M) : Cl l G (d + 1) mX11_seenBy [vR (some (2, 0)), vI x1, vR (some (14, k2))] M r M' := by
  show Ex l G (d + 1) mX11_seenBy 0 [some (vR (some (2, 0))), some (vI x1), some (vR (some (14, k2)))] [] M r M'
  obtain ⟨⟨o_1, o_2⟩, h⟩ := h
  refine r_aload_n 1 dX11_seenBy_0 rfl rfl ?_
  refine r_iload_n 2 dX11_seenBy_1 rfl rfl ?_
  refine r_aload_n 3 dX11_seenBy_2 rfl rfl ?_
  refine g_R 6 dX11_seenBy_3 rfl rfl rfl fr_11_12 (sh_11_0 hS) ?_
  refine g_R 9 dX11_seenBy_6 rfl rfl rfl fr_11_138 (sh_8_6 hS _) ?_
  refine r_iload_n 10 dX11_seenBy_9 rfl rfl ?_
  refine a_I 12 11 dX11_seenBy_10 rfl rfl rfl rfl o_1 rfl ?_
  refine v_1 (ci := 7) (C := (RX7, TX7, 5)) [vI x1, vI (M.1 36 0 x1.toNat)] [] 14 dX11_seenBy_11 rfl rfl rfl rfl rfl mo_X7_seenFrom ml_11_373 rfl rfl (KX7_seenFrom hS o_2) ?_
  exact r_iret dX11_seenBy_14 rfl (.inl rfl) h.1 h.2

def sgn (kind num : Int) : Int := if kind = 0 then num else if kind = 4 then 10 + num else if kind = 1 then 16 + num else if kind = 2 then 24 else if kind = 3 then 25 else if kind = 5 then 26 else 27
def CovC (Q : QT) (M : Mem) (k1 cv : Nat) : Prop := aLen M.2.2 47 k1 = ln Q cv ∧ ∀ k, k < ln Q cv → M.1 47 k1 k = sgn (kd Q cv k) (nm Q cv k)
def evJ (Q : QT) (n s : Nat) (seen : Nat → Bool) (c k : Nat) (F : Nat → Int) : Prop := ∀ i, i < ht Q c k → F (i + 1) = bI 12 (ev Q n s seen c k i)
theorem evJ_step {Q : QT} {n s : Nat} {seen : Nat → Bool} {c k : Nat} {F : Nat → Int} (h : evJ Q n s seen c k F) {t : Nat} (ht' : t = tg Q c k + 1) {v : Int} (hv : v = bI 12 (vl Q n s seen (kd Q c k) (nm Q c k) (ev Q n s seen c k (tg Q c k)) (ev Q n s seen c k (tg Q c k + 1)))) : evJ Q n s seen c (k + 1) (fun j => if j = t then v else F j) := by
  have h1 := evI_step (F := fun i => F (i + 1)) h rfl hv
  intro i hi
  have h2 := h1 i hi
  dsimp only at h2 ⊢
  rw [← h2]
  by_cases e : i = tg Q c k
  · rw [if_pos e, if_pos (show i + 1 = t by omega)]
  · rw [if_neg e, if_neg (show ¬ i + 1 = t by omega)]
theorem Snap.st {Q : QT} {I : IM} {F : Nat → Int} {k n : Nat} (h : Snap Q I k n) : Snap Q (seI I 23 0 F) k n := by
  refine ⟨fun m hm => ?_, fun t p ht hp => ?_, fun p hp => ?_, fun a ha => ?_⟩
  · rw [seI_fam (by omega)]; exact h.1 m hm
  · rw [seI_fam (by omega)]; exact h.2.1 t p ht hp
  · rw [seI_fam (by omega)]; exact h.2.2.1 p hp
  · rw [seI_fam (by omega)]; exact h.2.2.2 a ha
section EV
variable {l : Launch} {G : Gt} {d : Nat} {Q : QT} {M : Mem}
def gtF (Q : QT) (n t : Nat) (w : Int) (seen : Nat → Bool) : Nat → Bool := fun p => decide (¬ aAnd (bI 12 (fun q => tiF Q n p t q)) w = 0) && seen p
theorem ev_100 {n k1 k3 s t top : Nat} {seen : Nat → Bool} {x6 x7 w : Int} {r : Option Vl} {M' : Mem} (hS : Sh M.2.1) (hL : Snap Q M.1 k3 n) (ht : t < 6) (htop : top < 401) (hx : InR (x6 + 1)) (F : Nat → Int)
    (next : Ex l G d mX3_evaluate 6 [some (vR (some (8, 0))), some (vR (some (13, k1))), some (vI (s : Int)), some (vR (some (14, k3))), some (vI (bI 12 seen)), some (vI (top : Int)), some (vI (x6 + 1)), none, none, none, none] [] (seI M.1 23 0 (fun j => if j = top then bI 12 (gtF Q n t w seen) else F j), M.2.1, M.2.2) r M') :
    Ex l G d mX3_evaluate 100 [some (vR (some (8, 0))), some (vR (some (13, k1))), some (vI (s : Int)), some (vR (some (14, k3))), some (vI (bI 12 seen)), some (vI (top : Int)), some (vI x6), some (vI x7), some (vI w), some (vI ((t : Int) * 12)), some (vI 0)] [] (seI M.1 23 0 (fun j => if j = top then 0 else F j), M.2.1, M.2.2) r M' := by
  refine loopUp (P := fun p : Nat => Ex l G d mX3_evaluate 100 [some (vR (some (8, 0))), some (vR (some (13, k1))), some (vI (s : Int)), some (vR (some (14, k3))), some (vI (bI 12 seen)), some (vI (top : Int)), some (vI x6), some (vI x7), some (vI w), some (vI ((t : Int) * 12)), some (vI (p : Int))] [] (seI M.1 23 0 (fun j => if j = top then bI p (gtF Q n t w seen) else F j), M.2.1, M.2.2) r M') 0 12 (by omega) ?_ ?_
  · intro p _ hp ih
    have hLs := hL.st (F := fun j => if j = top then bI p (gtF Q n t w seen) else F j)
    have ei : ((t : Int) * 12 + (p : Int)).toNat = 12 * t + p := by omega
    have hg : gtF Q n t w seen p = (decide (¬ aAnd (bI 12 (fun q => tiF Q n p t q)) w = 0) && seen p) := rfl
    refine xX3_evaluate_100 hS ⟨fun c => absurd c (by omega), fun _ => ⟨⟨by unfold InR; omega, by omega⟩, ?_⟩⟩
    dsimp only
    rw [ei, hLs.2.1 t p ht hp]
    refine ⟨fun c => ⟨by unfold InR; omega, ?_⟩, fun c => ⟨⟨by omega, by omega, by unfold InR; omega⟩, ?_⟩⟩
    · have e : bI (p + 1) (gtF Q n t w seen) = bI p (gtF Q n t w seen) := by
        refine (bI_len (by omega) fun i h1 h2 => ?_).symm
        have : i = p := by omega
        subst this
        rw [hg]
        simp [c]
      rw [← e]
      exact ih
    · rw [upI_seI, Int.toNat_natCast, seI_s, if_pos rfl]
      have e : aOr (bI p (gtF Q n t w seen)) (aAnd (aShl 1 (p : Int)) (bI 12 seen)) = bI (p + 1) (gtF Q n t w seen) := by
        have e1 : aAnd (aShl 1 (p : Int)) (bI 12 seen) = if seen p = true then aShl 1 (p : Int) else 0 := by
          rw [bI_one (n := 12) (by omega) hp, bI_and (by omega)]
          by_cases hs : seen p = true
          · rw [if_pos hs]
            exact bI_ext fun i _ => by
              by_cases e2 : i = p
              · subst e2; simp [hs]
              · simp [e2]
          · rw [if_neg hs]
            refine (bI_zero_iff (by omega) _).mpr fun i _ => ?_
            by_cases e2 : i = p
            · subst e2; simp at hs; simp [hs]
            · simp [e2]
        rw [e1]
        exact bI_step (by omega) (by rw [hg]; simp [c])
      have e3 : (fun j => if j = top then aOr (bI p (gtF Q n t w seen)) (aAnd (aShl 1 (p : Int)) (bI 12 seen)) else (if j = top then bI p (gtF Q n t w seen) else F j)) = (fun j => if j = top then bI (p + 1) (gtF Q n t w seen) else F j) := by
        funext j
        by_cases e4 : j = top
        · rw [if_pos e4, if_pos e4, e]
        · rw [if_neg e4, if_neg e4, if_neg e4]
      rw [e3]
      exact ih
  · exact xX3_evaluate_100 hS ⟨fun _ => ⟨hx, next⟩, fun c => absurd (show (12 : Int) ≤ ((12 : Nat) : Int) by omega) c⟩
theorem gtF_vl {n s t : Nat} {seen A B : Nat → Bool} {num : Int} (hw : WFc Q) (hn : n ≤ nCh Q) (ht : num.toNat = t) : bI 12 (gtF Q n t (bI 12 A) seen) = bI 12 (vl Q n s seen 4 num A B) := by
  refine bI_ext fun p hp => ?_
  unfold gtF vl
  rw [ht]
  by_cases c : p < nPp Q
  · simp [c]
  · have e : bI 12 (fun q => tiF Q n p t q) = 0 := (bI_zero_iff (by omega) _).mpr fun i _ => tiF_out hw n p t i hn (.inl (by omega))
    have e2 : aAnd 0 (bI 12 A) = 0 := and_zero_iff.mpr fun i _ => by rw [tb_zero]; rfl
    simp [c, e, e2]
theorem ev_6 {n cv k1 k3 s : Nat} {seen : Nat → Bool} (hS : Sh M.2.1) (hw : WFc Q) (hn : n ≤ nCh Q) (hC : CovC Q M k1 cv) (hL : Snap Q M.1 k3 n) (hv : WFv Q cv) (hs : s < 12) : ∀ F, ∃ F', Ex l G d mX3_evaluate 6 [some (vR (some (8, 0))), some (vR (some (13, k1))), some (vI (s : Int)), some (vR (some (14, k3))), some (vI (bI 12 seen)), some (vI 0), some (vI 0), none, none, none, none] [] (seI M.1 23 0 F, M.2.1, M.2.2) (some (vI (bI 12 (evS Q n s seen cv)))) (seI M.1 23 0 F', M.2.1, M.2.2) := by
  have h400 := hv.1
  have hl4 : ln Q cv ≤ 400 := by unfold ln; omega
  have key : (fun k : Nat => ∀ F, evJ Q n s seen cv k F → ∃ F', Ex l G d mX3_evaluate 6 [some (vR (some (8, 0))), some (vR (some (13, k1))), some (vI (s : Int)), some (vR (some (14, k3))), some (vI (bI 12 seen)), some (vI (ht Q cv k : Int)), some (vI (k : Int)), none, none, none, none] [] (seI M.1 23 0 F, M.2.1, M.2.2) (some (vI (bI 12 (evS Q n s seen cv)))) (seI M.1 23 0 F', M.2.1, M.2.2)) 0 := by
    refine loopUp (P := fun k : Nat => ∀ F, evJ Q n s seen cv k F → ∃ F', Ex l G d mX3_evaluate 6 [some (vR (some (8, 0))), some (vR (some (13, k1))), some (vI (s : Int)), some (vR (some (14, k3))), some (vI (bI 12 seen)), some (vI (ht Q cv k : Int)), some (vI (k : Int)), none, none, none, none] [] (seI M.1 23 0 F, M.2.1, M.2.2) (some (vI (bI 12 (evS Q n s seen cv)))) (seI M.1 23 0 F', M.2.1, M.2.2)) 0 (ln Q cv) (Nat.zero_le _) ?_ ?_
    · intro k _ hk ih F hF
      have hLs := hL.st (F := F)
      have hkk := ht_le Q cv k
      have q1 : seI M.1 23 0 F 47 k1 k = sgn (kd Q cv k) (nm Q cv k) := by rw [seI_fam (by omega)]; exact hC.2 k hk
      have hts : ht Q cv (k + 1) = if kd Q cv k = 0 ∨ kd Q cv k = 1 ∨ kd Q cv k = 2 then ht Q cv k + 1 else if kd Q cv k = 3 ∨ kd Q cv k = 4 then ht Q cv k else ht Q cv k - 1 := rfl
      obtain ⟨w0, w1, w2, w3, w4, w5⟩ := hv.2.1 k hk
      have next : ∀ (t : Nat) (v h' : Int), t = tg Q cv k + 1 → v = bI 12 (vl Q n s seen (kd Q cv k) (nm Q cv k) (ev Q n s seen cv k (tg Q cv k)) (ev Q n s seen cv k (tg Q cv k + 1))) → h' = (ht Q cv (k + 1) : Int) → ∃ F', Ex l G d mX3_evaluate 6 [some (vR (some (8, 0))), some (vR (some (13, k1))), some (vI (s : Int)), some (vR (some (14, k3))), some (vI (bI 12 seen)), some (vI h'), some (vI ((k : Int) + 1)), none, none, none, none] [] (seI M.1 23 0 (fun j => if j = t then v else F j), M.2.1, M.2.2) (some (vI (bI 12 (evS Q n s seen cv)))) (seI M.1 23 0 F', M.2.1, M.2.2) := by
        intro t v h' e1 e2 e3
        subst e3
        exact ih _ (evJ_step hF e1 e2)
      have ob : InR (aLen M.2.2 47 k1 : Int) := by rw [hC.1]; unfold InR; omega
      have hlt : ¬ ((aLen M.2.2 47 k1 : Int) ≤ (k : Int)) := by rw [hC.1]; omega
      have hi1 : InR ((k : Int) + 1) := by unfold InR; omega
      have hin : (0 : Int) ≤ (k : Int) ∧ (k : Int) < (aLen M.2.2 47 k1 : Int) := by rw [hC.1]; omega
      have hcase : kd Q cv k = 0 ∨ kd Q cv k = 1 ∨ kd Q cv k = 2 ∨ kd Q cv k = 3 ∨ kd Q cv k = 4 ∨ kd Q cv k = 5 ∨ kd Q cv k = 6 := by omega
      rcases hcase with c | c | c | c | c | c | c
      · have sg : sgn (kd Q cv k) (nm Q cv k) = nm Q cv k := by unfold sgn; simp [c]
        have hts' : ht Q cv (k + 1) = ht Q cv k + 1 := by rw [hts, if_pos (by omega)]
        have htg : tg Q cv k = ht Q cv k := by unfold tg; omega
        have et : ((ht Q cv k : Int) + 1).toNat = ht Q cv k + 1 := by omega
        have hm := w1 c
        obtain ⟨F', h⟩ := next (ht Q cv k + 1) (aAnd (bI 12 (fun p => mkF Q n p (nm Q cv k).toNat)) (bI 12 seen)) ((ht Q cv k : Int) + 1) (by omega) (by
          rw [bI_and (by omega), c]
          exact bI_ext fun i _ => by simp [vl]) (by omega)
        refine ⟨F', xX3_evaluate_6 hS ⟨ob, fun c2 => absurd c2 hlt, fun _ => ⟨fun c2 => absurd c2 (by omega), fun _ => ⟨hin, ?_⟩⟩⟩⟩
        dsimp only
        obtain ⟨y, hy⟩ : ∃ y, seI M.1 23 0 F 47 k1 k = y := ⟨_, rfl⟩
        have hy' : y = sgn (kd Q cv k) (nm Q cv k) := by rw [← hy, q1]
        rw [sg] at hy'
        simp only [Int.toNat_natCast, hy]
        refine ⟨fun c2 => absurd c2 (by omega), fun _ => ⟨⟨by unfold InR; omega, by omega, by omega, hi1⟩, ?_⟩⟩
        rw [upI_seI, et, show y.toNat = (nm Q cv k).toNat by omega, hLs.1 (nm Q cv k).toNat (by omega)]; exact h
      · have sg : sgn (kd Q cv k) (nm Q cv k) = 16 + nm Q cv k := by unfold sgn; simp [c]
        have hts' : ht Q cv (k + 1) = ht Q cv k + 1 := by rw [hts, if_pos (by omega)]
        have htg : tg Q cv k = ht Q cv k := by unfold tg; omega
        have et : ((ht Q cv k : Int) + 1).toNat = ht Q cv k + 1 := by omega
        have hm := w2 c
        have em : nm Q cv k = ((nm Q cv k).toNat : Int) := by omega
        obtain ⟨F', h⟩ := next (ht Q cv k + 1) (aAnd (bI 12 (fun p => decide (p < nPp Q ∧ plF Q n p = ((nm Q cv k).toNat : Int)))) (bI 12 seen)) ((ht Q cv k : Int) + 1) (by omega) (by
          rw [← em, bI_and (by omega), c]
          exact bI_ext fun i _ => by simp [vl]) (by omega)
        refine ⟨F', xX3_evaluate_6 hS ⟨ob, fun c2 => absurd c2 hlt, fun _ => ⟨fun c2 => absurd c2 (by omega), fun _ => ⟨hin, ?_⟩⟩⟩⟩
        dsimp only
        obtain ⟨y, hy⟩ : ∃ y, seI M.1 23 0 F 47 k1 k = y := ⟨_, rfl⟩
        have hy' : y = sgn (kd Q cv k) (nm Q cv k) := by rw [← hy, q1]
        rw [sg] at hy'
        simp only [Int.toNat_natCast, hy]
        refine ⟨fun _ => ⟨fun _ => ⟨fun c2 => absurd c2 (by omega), fun _ => ⟨⟨by unfold InR; omega, by unfold InR; omega, by omega, by omega, hi1⟩, ?_⟩⟩, fun c2 => absurd c2 (by omega)⟩, fun c2 => absurd c2 (by omega)⟩
        rw [upI_seI, et, show (y - 16).toNat = (nm Q cv k).toNat by omega, hLs.2.2.2 (nm Q cv k).toNat (by omega)]; exact h
      · have sg : sgn (kd Q cv k) (nm Q cv k) = 24 := by unfold sgn; simp [c]
        have hts' : ht Q cv (k + 1) = ht Q cv k + 1 := by rw [hts, if_pos (by omega)]
        have htg : tg Q cv k = ht Q cv k := by unfold tg; omega
        have et : ((ht Q cv k : Int) + 1).toNat = ht Q cv k + 1 := by omega
        obtain ⟨F', h⟩ := next (ht Q cv k + 1) (aAnd (aShl 1 (s : Int)) (bI 12 seen)) ((ht Q cv k : Int) + 1) (by omega) (by
          rw [bI_one (n := 12) (by omega) hs, bI_and (by omega), c]
          exact bI_ext fun i _ => by simp [vl]) (by omega)
        refine ⟨F', xX3_evaluate_6 hS ⟨ob, fun c2 => absurd c2 hlt, fun _ => ⟨fun c2 => absurd c2 (by omega), fun _ => ⟨hin, ?_⟩⟩⟩⟩
        dsimp only
        obtain ⟨y, hy⟩ : ∃ y, seI M.1 23 0 F 47 k1 k = y := ⟨_, rfl⟩
        have hy' : y = sgn (kd Q cv k) (nm Q cv k) := by rw [← hy, q1]
        rw [sg] at hy'
        simp only [Int.toNat_natCast, hy]
        refine ⟨fun _ => ⟨fun _ => ⟨fun _ => ⟨fun c2 => absurd c2 (by omega), fun _ => ⟨⟨by unfold InR; omega, by omega, by omega, hi1⟩, ?_⟩⟩, fun c2 => absurd c2 (by omega)⟩, fun c2 => absurd c2 (by omega)⟩, fun c2 => absurd c2 (by omega)⟩
        rw [upI_seI, et]; exact h
      · have sg : sgn (kd Q cv k) (nm Q cv k) = 25 := by unfold sgn; simp [c]
        have hts' : ht Q cv (k + 1) = ht Q cv k := by rw [hts, if_neg (show ¬ (kd Q cv k = 0 ∨ kd Q cv k = 1 ∨ kd Q cv k = 2) by omega), if_pos (by omega)]
        have h1 := w4 (by omega)
        have htg : tg Q cv k = ht Q cv k - 1 := by unfold tg; omega
        have hA := hF (ht Q cv k - 1) (by omega)
        rw [show ht Q cv k - 1 + 1 = ht Q cv k by omega] at hA
        obtain ⟨F', h⟩ := next (ht Q cv k) (aAnd (bI 12 seen) (aXor (F (ht Q cv k)) (-1))) (ht Q cv k : Int) (by omega) (by
          rw [hA, bI_diff (by omega), c, htg]
          exact bI_ext fun i _ => by simp [vl]) (by omega)
        refine ⟨F', xX3_evaluate_6 hS ⟨ob, fun c2 => absurd c2 hlt, fun _ => ⟨fun c2 => absurd c2 (by omega), fun _ => ⟨hin, ?_⟩⟩⟩⟩
        dsimp only
        obtain ⟨y, hy⟩ : ∃ y, seI M.1 23 0 F 47 k1 k = y := ⟨_, rfl⟩
        have hy' : y = sgn (kd Q cv k) (nm Q cv k) := by rw [← hy, q1]
        rw [sg] at hy'
        simp only [Int.toNat_natCast, hy]
        refine ⟨fun _ => ⟨fun _ => ⟨fun _ => ⟨fun _ => ⟨fun c2 => absurd c2 (by omega), fun _ => ⟨⟨by omega, hi1⟩, ?_⟩⟩, fun c2 => absurd c2 (by omega)⟩, fun c2 => absurd c2 (by omega)⟩, fun c2 => absurd c2 (by omega)⟩, fun c2 => absurd c2 (by omega)⟩
        rw [upI_seI, seI_s]; exact h
      · have sg : sgn (kd Q cv k) (nm Q cv k) = 10 + nm Q cv k := by unfold sgn; simp [c]
        have hts' : ht Q cv (k + 1) = ht Q cv k := by rw [hts, if_neg (show ¬ (kd Q cv k = 0 ∨ kd Q cv k = 1 ∨ kd Q cv k = 2) by omega), if_pos (by omega)]
        have h1 := w4 (by omega)
        have htg : tg Q cv k = ht Q cv k - 1 := by unfold tg; omega
        have hA := hF (ht Q cv k - 1) (by omega)
        rw [show ht Q cv k - 1 + 1 = ht Q cv k by omega] at hA
        have hm := w3 c
        obtain ⟨F', h⟩ := next (ht Q cv k) (bI 12 (gtF Q n (nm Q cv k).toNat (F (ht Q cv k)) seen)) (ht Q cv k : Int) (by omega) (by
          rw [hA, c, htg]
          exact gtF_vl hw hn rfl) (by omega)
        refine ⟨F', xX3_evaluate_6 hS ⟨ob, fun c2 => absurd c2 hlt, fun _ => ⟨fun c2 => absurd c2 (by omega), fun _ => ⟨hin, ?_⟩⟩⟩⟩
        dsimp only
        obtain ⟨y, hy⟩ : ∃ y, seI M.1 23 0 F 47 k1 k = y := ⟨_, rfl⟩
        have hy' : y = sgn (kd Q cv k) (nm Q cv k) := by rw [← hy, q1]
        rw [sg] at hy'
        simp only [Int.toNat_natCast, hy]
        refine ⟨fun _ => ⟨fun c2 => absurd c2 (by omega), fun _ => ⟨⟨by omega, by unfold InR; omega, by unfold InR; omega⟩, ?_⟩⟩, fun c2 => absurd c2 (by omega)⟩
        rw [upI_seI, seI_s, show (y - 10) * 12 = ((nm Q cv k).toNat : Int) * 12 by omega]
        exact ev_100 hS hL (by omega) (by omega) hi1 F h
      · have sg : sgn (kd Q cv k) (nm Q cv k) = 26 := by unfold sgn; simp [c]
        have h2 := w5 (by omega)
        have hts' : ht Q cv (k + 1) = ht Q cv k - 1 := by rw [hts, if_neg (show ¬ (kd Q cv k = 0 ∨ kd Q cv k = 1 ∨ kd Q cv k = 2) by omega), if_neg (show ¬ (kd Q cv k = 3 ∨ kd Q cv k = 4) by omega)]
        have htg : tg Q cv k = ht Q cv k - 2 := by unfold tg; omega
        have et : ((ht Q cv k : Int) + (-1)).toNat = ht Q cv k - 2 + 1 := by omega
        have et2 : ((ht Q cv k : Int) + (-1) + 1).toNat = ht Q cv k - 2 + 1 + 1 := by omega
        have hA := hF (ht Q cv k - 2) (by omega)
        have hB := hF (ht Q cv k - 2 + 1) (by omega)
        obtain ⟨F', h⟩ := next (ht Q cv k - 2 + 1) (aAnd (F (ht Q cv k - 2 + 1)) (F (ht Q cv k - 2 + 1 + 1))) ((ht Q cv k : Int) + (-1)) (by omega) (by
          rw [hA, hB, bI_and (by omega), c, htg]
          exact bI_ext fun i _ => by simp [vl]) (by omega)
        refine ⟨F', xX3_evaluate_6 hS ⟨ob, fun c2 => absurd c2 hlt, fun _ => ⟨fun c2 => absurd c2 (by omega), fun _ => ⟨hin, ?_⟩⟩⟩⟩
        dsimp only
        obtain ⟨y, hy⟩ : ∃ y, seI M.1 23 0 F 47 k1 k = y := ⟨_, rfl⟩
        have hy' : y = sgn (kd Q cv k) (nm Q cv k) := by rw [← hy, q1]
        rw [sg] at hy'
        simp only [Int.toNat_natCast, hy]
        refine ⟨fun _ => ⟨fun _ => ⟨fun _ => ⟨fun _ => ⟨fun _ => ⟨fun c2 => absurd c2 (by omega), fun _ => ⟨⟨by unfold InR; omega, by unfold InR; omega, by omega⟩, ⟨fun _ => by omega, fun _ => by omega⟩, ⟨by omega, hi1⟩, ?_⟩⟩, fun c2 => absurd c2 (by omega)⟩, fun c2 => absurd c2 (by omega)⟩, fun c2 => absurd c2 (by omega)⟩, fun c2 => absurd c2 (by omega)⟩, fun c2 => absurd c2 (by omega)⟩
        rw [upI_seI, et, et2, seI_s, if_pos hy']; exact h
      · have sg : sgn (kd Q cv k) (nm Q cv k) = 27 := by unfold sgn; simp [c]
        have h2 := w5 (by omega)
        have hts' : ht Q cv (k + 1) = ht Q cv k - 1 := by rw [hts, if_neg (show ¬ (kd Q cv k = 0 ∨ kd Q cv k = 1 ∨ kd Q cv k = 2) by omega), if_neg (show ¬ (kd Q cv k = 3 ∨ kd Q cv k = 4) by omega)]
        have htg : tg Q cv k = ht Q cv k - 2 := by unfold tg; omega
        have et : ((ht Q cv k : Int) + (-1)).toNat = ht Q cv k - 2 + 1 := by omega
        have et2 : ((ht Q cv k : Int) + (-1) + 1).toNat = ht Q cv k - 2 + 1 + 1 := by omega
        have hA := hF (ht Q cv k - 2) (by omega)
        have hB := hF (ht Q cv k - 2 + 1) (by omega)
        obtain ⟨F', h⟩ := next (ht Q cv k - 2 + 1) (aOr (F (ht Q cv k - 2 + 1)) (F (ht Q cv k - 2 + 1 + 1))) ((ht Q cv k : Int) + (-1)) (by omega) (by
          rw [hA, hB, bI_or (by omega), c, htg]
          exact bI_ext fun i _ => by simp [vl]) (by omega)
        refine ⟨F', xX3_evaluate_6 hS ⟨ob, fun c2 => absurd c2 hlt, fun _ => ⟨fun c2 => absurd c2 (by omega), fun _ => ⟨hin, ?_⟩⟩⟩⟩
        dsimp only
        obtain ⟨y, hy⟩ : ∃ y, seI M.1 23 0 F 47 k1 k = y := ⟨_, rfl⟩
        have hy' : y = sgn (kd Q cv k) (nm Q cv k) := by rw [← hy, q1]
        rw [sg] at hy'
        simp only [Int.toNat_natCast, hy]
        refine ⟨fun _ => ⟨fun _ => ⟨fun _ => ⟨fun _ => ⟨fun _ => ⟨fun c2 => absurd c2 (by omega), fun _ => ⟨⟨by unfold InR; omega, by unfold InR; omega, by omega⟩, ⟨fun _ => by omega, fun _ => by omega⟩, ⟨by omega, hi1⟩, ?_⟩⟩, fun c2 => absurd c2 (by omega)⟩, fun c2 => absurd c2 (by omega)⟩, fun c2 => absurd c2 (by omega)⟩, fun c2 => absurd c2 (by omega)⟩, fun c2 => absurd c2 (by omega)⟩
        rw [upI_seI, et, et2, seI_s, if_neg (show ¬ (y = 26) by omega)]; exact h
    · intro F hF
      have h1 := hv.2.2
      have hz : F (0 + 1) = bI 12 (evS Q n s seen cv) := hF 0 (by omega)
      refine ⟨F, xX3_evaluate_6 hS ⟨?_, fun _ => ⟨by omega, ?_, rfl⟩, fun c2 => absurd ?_ c2⟩⟩
      · dsimp only; rw [hC.1]; unfold InR; omega
      · dsimp only; rw [h1, seI_s]; exact congrArg (fun x => some (vI x)) hz.symm
      · dsimp only; rw [hC.1]; exact Int.le_refl _
  intro F
  exact key F (fun i hi => by unfold ht at hi; omega)
theorem KX3_evaluate {n cv k1 k3 s : Nat} {seen : Nat → Bool} (hS : Sh M.2.1) (hw : WFc Q) (hn : n ≤ nCh Q) (hC : CovC Q M k1 cv) (hL : Snap Q M.1 k3 n) (hv : WFv Q cv) (hs : s < 12) : ∃ F', Cl l G d mX3_evaluate [vR (some (8, 0)), vR (some (13, k1)), vI (s : Int), vR (some (14, k3)), vI (bI 12 seen)] M (some (vI (bI 12 (evS Q n s seen cv)))) (seI M.1 23 0 F', M.2.1, M.2.2) := by
  obtain ⟨F', h⟩ := ev_6 (l := l) (G := G) (d := d) (seen := seen) hS hw hn hC hL hv hs (M.1 23 0)
  rw [seI_self] at h
  exact ⟨F', xX3_evaluate_0 h⟩
end EV
