/-! hitting sets: one set more -/
set_option maxRecDepth 4000 in
theorem xX4_add_0 {l : Launch} {G : Gt} {d : Nat} {M M' : Mem} {r : Option Vl} {x1 : Int} (h : 
    ∃ (r_3 : Int) (M_1 : Mem), Cl l G d mJ6_bitCount_0f7a4 [vI x1] M (some (vI r_3)) M_1 ∧ ((¬ (r_3 = 1) → (((if (M_1.1 11 0 4) = 0 then (if x1 = 0 then 1 else 0 : Int) else 1 : Int) = 0 ∨ (if (M_1.1 11 0 4) = 0 then (if x1 = 0 then 1 else 0 : Int) else 1 : Int) = 1)) ∧ Ex l G (d + 1) mX4_add 42 [some (vR (some (11, 0))), some (vI x1), some (vI 0), some (vI 0)] [] ((upI M_1.1 11 0 4 (if (M_1.1 11 0 4) = 0 then (if x1 = 0 then 1 else 0 : Int) else 1 : Int)), M_1.2.1, M_1.2.2) r M') ∧ (r_3 = 1 → (((if (M_1.1 11 0 4) = 0 then (if x1 = 0 then 1 else 0 : Int) else 1 : Int) = 0 ∨ (if (M_1.1 11 0 4) = 0 then (if x1 = 0 then 1 else 0 : Int) else 1 : Int) = 1)) ∧ Ex l G (d + 1) mX4_add 42 [some (vR (some (11, 0))), some (vI x1), some (vI 0), some (vI 0)] [] ((upI (upI M_1.1 11 0 3 (aOr (M_1.1 11 0 3) x1)) 11 0 4 (if (M_1.1 11 0 4) = 0 then (if x1 = 0 then 1 else 0 : Int) else 1 : Int)), M_1.2.1, M_1.2.2) r M'))) : Cl l G (d + 1) mX4_add [vR (some (11, 0)), vI x1] M r M' := by
  show Ex l G (d + 1) mX4_add 0 [some (vR (some (11, 0))), some (vI x1), none, none] [] M r M'
  refine r_iload_n 1 dX4_add_0 rfl rfl ?_
  obtain ⟨r_3, M_1, hc_2, h⟩ := h
  refine c_1 [vI x1] [] 4 dX4_add_1 rfl rfl mo_J6_bitCount_0f7a4 ml_4_38 rfl rfl hc_2 ?_
  refine r_iconst 5 dX4_add_4 rfl (InR_of rfl) ?_
  refine r_icmp_ne 8 18 dX4_add_5 rfl rfl (fun c => ?_) (fun c => ?_)
  · have h := h.1 (c)
    refine r_aload_n 19 dX4_add_18 rfl rfl ?_
    refine r_aload_n 20 dX4_add_19 rfl rfl ?_
    refine g_I 23 dX4_add_20 rfl rfl rfl fi_4_25 rfl ?_
    have hJ_4 : Ex l G (d + 1) mX4_add 35 [some (vR (some (11, 0))), some (vI x1), none, none] [vI (if (M_1.1 11 0 4) = 0 then (if x1 = 0 then 1 else 0 : Int) else 1 : Int), vR (some (11, 0))] M_1 r M' := by
      obtain ⟨o_7, h⟩ := h
      refine p_Z 38 dX4_add_35 rfl rfl rfl rfl pf_4_25 (.inl rfl) rfl o_7 ?_
      refine r_iconst 39 dX4_add_38 rfl (InR_of rfl) ?_
      refine r_istore_n (ls' := [some (vR (some (11, 0))), some (vI x1), some (vI 0), none]) 40 dX4_add_39 rfl rfl rfl rfl ?_
      refine r_iconst 41 dX4_add_40 rfl (InR_of rfl) ?_
      refine r_istore_n (ls' := [some (vR (some (11, 0))), some (vI x1), some (vI 0), some (vI 0)]) 42 dX4_add_41 rfl rfl rfl rfl ?_
      exact h
    refine r_if_ne 26 30 dX4_add_23 rfl rfl (fun c => ?_) (fun c => ?_)
    · have c_5 := c
      refine r_iconst 31 dX4_add_30 rfl (InR_of rfl) ?_
      refine r_goto 35 dX4_add_31 rfl ?_
      exact (Ex.at hJ_4 rfl (show [vI 1, vR (some (11, 0))] = [vI (if (M_1.1 11 0 4) = 0 then (if x1 = 0 then 1 else 0 : Int) else 1 : Int), vR (some (11, 0))] by simp only [if_neg c_5]) rfl)
    · have c_5 := Decidable.not_not.mp c
      refine r_iload_n 27 dX4_add_26 rfl rfl ?_
      refine r_if_ne 30 34 dX4_add_27 rfl rfl (fun c => ?_) (fun c => ?_)
      · have c_6 := c
        refine r_iconst 35 dX4_add_34 rfl (InR_of rfl) ?_
        exact (Ex.at hJ_4 rfl (show [vI 0, vR (some (11, 0))] = [vI (if (M_1.1 11 0 4) = 0 then (if x1 = 0 then 1 else 0 : Int) else 1 : Int), vR (some (11, 0))] by simp only [if_pos c_5, if_neg c_6]) rfl)
      · have c_6 := Decidable.not_not.mp c
        refine r_iconst 31 dX4_add_30 rfl (InR_of rfl) ?_
        refine r_goto 35 dX4_add_31 rfl ?_
        exact (Ex.at hJ_4 rfl (show [vI 1, vR (some (11, 0))] = [vI (if (M_1.1 11 0 4) = 0 then (if x1 = 0 then 1 else 0 : Int) else 1 : Int), vR (some (11, 0))] by simp only [if_pos c_5, if_pos c_6]) rfl)
  · have h := h.2 (Decidable.not_not.mp c)
    refine r_aload_n 9 dX4_add_8 rfl rfl ?_
    refine r_dup 10 dX4_add_9 rfl rfl ?_
    refine g_I 13 dX4_add_10 rfl rfl rfl fi_4_22 rfl ?_
    refine r_iload_n 14 dX4_add_13 rfl rfl ?_
    refine r_ior 15 dX4_add_14 rfl ?_
    refine p_I 18 dX4_add_15 rfl rfl rfl rfl pf_4_22 (.inl rfl) rfl ?_
    refine r_aload_n 19 dX4_add_18 rfl rfl ?_
    refine r_aload_n 20 dX4_add_19 rfl rfl ?_
    refine g_I 23 dX4_add_20 rfl rfl rfl fi_4_25 (mI_0 (upI_i (by decide))) ?_
    have hJ_8 : Ex l G (d + 1) mX4_add 35 [some (vR (some (11, 0))), some (vI x1), none, none] [vI (if (M_1.1 11 0 4) = 0 then (if x1 = 0 then 1 else 0 : Int) else 1 : Int), vR (some (11, 0))] ((upI M_1.1 11 0 3 (aOr (M_1.1 11 0 3) x1)), M_1.2.1, M_1.2.2) r M' := by
      obtain ⟨o_11, h⟩ := h
      refine p_Z 38 dX4_add_35 rfl rfl rfl rfl pf_4_25 (.inl rfl) rfl o_11 ?_
      refine r_iconst 39 dX4_add_38 rfl (InR_of rfl) ?_
      refine r_istore_n (ls' := [some (vR (some (11, 0))), some (vI x1), some (vI 0), none]) 40 dX4_add_39 rfl rfl rfl rfl ?_
      refine r_iconst 41 dX4_add_40 rfl (InR_of rfl) ?_
      refine r_istore_n (ls' := [some (vR (some (11, 0))), some (vI x1), some (vI 0), some (vI 0)]) 42 dX4_add_41 rfl rfl rfl rfl ?_
      exact h
    refine r_if_ne 26 30 dX4_add_23 rfl rfl (fun c => ?_) (fun c => ?_)
    · have c_9 := c
      refine r_iconst 31 dX4_add_30 rfl (InR_of rfl) ?_
      refine r_goto 35 dX4_add_31 rfl ?_
      exact (Ex.at hJ_8 rfl (show [vI 1, vR (some (11, 0))] = [vI (if (M_1.1 11 0 4) = 0 then (if x1 = 0 then 1 else 0 : Int) else 1 : Int), vR (some (11, 0))] by simp only [if_neg c_9]) rfl)
    · have c_9 := Decidable.not_not.mp c
      refine r_iload_n 27 dX4_add_26 rfl rfl ?_
      refine r_if_ne 30 34 dX4_add_27 rfl rfl (fun c => ?_) (fun c => ?_)
      · have c_10 := c
        refine r_iconst 35 dX4_add_34 rfl (InR_of rfl) ?_
        exact (Ex.at hJ_8 rfl (show [vI 0, vR (some (11, 0))] = [vI (if (M_1.1 11 0 4) = 0 then (if x1 = 0 then 1 else 0 : Int) else 1 : Int), vR (some (11, 0))] by simp only [if_pos c_9, if_neg c_10]) rfl)
      · have c_10 := Decidable.not_not.mp c
        refine r_iconst 31 dX4_add_30 rfl (InR_of rfl) ?_
        refine r_goto 35 dX4_add_31 rfl ?_
        exact (Ex.at hJ_8 rfl (show [vI 1, vR (some (11, 0))] = [vI (if (M_1.1 11 0 4) = 0 then (if x1 = 0 then 1 else 0 : Int) else 1 : Int), vR (some (11, 0))] by simp only [if_pos c_9, if_pos c_10]) rfl)
set_option maxRecDepth 4000 in
theorem xX4_add_42 {l : Launch} {G : Gt} {d : Nat} {M M' : Mem} {r : Option Vl} {x1 : Int} {x2 : Int} {x3 : Int} (hS : Sh M.2.1) (h : 
    ((M.1 11 0 1) ≤ x3 → Ex l G (d + 1) mX4_add 72 [some (vR (some (11, 0))), some (vI x1), some (vI x2), some (vI 0)] [] M r M') ∧ (¬ ((M.1 11 0 1) ≤ x3) → ((0 ≤ x3 ∧ x3 < 512)) ∧ ((¬ ((aAnd (M.1 26 0 x3.toNat) (aXor x1 (-1))) = 0) → (InR (x3 + 1)) ∧ Ex l G (d + 1) mX4_add 42 [some (vR (some (11, 0))), some (vI x1), some (vI x2), some (vI (x3 + 1))] [] M r M') ∧ ((aAnd (M.1 26 0 x3.toNat) (aXor x1 (-1))) = 0 → r = none ∧ M' = M)))) : Ex l G (d + 1) mX4_add 42 [some (vR (some (11, 0))), some (vI x1), some (vI x2), some (vI x3)] [] M r M' := by
  refine r_iload_n 43 dX4_add_42 rfl rfl ?_
  refine r_aload_n 44 dX4_add_43 rfl rfl ?_
  refine g_I 47 dX4_add_44 rfl rfl rfl fi_4_18 rfl ?_
  refine r_icmp_ge 50 70 dX4_add_47 rfl rfl (fun c => ?_) (fun c => ?_)
  · have h := h.1 (c)
    refine r_iconst 71 dX4_add_70 rfl (InR_of rfl) ?_
    refine r_istore_n (ls' := [some (vR (some (11, 0))), some (vI x1), some (vI x2), some (vI 0)]) 72 dX4_add_71 rfl rfl rfl rfl ?_
    exact h
  · have h := h.2 (c)
    obtain ⟨o_1, h⟩ := h
    refine r_aload_n 51 dX4_add_50 rfl rfl ?_
    refine g_R 54 dX4_add_51 rfl rfl rfl fr_4_11 (sh_4_0 hS) ?_
    refine r_iload_n 55 dX4_add_54 rfl rfl ?_
    refine a_I 512 56 dX4_add_55 rfl rfl rfl rfl o_1 rfl ?_
    refine r_iload_n 57 dX4_add_56 rfl rfl ?_
    refine r_iconst 58 dX4_add_57 rfl (InR_of rfl) ?_
    refine r_ixor 59 dX4_add_58 rfl ?_
    refine r_iand 60 dX4_add_59 rfl ?_
    refine r_if_ne 63 64 dX4_add_60 rfl rfl (fun c => ?_) (fun c => ?_)
    · have h := h.1 (c)
      obtain ⟨o_2, h⟩ := h
      refine r_iinc (ls' := [some (vR (some (11, 0))), some (vI x1), some (vI x2), some (vI (x3 + 1))]) 67 dX4_add_64 rfl rfl rfl rfl o_2 rfl ?_
      refine r_goto 42 dX4_add_67 rfl ?_
      exact h
    · have h := h.2 (Decidable.not_not.mp c)
      exact r_vret dX4_add_63 rfl h.1 h.2
set_option maxRecDepth 4000 in
theorem xX4_add_72 {l : Launch} {G : Gt} {d : Nat} {M M' : Mem} {r : Option Vl} {x1 : Int} {x2 : Int} {x3 : Int} (hS : Sh M.2.1) (h : 
    ((M.1 11 0 1) ≤ x3 → (512 ≤ x2 → r = none ∧ M' = ((upI M.1 11 0 1 x2), M.2.1, M.2.2)) ∧ (¬ (512 ≤ x2) → ((0 ≤ x2 ∧ x2 < 512) ∧ InR (x2 + 1)) ∧ r = none ∧ M' = ((upI (upI (upI M.1 11 0 1 x2) 26 0 x2.toNat x1) 11 0 1 (x2 + 1)), M.2.1, M.2.2))) ∧ (¬ ((M.1 11 0 1) ≤ x3) → ((0 ≤ x3 ∧ x3 < 512)) ∧ (((aAnd x1 (aXor (M.1 26 0 x3.toNat) (-1))) = 0 → (InR (x3 + 1)) ∧ Ex l G (d + 1) mX4_add 72 [some (vR (some (11, 0))), some (vI x1), some (vI x2), some (vI (x3 + 1))] [] M r M') ∧ (¬ ((aAnd x1 (aXor (M.1 26 0 x3.toNat) (-1))) = 0) → ((0 ≤ x3 ∧ x3 < 512) ∧ (0 ≤ x2 ∧ x2 < 512) ∧ InR (x2 + 1) ∧ InR (x3 + 1)) ∧ Ex l G (d + 1) mX4_add 72 [some (vR (some (11, 0))), some (vI x1), some (vI (x2 + 1)), some (vI (x3 + 1))] [] ((upI M.1 26 0 x2.toNat (M.1 26 0 x3.toNat)), M.2.1, M.2.2) r M')))) : Ex l G (d + 1) mX4_add 72 [some (vR (some (11, 0))), some (vI x1), some (vI x2), some (vI x3)] [] M r M' := by
  refine r_iload_n 73 dX4_add_72 rfl rfl ?_
  refine r_aload_n 74 dX4_add_73 rfl rfl ?_
  refine g_I 77 dX4_add_74 rfl rfl rfl fi_4_18 rfl ?_
  refine r_icmp_ge 80 114 dX4_add_77 rfl rfl (fun c => ?_) (fun c => ?_)
  · have h := h.1 (c)
    refine r_aload_n 115 dX4_add_114 rfl rfl ?_
    refine r_iload_n 116 dX4_add_115 rfl rfl ?_
    refine p_I 119 dX4_add_116 rfl rfl rfl rfl pf_4_18 (.inl rfl) rfl ?_
    refine r_aload_n 120 dX4_add_119 rfl rfl ?_
    refine g_I 123 dX4_add_120 rfl rfl rfl fi_4_18 (mI_0 (upI_s)) ?_
    refine r_sipush 126 dX4_add_123 rfl rfl ?_
    refine r_icmp_ge 129 149 dX4_add_126 rfl rfl (fun c => ?_) (fun c => ?_)
    · have h := h.1 (c)
      exact r_vret dX4_add_149 rfl h.1 h.2
    · have h := h.2 (c)
      obtain ⟨⟨o_1, o_2⟩, h⟩ := h
      refine r_aload_n 130 dX4_add_129 rfl rfl ?_
      refine g_R 133 dX4_add_130 rfl rfl rfl fr_4_11 (mR_0 (sh_4_0 hS)) ?_
      refine r_aload_n 134 dX4_add_133 rfl rfl ?_
      refine g_I 137 dX4_add_134 rfl rfl rfl fi_4_18 (mI_0 (upI_s)) ?_
      refine r_iload_n 138 dX4_add_137 rfl rfl ?_
      refine s_I 512 139 dX4_add_138 rfl rfl (by decide) rfl rfl o_1 ?_
      refine r_aload_n 140 dX4_add_139 rfl rfl ?_
      refine r_dup 141 dX4_add_140 rfl rfl ?_
      refine g_I 144 dX4_add_141 rfl rfl rfl fi_4_18 (mI_0 ((upI_f rfl).trans (upI_s))) ?_
      refine r_iconst 145 dX4_add_144 rfl (InR_of rfl) ?_
      refine r_iadd 146 dX4_add_145 rfl o_2 ?_
      refine p_I 149 dX4_add_146 rfl rfl rfl rfl pf_4_18 (.inl rfl) rfl ?_
      exact r_vret dX4_add_149 rfl h.1 h.2
  · have h := h.2 (c)
    obtain ⟨o_3, h⟩ := h
    refine r_iload_n 81 dX4_add_80 rfl rfl ?_
    refine r_aload_n 82 dX4_add_81 rfl rfl ?_
    refine g_R 85 dX4_add_82 rfl rfl rfl fr_4_11 (sh_4_0 hS) ?_
    refine r_iload_n 86 dX4_add_85 rfl rfl ?_
    refine a_I 512 87 dX4_add_86 rfl rfl rfl rfl o_3 rfl ?_
    refine r_iconst 88 dX4_add_87 rfl (InR_of rfl) ?_
    refine r_ixor 89 dX4_add_88 rfl ?_
    refine r_iand 90 dX4_add_89 rfl ?_
    refine r_if_eq 93 108 dX4_add_90 rfl rfl (fun c => ?_) (fun c => ?_)
    · have h := h.1 (c)
      obtain ⟨o_4, h⟩ := h
      refine r_iinc (ls' := [some (vR (some (11, 0))), some (vI x1), some (vI x2), some (vI (x3 + 1))]) 111 dX4_add_108 rfl rfl rfl rfl o_4 rfl ?_
      refine r_goto 72 dX4_add_111 rfl ?_
      exact h
    · have h := h.2 (c)
      obtain ⟨⟨o_5, o_6, o_7, o_8⟩, h⟩ := h
      refine r_aload_n 94 dX4_add_93 rfl rfl ?_
      refine g_R 97 dX4_add_94 rfl rfl rfl fr_4_11 (sh_4_0 hS) ?_
      refine r_iload_n 98 dX4_add_97 rfl rfl ?_
      refine r_aload_n 99 dX4_add_98 rfl rfl ?_
      refine g_R 102 dX4_add_99 rfl rfl rfl fr_4_11 (sh_4_0 hS) ?_
      refine r_iload_n 103 dX4_add_102 rfl rfl ?_
      refine a_I 512 104 dX4_add_103 rfl rfl rfl rfl o_5 rfl ?_
      refine s_I 512 105 dX4_add_104 rfl rfl (by decide) rfl rfl o_6 ?_
      refine r_iinc (ls' := [some (vR (some (11, 0))), some (vI x1), some (vI (x2 + 1)), some (vI x3)]) 108 dX4_add_105 rfl rfl rfl rfl o_7 rfl ?_
      refine r_iinc (ls' := [some (vR (some (11, 0))), some (vI x1), some (vI (x2 + 1)), some (vI (x3 + 1))]) 111 dX4_add_108 rfl rfl rfl rfl o_8 rfl ?_
      refine r_goto 72 dX4_add_111 rfl ?_
      exact h

theorem pig : ∀ (m n : Nat) (f : Nat → Nat), (∀ i, i < n → f i < m) → (∀ i j, i < n → j < n → f i = f j → i = j) → n ≤ m := by
  intro m
  induction m with
  | zero =>
    intro n f h _
    cases n with
    | zero => exact Nat.le_refl _
    | succ n => have := h 0 (by omega); omega
  | succ m ih =>
    intro n f h hi
    cases n with
    | zero => omega
    | succ p =>
      have := ih p (fun i => if f i = m then f p else f i) (fun i hp => by
        have h1 := h i (by omega)
        have h2 := h p (by omega)
        by_cases c : f i = m
        · rw [if_pos c]
          by_cases c2 : f p = m
          · have := hi i p (by omega) (by omega) (by omega); omega
          · omega
        · rw [if_neg c]; omega) (fun i j hp hq e => by
        by_cases c : f i = m
        · by_cases c2 : f j = m
          · exact hi i j (by omega) (by omega) (by omega)
          · rw [if_pos c, if_neg c2] at e
            have := hi p j (by omega) (by omega) e
            omega
        · by_cases c2 : f j = m
          · rw [if_neg c, if_pos c2] at e
            have := hi i p (by omega) (by omega) e
            omega
          · rw [if_neg c, if_neg c2] at e
            exact hi i j (by omega) (by omega) e)
      omega
/-- sets of ten that hold none another are fewer than 512 and one -/
theorem anti10 {k : Nat} {V : Nat → Nat → Bool} (h10 : ∀ i, i < k + 1 → ∀ j, 10 ≤ j → j < 16 → V i j = false) (ha : ∀ i j, i < k + 1 → j < k + 1 → i ≠ j → ¬ subS (V i) (V j)) : k < 512 := by
  have := pig 512 (k + 1) (fun i => bset 9 (fun j => V i (j + 1))) (fun i _ => bset_lt 9 _) (fun i j hi hj e => by
    by_cases c : i = j
    · exact c
    · exfalso
      have hb : ∀ t, t < 9 → V i (t + 1) = V j (t + 1) := fun t ht => by
        have e1 := bset_bit 9 (fun x => V i (x + 1)) t
        have e2 := bset_bit 9 (fun x => V j (x + 1)) t
        rw [e, e2] at e1
        simpa [ht] using e1.symm
      have key : ∀ a b, a < k + 1 → b < k + 1 → a ≠ b → (∀ t, t < 9 → V a (t + 1) = V b (t + 1)) → V a 0 = false → False := fun a b ha' hb' hne hab h0 => ha a b ha' hb' hne fun t ht htt => by
        by_cases c0 : t = 0
        · rw [c0, h0] at htt; cases htt
        · by_cases c9 : t < 10
          · have := hab (t - 1) (by omega)
            rw [show t - 1 + 1 = t by omega] at this
            rw [← this]; exact htt
          · rw [h10 a ha' t (by omega) ht] at htt; cases htt
      cases e0 : V i 0 with
      | false => exact key i j hi hj c hb e0
      | true =>
        cases e1 : V j 0 with
        | false => exact key j i hj hi (fun x => c x.symm) (fun t ht => (hb t ht).symm) e1
        | true =>
          exact ha i j hi hj c fun t ht htt => by
            by_cases c0 : t = 0
            · rw [c0]; exact e1
            · by_cases c9 : t < 10
              · have := hb (t - 1) (by omega)
                rw [show t - 1 + 1 = t by omega] at this
                rw [← this]; exact htt
              · rw [h10 i hi t (by omega) ht] at htt; cases htt)
  omega
theorem sub_and {u v : Nat → Bool} : aAnd (bI 16 u) (aXor (bI 16 v) (-1)) = 0 ↔ subS u v := by
  rw [bI_diff (by omega), bI_zero_iff (by omega)]
  constructor
  · intro h k hk hu
    have := h k hk
    rw [hu] at this
    cases e : v k with
    | true => rfl
    | false => rw [e] at this; cases this
  · intro h k hk
    cases e : u k with
    | false => rfl
    | true => rw [h k hk e]; rfl
def apV (k : Nat) (σ : Nat → Nat) (U : Nat → Nat → Bool) (u : Nat → Bool) (a : Nat) : Nat → Bool := if a < k then U (σ a) else u
theorem apV_l {k : Nat} {σ : Nat → Nat} {U : Nat → Nat → Bool} {u : Nat → Bool} {a : Nat} (h : a < k) : apV k σ U u a = U (σ a) := if_pos h
theorem apV_r {k : Nat} {σ : Nat → Nat} {U : Nat → Nat → Bool} {u : Nat → Bool} {a : Nat} (h : ¬ a < k) : apV k σ U u a = u := if_neg h
def sgN (k i : Nat) (σ : Nat → Nat) (a : Nat) : Nat := if a = k then i else σ a
theorem sgN_s {k i : Nat} {σ : Nat → Nat} : sgN k i σ k = i := if_pos rfl
theorem sgN_o {k i : Nat} {σ : Nat → Nat} {a : Nat} (h : ¬ a = k) : sgN k i σ a = σ a := if_neg h
section AD
variable {l : Launch} {G : Gt} {d : Nat} {M : Mem}
theorem hit_sub {u v g : Nat → Bool} (h : subS u v) (hg : hitU u g) : hitU v g := by
  obtain ⟨k, hk, a, b⟩ := hg
  exact ⟨k, hk, h k hk a, b⟩
/-- only the sets, how many, what is alone and whether one is empty are other -/
def frS (I I' : IM) : Prop := ∀ f k i, ¬ ((f = 26 ∧ k = 0) ∨ (f = 11 ∧ k = 0 ∧ (i = 1 ∨ i = 3 ∨ i = 4))) → I' f k i = I f k i
theorem frS.rf {I : IM} : frS I I := fun _ _ _ _ => rfl
theorem frS.tr {I I' I'' : IM} (h : frS I I') (h' : frS I' I'') : frS I I'' := fun f k i hn => (h' f k i hn).trans (h f k i hn)
theorem frS.up {I : IM} {f i : Nat} {v : Int} (h : f = 26 ∨ (f = 11 ∧ (i = 1 ∨ i = 3 ∨ i = 4))) : frS I (upI I f 0 i v) := fun f' k i' hn => by
  by_cases e : f' = f ∧ k = 0
  · obtain ⟨rfl, rfl⟩ := e
    rw [upI_i (fun e2 => hn (by omega))]
  · rw [upI_o e]
theorem add_72 {m : Nat} {U : Nat → Nat → Bool} {u : Nat → Bool} {I0 : IM} (hS : Sh M.2.1) (hm : m ≤ 512) (hA : ∀ i j, i < m → j < m → i ≠ j → ¬ subS (U i) (U j)) (hno : ∀ i, i < m → ¬ subS (U i) u)
    (hk : ∀ (k : Nat) (V : Nat → Nat → Bool), k ≤ m → (∀ i j, i < k + 1 → j < k + 1 → i ≠ j → ¬ subS (V i) (V j)) → (∀ i, i < k → ∃ j, j < m ∧ V i = U j) → V k = u → k < 512) :
    ∀ n i k : Nat, n + i = m → k ≤ i → ∀ I, frS I0 I → I 11 0 1 = (m : Int) → I 11 0 3 = I0 11 0 3 → I 11 0 4 = I0 11 0 4 → (∀ j, i ≤ j → j < m → I 26 0 j = bI 16 (U j)) → (∃ σ : Nat → Nat, (∀ a, a < k → σ a < i ∧ I 26 0 a = bI 16 (U (σ a)) ∧ ¬ subS u (U (σ a))) ∧ (∀ a b, a < b → b < k → σ a < σ b) ∧ ∀ j, j < i → ¬ subS u (U j) → ∃ a, a < k ∧ σ a = j) → ∃ I' m' U', Ex l G (d + 1) mX4_add 72 [some (vR (some (11, 0))), some (vI (bI 16 u)), some (vI (k : Int)), some (vI (i : Int))] [] (I, M.2.1, M.2.2) none (I', M.2.1, M.2.2) ∧ frS I0 I' ∧ HsI I' m' U' ∧ m' ≤ m + 1 ∧ (∀ g, HmU m' U' g ↔ HmU m U g ∧ hitU u g) ∧ (∀ i, i < m' → U' i = u ∨ ∃ j, j < m ∧ U' i = U j) ∧ I' 11 0 3 = I0 11 0 3 ∧ I' 11 0 4 = I0 11 0 4 := by
  intro n
  induction n with
  | zero =>
    intro i k hi hki I hf h1 h3 h4 hrest ⟨σ, s1, s2, s3⟩
    have ei : i = m := by omega
    subst ei
    have inj : ∀ a b, a < k → b < k → a ≠ b → σ a ≠ σ b := fun a b ha hb hne => by
      by_cases c : a < b
      · have := s2 a b c hb; omega
      · have := s2 b a (by omega) ha; omega
    have anti : ∀ a b, a < k + 1 → b < k + 1 → a ≠ b → ¬ subS (apV k σ U u a) (apV k σ U u b) := fun a b ha hb hne => by
      by_cases ca : a < k
      · rw [apV_l ca]
        by_cases cb : b < k
        · rw [apV_l cb]
          exact hA _ _ (s1 a ca).1 (s1 b cb).1 (inj a b ca cb hne)
        · rw [apV_r cb]
          exact hno _ (s1 a ca).1
      · rw [apV_r ca, apV_l (show b < k by omega)]
        exact (s1 b (by omega)).2.2
    have hk512 := hk k (apV k σ U u) hki anti (fun a ha => ⟨σ a, (s1 a ha).1, apV_l ha⟩) (apV_r (by omega))
    refine ⟨upI (upI (upI I 11 0 1 (k : Int)) 26 0 k (bI 16 u)) 11 0 1 ((k : Int) + 1), k + 1, apV k σ U u, xX4_add_72 hS ?_, ?_, ⟨?_, by omega, fun a ha => ?_, anti⟩, by omega, fun g => ?_, fun a ha => ?_, ?_, ?_⟩
    · dsimp only
      rw [h1, Int.toNat_natCast]
      exact ⟨fun _ => ⟨fun c => by omega, fun _ => ⟨⟨by omega, by unfold InR; omega⟩, rfl, rfl⟩⟩, fun c => absurd (by omega) c⟩
    · exact ((hf.tr (frS.up (by omega))).tr (frS.up (by omega))).tr (frS.up (by omega))
    · rw [upI_s]; omega
    · rw [upI_o (by omega)]
      by_cases c : a = k
      · rw [c, upI_s, apV_r (by omega)]
      · rw [upI_i c, upI_o (by omega), apV_l (show a < k by omega)]
        exact (s1 a (by omega)).2.1
    · constructor
      · intro h
        have hu : hitU u g := by
          have := h k (by omega)
          rw [apV_r (by omega)] at this
          exact this
        refine ⟨fun j hj => ?_, hu⟩
        by_cases c : subS u (U j)
        · exact hit_sub c hu
        · obtain ⟨a, ha, e⟩ := s3 j hj c
          have := h a (by omega)
          rw [apV_l ha, e] at this
          exact this
      · rintro ⟨h, hu⟩ a ha
        by_cases c : a < k
        · rw [apV_l c]; exact h _ (s1 a c).1
        · rw [apV_r c]; exact hu
    · by_cases c : a < k
      · rw [apV_l c]; exact .inr ⟨σ a, (s1 a c).1, rfl⟩
      · rw [apV_r c]; exact .inl rfl
    · rw [upI_i (by omega), upI_o (by omega), upI_i (by omega)]; exact h3
    · rw [upI_i (by omega), upI_o (by omega), upI_i (by omega)]; exact h4
  | succ n ih =>
    intro i k hi hki I hf h1 h3 h4 hrest ⟨σ, s1, s2, s3⟩
    have es : I 26 0 (i : Int).toNat = bI 16 (U i) := by rw [Int.toNat_natCast]; exact hrest i (Nat.le_refl _) (by omega)
    by_cases c : subS u (U i)
    · obtain ⟨I', m', U', x1, x2⟩ := ih (i + 1) k (by omega) (by omega) I hf h1 h3 h4 (fun j hj => hrest j (by omega)) ⟨σ, fun a ha => ⟨by have := (s1 a ha).1; omega, (s1 a ha).2⟩, s2, fun j hj hn => by
        by_cases e : j = i
        · rw [e] at hn; exact absurd c hn
        · exact s3 j (by omega) hn⟩
      refine ⟨I', m', U', xX4_add_72 hS ?_, x2⟩
      dsimp only
      rw [h1, es]
      exact ⟨fun c => by omega, fun _ => ⟨by omega, fun _ => ⟨by unfold InR; omega, x1⟩, fun n => absurd (sub_and.mpr c) n⟩⟩
    · obtain ⟨I', m', U', x1, x2⟩ := ih (i + 1) (k + 1) (by omega) (by omega) (upI I 26 0 k (bI 16 (U i))) (hf.tr (frS.up (by omega))) (by rw [upI_o (by omega)]; exact h1) (by rw [upI_o (by omega)]; exact h3) (by rw [upI_o (by omega)]; exact h4) (fun j hj hj2 => by rw [upI_i (by omega)]; exact hrest j (by omega) hj2) ⟨sgN k i σ, fun a ha => by
          by_cases e : a = k
          · rw [e, sgN_s, upI_s]
            exact ⟨by omega, rfl, c⟩
          · rw [sgN_o e, upI_i e]
            exact ⟨by have := (s1 a (by omega)).1; omega, (s1 a (by omega)).2⟩, fun a b hab hb => by
          rw [sgN_o (show ¬ a = k by omega)]
          by_cases e : b = k
          · rw [e, sgN_s]; exact (s1 a (by omega)).1
          · rw [sgN_o e]; exact s2 a b hab (by omega), fun j hj hn => by
          by_cases e : j = i
          · exact ⟨k, by omega, by rw [sgN_s]; exact e.symm⟩
          · obtain ⟨a, ha, ea⟩ := s3 j (by omega) hn
            exact ⟨a, by omega, by rw [sgN_o (by omega)]; exact ea⟩⟩
      refine ⟨I', m', U', xX4_add_72 hS ?_, x2⟩
      dsimp only
      rw [h1, es, Int.toNat_natCast]
      exact ⟨fun c => by omega, fun _ => ⟨by omega, fun n => absurd (sub_and.mp n) c, fun _ => ⟨⟨by omega, by omega, by unfold InR; omega, by unfold InR; omega⟩, x1⟩⟩⟩
theorem KX4_add {m : Nat} {U : Nat → Nat → Bool} {u : Nat → Bool} (hS : Sh M.2.1) (hH : HsI M.1 m U)
    (hk : ∀ (k : Nat) (V : Nat → Nat → Bool), k ≤ m → (∀ i j, i < k + 1 → j < k + 1 → i ≠ j → ¬ subS (V i) (V j)) → (∀ i, i < k → ∃ j, j < m ∧ V i = U j) → V k = u → k < 512) : ∃ I' m' U', Cl l G (d + 1) mX4_add [vR (some (11, 0)), vI (bI 16 u)] M none (I', M.2.1, M.2.2) ∧ frS M.1 I' ∧ HsI I' m' U' ∧ m' ≤ m + 1 ∧ (∀ g, HmU m' U' g ↔ HmU m U g ∧ hitU u g) ∧ (∀ i, i < m' → U' i = u ∨ ∃ j, j < m ∧ U' i = U j) ∧ I' 11 0 3 = (if (cnt u 16 : Int) = 1 then aOr (M.1 11 0 3) (bI 16 u) else M.1 11 0 3) ∧ I' 11 0 4 = (if M.1 11 0 4 = 0 then (if bI 16 u = 0 then 1 else 0 : Int) else 1 : Int) := by
  obtain ⟨z1, z2, z3, z4⟩ := hH
  have kb := KJ6_bits (l := l) (G := G) (d := d) (M := M) (n := 16) (f := u) (by omega)
  have h42 : ∀ I0 : IM, I0 11 0 1 = (m : Int) → (∀ j, j < m → I0 26 0 j = bI 16 (U j)) → ∃ I' m' U', Ex l G (d + 1) mX4_add 42 [some (vR (some (11, 0))), some (vI (bI 16 u)), some (vI 0), some (vI 0)] [] (I0, M.2.1, M.2.2) none (I', M.2.1, M.2.2) ∧ frS I0 I' ∧ HsI I' m' U' ∧ m' ≤ m + 1 ∧ (∀ g, HmU m' U' g ↔ HmU m U g ∧ hitU u g) ∧ (∀ i, i < m' → U' i = u ∨ ∃ j, j < m ∧ U' i = U j) ∧ I' 11 0 3 = I0 11 0 3 ∧ I' 11 0 4 = I0 11 0 4 := by
    intro I0 h1 hU
    have key : ∀ n i : Nat, n + i = m → (∀ i', i' < i → ¬ subS (U i') u) → ∃ I' m' U', Ex l G (d + 1) mX4_add 42 [some (vR (some (11, 0))), some (vI (bI 16 u)), some (vI 0), some (vI (i : Int))] [] (I0, M.2.1, M.2.2) none (I', M.2.1, M.2.2) ∧ frS I0 I' ∧ HsI I' m' U' ∧ m' ≤ m + 1 ∧ (∀ g, HmU m' U' g ↔ HmU m U g ∧ hitU u g) ∧ (∀ i, i < m' → U' i = u ∨ ∃ j, j < m ∧ U' i = U j) ∧ I' 11 0 3 = I0 11 0 3 ∧ I' 11 0 4 = I0 11 0 4 := by
      intro n
      induction n with
      | zero =>
        intro i hi hno
        obtain ⟨I', m', U', x1, x2⟩ := add_72 (l := l) (G := G) (d := d) (M := M) (u := u) (I0 := I0) hS z2 z4 (fun i' hi' => hno i' (by omega)) hk m 0 0 (by omega) (by omega) I0 frS.rf h1 rfl rfl (fun j _ hj => hU j hj) ⟨fun _ => 0, fun a ha => by omega, fun a b _ hb => by omega, fun j hj => by omega⟩
        refine ⟨I', m', U', xX4_add_42 hS ⟨fun _ => x1, fun c => absurd ?_ c⟩, x2⟩
        dsimp only
        rw [h1]; omega
      | succ n ih =>
        intro i hi hno
        have es : I0 26 0 (i : Int).toNat = bI 16 (U i) := by rw [Int.toNat_natCast]; exact hU i (by omega)
        by_cases c : subS (U i) u
        · refine ⟨I0, m, U, xX4_add_42 hS ?_, frS.rf, ⟨h1, z2, hU, z4⟩, by omega, fun g => ⟨fun h => ⟨h, hit_sub c (h i (by omega))⟩, fun h => h.1⟩, fun j hj => .inr ⟨j, hj, rfl⟩, rfl, rfl⟩
          dsimp only
          rw [h1, es]
          exact ⟨fun c => by omega, fun _ => ⟨by omega, fun n => absurd (sub_and.mpr c) n, fun _ => ⟨rfl, rfl⟩⟩⟩
        · obtain ⟨I', m', U', x1, x2⟩ := ih (i + 1) (by omega) (fun i' hi' => by
            by_cases e : i' = i
            · rw [e]; exact c
            · exact hno i' (by omega))
          refine ⟨I', m', U', xX4_add_42 hS ?_, x2⟩
          dsimp only
          rw [h1, es]
          exact ⟨fun c => by omega, fun _ => ⟨by omega, fun _ => ⟨by unfold InR; omega, x1⟩, fun n => absurd (sub_and.mp n) c⟩⟩
    exact key m 0 (by omega) (fun i' hi' => by omega)
  have e01 : (if (M.1 11 0 4) = 0 then (if bI 16 u = 0 then 1 else 0 : Int) else 1 : Int) = 0 ∨ (if (M.1 11 0 4) = 0 then (if bI 16 u = 0 then 1 else 0 : Int) else 1 : Int) = 1 := by (repeat' split) <;> omega
  by_cases c1 : (cnt u 16 : Int) = 1
  · obtain ⟨I', m', U', x1, x2, x3, x4, x5, x6, x7, x8⟩ := h42 (upI (upI M.1 11 0 3 (aOr (M.1 11 0 3) (bI 16 u))) 11 0 4 (if (M.1 11 0 4) = 0 then (if bI 16 u = 0 then 1 else 0 : Int) else 1 : Int)) (by rw [upI_i (by omega), upI_i (by omega)]; exact z1) (fun j hj => by rw [upI_o (by omega), upI_o (by omega)]; exact z3 j hj)
    refine ⟨I', m', U', xX4_add_0 ⟨_, M, kb, fun c => absurd c1 c, fun _ => ⟨e01, x1⟩⟩, ((frS.up (by omega)).tr (frS.up (by omega))).tr x2, x3, x4, x5, x6, ?_, ?_⟩
    · rw [x7, upI_i (by omega), upI_s, if_pos c1]
    · rw [x8, upI_s]
  · obtain ⟨I', m', U', x1, x2, x3, x4, x5, x6, x7, x8⟩ := h42 (upI M.1 11 0 4 (if (M.1 11 0 4) = 0 then (if bI 16 u = 0 then 1 else 0 : Int) else 1 : Int)) (by rw [upI_i (by omega)]; exact z1) (fun j hj => by rw [upI_o (by omega)]; exact z3 j hj)
    refine ⟨I', m', U', xX4_add_0 ⟨_, M, kb, fun _ => ⟨e01, x1⟩, fun c => absurd c c1⟩, (frS.up (by omega)).tr x2, x3, x4, x5, x6, ?_, ?_⟩
    · rw [x7, upI_i (by omega), if_neg c1]
    · rw [x8, upI_s]
end AD
