/-! WORDS on the reference: blanks, wordLong, isWord -/
section RW1
variable {l : Launch} {G : Gt} {d : Nat} {M : Mem} {r : Option Vl} {M' : Mem} {t : Tp} {n : Nat}
/-- the tape of the reference -/
def RTp (t : Tp) (n : Nat) (I : IM) : Prop := I 3 0 29 = (n : Int) ∧ n ≤ 400 ∧ ∀ i, i < 400 → (-128 ≤ I 76 0 i ∧ I 76 0 i ≤ 127) ∧ I 76 0 i % 256 = t i
theorem upI_ne {I : IM} {f k i : Nat} {v : Int} {f' k' i' : Nat} (h : ¬ (f' = f ∧ k' = k ∧ i' = i)) : upI I f k i v f' k' i' = I f' k' i' := by
  by_cases e : f' = f ∧ k' = k
  · obtain ⟨rfl, rfl⟩ := e
    rw [upI_c, if_neg (fun e => h ⟨rfl, rfl, e⟩)]
  · rw [upI_o e]
theorem RTp.up {I : IM} {f i : Nat} {v : Int} (h : RTp t n I) (hf : ¬ (f = 3 ∧ i = 29) ∧ ¬ f = 76) : RTp t n (upI I f 0 i v) :=
  ⟨by rw [upI_ne (by omega)]; exact h.1, h.2.1, fun j hj => by rw [upI_ne (by omega)]; exact h.2.2 j hj⟩
theorem upI_id {I : IM} {f k i : Nat} : upI I f k i (I f k i) = I := by
  funext f' k' i'
  by_cases e : f' = f ∧ k' = k
  · obtain ⟨rfl, rfl⟩ := e
    rw [upI_c]
    split
    · rename_i h; rw [h]
    · rfl
  · rw [upI_o e]
theorem upI_up {I : IM} {f k i : Nat} {v w : Int} : upI (upI I f k i v) f k i w = upI I f k i w := by
  funext f' k' i'
  by_cases e : f' = f ∧ k' = k
  · obtain ⟨rfl, rfl⟩ := e
    rw [upI_c, upI_c, upI_c]
    split
    · rfl
    · rfl
  · rw [upI_o e, upI_o e, upI_o e]
set_option maxRecDepth 4000 in
theorem xX12_blanks_0 {l : Launch} {G : Gt} {d : Nat} {M M' : Mem} {r : Option Vl}  (hS : Sh M.2.1) (h : 
    ((M.1 3 0 29) ≤ (M.1 3 0 30) → r = none ∧ M' = M) ∧ (¬ ((M.1 3 0 29) ≤ (M.1 3 0 30)) → ((0 ≤ (M.1 3 0 30) ∧ (M.1 3 0 30) < 400)) ∧ ((¬ ((M.1 76 0 (M.1 3 0 30).toNat) = 32) → r = none ∧ M' = M) ∧ ((M.1 76 0 (M.1 3 0 30).toNat) = 32 → (InR ((M.1 3 0 30) + 1)) ∧ Ex l G d mX12_blanks 0 [some (vR (some (3, 0)))] [] ((upI M.1 3 0 30 ((M.1 3 0 30) + 1)), M.2.1, M.2.2) r M')))) : Ex l G d mX12_blanks 0 [some (vR (some (3, 0)))] [] M r M' := by
  refine r_aload_n 1 dX12_blanks_0 rfl rfl ?_
  refine g_I 4 dX12_blanks_1 rfl rfl rfl fi_12_218 rfl ?_
  refine r_aload_n 5 dX12_blanks_4 rfl rfl ?_
  refine g_I 8 dX12_blanks_5 rfl rfl rfl fi_12_209 rfl ?_
  refine r_icmp_ge 11 38 dX12_blanks_8 rfl rfl (fun c => ?_) (fun c => ?_)
  · have h := h.1 (c)
    exact r_vret dX12_blanks_38 rfl h.1 h.2
  · have h := h.2 (c)
    obtain ⟨o_1, h⟩ := h
    refine r_aload_n 12 dX12_blanks_11 rfl rfl ?_
    refine g_R 15 dX12_blanks_12 rfl rfl rfl fr_12_94 (sh_12_39 hS) ?_
    refine r_aload_n 16 dX12_blanks_15 rfl rfl ?_
    refine g_I 19 dX12_blanks_16 rfl rfl rfl fi_12_218 rfl ?_
    refine a_B 400 20 dX12_blanks_19 rfl rfl rfl rfl o_1 rfl ?_
    refine r_bipush 22 dX12_blanks_20 rfl rfl ?_
    refine r_icmp_ne 25 38 dX12_blanks_22 rfl rfl (fun c => ?_) (fun c => ?_)
    · have h := h.1 (c)
      exact r_vret dX12_blanks_38 rfl h.1 h.2
    · have h := h.2 (Decidable.not_not.mp c)
      obtain ⟨o_2, h⟩ := h
      refine r_aload_n 26 dX12_blanks_25 rfl rfl ?_
      refine r_dup 27 dX12_blanks_26 rfl rfl ?_
      refine g_I 30 dX12_blanks_27 rfl rfl rfl fi_12_218 rfl ?_
      refine r_iconst 31 dX12_blanks_30 rfl (InR_of rfl) ?_
      refine r_iadd 32 dX12_blanks_31 rfl o_2 ?_
      refine p_I 35 dX12_blanks_32 rfl rfl rfl rfl pf_12_218 (.inl rfl) rfl ?_
      refine r_goto 0 dX12_blanks_35 rfl ?_
      exact h

set_option maxRecDepth 4000 in
theorem xX12_wordLong_0 {l : Launch} {G : Gt} {d : Nat} {M M' : Mem} {r : Option Vl}  (h : 
    Ex l G (d + 2) mX12_wordLong 2 [some (vR (some (3, 0))), some (vI 0)] [] M r M') : Cl l G (d + 2) mX12_wordLong [vR (some (3, 0))] M r M' := by
  show Ex l G (d + 2) mX12_wordLong 0 [some (vR (some (3, 0))), none] [] M r M'
  refine r_iconst 1 dX12_wordLong_0 rfl (InR_of rfl) ?_
  refine r_istore_n (ls' := [some (vR (some (3, 0))), some (vI 0)]) 2 dX12_wordLong_1 rfl rfl rfl rfl ?_
  exact h
set_option maxRecDepth 4000 in
theorem xX12_wordLong_2 {l : Launch} {G : Gt} {d : Nat} {M M' : Mem} {r : Option Vl} {x1 : Int} (hS : Sh M.2.1) (h : 
    (InR ((M.1 3 0 30) + x1)) ∧ (((M.1 3 0 29) ≤ ((M.1 3 0 30) + x1) → r = some (vI x1) ∧ M' = M) ∧ (¬ ((M.1 3 0 29) ≤ ((M.1 3 0 30) + x1)) → (InR ((M.1 3 0 30) + x1) ∧ (0 ≤ ((M.1 3 0 30) + x1) ∧ ((M.1 3 0 30) + x1) < 400)) ∧ ((¬ (97 ≤ (M.1 76 0 ((M.1 3 0 30) + x1).toNat) ∧ (M.1 76 0 ((M.1 3 0 30) + x1).toNat) ≤ 122) → r = some (vI x1) ∧ M' = M) ∧ (97 ≤ (M.1 76 0 ((M.1 3 0 30) + x1).toNat) ∧ (M.1 76 0 ((M.1 3 0 30) + x1).toNat) ≤ 122 → (InR (x1 + 1)) ∧ Ex l G (d + 2) mX12_wordLong 2 [some (vR (some (3, 0))), some (vI (x1 + 1))] [] M r M'))))) : Ex l G (d + 2) mX12_wordLong 2 [some (vR (some (3, 0))), some (vI x1)] [] M r M' := by
  obtain ⟨o_1, h⟩ := h
  refine r_aload_n 3 dX12_wordLong_2 rfl rfl ?_
  refine g_I 6 dX12_wordLong_3 rfl rfl rfl fi_12_218 rfl ?_
  refine r_iload_n 7 dX12_wordLong_6 rfl rfl ?_
  refine r_iadd 8 dX12_wordLong_7 rfl o_1 ?_
  refine r_aload_n 9 dX12_wordLong_8 rfl rfl ?_
  refine g_I 12 dX12_wordLong_9 rfl rfl rfl fi_12_209 rfl ?_
  refine r_icmp_ge 15 38 dX12_wordLong_12 rfl rfl (fun c => ?_) (fun c => ?_)
  · have h := h.1 (c)
    refine r_iload_n 39 dX12_wordLong_38 rfl rfl ?_
    exact r_iret dX12_wordLong_39 rfl (.inl rfl) h.1 h.2
  · have h := h.2 (c)
    obtain ⟨⟨o_2, o_3⟩, h⟩ := h
    refine r_aload_n 16 dX12_wordLong_15 rfl rfl ?_
    refine g_R 19 dX12_wordLong_16 rfl rfl rfl fr_12_94 (sh_12_39 hS) ?_
    refine r_aload_n 20 dX12_wordLong_19 rfl rfl ?_
    refine g_I 23 dX12_wordLong_20 rfl rfl rfl fi_12_218 rfl ?_
    refine r_iload_n 24 dX12_wordLong_23 rfl rfl ?_
    refine r_iadd 25 dX12_wordLong_24 rfl o_2 ?_
    refine a_B 400 26 dX12_wordLong_25 rfl rfl rfl rfl o_3 rfl ?_
    refine c_1 [vI (M.1 76 0 ((M.1 3 0 30) + x1).toNat)] [] 29 dX12_wordLong_26 rfl rfl mo_X12_isSmall ml_12_225 rfl rfl (KX12_isSmall) ?_
    refine r_if_eq 32 38 dX12_wordLong_29 rfl rfl (fun c => ?_) (fun c => ?_)
    · have h := h.1 (b2_0.mp c)
      refine r_iload_n 39 dX12_wordLong_38 rfl rfl ?_
      exact r_iret dX12_wordLong_39 rfl (.inl rfl) h.1 h.2
    · have h := h.2 (b2_1.mp c)
      obtain ⟨o_4, h⟩ := h
      refine r_iinc (ls' := [some (vR (some (3, 0))), some (vI (x1 + 1))]) 35 dX12_wordLong_32 rfl rfl rfl rfl o_4 rfl ?_
      refine r_goto 2 dX12_wordLong_35 rfl ?_
      exact h

set_option maxRecDepth 4000 in
theorem xX12_isWord_0 {l : Launch} {G : Gt} {d : Nat} {M M' : Mem} {r : Option Vl} {k1 : Nat} (h : 
    ∃ (r_3 : Int) (M_1 : Mem), Cl l G (d + 3) mX12_wordLong [vR (some (3, 0))] M (some (vI r_3)) M_1 ∧ cCnt M_1.2.2 1 = 28 ∧ (k1 < 14) ∧ Ex l G (d + 4) mX12_isWord 19 [some (vR (some (3, 0))), some (vR (some (1, k1))), some (vI (if r_3 = ((sLn k1 : Nat) : Int) then 1 else 0 : Int)), some (vI 0)] [] M_1 r M') : Cl l G (d + 4) mX12_isWord [vR (some (3, 0)), vR (some (1, k1))] M r M' := by
  show Ex l G (d + 4) mX12_isWord 0 [some (vR (some (3, 0))), some (vR (some (1, k1))), none, none] [] M r M'
  refine r_aload_n 1 dX12_isWord_0 rfl rfl ?_
  obtain ⟨r_3, M_1, hc_2, hStr, h⟩ := h
  refine v_1 (ci := 12) (C := (RX12, TX12, 68)) [] [] 4 dX12_isWord_1 rfl rfl rfl rfl rfl mo_X12_wordLong ml_12_228 rfl rfl hc_2 ?_
  obtain ⟨o_4, h⟩ := h
  refine r_aload_n 5 dX12_isWord_4 rfl rfl ?_
  refine s_len (j := k1) [vI r_3] 8 dX12_isWord_5 rfl o_4 hStr rfl ml_12_232 rfl ?_
  have hJ_5 : Ex l G (d + 4) mX12_isWord 16 [some (vR (some (3, 0))), some (vR (some (1, k1))), none, none] [vI (if r_3 = ((sLn k1 : Nat) : Int) then 1 else 0 : Int)] M_1 r M' := by
    refine r_istore_n (ls' := [some (vR (some (3, 0))), some (vR (some (1, k1))), some (vI (if r_3 = ((sLn k1 : Nat) : Int) then 1 else 0 : Int)), none]) 17 dX12_isWord_16 rfl rfl rfl rfl ?_
    refine r_iconst 18 dX12_isWord_17 rfl (InR_of rfl) ?_
    refine r_istore_n (ls' := [some (vR (some (3, 0))), some (vR (some (1, k1))), some (vI (if r_3 = ((sLn k1 : Nat) : Int) then 1 else 0 : Int)), some (vI 0)]) 19 dX12_isWord_18 rfl rfl rfl rfl ?_
    exact h
  refine r_icmp_ne 11 15 dX12_isWord_8 rfl rfl (fun c => ?_) (fun c => ?_)
  · have c_6 := c
    refine r_iconst 16 dX12_isWord_15 rfl (InR_of rfl) ?_
    exact (Ex.at hJ_5 rfl (show [vI 0] = [vI (if r_3 = ((sLn k1 : Nat) : Int) then 1 else 0 : Int)] by simp only [if_neg c_6]) rfl)
  · have c_6 := Decidable.not_not.mp c
    refine r_iconst 12 dX12_isWord_11 rfl (InR_of rfl) ?_
    refine r_goto 16 dX12_isWord_12 rfl ?_
    exact (Ex.at hJ_5 rfl (show [vI 1] = [vI (if r_3 = ((sLn k1 : Nat) : Int) then 1 else 0 : Int)] by simp only [if_pos c_6]) rfl)
set_option maxRecDepth 4000 in
theorem xX12_isWord_19 {l : Launch} {G : Gt} {d : Nat} {M M' : Mem} {r : Option Vl} {k1 : Nat} {x2 : Int} {x3 : Int} (hS : Sh M.2.1) (hStr : cCnt M.2.2 1 = 28) (h : 
    (k1 < 14) ∧ ((((sLn k1 : Nat) : Int) ≤ x3 → ((x2 = 0 ∨ x2 = 1)) ∧ r = some (vI x2) ∧ M' = M) ∧ (¬ (((sLn k1 : Nat) : Int) ≤ x3) → (x2 = 0 → ((x2 = 0 ∨ x2 = 1)) ∧ r = some (vI x2) ∧ M' = M) ∧ (¬ (x2 = 0) → (InR ((M.1 3 0 30) + x3) ∧ (0 ≤ ((M.1 3 0 30) + x3) ∧ ((M.1 3 0 30) + x3) < 400) ∧ k1 < 14 ∧ (0 ≤ x3 ∧ x3 < ((sLn k1 : Nat) : Int))) ∧ (InR (x3 + 1)) ∧ Ex l G (d + 4) mX12_isWord 19 [some (vR (some (3, 0))), some (vR (some (1, k1))), some (vI (if (M.1 76 0 ((M.1 3 0 30) + x3).toNat) = (sCh k1 x3.toNat) then 1 else 0 : Int)), some (vI (x3 + 1))] [] M r M')))) : Ex l G (d + 4) mX12_isWord 19 [some (vR (some (3, 0))), some (vR (some (1, k1))), some (vI x2), some (vI x3)] [] M r M' := by
  obtain ⟨o_1, h⟩ := h
  refine r_iload_n 20 dX12_isWord_19 rfl rfl ?_
  refine r_aload_n 21 dX12_isWord_20 rfl rfl ?_
  refine s_len (j := k1) [vI x3] 24 dX12_isWord_21 rfl o_1 hStr rfl ml_12_232 rfl ?_
  refine r_icmp_ge 27 62 dX12_isWord_24 rfl rfl (fun c => ?_) (fun c => ?_)
  · have h := h.1 (c)
    obtain ⟨o_2, h⟩ := h
    refine r_iload_n 63 dX12_isWord_62 rfl rfl ?_
    exact r_iret dX12_isWord_63 rfl (.inr ⟨rfl, o_2⟩) h.1 h.2
  · have h := h.2 (c)
    refine r_iload_n 28 dX12_isWord_27 rfl rfl ?_
    refine r_if_eq 31 62 dX12_isWord_28 rfl rfl (fun c => ?_) (fun c => ?_)
    · have h := h.1 (c)
      obtain ⟨o_3, h⟩ := h
      refine r_iload_n 63 dX12_isWord_62 rfl rfl ?_
      exact r_iret dX12_isWord_63 rfl (.inr ⟨rfl, o_3⟩) h.1 h.2
    · have h := h.2 (c)
      obtain ⟨⟨o_4, o_5, o_6, o_7⟩, h⟩ := h
      refine r_aload_n 32 dX12_isWord_31 rfl rfl ?_
      refine g_R 35 dX12_isWord_32 rfl rfl rfl fr_12_94 (sh_12_39 hS) ?_
      refine r_aload_n 36 dX12_isWord_35 rfl rfl ?_
      refine g_I 39 dX12_isWord_36 rfl rfl rfl fi_12_218 rfl ?_
      refine r_iload_n 40 dX12_isWord_39 rfl rfl ?_
      refine r_iadd 41 dX12_isWord_40 rfl o_4 ?_
      refine a_B 400 42 dX12_isWord_41 rfl rfl rfl rfl o_5 rfl ?_
      refine r_aload_n 43 dX12_isWord_42 rfl rfl ?_
      refine r_iload_n 44 dX12_isWord_43 rfl rfl ?_
      refine s_chr (j := k1) [vI (M.1 76 0 ((M.1 3 0 30) + x3).toNat)] 47 dX12_isWord_44 rfl o_6 hStr o_7 rfl ml_12_237 rfl ?_
      have hJ_8 : Ex l G (d + 4) mX12_isWord 55 [some (vR (some (3, 0))), some (vR (some (1, k1))), some (vI x2), some (vI x3)] [vI (if (M.1 76 0 ((M.1 3 0 30) + x3).toNat) = (sCh k1 x3.toNat) then 1 else 0 : Int)] M r M' := by
        obtain ⟨o_10, h⟩ := h
        refine r_istore_n (ls' := [some (vR (some (3, 0))), some (vR (some (1, k1))), some (vI (if (M.1 76 0 ((M.1 3 0 30) + x3).toNat) = (sCh k1 x3.toNat) then 1 else 0 : Int)), some (vI x3)]) 56 dX12_isWord_55 rfl rfl rfl rfl ?_
        refine r_iinc (ls' := [some (vR (some (3, 0))), some (vR (some (1, k1))), some (vI (if (M.1 76 0 ((M.1 3 0 30) + x3).toNat) = (sCh k1 x3.toNat) then 1 else 0 : Int)), some (vI (x3 + 1))]) 59 dX12_isWord_56 rfl rfl rfl rfl o_10 rfl ?_
        refine r_goto 19 dX12_isWord_59 rfl ?_
        exact h
      refine r_icmp_ne 50 54 dX12_isWord_47 rfl rfl (fun c => ?_) (fun c => ?_)
      · have c_9 := c
        refine r_iconst 55 dX12_isWord_54 rfl (InR_of rfl) ?_
        exact (Ex.at hJ_8 rfl (show [vI 0] = [vI (if (M.1 76 0 ((M.1 3 0 30) + x3).toNat) = (sCh k1 x3.toNat) then 1 else 0 : Int)] by simp only [if_neg c_9]) rfl)
      · have c_9 := Decidable.not_not.mp c
        refine r_iconst 51 dX12_isWord_50 rfl (InR_of rfl) ?_
        refine r_goto 55 dX12_isWord_51 rfl ?_
        exact (Ex.at hJ_8 rfl (show [vI 1] = [vI (if (M.1 76 0 ((M.1 3 0 30) + x3).toNat) = (sCh k1 x3.toNat) then 1 else 0 : Int)] by simp only [if_pos c_9]) rfl)

theorem KX12_blanks : ∀ (k : Nat) {M : Mem} {p : Nat}, n - p = k → Sh M.2.1 → RTp t n M.1 → M.1 3 0 30 = (p : Int) → p ≤ n → Cl l G d mX12_blanks [vR (some (3, 0))] M none (upI M.1 3 0 30 (bl t n p : Nat), M.2.1, M.2.2) := by
  intro k
  induction k with
  | zero =>
    intro M p hk hS hT hp hn
    have e : bl t n p = p := rn_eq (Nat.le_refl _) hn (fun i _ _ => by omega) (.inl (by omega))
    have h29 := hT.1
    refine xX12_blanks_0 hS ⟨fun _ => ⟨rfl, ?_⟩, fun h => absurd (show M.1 3 0 29 ≤ M.1 3 0 30 by omega) h⟩
    rw [e, ← hp, upI_id]
  | succ k ih =>
    intro M p hk hS hT hp hn
    have h29 := hT.1
    have h400 := hT.2.1
    obtain ⟨hr, ht⟩ := hT.2.2 p (by omega)
    refine xX12_blanks_0 hS ⟨fun h => by omega, fun _ => ⟨by omega, fun h => ⟨rfl, ?_⟩, fun h => ⟨by unfold InR; omega, ?_⟩⟩⟩
    · rw [hp] at h
      have e : bl t n p = p := rn_eq (Nat.le_refl _) hn (fun i _ _ => by omega) (.inr (by simp; intro h'; exact h (by simp; omega)))
      rw [e, ← hp, upI_id]
    · rw [hp] at h
      have h' : t p = 32 := by simp at h; omega
      have e : bl t n p = bl t n (p + 1) := rn_mid (by omega) (by omega) (fun i hi hi' => by rw [show i = p by omega]; simp [h'])
      have := ih (M := (upI M.1 3 0 30 (M.1 3 0 30 + 1), M.2.1, M.2.2)) (p := p + 1) (by omega) hS (hT.up (by omega)) (by dsimp only; rw [upI_s, hp]; omega) (by omega)
      dsimp only at this
      rw [upI_up] at this
      rw [e]
      exact this
theorem KX12_wordLong {p : Nat} (hS : Sh M.2.1) (hT : RTp t n M.1) (hp : M.1 3 0 30 = (p : Int)) (hn : p ≤ n) : Cl l G (d + 2) mX12_wordLong [vR (some (3, 0))] M (some (vI ((we t n p : Nat) - p : Int))) M := by
  have h29 := hT.1
  have h400 := hT.2.1
  refine xX12_wordLong_0 ?_
  have key : ∀ k q, n - q = k → p ≤ q → q ≤ n → (∀ i, p ≤ i → i < q → (97 ≤ t i ∧ t i ≤ 122)) → Ex l G (d + 2) mX12_wordLong 2 [some (vR (some (3, 0))), some (vI ((q : Int) - p))] [] M (some (vI ((we t n p : Nat) - p : Int))) M := by
    intro k
    induction k with
    | zero =>
      intro q hk h1 h2 h3
      have e : we t n p = q := rn_eq h1 h2 (fun i a b => by simp; exact h3 i a b) (.inl (by omega))
      refine xX12_wordLong_2 hS ⟨by unfold InR; omega, fun _ => ⟨by rw [e], rfl⟩, fun h => by omega⟩
    | succ k ih =>
      intro q hk h1 h2 h3
      obtain ⟨hr, ht⟩ := hT.2.2 q (by omega)
      have eq : (M.1 3 0 30 + ((q : Int) - p)).toNat = q := by omega
      refine xX12_wordLong_2 hS ⟨by unfold InR; omega, fun h => by omega, fun _ => ⟨⟨by unfold InR; omega, by omega⟩, fun h => ⟨?_, rfl⟩, fun h => ⟨by unfold InR; omega, ?_⟩⟩⟩
      · rw [eq] at h
        have e : we t n p = q := rn_eq h1 h2 (fun i a b => by simp; exact h3 i a b) (.inr (by simp; intro h'; omega))
        rw [e]
      · rw [eq] at h
        have := ih (q + 1) (by omega) (by omega) (by omega) (fun i a b => by
          by_cases e2 : i = q
          · subst e2; omega
          · exact h3 i a (by omega))
        rw [show ((q + 1 : Nat) : Int) - p = (q : Int) - p + 1 by omega] at this
        exact this
  have := key (n - p) p rfl (Nat.le_refl _) hn (fun i _ _ => by omega)
  rw [show (p : Int) - p = 0 by omega] at this
  exact this
theorem KX12_isWord {p j : Nat} (hS : Sh M.2.1) (hStr : cCnt M.2.2 1 = 28) (hj : j < 14) (hT : RTp t n M.1) (hp : M.1 3 0 30 = (p : Int)) (hn : p ≤ n) : Cl l G (d + 4) mX12_isWord [vR (some (3, 0)), vR (some (1, j))] M (some (vI (if isW t n j p then 1 else 0))) M := by
  have h29 := hT.1
  have h400 := hT.2.1
  have hl4 := sLn_t j hj
  obtain ⟨w1, w2, w3, w4⟩ := rn_sp (fun i => decide (97 ≤ t i ∧ t i ≤ 122)) n p hn
  refine xX12_isWord_0 ⟨_, M, KX12_wordLong (d := d + 1) hS hT hp hn, hStr, hj, ?_⟩
  have key : ∀ k q, sLn j - q = k → q ≤ sLn j → ∀ x2 : Int, (x2 = 1 ∧ we t n p = p + sLn j ∧ ∀ i, i < q → t (p + i) = sCh j i) ∨ (x2 = 0 ∧ ¬ isW t n j p) → Ex l G (d + 4) mX12_isWord 19 [some (vR (some (3, 0))), some (vR (some (1, j))), some (vI x2), some (vI (q : Int))] [] M (some (vI (if isW t n j p then 1 else 0))) M := by
    intro k
    induction k with
    | zero =>
      intro q hk h1 x2 hx
      refine xX12_isWord_19 hS hStr ⟨hj, fun _ => ⟨by omega, ?_, rfl⟩, fun h => by omega⟩
      rcases hx with ⟨rfl, e1, e2⟩ | ⟨rfl, e1⟩
      · rw [if_pos (isW_i.mpr ⟨e1, fun i hi => e2 i (by omega)⟩)]
      · rw [if_neg e1]
    | succ k ih =>
      intro q hk h1 x2 hx
      refine xX12_isWord_19 hS hStr ⟨hj, fun h => by omega, fun _ => ⟨fun h => ⟨by omega, ?_, rfl⟩, fun h => ?_⟩⟩
      · rcases hx with ⟨rfl, e1, e2⟩ | ⟨rfl, e1⟩
        · omega
        · rw [if_neg e1]
      · rcases hx with ⟨rfl, e1, e2⟩ | ⟨rfl, e1⟩
        · have hw : p + sLn j ≤ n := by rw [← e1]; exact w2
          obtain ⟨hr, ht⟩ := hT.2.2 (p + q) (by omega)
          have hc := (sCh_t j hj q (by omega)).2.2.2.1
          have eq : (M.1 3 0 30 + (q : Int)).toNat = p + q := by omega
          refine ⟨⟨by unfold InR; omega, by omega, hj, by omega⟩, by unfold InR; omega, ?_⟩
          rw [eq, Int.toNat_natCast]
          rw [show (q : Int) + 1 = ((q + 1 : Nat) : Int) by omega]
          refine ih (q + 1) (by omega) (by omega) _ ?_
          by_cases g : M.1 76 0 (p + q) = sCh j q
          · refine .inl ⟨by rw [if_pos g], e1, fun i hi => ?_⟩
            by_cases e3 : i = q
            · subst e3; omega
            · exact e2 i (by omega)
          · refine .inr ⟨by rw [if_neg g], fun h' => g ?_⟩
            have := (isW_i.mp h').2 q (by omega)
            omega
        · exact absurd rfl h
  refine key (sLn j) 0 (by omega) (by omega) _ ?_
  by_cases g : ((we t n p : Nat) - p : Int) = ((sLn j : Nat) : Int)
  · exact .inl ⟨by rw [if_pos g], by omega, fun i hi => by omega⟩
  · exact .inr ⟨by rw [if_neg g], fun h' => g (by have := (isW_i.mp h').1; omega)⟩
end RW1
