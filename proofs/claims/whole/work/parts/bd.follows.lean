/-! fact and follows on the reference -/
section RW6
variable {l : Launch} {G : Gt} {d : Nat} {M : Mem} {r : Option Vl} {M' : Mem} {t : Tp} {n sl q p : Nat} {e dp ti cn x1 x2 : Int} {o s : List (Int × Int)} {I I' I'' : IM} {c c' : Cf}
def InvD (n : Nat) (c : Cf) : Prop := InvC n c ∧ (¬ cE c = 0 → cM c = 3)
def okE (c : Cf) : Prop := ¬ cE c = 0 → cM c = 3
theorem okE_step (he : cE c = 0) : okE (step t n c) := by
  have f0 : ∀ p k, okE (flC c p k) := fun _ _ _ => rfl
  have f1 : ∀ m p o k s, okE (m, p, cE c, o, k, s) := fun _ _ _ _ _ h => absurd he h
  unfold step
  split
  · unfold stA stA1 stA2 stA3 stA4
    repeat' split
    all_goals first | exact f0 _ _ | exact f1 _ _ _ _ _
  · split
    · unfold stC
      repeat' split
      all_goals exact f1 _ _ _ _ _
    · split
      · unfold stF
        repeat' split
        all_goals first | exact f0 _ _ | exact f1 _ _ _ _ _
      · exact fun h => absurd he h
theorem InvD_step (h : InvD n c) : InvD n (step t n c) := by
  by_cases he : cE c = 0
  · exact ⟨InvC_step h.1 he, okE_step he⟩
  · have hm := h.2 he
    rw [show step t n c = c by unfold step; rw [if_neg (by omega), if_neg (by omega), if_neg (by omega)]]
    exact h
theorem InvD_run (hr : Rn t n c c') (h : InvD n c) : InvD n c' := by
  obtain ⟨k, rfl⟩ := hr
  induction k generalizing c with
  | zero => exact h
  | succ k ih => exact ih (InvD_step h)
theorem fact_nest {w : Nat} {k : Int} (hk : k = 3 ∨ k = 7) (h : Rg sl t n (p + w) (if (dpN (cS c) : Int) = 10 then 1 + 8 * (p : Int) + (2 : Nat) else 0) (cO c) ((dpN (cS c) : Int) + 1) (tiN (cS c)) (cC c) ((k, 0) :: cS c) I) (hl : (cO c).length + (cS c).length + 1 ≤ 400) (hm : cM c = 0) (he : cE c = 0) (hw : p + w ≤ n) : FaR sl t n (if dpN (cS c) = 10 then flC c p 2 else (cM c, p + w, cE c, cO c, cC c, (k, 0) :: cS c)) 0 I := by
  by_cases c0 : dpN (cS c) = 10
  · rw [if_pos c0]; rw [if_pos (by omega)] at h
    exact FaR.fl (code := 2) h (by simp; omega) (fun _ => hw)
  · rw [if_neg c0]; rw [if_neg (by omega)] at h
    refine .inl ⟨he, .inr ⟨hm, rfl⟩, ?_⟩
    have e2 : ((tiN ((k, 0) :: cS c) : Nat) : Int) = (tiN (cS c) : Int) := by rw [ti_c, if_neg (by dsimp only; omega)]; omega
    have e1 : ((dpN ((k, 0) :: cS c) : Nat) : Int) = (dpN (cS c) : Int) + 1 := by rw [dp_c, if_pos (by dsimp only; omega)]; omega
    show Rg sl t n (p + w) 0 (cO c) ((dpN ((k, 0) :: cS c) : Nat) : Int) ((tiN ((k, 0) :: cS c) : Nat) : Int) (cC c) ((k, 0) :: cS c) I
    rw [e1, e2]; exact h
theorem KX12_fact (hS : Sh M.2.1) (hStr : cCnt M.2.2 1 = 28) (h : Hc sl t n q c M.1) (hq : q ≤ n) (hb : bl t n q = bl t n (cP c)) (hi : InvC n c) (hm : cM c = 0) (he : cE c = 0) : ∃ I' b, Cl l G (d + 5) mX12_fact [vR (some (3, 0))] M (some (vI b)) (I', M.2.1, M.2.2) ∧ frV sl M.1 I' ∧ FaR sl t n (step t n c) b I' := by
  obtain ⟨i1, i2, i3, i4, i5, ⟨i6, i7, i8⟩, i9, i10, i11⟩ := hi he
  obtain ⟨b1, b2⟩ := rn_ge (fun i => decide (t i = 32)) n (cP c) i1
  have b1 : cP c ≤ bl t n (cP c) := b1
  have b2 : bl t n (cP c) ≤ n := b2
  have hn := h.1.2.1
  rw [step_0 hm]
  rw [← hb] at b1 b2 ⊢
  obtain ⟨c1, c2, c3⟩ := Rg_bl (l := l) (G := G) (d := d + 4) hS h hq
  generalize bl t n q = p at b1 b2 c1 c2 c3 ⊢
  have g29 : (upI M.1 3 0 30 (p : Int)) 3 0 29 = (n : Int) := c2.1.1
  have g30 : (upI M.1 3 0 30 (p : Int)) 3 0 30 = (p : Int) := c2.2.2.1
  have key : ∃ I' b, Ex l G (d + 5) mX12_fact 35 [some (vR (some (3, 0))), some (vI (if p < n ∧ t p = 91 then 1 else 0)), none] [] (upI M.1 3 0 30 (p : Int), M.2.1, M.2.2) (some (vI b)) (I', M.2.1, M.2.2) ∧ frV sl (upI M.1 3 0 30 (p : Int)) I' ∧ FaR sl t n (stA t n c p) b I' := by
    by_cases a0 : p < n ∧ t p = 91
    · rw [if_pos a0, show stA t n c p = (if dpN (cS c) = 10 then flC c p 2 else (cM c, p + 1, cE c, cO c, cC c, (7, 0) :: cS c)) by unfold stA; rw [if_pos a0]]
      obtain ⟨I1, k1, k2, k3⟩ := fact_49 (l := l) (G := G) (d := d + 4) (M := (upI M.1 3 0 30 (p : Int), M.2.1, M.2.2)) (x1 := 1) hS c2 (by omega) (by rw [if_neg (by omega)]; omega) (by omega)
      rw [if_neg (show ¬ (1 : Int) = 0 by omega), if_neg (show ¬ (1 : Int) = 0 by omega)] at k2
      exact ⟨I1, 0, xX12_fact_35 hStr ⟨fun _ => k1, fun c => by omega⟩, k3, fact_nest (.inr rfl) k2 (by omega) hm he (by omega)⟩
    · rw [if_neg a0]
      have w0 := KX12_isWord (l := l) (G := G) (d := d) (M := (upI M.1 3 0 30 (p : Int), M.2.1, M.2.2)) (j := 9) hS hStr (by omega) c2.1 g30 b2
      by_cases a1 : isW t n 2 p = true
      · have hW : isW t n 9 p = true := a1
        rw [if_pos hW] at w0
        have hpn : p + 3 ≤ n := isW_n b2 a1
        rw [show stA t n c p = (if dpN (cS c) = 10 then flC c p 2 else (cM c, p + 3, cE c, cO c, cC c, (3, 0) :: cS c)) by unfold stA; rw [if_neg a0, if_pos a1]]
        obtain ⟨I1, k1, k2, k3⟩ := fact_49 (l := l) (G := G) (d := d + 4) (M := (upI M.1 3 0 30 (p : Int), M.2.1, M.2.2)) (x1 := 0) hS c2 (by omega) (by rw [if_pos rfl]; omega) (by omega)
        rw [if_pos rfl, if_pos rfl] at k2
        exact ⟨I1, 0, xX12_fact_35 hStr ⟨fun c => absurd rfl c, fun _ => ⟨1, _, w0, fun c => by omega, fun _ => k1⟩⟩, k3, fact_nest (.inl rfl) k2 (by omega) hm he (by omega)⟩
      · have hW : ¬ isW t n 9 p = true := a1
        rw [if_neg hW] at w0
        rw [show stA t n c p = stA1 t n c p by unfold stA; rw [if_neg a0, if_neg a1]]
        have w1 := KX12_wordLong (l := l) (G := G) (d := d + 2) (M := (upI M.1 3 0 30 (p : Int), M.2.1, M.2.2)) hS c2.1 g30 b2
        have ex : (if ((we t n p : Nat) - p : Int) = 1 then (upI M.1 3 0 30 (p : Int)) 76 0 ((upI M.1 3 0 30 (p : Int)) 3 0 30).toNat else 0) = (if we t n p = p + 1 then t p else 0) := by
          by_cases a2 : we t n p = p + 1
          · have a3 := we_1 b2 a2
            have a4 := c2.1.2.2 p (by omega)
            rw [if_pos a2, if_pos (by omega), g30, Int.toNat_natCast]
            omega
          · rw [if_neg a2, if_neg (by omega)]
        obtain ⟨I1, b, k1, k2, k3⟩ := fact_134 (l := l) (G := G) (d := d) (M := (upI M.1 3 0 30 (p : Int), M.2.1, M.2.2)) (x1 := 0) hS hStr c2 b2 (by omega) hm he i8 i7 ex
        refine ⟨I1, b, xX12_fact_35 hStr ⟨fun c => absurd rfl c, fun _ => ⟨0, _, w0, fun _ => xX12_fact_112 ⟨_, _, w1, hS, fun a => ?_, k1⟩, fun c => absurd rfl c⟩⟩, k2, k3⟩
        have a3 := we_1 b2 (show we t n p = p + 1 by omega)
        dsimp only; omega
  obtain ⟨I1, b, k1, k2, k3⟩ := key
  refine ⟨I1, b, xX12_fact_0 ⟨_, c1, hS, fun a => ?_, ?_⟩, c3.tr k2, k3⟩
  · dsimp only at a ⊢; omega
  · dsimp only
    have e1 : (if (upI M.1 3 0 30 (p : Int)) 3 0 29 ≤ (upI M.1 3 0 30 (p : Int)) 3 0 30 then 0 else (if (upI M.1 3 0 30 (p : Int)) 76 0 ((upI M.1 3 0 30 (p : Int)) 3 0 30).toNat = 91 then 1 else 0 : Int)) = (if p < n ∧ t p = 91 then 1 else 0 : Int) := by
      rw [g29, g30, Int.toNat_natCast]
      by_cases a0 : p < n
      · have a4 := c2.1.2.2 p (by omega)
        rw [if_neg (by omega)]
        by_cases a5 : t p = 91
        · rw [if_pos (by omega), if_pos ⟨a0, a5⟩]
        · rw [if_neg (by omega), if_neg (fun h => a5 h.2)]
      · rw [if_pos (by omega), if_neg (fun h => a0 h.1)]
    rw [e1]
    exact k1
set_option maxRecDepth 4000 in
theorem xX12_follows_0 {l : Launch} {G : Gt} {d : Nat} {M M' : Mem} {r : Option Vl}  (h : 
    ∃ (M_1 : Mem), Cl l G d mX12_blanks [vR (some (3, 0))] M none M_1 ∧ Ex l G (d + 1) mX12_follows 4 [some (vR (some (3, 0))), none] [] M_1 r M') : Cl l G (d + 1) mX12_follows [vR (some (3, 0))] M r M' := by
  show Ex l G (d + 1) mX12_follows 0 [some (vR (some (3, 0))), none] [] M r M'
  refine r_aload_n 1 dX12_follows_0 rfl rfl ?_
  obtain ⟨M_1, hc_2, h⟩ := h
  refine v_0 (ci := 12) (C := (RX12, TX12, 68)) [] [] 4 dX12_follows_1 rfl rfl rfl rfl rfl mo_X12_blanks ml_12_256 rfl rfl hc_2 ?_
  exact h
set_option maxRecDepth 4000 in
theorem xX12_follows_4 {l : Launch} {G : Gt} {d : Nat} {M M' : Mem} {r : Option Vl}  (hS : Sh M.2.1) (h : 
    (¬ ((M.1 3 0 31) = 0) → Ex l G (d + 1) mX12_follows 102 [some (vR (some (3, 0))), none] [] M r M') ∧ ((M.1 3 0 31) = 0 → ((M.1 3 0 29) ≤ (M.1 3 0 30) → Ex l G (d + 1) mX12_follows 102 [some (vR (some (3, 0))), none] [] M r M') ∧ (¬ ((M.1 3 0 29) ≤ (M.1 3 0 30)) → ((0 ≤ (M.1 3 0 30) ∧ (M.1 3 0 30) < 400)) ∧ ((¬ ((M.1 76 0 (M.1 3 0 30).toNat) = 93) → Ex l G (d + 1) mX12_follows 102 [some (vR (some (3, 0))), none] [] M r M') ∧ ((M.1 76 0 (M.1 3 0 30).toNat) = 93 → ∃ (M_2 : Mem), Cl l G d mX12_gives [vR (some (3, 0)), vI 6] M none M_2 ∧ ((¬ ((M_2.1 3 0 38) = 0) → (InR ((M_2.1 3 0 38) - 1) ∧ InR ((M_2.1 3 0 35) - 1) ∧ InR ((M_2.1 3 0 30) + 1)) ∧ (∃ (M_7 : Mem), Cl l G d mX12_closes [vR (some (3, 0))] ((upI (upI (upI M_2.1 3 0 38 ((M_2.1 3 0 38) - 1)) 3 0 35 ((M_2.1 3 0 35) - 1)) 3 0 30 ((M_2.1 3 0 30) + 1)), M_2.2.1, M_2.2.2) none M_7 ∧ (∃ (M_9 : Mem), Cl l G d mX12_blanks [vR (some (3, 0))] M_7 none M_9 ∧ Ex l G (d + 1) mX12_follows 4 [some (vR (some (3, 0))), none] [] M_9 r M'))) ∧ ((M_2.1 3 0 38) = 0 → ∃ (M_11 : Mem), Cl l G d mX12_fails [vR (some (3, 0)), vI 0, vI (M_2.1 3 0 30)] M_2 none M_11 ∧ Ex l G (d + 1) mX12_follows 4 [some (vR (some (3, 0))), none] [] M_11 r M'))))))) : Ex l G (d + 1) mX12_follows 4 [some (vR (some (3, 0))), none] [] M r M' := by
  refine r_aload_n 5 dX12_follows_4 rfl rfl ?_
  refine g_I 8 dX12_follows_5 rfl rfl rfl fi_12_215 rfl ?_
  refine r_if_ne 11 102 dX12_follows_8 rfl rfl (fun c => ?_) (fun c => ?_)
  · have h := h.1 (c)
    exact h
  · have h := h.2 (Decidable.not_not.mp c)
    refine r_aload_n 12 dX12_follows_11 rfl rfl ?_
    refine g_I 15 dX12_follows_12 rfl rfl rfl fi_12_218 rfl ?_
    refine r_aload_n 16 dX12_follows_15 rfl rfl ?_
    refine g_I 19 dX12_follows_16 rfl rfl rfl fi_12_209 rfl ?_
    refine r_icmp_ge 22 102 dX12_follows_19 rfl rfl (fun c => ?_) (fun c => ?_)
    · have h := h.1 (c)
      exact h
    · have h := h.2 (c)
      obtain ⟨o_1, h⟩ := h
      refine r_aload_n 23 dX12_follows_22 rfl rfl ?_
      refine g_R 26 dX12_follows_23 rfl rfl rfl fr_12_94 (sh_12_39 hS) ?_
      refine r_aload_n 27 dX12_follows_26 rfl rfl ?_
      refine g_I 30 dX12_follows_27 rfl rfl rfl fi_12_218 rfl ?_
      refine a_B 400 31 dX12_follows_30 rfl rfl rfl rfl o_1 rfl ?_
      refine r_bipush 33 dX12_follows_31 rfl rfl ?_
      refine r_icmp_ne 36 102 dX12_follows_33 rfl rfl (fun c => ?_) (fun c => ?_)
      · have h := h.1 (c)
        exact h
      · have h := h.2 (Decidable.not_not.mp c)
        refine r_aload_n 37 dX12_follows_36 rfl rfl ?_
        refine r_bipush 39 dX12_follows_37 rfl rfl ?_
        obtain ⟨M_2, hc_3, h⟩ := h
        refine v_0 (ci := 12) (C := (RX12, TX12, 68)) [vI 6] [] 42 dX12_follows_39 rfl rfl rfl rfl rfl mo_X12_gives ml_12_295 rfl rfl hc_3 ?_
        refine r_aload_n 43 dX12_follows_42 rfl rfl ?_
        refine g_I 46 dX12_follows_43 rfl rfl rfl fi_12_247 rfl ?_
        refine r_if_ne 49 61 dX12_follows_46 rfl rfl (fun c => ?_) (fun c => ?_)
        · have h := h.1 (c)
          obtain ⟨⟨o_4, o_5, o_6⟩, h⟩ := h
          refine r_aload_n 62 dX12_follows_61 rfl rfl ?_
          refine r_dup 63 dX12_follows_62 rfl rfl ?_
          refine g_I 66 dX12_follows_63 rfl rfl rfl fi_12_247 rfl ?_
          refine r_iconst 67 dX12_follows_66 rfl (InR_of rfl) ?_
          refine r_isub 68 dX12_follows_67 rfl o_4 ?_
          refine p_I 71 dX12_follows_68 rfl rfl rfl rfl pf_12_247 (.inl rfl) rfl ?_
          refine r_aload_n 72 dX12_follows_71 rfl rfl ?_
          refine r_dup 73 dX12_follows_72 rfl rfl ?_
          refine g_I 76 dX12_follows_73 rfl rfl rfl fi_12_272 (mI_0 (upI_i (by decide))) ?_
          refine r_iconst 77 dX12_follows_76 rfl (InR_of rfl) ?_
          refine r_isub 78 dX12_follows_77 rfl o_5 ?_
          refine p_I 81 dX12_follows_78 rfl rfl rfl rfl pf_12_272 (.inl rfl) rfl ?_
          refine r_aload_n 82 dX12_follows_81 rfl rfl ?_
          refine r_dup 83 dX12_follows_82 rfl rfl ?_
          refine g_I 86 dX12_follows_83 rfl rfl rfl fi_12_218 (mI_0 ((upI_i (by decide)).trans (upI_i (by decide)))) ?_
          refine r_iconst 87 dX12_follows_86 rfl (InR_of rfl) ?_
          refine r_iadd 88 dX12_follows_87 rfl o_6 ?_
          refine p_I 91 dX12_follows_88 rfl rfl rfl rfl pf_12_218 (.inl rfl) rfl ?_
          refine r_aload_n 92 dX12_follows_91 rfl rfl ?_
          obtain ⟨M_7, hc_8, h⟩ := h
          refine v_0 (ci := 12) (C := (RX12, TX12, 68)) [] [] 95 dX12_follows_92 rfl rfl rfl rfl rfl mo_X12_closes ml_12_298 rfl rfl hc_8 ?_
          refine r_aload_n 96 dX12_follows_95 rfl rfl ?_
          obtain ⟨M_9, hc_10, h⟩ := h
          refine v_0 (ci := 12) (C := (RX12, TX12, 68)) [] [] 99 dX12_follows_96 rfl rfl rfl rfl rfl mo_X12_blanks ml_12_256 rfl rfl hc_10 ?_
          refine r_goto 4 dX12_follows_99 rfl ?_
          exact h
        · have h := h.2 (Decidable.not_not.mp c)
          refine r_aload_n 50 dX12_follows_49 rfl rfl ?_
          refine r_iconst 51 dX12_follows_50 rfl (InR_of rfl) ?_
          refine r_aload_n 52 dX12_follows_51 rfl rfl ?_
          refine g_I 55 dX12_follows_52 rfl rfl rfl fi_12_218 rfl ?_
          obtain ⟨M_11, hc_12, h⟩ := h
          refine v_0 (ci := 12) (C := (RX12, TX12, 68)) [vI 0, vI (M_2.1 3 0 30)] [] 58 dX12_follows_55 rfl rfl rfl rfl rfl mo_X12_fails ml_12_253 rfl rfl hc_12 ?_
          refine r_goto 4 dX12_follows_58 rfl ?_
          exact h
set_option maxRecDepth 4000 in
theorem xX12_follows_102 {l : Launch} {G : Gt} {d : Nat} {M M' : Mem} {r : Option Vl}  (h : 
    (¬ ((M.1 3 0 31) = 0) → r = some (vI 0) ∧ M' = M) ∧ ((M.1 3 0 31) = 0 → (¬ ((M.1 3 0 30) = (M.1 3 0 29)) → Ex l G (d + 1) mX12_follows 122 [some (vR (some (3, 0))), none] [] M r M') ∧ ((M.1 3 0 30) = (M.1 3 0 29) → r = some (vI 0) ∧ M' = M))) : Ex l G (d + 1) mX12_follows 102 [some (vR (some (3, 0))), none] [] M r M' := by
  refine r_aload_n 103 dX12_follows_102 rfl rfl ?_
  refine g_I 106 dX12_follows_103 rfl rfl rfl fi_12_215 rfl ?_
  refine r_if_ne 109 120 dX12_follows_106 rfl rfl (fun c => ?_) (fun c => ?_)
  · have h := h.1 (c)
    refine r_iconst 121 dX12_follows_120 rfl (InR_of rfl) ?_
    exact r_iret dX12_follows_121 rfl (.inr ⟨rfl, (.inl rfl)⟩) h.1 h.2
  · have h := h.2 (Decidable.not_not.mp c)
    refine r_aload_n 110 dX12_follows_109 rfl rfl ?_
    refine g_I 113 dX12_follows_110 rfl rfl rfl fi_12_218 rfl ?_
    refine r_aload_n 114 dX12_follows_113 rfl rfl ?_
    refine g_I 117 dX12_follows_114 rfl rfl rfl fi_12_209 rfl ?_
    refine r_icmp_ne 120 122 dX12_follows_117 rfl rfl (fun c => ?_) (fun c => ?_)
    · have h := h.1 (c)
      exact h
    · have h := h.2 (Decidable.not_not.mp c)
      refine r_iconst 121 dX12_follows_120 rfl (InR_of rfl) ?_
      exact r_iret dX12_follows_121 rfl (.inr ⟨rfl, (.inl rfl)⟩) h.1 h.2
set_option maxRecDepth 4000 in
theorem xX12_follows_122 {l : Launch} {G : Gt} {d : Nat} {M M' : Mem} {r : Option Vl}  (hStr : cCnt M.2.2 1 = 28) (h : 
    ∃ (r_3 : Int) (M_1 : Mem), Cl l G d mX12_isWord [vR (some (3, 0)), vR (some (1, 12))] M (some (vI r_3)) M_1 ∧ cCnt M_1.2.2 1 = 28 ∧ ((¬ (r_3 = 0) → Ex l G (d + 1) mX12_follows 155 [some (vR (some (3, 0))), some (vI r_3)] [] M_1 r M') ∧ (r_3 = 0 → ∃ (r_6 : Int) (M_4 : Mem), Cl l G d mX12_isWord [vR (some (3, 0)), vR (some (1, 13))] M_1 (some (vI r_6)) M_4 ∧ ((¬ (r_6 = 0) → Ex l G (d + 1) mX12_follows 155 [some (vR (some (3, 0))), some (vI r_3)] [] M_4 r M') ∧ (r_6 = 0 → ∃ (M_7 : Mem), Cl l G d mX12_fails [vR (some (3, 0)), vI 0, vI (M_4.1 3 0 30)] M_4 none M_7 ∧ r = some (vI 0) ∧ M' = M_7))))) : Ex l G (d + 1) mX12_follows 122 [some (vR (some (3, 0))), none] [] M r M' := by
  refine r_aload_n 123 dX12_follows_122 rfl rfl ?_
  refine r_ldcwS (j := 12) 126 dX12_follows_123 rfl ⟨rfl, rfl⟩ rfl hStr ?_
  obtain ⟨r_3, M_1, hc_2, hStr, h⟩ := h
  refine v_1 (ci := 12) (C := (RX12, TX12, 68)) [vR (some (1, 12))] [] 129 dX12_follows_126 rfl rfl rfl rfl rfl mo_X12_isWord ml_12_268 rfl rfl hc_2 ?_
  refine r_istore_n (ls' := [some (vR (some (3, 0))), some (vI r_3)]) 130 dX12_follows_129 rfl rfl rfl rfl ?_
  refine r_iload_n 131 dX12_follows_130 rfl rfl ?_
  refine r_if_ne 134 155 dX12_follows_131 rfl rfl (fun c => ?_) (fun c => ?_)
  · have h := h.1 (c)
    exact h
  · have h := h.2 (Decidable.not_not.mp c)
    refine r_aload_n 135 dX12_follows_134 rfl rfl ?_
    refine r_ldcwS (j := 13) 138 dX12_follows_135 rfl ⟨rfl, rfl⟩ rfl hStr ?_
    obtain ⟨r_6, M_4, hc_5, h⟩ := h
    refine v_1 (ci := 12) (C := (RX12, TX12, 68)) [vR (some (1, 13))] [] 141 dX12_follows_138 rfl rfl rfl rfl rfl mo_X12_isWord ml_12_268 rfl rfl hc_5 ?_
    refine r_if_ne 144 155 dX12_follows_141 rfl rfl (fun c => ?_) (fun c => ?_)
    · have h := h.1 (c)
      exact h
    · have h := h.2 (Decidable.not_not.mp c)
      refine r_aload_n 145 dX12_follows_144 rfl rfl ?_
      refine r_iconst 146 dX12_follows_145 rfl (InR_of rfl) ?_
      refine r_aload_n 147 dX12_follows_146 rfl rfl ?_
      refine g_I 150 dX12_follows_147 rfl rfl rfl fi_12_218 rfl ?_
      obtain ⟨M_7, hc_8, h⟩ := h
      refine v_0 (ci := 12) (C := (RX12, TX12, 68)) [vI 0, vI (M_4.1 3 0 30)] [] 153 dX12_follows_150 rfl rfl rfl rfl rfl mo_X12_fails ml_12_253 rfl rfl hc_8 ?_
      refine r_iconst 154 dX12_follows_153 rfl (InR_of rfl) ?_
      exact r_iret dX12_follows_154 rfl (.inr ⟨rfl, (.inl rfl)⟩) h.1 h.2
set_option maxRecDepth 4000 in
theorem xX12_follows_155 {l : Launch} {G : Gt} {d : Nat} {M M' : Mem} {r : Option Vl} {x1 : Int} (h : 
    ∃ (M_3 : Mem), Cl l G d mX12_gives [vR (some (3, 0)), vI (if x1 = 0 then 6 else 5 : Int)] M none M_3 ∧ (∃ (M_7 : Mem), Cl l G d mX12_opens [vR (some (3, 0)), vI (if x1 = 0 then 6 else 5 : Int), vI 0] M_3 none M_7 ∧ (InR ((M_7.1 3 0 30) + (if x1 = 0 then 2 else 3 : Int))) ∧ r = some (vI 1) ∧ M' = ((upI M_7.1 3 0 30 ((M_7.1 3 0 30) + (if x1 = 0 then 2 else 3 : Int))), M_7.2.1, M_7.2.2))) : Ex l G (d + 1) mX12_follows 155 [some (vR (some (3, 0))), some (vI x1)] [] M r M' := by
  refine r_aload_n 156 dX12_follows_155 rfl rfl ?_
  refine r_iload_n 157 dX12_follows_156 rfl rfl ?_
  have hJ_1 : Ex l G (d + 1) mX12_follows 166 [some (vR (some (3, 0))), some (vI x1)] [vI (if x1 = 0 then 6 else 5 : Int), vR (some (3, 0))] M r M' := by
    obtain ⟨M_3, hc_4, h⟩ := h
    refine v_0 (ci := 12) (C := (RX12, TX12, 68)) [vI (if x1 = 0 then 6 else 5 : Int)] [] 169 dX12_follows_166 rfl rfl rfl rfl rfl mo_X12_gives ml_12_295 rfl rfl hc_4 ?_
    refine r_aload_n 170 dX12_follows_169 rfl rfl ?_
    refine r_iload_n 171 dX12_follows_170 rfl rfl ?_
    have hJ_5 : Ex l G (d + 1) mX12_follows 180 [some (vR (some (3, 0))), some (vI x1)] [vI (if x1 = 0 then 6 else 5 : Int), vR (some (3, 0))] M_3 r M' := by
      refine r_iconst 181 dX12_follows_180 rfl (InR_of rfl) ?_
      obtain ⟨M_7, hc_8, h⟩ := h
      refine v_0 (ci := 12) (C := (RX12, TX12, 68)) [vI (if x1 = 0 then 6 else 5 : Int), vI 0] [] 184 dX12_follows_181 rfl rfl rfl rfl rfl mo_X12_opens ml_12_275 rfl rfl hc_8 ?_
      refine r_aload_n 185 dX12_follows_184 rfl rfl ?_
      refine r_dup 186 dX12_follows_185 rfl rfl ?_
      refine g_I 189 dX12_follows_186 rfl rfl rfl fi_12_218 rfl ?_
      refine r_iload_n 190 dX12_follows_189 rfl rfl ?_
      have hJ_9 : Ex l G (d + 1) mX12_follows 198 [some (vR (some (3, 0))), some (vI x1)] [vI (if x1 = 0 then 2 else 3 : Int), vI (M_7.1 3 0 30), vR (some (3, 0))] M_7 r M' := by
        obtain ⟨o_11, h⟩ := h
        refine r_iadd 199 dX12_follows_198 rfl o_11 ?_
        refine p_I 202 dX12_follows_199 rfl rfl rfl rfl pf_12_218 (.inl rfl) rfl ?_
        refine r_iconst 203 dX12_follows_202 rfl (InR_of rfl) ?_
        exact r_iret dX12_follows_203 rfl (.inr ⟨rfl, (.inr rfl)⟩) h.1 h.2
      refine r_if_eq 193 197 dX12_follows_190 rfl rfl (fun c => ?_) (fun c => ?_)
      · have c_10 := c
        refine r_iconst 198 dX12_follows_197 rfl (InR_of rfl) ?_
        exact (Ex.at hJ_9 rfl (show [vI 2, vI (M_7.1 3 0 30), vR (some (3, 0))] = [vI (if x1 = 0 then 2 else 3 : Int), vI (M_7.1 3 0 30), vR (some (3, 0))] by simp only [if_pos c_10]) rfl)
      · have c_10 := c
        refine r_iconst 194 dX12_follows_193 rfl (InR_of rfl) ?_
        refine r_goto 198 dX12_follows_194 rfl ?_
        exact (Ex.at hJ_9 rfl (show [vI 3, vI (M_7.1 3 0 30), vR (some (3, 0))] = [vI (if x1 = 0 then 2 else 3 : Int), vI (M_7.1 3 0 30), vR (some (3, 0))] by simp only [if_neg c_10]) rfl)
    refine r_if_eq 174 178 dX12_follows_171 rfl rfl (fun c => ?_) (fun c => ?_)
    · have c_6 := c
      refine r_bipush 180 dX12_follows_178 rfl rfl ?_
      exact (Ex.at hJ_5 rfl (show [vI 6, vR (some (3, 0))] = [vI (if x1 = 0 then 6 else 5 : Int), vR (some (3, 0))] by simp only [if_pos c_6]) rfl)
    · have c_6 := c
      refine r_iconst 175 dX12_follows_174 rfl (InR_of rfl) ?_
      refine r_goto 180 dX12_follows_175 rfl ?_
      exact (Ex.at hJ_5 rfl (show [vI 5, vR (some (3, 0))] = [vI (if x1 = 0 then 6 else 5 : Int), vR (some (3, 0))] by simp only [if_neg c_6]) rfl)
  refine r_if_eq 160 164 dX12_follows_157 rfl rfl (fun c => ?_) (fun c => ?_)
  · have c_2 := c
    refine r_bipush 166 dX12_follows_164 rfl rfl ?_
    exact (Ex.at hJ_1 rfl (show [vI 6, vR (some (3, 0))] = [vI (if x1 = 0 then 6 else 5 : Int), vR (some (3, 0))] by simp only [if_pos c_2]) rfl)
  · have c_2 := c
    refine r_iconst 161 dX12_follows_160 rfl (InR_of rfl) ?_
    refine r_goto 166 dX12_follows_161 rfl ?_
    exact (Ex.at hJ_1 rfl (show [vI 5, vR (some (3, 0))] = [vI (if x1 = 0 then 6 else 5 : Int), vR (some (3, 0))] by simp only [if_neg c_2]) rfl)

/-- what follows answers -/
def FoR (sl : Nat) (t : Tp) (n p0 : Nat) (c : Cf) (b : Int) (I : IM) : Prop := (b = 1 ∧ cM c = 0 ∧ cE c = 0 ∧ Hc sl t n (cP c) c I ∧ p0 < cP c) ∨ (b = 0 ∧ cM c = 2 ∧ cE c = 0 ∧ bl t n (cP c) = n ∧ Hc sl t n n c I) ∨ (b = 0 ∧ cM c = 3 ∧ ¬ cE c = 0 ∧ Fl sl t n (cE c) I)
theorem FoR.mono {p0 p1 : Nat} {b : Int} (h : FoR sl t n p1 c b I) (hp : p0 ≤ p1) : FoR sl t n p0 c b I := by
  rcases h with h | h | h
  · exact .inl ⟨h.1, h.2.1, h.2.2.1, h.2.2.2.1, by have := h.2.2.2.2; omega⟩
  · exact .inr (.inl h)
  · exact .inr (.inr h)
theorem fol_155 (hS : Sh M.2.1) (hx : x1 = 0 ∨ x1 = 1) (h : Hc sl t n p c M.1) (hl : (cO c).length + (cS c).length ≤ p) (hp : p + (if x1 = 0 then 2 else 3) ≤ n) : ∃ I', Ex l G (d + 2) mX12_follows 155 [some (vR (some (3, 0))), some (vI x1)] [] M (some (vI 1)) (I', M.2.1, M.2.2) ∧ frV sl M.1 I' ∧ Rg sl t n (p + (if x1 = 0 then 2 else 3)) 0 (cO c ++ gvO (if x1 = 0 then 6 else 5) (cS c)) (dpN (cS c)) (tiN (cS c)) (cC c) ((if x1 = 0 then 6 else 5, 0) :: gvS (if x1 = 0 then 6 else 5) (cS c)) I' := by
  have hn := h.1.2.1
  have hlen : ∀ (m : Int) (s : List (Int × Int)), (gvS m s).length ≤ s.length := by
    intro m s
    induction s with
    | nil => exact Nat.le_refl _
    | cons x s ih => unfold gvS; split
                     · simp only [List.length_cons]; omega
                     · exact Nat.le_refl _
  have hp' : p + 2 ≤ n := by split at hp <;> omega
  have hl2 := hlen (if x1 = 0 then 6 else 5) (cS c)
  obtain ⟨I1, k1, k2, k3⟩ := KX12_gives (l := l) (G := G) (d := d) (most := (if x1 = 0 then 6 else 5 : Int)) hS h (by omega)
  obtain ⟨I2, j1, j2, j3⟩ := KX12_opens (l := l) (G := G) (d := d + 1) (M := (I1, M.2.1, M.2.2)) (x1 := (if x1 = 0 then 6 else 5 : Int)) (x2 := 0) hS k2 (by omega)
  have a30 : I2 3 0 30 = (p : Int) := j2.2.2.1
  refine ⟨upI I2 3 0 30 (I2 3 0 30 + (if x1 = 0 then 2 else 3 : Int)), xX12_follows_155 ⟨_, k1, _, j1, ?_, rfl, rfl⟩, (k3.tr j3).tr (frV.md (by omega)), j2.md (by omega) ?_ rfl rfl rfl rfl⟩
  · dsimp only; unfold InR; split <;> omega
  · rw [if_pos rfl, a30]; split <;> omega
end RW6
