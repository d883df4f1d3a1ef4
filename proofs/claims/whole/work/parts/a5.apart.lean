/-! apart: the class -/
set_option maxRecDepth 4000 in
theorem xX11_addUnlikeMarks_0 {l : Launch} {G : Gt} {d : Nat} {M M' : Mem} {r : Option Vl} {k1 : Nat} (h : 
    Ex l G (d + 1) mX11_addUnlikeMarks 2 [some (vR (some (2, 0))), some (vR (some (14, k1))), some (vI 1), none, none] [] M r M') : Cl l G (d + 1) mX11_addUnlikeMarks [vR (some (2, 0)), vR (some (14, k1))] M r M' := by
  show Ex l G (d + 1) mX11_addUnlikeMarks 0 [some (vR (some (2, 0))), some (vR (some (14, k1))), none, none, none] [] M r M'
  refine r_iconst 1 dX11_addUnlikeMarks_0 rfl (InR_of rfl) ?_
  refine r_istore_n (ls' := [some (vR (some (2, 0))), some (vR (some (14, k1))), some (vI 1), none, none]) 2 dX11_addUnlikeMarks_1 rfl rfl rfl rfl ?_
  exact h
set_option maxRecDepth 4000 in
theorem xX11_addUnlikeMarks_2 {l : Launch} {G : Gt} {d : Nat} {M M' : Mem} {r : Option Vl} {k1 : Nat} {x2 : Int} (hS : Sh M.2.1) (h : 
    ((M.1 4 0 0) ≤ x2 → r = none ∧ M' = M) ∧ (¬ ((M.1 4 0 0) ≤ x2) → ∃ (r_3 : Int) (M_1 : Mem), Cl l G d mX7_marksOf [vR (some (14, k1)), vI x2] M (some (vI r_3)) M_1 ∧ Ex l G (d + 1) mX11_addUnlikeMarks 22 [some (vR (some (2, 0))), some (vR (some (14, k1))), some (vI x2), some (vI r_3), some (vI 0)] [] M_1 r M')) : Ex l G (d + 1) mX11_addUnlikeMarks 2 [some (vR (some (2, 0))), some (vR (some (14, k1))), some (vI x2), none, none] [] M r M' := by
  refine r_iload_n 3 dX11_addUnlikeMarks_2 rfl rfl ?_
  refine r_aload_n 4 dX11_addUnlikeMarks_3 rfl rfl ?_
  refine g_R 7 dX11_addUnlikeMarks_4 rfl rfl rfl fr_11_12 (sh_11_0 hS) ?_
  refine g_I 10 dX11_addUnlikeMarks_7 rfl rfl rfl fi_11_111 rfl ?_
  refine r_icmp_ge 13 55 dX11_addUnlikeMarks_10 rfl rfl (fun c => ?_) (fun c => ?_)
  · have h := h.1 (c)
    exact r_vret dX11_addUnlikeMarks_55 rfl h.1 h.2
  · have h := h.2 (c)
    refine r_aload_n 14 dX11_addUnlikeMarks_13 rfl rfl ?_
    refine r_iload_n 15 dX11_addUnlikeMarks_14 rfl rfl ?_
    obtain ⟨r_3, M_1, hc_2, h⟩ := h
    refine v_1 (ci := 7) (C := (RX7, TX7, 5)) [vI x2] [] 18 dX11_addUnlikeMarks_15 rfl rfl rfl rfl rfl mo_X7_marksOf ml_11_168 rfl rfl hc_2 ?_
    refine r_istore_n (ls' := [some (vR (some (2, 0))), some (vR (some (14, k1))), some (vI x2), some (vI r_3), none]) 19 dX11_addUnlikeMarks_18 rfl rfl rfl rfl ?_
    refine r_iconst 20 dX11_addUnlikeMarks_19 rfl (InR_of rfl) ?_
    refine r_istore (ls' := [some (vR (some (2, 0))), some (vR (some (14, k1))), some (vI x2), some (vI r_3), some (vI 0)]) 22 dX11_addUnlikeMarks_20 rfl rfl rfl rfl ?_
    exact h
set_option maxRecDepth 4000 in
theorem xX11_addUnlikeMarks_22 {l : Launch} {G : Gt} {d : Nat} {M M' : Mem} {r : Option Vl} {k1 : Nat} {x2 : Int} {x3 : Int} {x4 : Int} (hS : Sh M.2.1) (h : 
    (x2 ≤ x4 → (InR (x2 + 1)) ∧ Ex l G (d + 1) mX11_addUnlikeMarks 2 [some (vR (some (2, 0))), some (vR (some (14, k1))), some (vI (x2 + 1)), none, none] [] M r M') ∧ (¬ (x2 ≤ x4) → ∃ (r_4 : Int) (M_2 : Mem), Cl l G d mX7_marksOf [vR (some (14, k1)), vI x4] M (some (vI r_4)) M_2 ∧ (∃ (M_5 : Mem), Cl l G d mX4_add [vR (some (11, 0)), vI (aXor x3 r_4)] M_2 none M_5 ∧ (InR (x4 + 1)) ∧ Ex l G (d + 1) mX11_addUnlikeMarks 22 [some (vR (some (2, 0))), some (vR (some (14, k1))), some (vI x2), some (vI x3), some (vI (x4 + 1))] [] M_5 r M'))) : Ex l G (d + 1) mX11_addUnlikeMarks 22 [some (vR (some (2, 0))), some (vR (some (14, k1))), some (vI x2), some (vI x3), some (vI x4)] [] M r M' := by
  refine r_iload 24 dX11_addUnlikeMarks_22 rfl rfl ?_
  refine r_iload_n 25 dX11_addUnlikeMarks_24 rfl rfl ?_
  refine r_icmp_ge 28 49 dX11_addUnlikeMarks_25 rfl rfl (fun c => ?_) (fun c => ?_)
  · have h := h.1 (c)
    obtain ⟨o_1, h⟩ := h
    refine r_iinc (ls' := [some (vR (some (2, 0))), some (vR (some (14, k1))), some (vI (x2 + 1)), some (vI x3), some (vI x4)]) 52 dX11_addUnlikeMarks_49 rfl rfl rfl rfl o_1 rfl ?_
    refine r_goto 2 dX11_addUnlikeMarks_52 rfl ?_
    exact Ex.weak h ⟨rfl, rfl, rfl, trivial⟩
  · have h := h.2 (c)
    refine r_aload_n 29 dX11_addUnlikeMarks_28 rfl rfl ?_
    refine g_R 32 dX11_addUnlikeMarks_29 rfl rfl rfl fr_11_58 (sh_11_6 hS) ?_
    refine r_iload_n 33 dX11_addUnlikeMarks_32 rfl rfl ?_
    refine r_aload_n 34 dX11_addUnlikeMarks_33 rfl rfl ?_
    refine r_iload 36 dX11_addUnlikeMarks_34 rfl rfl ?_
    obtain ⟨r_4, M_2, hc_3, h⟩ := h
    refine v_1 (ci := 7) (C := (RX7, TX7, 5)) [vI x4] [vI x3, vR (some (11, 0))] 39 dX11_addUnlikeMarks_36 rfl rfl rfl rfl rfl mo_X7_marksOf ml_11_168 rfl rfl hc_3 ?_
    refine r_ixor 40 dX11_addUnlikeMarks_39 rfl ?_
    obtain ⟨M_5, hc_6, h⟩ := h
    refine v_0 (ci := 4) (C := (RX4, TX4, 8)) [vI (aXor x3 r_4)] [] 43 dX11_addUnlikeMarks_40 rfl rfl rfl rfl rfl mo_X4_add ml_11_388 rfl rfl hc_6 ?_
    obtain ⟨o_7, h⟩ := h
    refine r_iinc (ls' := [some (vR (some (2, 0))), some (vR (some (14, k1))), some (vI x2), some (vI x3), some (vI (x4 + 1))]) 46 dX11_addUnlikeMarks_43 rfl rfl rfl rfl o_7 rfl ?_
    refine r_goto 22 dX11_addUnlikeMarks_46 rfl ?_
    exact h

set_option maxRecDepth 4000 in
theorem xX11_apart_0 {l : Launch} {G : Gt} {d : Nat} {M M' : Mem} {r : Option Vl} {x1 : Int} {x2 : Int} {x3 : Int} (hS : Sh M.2.1) (h : 
    (¬ ((0 ≤ x1 ∧ x1 ≤ 999) ∧ (0 ≤ x2 ∧ x2 ≤ 999) ∧ x1 ≤ x2 ∧ x2 - x1 < 31) → r = some (vI (-1)) ∧ M' = M) ∧ ((0 ≤ x1 ∧ x1 ≤ 999) ∧ (0 ≤ x2 ∧ x2 ≤ 999) ∧ x1 ≤ x2 ∧ x2 - x1 < 31 → (x3 < 0 → r = some (vI (-1)) ∧ M' = M) ∧ (¬ (x3 < 0) → (x3 ≤ 1 → ∃ (M_1 : Mem), Cl l G (d + 1) mX4_clear [vR (some (11, 0))] M none M_1 ∧ Ex l G (d + 2) mX11_apart 32 [some (vR (some (2, 0))), some (vI x1), some (vI x2), some (vI x3), some (vR none), some (vI x1), none] [] M_1 r M') ∧ (¬ (x3 ≤ 1) → r = some (vI (-1)) ∧ M' = M)))) : Cl l G (d + 2) mX11_apart [vR (some (2, 0)), vI x1, vI x2, vI x3] M r M' := by
  show Ex l G (d + 2) mX11_apart 0 [some (vR (some (2, 0))), some (vI x1), some (vI x2), some (vI x3), none, none, none] [] M r M'
  refine r_iload_n 1 dX11_apart_0 rfl rfl ?_
  refine r_iload_n 2 dX11_apart_1 rfl rfl ?_
  refine c_1 [vI x1, vI x2] [] 5 dX11_apart_2 rfl rfl mo_X11_isSpan ml_11_322 rfl rfl (KX11_isSpan) ?_
  refine r_if_eq 8 17 dX11_apart_5 rfl rfl (fun c => ?_) (fun c => ?_)
  · have h := h.1 (b2_0.mp c)
    refine r_iconst 18 dX11_apart_17 rfl (InR_of rfl) ?_
    exact r_iret dX11_apart_18 rfl (.inl rfl) h.1 h.2
  · have h := h.2 (b2_1.mp c)
    refine r_iload_n 9 dX11_apart_8 rfl rfl ?_
    refine r_if_lt 12 17 dX11_apart_9 rfl rfl (fun c => ?_) (fun c => ?_)
    · have h := h.1 (c)
      refine r_iconst 18 dX11_apart_17 rfl (InR_of rfl) ?_
      exact r_iret dX11_apart_18 rfl (.inl rfl) h.1 h.2
    · have h := h.2 (c)
      refine r_iload_n 13 dX11_apart_12 rfl rfl ?_
      refine r_iconst 14 dX11_apart_13 rfl (InR_of rfl) ?_
      refine r_icmp_le 17 19 dX11_apart_14 rfl rfl (fun c => ?_) (fun c => ?_)
      · have h := h.1 (c)
        refine r_aload_n 20 dX11_apart_19 rfl rfl ?_
        refine g_R 23 dX11_apart_20 rfl rfl rfl fr_11_58 (sh_11_6 hS) ?_
        obtain ⟨M_1, hc_2, h⟩ := h
        refine v_0 (ci := 4) (C := (RX4, TX4, 8)) [] [] 26 dX11_apart_23 rfl rfl rfl rfl rfl mo_X4_clear ml_11_329 rfl rfl hc_2 ?_
        refine r_null 27 dX11_apart_26 rfl ?_
        refine r_astore (ls' := [some (vR (some (2, 0))), some (vI x1), some (vI x2), some (vI x3), some (vR none), none, none]) 29 dX11_apart_27 rfl rfl rfl rfl ?_
        refine r_iload_n 30 dX11_apart_29 rfl rfl ?_
        refine r_istore (ls' := [some (vR (some (2, 0))), some (vI x1), some (vI x2), some (vI x3), some (vR none), some (vI x1), none]) 32 dX11_apart_30 rfl rfl rfl rfl ?_
        exact h
      · have h := h.2 (c)
        refine r_iconst 18 dX11_apart_17 rfl (InR_of rfl) ?_
        exact r_iret dX11_apart_18 rfl (.inl rfl) h.1 h.2
set_option maxRecDepth 4000 in
theorem xX11_apart_32 {l : Launch} {G : Gt} {d : Nat} {M M' : Mem} {r : Option Vl} {x1 : Int} {x2 : Int} {x3 : Int} {o4 : Option Nm} {x5 : Int} (hS : Sh M.2.1) (h : 
    (x2 < x5 → (¬ (x3 = 1) → ((M.1 11 0 4) = 0 → ∃ (M_1 : Mem), Cl l G (d + 1) mX4_solve [vR (some (11, 0))] ((flI M.1 27 0 16 0), M.2.1, M.2.2) none M_1 ∧ Sh M_1.2.1 ∧ r = some (vI (M_1.1 11 0 5)) ∧ M' = M_1) ∧ (¬ ((M.1 11 0 4) = 0) → r = some (vI (-2)) ∧ M' = M)) ∧ (x3 = 1 → r = some (vI (M.1 11 0 3)) ∧ M' = M)) ∧ (¬ (x2 < x5) → ∃ (k_5 : Nat) (M_3 : Mem), Cl l G (d + 1) mX6_on [vR (some (6, 0)), vI x5] M (some (vR (some (14, k_5)))) M_3 ∧ (((∀ w, o4 = some w → 2 ≤ w.1)) ∧ ((some (14, k_5) = o4 → (InR (x5 + 1)) ∧ Ex l G (d + 2) mX11_apart 32 [some (vR (some (2, 0))), some (vI x1), some (vI x2), some (vI x3), some (vR (some (14, k_5))), some (vI (x5 + 1)), none] [] M_3 r M') ∧ (¬ (some (14, k_5) = o4) → ∃ (M_8 : Mem), Cl l G (d + 1) mX11_addUnlikeMarks [vR (some (2, 0)), vR (some (14, k_5))] M_3 none M_8 ∧ (InR (x5 + 1)) ∧ Ex l G (d + 2) mX11_apart 32 [some (vR (some (2, 0))), some (vI x1), some (vI x2), some (vI x3), some (vR (some (14, k_5))), some (vI (x5 + 1)), none] [] M_8 r M'))))) : Ex l G (d + 2) mX11_apart 32 [some (vR (some (2, 0))), some (vI x1), some (vI x2), some (vI x3), some (vR o4), some (vI x5), none] [] M r M' := by
  refine r_iload 34 dX11_apart_32 rfl rfl ?_
  refine r_iload_n 35 dX11_apart_34 rfl rfl ?_
  refine r_icmp_gt 38 72 dX11_apart_35 rfl rfl (fun c => ?_) (fun c => ?_)
  · have h := h.1 (c)
    refine r_iload_n 73 dX11_apart_72 rfl rfl ?_
    refine r_iconst 74 dX11_apart_73 rfl (InR_of rfl) ?_
    refine r_icmp_ne 77 85 dX11_apart_74 rfl rfl (fun c => ?_) (fun c => ?_)
    · have h := h.1 (c)
      refine r_aload_n 86 dX11_apart_85 rfl rfl ?_
      refine g_R 89 dX11_apart_86 rfl rfl rfl fr_11_58 (sh_11_6 hS) ?_
      refine g_I 92 dX11_apart_89 rfl rfl rfl fi_11_355 rfl ?_
      refine r_if_eq 95 98 dX11_apart_92 rfl rfl (fun c => ?_) (fun c => ?_)
      · have h := h.1 (c)
        refine r_aload_n 99 dX11_apart_98 rfl rfl ?_
        refine g_R 102 dX11_apart_99 rfl rfl rfl fr_11_58 (sh_11_6 hS) ?_
        refine g_R 105 dX11_apart_102 rfl rfl rfl fr_11_336 (sh_4_2 hS) ?_
        refine r_iconst 106 dX11_apart_105 rfl (InR_of rfl) ?_
        refine c_0 [vR (some (27, 0)), vI 0] [] 109 dX11_apart_106 rfl rfl mo_J7_fill_53178 ml_11_316 rfl rfl (KJ7_fl (n := 16) rfl (by decide) rfl (by decide)) ?_
        refine r_aload_n 110 dX11_apart_109 rfl rfl ?_
        refine g_R 113 dX11_apart_110 rfl rfl rfl fr_11_58 (mR_0 (sh_11_6 hS)) ?_
        obtain ⟨M_1, hc_2, hS, h⟩ := h
        refine v_0 (ci := 4) (C := (RX4, TX4, 8)) [] [] 116 dX11_apart_113 rfl rfl rfl rfl rfl mo_X4_solve ml_11_339 rfl rfl hc_2 ?_
        refine r_aload_n 117 dX11_apart_116 rfl rfl ?_
        refine g_R 120 dX11_apart_117 rfl rfl rfl fr_11_58 (sh_11_6 hS) ?_
        refine g_I 123 dX11_apart_120 rfl rfl rfl fi_11_345 rfl ?_
        exact r_iret dX11_apart_123 rfl (.inl rfl) h.1 h.2
      · have h := h.2 (c)
        refine r_bipush 97 dX11_apart_95 rfl rfl ?_
        exact r_iret dX11_apart_97 rfl (.inl rfl) h.1 h.2
    · have h := h.2 (Decidable.not_not.mp c)
      refine r_aload_n 78 dX11_apart_77 rfl rfl ?_
      refine g_R 81 dX11_apart_78 rfl rfl rfl fr_11_58 (sh_11_6 hS) ?_
      refine g_I 84 dX11_apart_81 rfl rfl rfl fi_11_352 rfl ?_
      exact r_iret dX11_apart_84 rfl (.inl rfl) h.1 h.2
  · have h := h.2 (c)
    refine r_aload_n 39 dX11_apart_38 rfl rfl ?_
    refine g_R 42 dX11_apart_39 rfl rfl rfl fr_11_21 (sh_11_1 hS) ?_
    refine r_iload 44 dX11_apart_42 rfl rfl ?_
    obtain ⟨k_5, M_3, hc_4, h⟩ := h
    refine v_1 (ci := 6) (C := (RX6, TX6, 3)) [vI x5] [] 47 dX11_apart_44 rfl rfl rfl rfl rfl mo_X6_on ml_11_164 rfl rfl hc_4 ?_
    obtain ⟨o_6, h⟩ := h
    refine r_astore (ls' := [some (vR (some (2, 0))), some (vI x1), some (vI x2), some (vI x3), some (vR o4), some (vI x5), some (vR (some (14, k_5)))]) 49 dX11_apart_47 rfl rfl rfl rfl ?_
    refine r_aload 51 dX11_apart_49 rfl rfl ?_
    refine r_aload 53 dX11_apart_51 rfl rfl ?_
    refine r_acmp_eq 56 62 dX11_apart_53 rfl rfl (fun w hw => by cases hw; exact Nat.le_of_ble_eq_true rfl) o_6 (fun c => ?_) (fun c => ?_)
    · have h := h.1 (c)
      obtain ⟨o_7, h⟩ := h
      refine r_aload 64 dX11_apart_62 rfl rfl ?_
      refine r_astore (ls' := [some (vR (some (2, 0))), some (vI x1), some (vI x2), some (vI x3), some (vR (some (14, k_5))), some (vI x5), some (vR (some (14, k_5)))]) 66 dX11_apart_64 rfl rfl rfl rfl ?_
      refine r_iinc (ls' := [some (vR (some (2, 0))), some (vI x1), some (vI x2), some (vI x3), some (vR (some (14, k_5))), some (vI (x5 + 1)), some (vR (some (14, k_5)))]) 69 dX11_apart_66 rfl rfl rfl rfl o_7 rfl ?_
      refine r_goto 32 dX11_apart_69 rfl ?_
      exact Ex.weak h ⟨rfl, rfl, rfl, rfl, rfl, rfl, trivial⟩
    · have h := h.2 (c)
      refine r_aload_n 57 dX11_apart_56 rfl rfl ?_
      refine r_aload 59 dX11_apart_57 rfl rfl ?_
      obtain ⟨M_8, hc_9, h⟩ := h
      refine v_0 (ci := 11) (C := (RX11, TX11, 16)) [vR (some (14, k_5))] [] 62 dX11_apart_59 rfl rfl rfl rfl rfl mo_X11_addUnlikeMarks ml_11_348 rfl rfl hc_9 ?_
      obtain ⟨o_10, h⟩ := h
      refine r_aload 64 dX11_apart_62 rfl rfl ?_
      refine r_astore (ls' := [some (vR (some (2, 0))), some (vI x1), some (vI x2), some (vI x3), some (vR (some (14, k_5))), some (vI x5), some (vR (some (14, k_5)))]) 66 dX11_apart_64 rfl rfl rfl rfl ?_
      refine r_iinc (ls' := [some (vR (some (2, 0))), some (vI x1), some (vI x2), some (vI x3), some (vR (some (14, k_5))), some (vI (x5 + 1)), some (vR (some (14, k_5)))]) 69 dX11_apart_66 rfl rfl rfl rfl o_10 rfl ?_
      refine r_goto 32 dX11_apart_69 rfl ?_
      exact Ex.weak h ⟨rfl, rfl, rfl, rfl, rfl, rfl, trivial⟩

def ApC (P : (Nat → Bool) → Prop) (I : IM) : Prop := (∃ m U, HsI I m U ∧ (∀ g, HitS P g ↔ HmU m U g) ∧ ∀ i, i < m → ∀ j, 10 ≤ j → j < 16 → U i j = false) ∧ (∃ f : Nat → Bool, I 11 0 3 = bI 16 f ∧ ∀ k, k < 16 → (f k = true ↔ ∃ u, P u ∧ cnt u 16 = 1 ∧ u k = true)) ∧ ((I 11 0 4 = 0 ∧ ∀ u, P u → ∃ k, k < 16 ∧ u k = true) ∨ (I 11 0 4 = 1 ∧ ∃ u, P u ∧ ∀ k, k < 16 → u k = false)) ∧ (I 11 0 6 = 10000 ∧ I 11 0 7 = 17 ∧ I 11 0 5 = 0)
theorem ApC.iff {P P' : (Nat → Bool) → Prop} {I : IM} (h : ApC P I) (hp : ∀ u, P u ↔ P' u) : ApC P' I := by
  have e : P = P' := funext fun u => propext (hp u)
  rw [← e]
  exact h
theorem ApC.fr {P : (Nat → Bool) → Prop} {I I' : IM} (h : ApC P I) (h1 : ∀ i, I' 11 0 i = I 11 0 i) (h2 : ∀ i, I' 26 0 i = I 26 0 i) : ApC P I' := by
  obtain ⟨⟨m, U, ⟨a1, a2, a3, a4⟩, a5, a6⟩, ⟨f, b1, b2⟩, c, e⟩ := h
  exact ⟨⟨m, U, ⟨by rw [h1]; exact a1, a2, fun i hi => by rw [h2]; exact a3 i hi, a4⟩, a5, a6⟩, ⟨f, by rw [h1]; exact b1, b2⟩, by rw [h1]; exact c, by rw [h1, h1, h1]; exact e⟩
theorem frS.b {M : Mem} {I' : IM} (h : frS M.1 I') : frB M (I', M.2.1, M.2.2) := frB.I fun f k i hn => h f k i (by unfold scC at hn; omega)
theorem RelB.s {Q : QT} {M : Mem} {I' : IM} (h : RelB Q M) (hf : frS M.1 I') : RelB Q (I', M.2.1, M.2.2) := h.fr (h.1.I fun f k i hr => hf f k i (by unfold relF at hr; omega)) hf.b
section PC
variable {l : Launch} {G : Gt} {d : Nat} {Q : QT} {M : Mem}
theorem ap_add {P : (Nat → Bool) → Prop} {u : Nat → Bool} (hS : Sh M.2.1) (hI : ApC P M.1) (hu : ∀ j, 10 ≤ j → j < 16 → u j = false) : ∃ I', Cl l G (d + 1) mX4_add [vR (some (11, 0)), vI (bI 16 u)] M none (I', M.2.1, M.2.2) ∧ frS M.1 I' ∧ ApC (fun v => P v ∨ v = u) I' := by
  obtain ⟨⟨m, U, a1, a2, a3⟩, ⟨f, b1, b2⟩, c, e⟩ := hI
  obtain ⟨I', m', U', x1, x2, x3, x4, x5, x6, x7, x8⟩ := KX4_add (l := l) (G := G) (d := d) (u := u) hS a1 (fun k V hk hV1 hV2 hV3 => anti10 (V := V) (fun i hi j hj hj2 => by
    by_cases ci : i < k
    · obtain ⟨j', hj', e'⟩ := hV2 i ci
      rw [e']; exact a3 j' hj' j hj hj2
    · rw [show i = k by omega, hV3]; exact hu j hj hj2) hV1)
  refine ⟨I', x1, x2, ⟨m', U', x3, fun g => ?_, fun i hi j hj hj2 => ?_⟩, ?_, ?_, ?_⟩
  · rw [x5, ← a2 g]
    exact ⟨fun h => ⟨fun v hv => h v (.inl hv), h u (.inr rfl)⟩, fun ⟨h1, h2⟩ v hv => hv.elim (h1 v) fun e => by rw [e]; exact h2⟩
  · rcases x6 i hi with e' | ⟨j', hj', e'⟩
    · rw [e']; exact hu j hj hj2
    · rw [e']; exact a3 j' hj' j hj hj2
  · by_cases c1 : (cnt u 16 : Int) = 1
    · refine ⟨fun k => f k || u k, by rw [x7, if_pos c1, b1, bI_or (by omega)], fun k hk => ?_⟩
      rw [Bool.or_eq_true, b2 k hk]
      constructor
      · rintro (⟨v, a, b⟩ | h)
        · exact ⟨v, .inl a, b⟩
        · exact ⟨u, .inr rfl, by omega, h⟩
      · rintro ⟨v, a | a, b, b'⟩
        · exact .inl ⟨v, a, b, b'⟩
        · rw [a] at b'; exact .inr b'
    · refine ⟨f, by rw [x7, if_neg c1, b1], fun k hk => (b2 k hk).trans ⟨fun ⟨v, a, b⟩ => ⟨v, .inl a, b⟩, fun ⟨v, a, b⟩ => ⟨v, a.elim id fun e => ?_, b⟩⟩⟩
      rw [e] at b
      omega
  · rw [x8]
    rcases c with ⟨c1, c2⟩ | ⟨c1, v, c2, c3⟩
    · rw [if_pos c1]
      by_cases cz : bI 16 u = 0
      · rw [if_pos cz]
        exact .inr ⟨rfl, u, .inr rfl, (bI_zero_iff (by omega) u).mp cz⟩
      · rw [if_neg cz]
        refine .inl ⟨rfl, fun v hv => hv.elim (c2 v) fun e => ?_⟩
        rw [e]
        by_cases ex : ∃ k, k < 16 ∧ u k = true
        · exact ex
        · refine absurd ((bI_zero_iff (by omega) u).mpr fun k hk => ?_) cz
          cases e1 : u k with
          | false => rfl
          | true => exact absurd ⟨k, hk, e1⟩ ex
    · rw [if_neg (by omega)]
      exact .inr ⟨rfl, v, .inl c2, c3⟩
  · rw [x2 _ _ _ (by omega), x2 _ _ _ (by omega), x2 _ _ _ (by omega)]
    exact e
theorem KX11_addUnlikeMarks {day : Int} {P : (Nat → Bool) → Prop} (hR : RelB Q M) (hq : WFQ Q) (hsn : Snap Q M.1 (dn Q day) (dn Q day)) (hI : ApC P M.1) : ∃ I', Cl l G (d + 2) mX11_addUnlikeMarks [vR (some (2, 0)), vR (some (14, dn Q day))] M none (I', M.2.1, M.2.2) ∧ frS M.1 I' ∧ ApC (fun u => P u ∨ ∃ a b, b < a ∧ a < nPp Q ∧ u = xr Q day a b) I' := by
  have hw := hq.1
  have h12 := nPp_le hw
  have hS := hR.1.1
  have inner : ∀ a, a < nPp Q → ∀ n b : Nat, n + b = a → ∀ I, frS M.1 I → ApC (fun u => P u ∨ ∃ a' b', b' < a' ∧ a' < nPp Q ∧ (a' < a ∨ (a' = a ∧ b' < b)) ∧ u = xr Q day a' b') I → ∃ I', frS M.1 I' ∧ ApC (fun u => P u ∨ ∃ a' b', b' < a' ∧ a' < nPp Q ∧ a' < a + 1 ∧ u = xr Q day a' b') I' ∧ ∀ res M', Ex l G (d + 2) mX11_addUnlikeMarks 2 [some (vR (some (2, 0))), some (vR (some (14, dn Q day))), some (vI ((a : Int) + 1)), none, none] [] (I', M.2.1, M.2.2) res M' → Ex l G (d + 2) mX11_addUnlikeMarks 22 [some (vR (some (2, 0))), some (vR (some (14, dn Q day))), some (vI (a : Int)), some (vI (bI 10 (fun m => mkF Q (dn Q day) a m))), some (vI (b : Int))] [] (I, M.2.1, M.2.2) res M' := by
    intro a ha n
    induction n with
    | zero =>
      intro b hb I hf hA
      exact ⟨I, hf, hA.iff fun u => ⟨fun h => h.elim .inl fun ⟨a', b', p1, p2, p3, p4⟩ => .inr ⟨a', b', p1, p2, by omega, p4⟩, fun h => h.elim .inl fun ⟨a', b', p1, p2, p3, p4⟩ => .inr ⟨a', b', p1, p2, by omega, p4⟩⟩, fun res M' hx => xX11_addUnlikeMarks_22 hS ⟨fun _ => ⟨by unfold InR; omega, hx⟩, fun c => absurd (by omega) c⟩⟩
    | succ n ih =>
      intro b hb I hf hA
      have sI : Snap Q I (dn Q day) (dn Q day) := by
        obtain ⟨q1, q2, q3, q4⟩ := hsn
        exact ⟨fun m hm => by rw [hf _ _ _ (by omega)]; exact q1 m hm, fun t p ht hp => by rw [hf _ _ _ (by omega)]; exact q2 t p ht hp, fun p hp => by rw [hf _ _ _ (by omega)]; exact q3 p hp, fun a ha => by rw [hf _ _ _ (by omega)]; exact q4 a ha⟩
      have km := KX7_marksOf (l := l) (G := G) (d := d + 1) (M := (I, M.2.1, M.2.2)) (one := b) hS sI (by omega)
      have h10 : ∀ k, 10 ≤ k → k < 16 → xr Q day a b k = false := fun k hk _ => xr_10 hw hk
      have ex : aXor (bI 10 (fun m => mkF Q (dn Q day) a m)) (bI 10 (fun m => mkF Q (dn Q day) b m)) = bI 16 (xr Q day a b) := by
        rw [bI_xor (by omega)]
        exact b10_16 h10
      obtain ⟨I2, k1, k2, k3⟩ := ap_add (l := l) (G := G) (d := d) (M := (I, M.2.1, M.2.2)) (u := xr Q day a b) hS hA h10
      dsimp only at k2
      obtain ⟨I', y1, y2, y3⟩ := ih (b + 1) (by omega) I2 (hf.tr k2) (k3.iff fun u => ⟨fun h => by
        rcases h with (h | ⟨a', b', p1, p2, p3, p4⟩) | h
        · exact .inl h
        · exact .inr ⟨a', b', p1, p2, by omega, p4⟩
        · exact .inr ⟨a, b, by omega, ha, by omega, h⟩, fun h => by
        rcases h with h | ⟨a', b', p1, p2, p3, p4⟩
        · exact .inl (.inl h)
        · by_cases c : a' = a ∧ b' = b
          · exact .inr (by rw [p4, c.1, c.2])
          · exact .inl (.inr ⟨a', b', p1, p2, by omega, p4⟩)⟩)
      refine ⟨I', y1, y2, fun res M' hx => xX11_addUnlikeMarks_22 hS ⟨fun c => by omega, fun _ => ⟨_, _, km, _, ?_, by unfold InR; omega, y3 res M' hx⟩⟩⟩
      rw [ex]
      exact k1
  have outer : ∀ n a : Nat, n + a = nPp Q + 1 → 1 ≤ a → ∀ I, frS M.1 I → ApC (fun u => P u ∨ ∃ a' b', b' < a' ∧ a' < nPp Q ∧ a' < a ∧ u = xr Q day a' b') I → ∃ I', Ex l G (d + 2) mX11_addUnlikeMarks 2 [some (vR (some (2, 0))), some (vR (some (14, dn Q day))), some (vI (a : Int)), none, none] [] (I, M.2.1, M.2.2) none (I', M.2.1, M.2.2) ∧ frS M.1 I' ∧ ApC (fun u => P u ∨ ∃ a b, b < a ∧ a < nPp Q ∧ u = xr Q day a b) I' := by
    intro n
    induction n with
    | zero =>
      intro a ha h1 I hf hA
      have e1 : I 4 0 0 = (nPp Q : Int) := by rw [hf _ _ _ (by omega)]; exact cppl_eq hw hR.1
      exact ⟨I, xX11_addUnlikeMarks_2 hS ⟨fun _ => ⟨rfl, rfl⟩, fun c => absurd (show I 4 0 0 ≤ (a : Int) by omega) c⟩, hf, hA.iff fun u => ⟨fun h => h.elim .inl fun ⟨a', b', p1, p2, p3, p4⟩ => .inr ⟨a', b', p1, p2, p4⟩, fun h => h.elim .inl fun ⟨a', b', p1, p2, p4⟩ => .inr ⟨a', b', p1, p2, by omega, p4⟩⟩⟩
    | succ n ih =>
      intro a ha h1 I hf hA
      have e1 : I 4 0 0 = (nPp Q : Int) := by rw [hf _ _ _ (by omega)]; exact cppl_eq hw hR.1
      by_cases c : nPp Q ≤ a
      · exact ⟨I, xX11_addUnlikeMarks_2 hS ⟨fun _ => ⟨rfl, rfl⟩, fun c => absurd (show I 4 0 0 ≤ (a : Int) by omega) c⟩, hf, hA.iff fun u => ⟨fun h => h.elim .inl fun ⟨a', b', p1, p2, p3, p4⟩ => .inr ⟨a', b', p1, p2, p4⟩, fun h => h.elim .inl fun ⟨a', b', p1, p2, p4⟩ => .inr ⟨a', b', p1, p2, by omega, p4⟩⟩⟩
      · have sI : Snap Q I (dn Q day) (dn Q day) := by
          obtain ⟨q1, q2, q3, q4⟩ := hsn
          exact ⟨fun m hm => by rw [hf _ _ _ (by omega)]; exact q1 m hm, fun t p ht hp => by rw [hf _ _ _ (by omega)]; exact q2 t p ht hp, fun p hp => by rw [hf _ _ _ (by omega)]; exact q3 p hp, fun a ha => by rw [hf _ _ _ (by omega)]; exact q4 a ha⟩
        have km := KX7_marksOf (l := l) (G := G) (d := d + 1) (M := (I, M.2.1, M.2.2)) (one := a) hS sI (by omega)
        obtain ⟨I2, k1, k2, k3⟩ := inner a (by omega) a 0 (by omega) I hf (hA.iff fun u => ⟨fun h => h.elim .inl fun ⟨a', b', p1, p2, p3, p4⟩ => .inr ⟨a', b', p1, p2, by omega, p4⟩, fun h => h.elim .inl fun ⟨a', b', p1, p2, p3, p4⟩ => .inr ⟨a', b', p1, p2, by omega, p4⟩⟩)
        obtain ⟨I', y1, y2⟩ := ih (a + 1) (by omega) (by omega) I2 k1 k2
        exact ⟨I', xX11_addUnlikeMarks_2 hS ⟨fun c => absurd (show I 4 0 0 ≤ (a : Int) from c) (by omega), fun _ => ⟨_, _, km, k3 _ _ y1⟩⟩, y2⟩
  obtain ⟨I', y1, y2⟩ := outer (nPp Q) 1 (by omega) (by omega) M.1 frS.rf (hI.iff fun u => ⟨.inl, fun h => h.elim id fun ⟨a', b', p1, p2, p3, p4⟩ => by omega⟩)
  exact ⟨I', xX11_addUnlikeMarks_0 y1, y2⟩
theorem KX11_apart {fr to what : Int} (hR : RelB Q M) (hq : WFQ Q) : ∃ M', Cl l G (d + 20) mX11_apart [vR (some (2, 0)), vI fr, vI to, vI what] M (some (vI (apV1 Q fr to what))) M' ∧ RelB Q M' ∧ frB M M' := by
  have hw := hq.1
  have hS := hR.1.1
  by_cases g : apG fr to what
  · have gg := g
    obtain ⟨g1, g2, g3, g4⟩ := gg
    have key : ∀ (n : Nat) (day : Int), to + 1 - day = (n : Int) → fr ≤ day → ∀ (o4 : Option Nm) (M1 : Mem), (o4 = none ∨ (fr ≤ day - 1 ∧ o4 = some (14, dn Q (day - 1)))) → RelB Q M1 → frB M M1 → ApC (F10k Q fr day 0 0) M1.1 → ∃ v M', Ex l G (d + 20) mX11_apart 32 [some (vR (some (2, 0))), some (vI fr), some (vI to), some (vI what), some (vR o4), some (vI day), none] [] M1 (some (vI v)) M' ∧ RelB Q M' ∧ frB M M' ∧ ApP Q fr to what v := by
      intro n
      induction n with
      | zero =>
        intro day hday hfd o4 M1 ho R1 f1 hA
        have hAF : ApC (F10 Q fr to) M1.1 := hA.iff fun u => ⟨fun ⟨d', a', b', p1, p2, p3, p4, p5⟩ => ⟨d', a', b', ⟨p1, by omega⟩, p2, p3, p5⟩, fun ⟨d', a', b', p1, p2, p3, p5⟩ => ⟨d', a', b', p1.1, p2, p3, by omega, p5⟩⟩
        obtain ⟨⟨m, U, a1, a2, a3⟩, ⟨f, b1, b2⟩, c, e⟩ := hAF
        by_cases cw : what = 1
        · exact ⟨_, M1, xX11_apart_32 R1.1.1 ⟨fun _ => ⟨fun n => absurd cw n, fun _ => ⟨rfl, rfl⟩⟩, fun n => absurd (by omega) n⟩, R1, f1, fun _ => ⟨fun _ => ⟨f, b1, b2⟩, fun n => absurd cw n⟩, fun n => absurd g n⟩
        · rcases c with ⟨c1, c2⟩ | ⟨c1, c2⟩
          · have fI : ∀ f k i, ¬ (f = 27 ∧ k = 0) → flI M1.1 27 0 16 0 f k i = M1.1 f k i := fun f k i hn => by unfold flI; rw [seI_o hn]
            obtain ⟨I', fb, s1, s2, s3, s4, s5⟩ := KX4_solve (l := l) (G := G) (d := d) (M := (flI M1.1 27 0 16 0, M1.2.1, M1.2.2)) (m := m) (U := U) (w := fun _ => 0) (F := F10 Q fr to) R1.1.1 ⟨by dsimp only; rw [fI _ _ _ (by omega)]; exact a1.1, a1.2.1, fun i hi => by dsimp only; rw [fI _ _ _ (by omega)]; exact a1.2.2.1 i hi, a1.2.2.2⟩ (fun k hk => ⟨by dsimp only; unfold flI; rw [seI_s, if_pos hk], Int.le_refl _, by show (0 : Int) ≤ 198; omega⟩) (by dsimp only; rw [fI _ _ _ (by omega), fI _ _ _ (by omega), fI _ _ _ (by omega)]; exact e) a2 ⟨fun _ => true, fun u hu => by
              obtain ⟨k, hk, hu2⟩ := c2 u hu
              exact ⟨k, hk, hu2, rfl⟩⟩
            dsimp only at s2
            have fT : ∀ f k i, ¬ (f = 27 ∨ f = 11) → I' f k i = M1.1 f k i := fun f k i hn => (s2 f k i (by omega)).trans (fI f k i (by omega))
            have fB : frB M1 (I', M1.2.1, M1.2.2) := frB.I fun f k i hn => fT f k i (by unfold scC at hn; omega)
            have R2 : RelB Q (I', M1.2.1, M1.2.2) := R1.fr (R1.1.I fun f k i hr => fT f k i (by unfold relF at hr; omega)) fB
            exact ⟨_, (I', M1.2.1, M1.2.2), xX11_apart_32 R1.1.1 ⟨fun _ => ⟨fun _ => ⟨fun _ => ⟨_, s1, R1.1.1, rfl, rfl⟩, fun n => absurd c1 n⟩, fun n => absurd n cw⟩, fun n => absurd (by omega) n⟩, R2, f1.tr fB, fun _ => ⟨fun n => absurd n cw, fun _ => .inl ⟨fb, s3, s4⟩⟩, fun n => absurd g n⟩
          · exact ⟨_, M1, xX11_apart_32 R1.1.1 ⟨fun _ => ⟨fun _ => ⟨fun n => by omega, fun _ => ⟨rfl, rfl⟩⟩, fun n => absurd n cw⟩, fun n => absurd (by omega) n⟩, R1, f1, fun _ => ⟨fun n => absurd n cw, fun _ => .inr ⟨c2, rfl⟩⟩, fun n => absurd g n⟩
      | succ n ih =>
        intro day hday hfd o4 M1 ho R1 f1 hA
        obtain ⟨M2, o2, R2, f2, p2, _⟩ := on_at (l := l) (G := G) (d := d + 17) (x := day) R1.1 hw
        have RB2 : RelB Q M2 := R1.fr R2 f2.b
        have hA2 : ApC (F10k Q fr day 0 0) M2.1 := hA.fr (fun i => f2.1 _ _ _ (by omega)) (fun i => f2.1 _ _ _ (by omega))
        have hw4 : ∀ w, o4 = some w → 2 ≤ w.1 := fun w hw => by
          rcases ho with h | ⟨_, h⟩
          · rw [h] at hw; cases hw
          · rw [h] at hw; cases hw; show 2 ≤ 14; omega
        have i1 : InR (day + 1) := by unfold InR; omega
        by_cases ce : some (14, dn Q day) = o4
        · have hdn : fr ≤ day - 1 ∧ dn Q day = dn Q (day - 1) := by
            rcases ho with h | ⟨h1, h⟩
            · rw [h] at ce; cases ce
            · rw [h] at ce; injection ce with ce; injection ce with _ ce; exact ⟨h1, ce⟩
          have hxr : ∀ a b, xr Q day a b = xr Q (day - 1) a b := fun a b => by unfold xr; rw [hdn.2]
          obtain ⟨v, M', y1, y2⟩ := ih (day + 1) (by omega) (by omega) (some (14, dn Q day)) M2 (.inr ⟨by omega, by rw [show day + 1 - 1 = day by omega]⟩) RB2 (f1.tr f2.b) (hA2.iff fun u => ⟨fun ⟨d', a', b', p1, p2, p3, p4, p5⟩ => ⟨d', a', b', p1, p2, p3, by omega, p5⟩, fun ⟨d', a', b', p1, p2, p3, p4, p5⟩ => by
            by_cases c : d' = day
            · exact ⟨day - 1, a', b', hdn.1, p2, p3, by omega, by rw [p5, c, hxr]⟩
            · exact ⟨d', a', b', p1, p2, p3, by omega, p5⟩⟩)
          exact ⟨v, M', xX11_apart_32 R1.1.1 ⟨fun c => by omega, fun _ => ⟨_, M2, o2, hw4, fun _ => ⟨i1, y1⟩, fun c => absurd ce c⟩⟩, y2⟩
        · have sn : Snap Q M2.1 (dn Q day) (dn Q day) := R2.2.2.1.2.2.2.2.2 (dn Q day) p2
          obtain ⟨I3, k1, k2, k3⟩ := KX11_addUnlikeMarks (l := l) (G := G) (d := d + 17) (day := day) RB2 hq sn hA2
          obtain ⟨v, M', y1, y2⟩ := ih (day + 1) (by omega) (by omega) (some (14, dn Q day)) (I3, M2.2.1, M2.2.2) (.inr ⟨by omega, by rw [show day + 1 - 1 = day by omega]⟩) (RB2.s k2) ((f1.tr f2.b).tr k2.b) (k3.iff fun u => ⟨fun h => by
            rcases h with ⟨d', a', b', p1, p2, p3, p4, p5⟩ | ⟨a', b', p1, p2, p3⟩
            · exact ⟨d', a', b', p1, p2, p3, by omega, p5⟩
            · exact ⟨day, a', b', hfd, p1, p2, by omega, p3⟩, fun ⟨d', a', b', p1, p2, p3, p4, p5⟩ => by
            by_cases c : d' = day
            · exact .inr ⟨a', b', p2, p3, by rw [p5, c]⟩
            · exact .inl ⟨d', a', b', p1, p2, p3, by omega, p5⟩⟩)
          exact ⟨v, M', xX11_apart_32 R1.1.1 ⟨fun c => by omega, fun _ => ⟨_, M2, o2, hw4, fun c => absurd c ce, fun _ => ⟨_, k1, i1, y1⟩⟩⟩, y2⟩
    have fC : ∀ f k i, ¬ (f = 11 ∧ k = 0) → upI (upI (upI (upI (upI (upI M.1 11 0 1 0) 11 0 3 0) 11 0 4 0) 11 0 5 0) 11 0 6 10000) 11 0 7 17 f k i = M.1 f k i := fun f k i hn => by rw [upI_o hn, upI_o hn, upI_o hn, upI_o hn, upI_o hn, upI_o hn]
    have fB : frB M (upI (upI (upI (upI (upI (upI M.1 11 0 1 0) 11 0 3 0) 11 0 4 0) 11 0 5 0) 11 0 6 10000) 11 0 7 17, M.2.1, M.2.2) := frB.I fun f k i hn => fC f k i (by unfold scC at hn; omega)
    have none0 : ∀ u, ¬ F10k Q fr fr 0 0 u := fun u ⟨d', a', b', p1, p2, p3, p4, p5⟩ => by omega
    obtain ⟨v, M', y1, y2, y3, y4⟩ := key (to + 1 - fr).toNat fr (by omega) (by omega) none (upI (upI (upI (upI (upI (upI M.1 11 0 1 0) 11 0 3 0) 11 0 4 0) 11 0 5 0) 11 0 6 10000) 11 0 7 17, M.2.1, M.2.2) (.inl rfl) (hR.fr (hR.1.I fun f k i hr => fC f k i (by unfold relF at hr; omega)) fB) fB ⟨⟨0, fun _ _ => false, ⟨by dsimp only; rw [upI_i (by omega), upI_i (by omega), upI_i (by omega), upI_i (by omega), upI_i (by omega), upI_s]; rfl, by omega, fun i hi => by omega, fun i j hi => by omega⟩, fun g => ⟨fun _ i hi => by omega, fun _ u hu => absurd hu (none0 u)⟩, fun i hi => by omega⟩, ⟨fun _ => false, by dsimp only; rw [upI_i (by omega), upI_i (by omega), upI_i (by omega), upI_i (by omega), upI_s, bI_false], fun k _ => ⟨fun h => (by cases h), fun ⟨u, hu, _⟩ => absurd hu (none0 u)⟩⟩, .inl ⟨by dsimp only; rw [upI_i (by omega), upI_i (by omega), upI_i (by omega), upI_s], fun u hu => absurd hu (none0 u)⟩, by dsimp only; rw [upI_i (by omega), upI_s], by dsimp only; rw [upI_s], by dsimp only; rw [upI_i (by omega), upI_i (by omega), upI_s]⟩
    rw [apV1_eq y4]
    exact ⟨M', xX11_apart_0 hS ⟨fun a => absurd ⟨g1, g2, g3⟩ a, fun _ => ⟨fun a => by omega, fun _ => ⟨fun _ => ⟨_, xX4_clear_0 ⟨rfl, rfl⟩, y1⟩, fun a => by omega⟩⟩⟩, y2, y3⟩
  · rw [apV1_eq (v := -1) ⟨fun n => absurd n g, fun _ => rfl⟩]
    exact ⟨M, xX11_apart_0 hS ⟨fun _ => ⟨rfl, rfl⟩, fun g1 => ⟨fun _ => ⟨rfl, rfl⟩, fun g2 => ⟨fun g3 => absurd ⟨g1.1, g1.2.1, g1.2.2, by omega⟩ g, fun _ => ⟨rfl, rfl⟩⟩⟩⟩, hR, frB.rf⟩
end PC
