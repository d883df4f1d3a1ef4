/-! WHAT IS SO behind the first n changes; Q: the rows of a state by family and place -/
abbrev QT : Type := Nat → Nat → Int
def nPp (Q : QT) : Nat := (Q 48 0).toNat
def nCh (Q : QT) : Nat := (Q 48 2).toNat
def srt (Q : QT) (i : Nat) : Nat := srtF (Q 56) (nCh Q) i
def mkF (Q : QT) : Nat → Nat → Nat → Bool
  | 0, _, _ => false
  | n + 1, p, m => if Q 57 (srt Q n) = 0 ∧ Q 58 (srt Q n) = p ∧ Q 59 (srt Q n) = m then decide (Q 61 (srt Q n) = 1) else mkF Q n p m
def tiF (Q : QT) : Nat → Nat → Nat → Nat → Bool
  | 0, _, _, _ => false
  | n + 1, p, t, q => if Q 57 (srt Q n) = 1 ∧ Q 58 (srt Q n) = p ∧ Q 59 (srt Q n) = t ∧ Q 60 (srt Q n) = q then decide (Q 61 (srt Q n) = 1) else tiF Q n p t q
def plF (Q : QT) : Nat → Nat → Int
  | 0, p => Q 49 p
  | n + 1, p => if (¬ Q 57 (srt Q n) = 0 ∧ ¬ Q 57 (srt Q n) = 1) ∧ Q 58 (srt Q n) = p then Q 59 (srt Q n) else plF Q n p
/-- how many changes hold on a day -/
def dn (Q : QT) (d : Int) : Nat := dnF (fun i => Q 56 (srt Q i)) d (nCh Q)
/-- ranges of changes -/
def WFc (Q : QT) : Prop := (0 ≤ Q 48 0 ∧ Q 48 0 ≤ 12) ∧ (0 ≤ Q 48 2 ∧ Q 48 2 ≤ 60) ∧ (∀ p, p < 12 → 0 ≤ Q 49 p ∧ Q 49 p < 8) ∧
  ∀ j, j < nCh Q → (0 ≤ Q 56 j ∧ Q 56 j ≤ 999) ∧ (0 ≤ Q 57 j ∧ Q 57 j ≤ 2) ∧ (0 ≤ Q 58 j ∧ Q 58 j < Q 48 0) ∧ 0 ≤ Q 59 j ∧ (Q 57 j = 0 → Q 59 j < 10) ∧ (Q 57 j = 1 → Q 59 j < 6 ∧ 0 ≤ Q 60 j ∧ Q 60 j < Q 48 0) ∧ (Q 57 j = 2 → Q 59 j < 8) ∧ (Q 61 j = 0 ∨ Q 61 j = 1)
theorem srt_lt {Q : QT} {i : Nat} (h : i < nCh Q) : srt Q i < nCh Q := srtF_lt _ _ i h
theorem nCh_le {Q : QT} (h : WFc Q) : nCh Q ≤ 60 := by have := h.2.1; unfold nCh; omega
theorem nCh_eq {Q : QT} (h : WFc Q) : Q 48 2 = (nCh Q : Int) := by have := h.2.1; unfold nCh; omega
theorem nPp_eq {Q : QT} (h : WFc Q) : Q 48 0 = (nPp Q : Int) := by have := h.1; unfold nPp; omega
theorem nPp_le {Q : QT} (h : WFc Q) : nPp Q ≤ 12 := by have := h.1; unfold nPp; omega
theorem plF_in {Q : QT} (h : WFc Q) : ∀ n p, n ≤ nCh Q → p < 12 → 0 ≤ plF Q n p ∧ plF Q n p < 8 := by
  intro n
  induction n with
  | zero => intro p _ hp; exact h.2.2.1 p hp
  | succ n ih =>
    intro p hn hp
    unfold plF
    split
    · rename_i c
      have := h.2.2.2 (srt Q n) (srt_lt (by omega))
      exact ⟨this.2.2.2.1, this.2.2.2.2.2.2.1 (by omega)⟩
    · exact ih p (by omega) hp
/-- nobody beyond the people has a mark or a tie, or is tied to -/
theorem mkF_out {Q : QT} (h : WFc Q) : ∀ n p m, n ≤ nCh Q → (nPp Q ≤ p ∨ 10 ≤ m) → mkF Q n p m = false := by
  intro n
  induction n with
  | zero => intros; rfl
  | succ n ih =>
    intro p m hn hp
    unfold mkF
    have h1 := h.2.2.2 (srt Q n) (srt_lt (by omega))
    have h2 := nPp_eq h
    rw [if_neg (by rintro ⟨a, b, c⟩; have := h1.2.2.2.2.1 a; omega)]
    exact ih p m (by omega) hp
theorem tiF_out {Q : QT} (h : WFc Q) : ∀ n p t q, n ≤ nCh Q → (nPp Q ≤ p ∨ 6 ≤ t ∨ nPp Q ≤ q) → tiF Q n p t q = false := by
  intro n
  induction n with
  | zero => intros; rfl
  | succ n ih =>
    intro p t q hn hp
    unfold tiF
    have h1 := h.2.2.2 (srt Q n) (srt_lt (by omega))
    have h2 := nPp_eq h
    rw [if_neg (by rintro ⟨a, b, c, e⟩; have := h1.2.2.2.2.2.1 a; omega)]
    exact ih p t q (by omega) hp
/-- a bit set or taken away -/
def wbit (is x k : Int) : Int := if is = 1 then aOr x (aShl 1 k) else aAnd x (aXor (aShl 1 k) (-1))
theorem wbit_bI {n k : Nat} {p : Nat → Bool} {is : Int} (hn : n ≤ 31) (hk : k < n) : wbit is (bI n p) k = bI n (fun i => if i = k then decide (is = 1) else p i) := by
  unfold wbit
  by_cases h : is = 1
  · rw [if_pos h]
    refine bI_of hn (aOr_in _ _) fun i hi => ?_
    rw [tb_or, tb_bI hn, tb_one_shl (by omega) (by omega)]
    by_cases e : i = k
    · subst e; simp [h, hk]
    · simp [e, show ¬ ((i : Int) = k) by omega]
  · rw [if_neg h]
    refine bI_of hn (aAnd_in _ _) fun i hi => ?_
    rw [tb_and, tb_bI hn, tb_not _ hi, tb_one_shl (by omega) (by omega)]
    by_cases e : i = k
    · subst e; simp [h, hk]
    · simp [e, show ¬ ((i : Int) = k) by omega]
/-! the reference's rows -/
set_option maxRecDepth 4000 in
theorem xX12_makes_0 {l : Launch} {G : Gt} {d : Nat} {M M' : Mem} {r : Option Vl} {x1 : Int} {x2 : Int} (hS : Sh M.2.1) (h : 
    (InR (12 * x1) ∧ (0 ≤ x2 ∧ x2 < 60) ∧ InR ((12 * x1) + (M.1 58 0 x2.toNat))) ∧ ((¬ ((M.1 57 0 x2.toNat) = 0) → ((0 ≤ x2 ∧ x2 < 60)) ∧ ((¬ ((M.1 57 0 x2.toNat) = 1) → ((0 ≤ x2 ∧ x2 < 60) ∧ (0 ≤ ((12 * x1) + (M.1 58 0 x2.toNat)) ∧ ((12 * x1) + (M.1 58 0 x2.toNat)) < 24)) ∧ r = none ∧ M' = ((upI M.1 73 0 ((12 * x1) + (M.1 58 0 x2.toNat)).toNat (M.1 59 0 x2.toNat)), M.2.1, M.2.2)) ∧ ((M.1 57 0 x2.toNat) = 1 → (InR (6 * ((12 * x1) + (M.1 58 0 x2.toNat))) ∧ (0 ≤ x2 ∧ x2 < 60) ∧ InR ((6 * ((12 * x1) + (M.1 58 0 x2.toNat))) + (M.1 59 0 x2.toNat)) ∧ (0 ≤ ((6 * ((12 * x1) + (M.1 58 0 x2.toNat))) + (M.1 59 0 x2.toNat)) ∧ ((6 * ((12 * x1) + (M.1 58 0 x2.toNat))) + (M.1 59 0 x2.toNat)) < 144) ∧ (0 ≤ (M.1 60 0 x2.toNat) ∧ (M.1 60 0 x2.toNat) < 32)) ∧ r = none ∧ M' = ((upI M.1 72 0 ((6 * ((12 * x1) + (M.1 58 0 x2.toNat))) + (M.1 59 0 x2.toNat)).toNat (if (M.1 61 0 x2.toNat) = 1 then aOr (M.1 72 0 ((6 * ((12 * x1) + (M.1 58 0 x2.toNat))) + (M.1 59 0 x2.toNat)).toNat) (aShl 1 (M.1 60 0 x2.toNat)) else aAnd (M.1 72 0 ((6 * ((12 * x1) + (M.1 58 0 x2.toNat))) + (M.1 59 0 x2.toNat)).toNat) (aXor (aShl 1 (M.1 60 0 x2.toNat)) (-1)) : Int)), M.2.1, M.2.2)))) ∧ ((M.1 57 0 x2.toNat) = 0 → ((0 ≤ ((12 * x1) + (M.1 58 0 x2.toNat)) ∧ ((12 * x1) + (M.1 58 0 x2.toNat)) < 24) ∧ (0 ≤ x2 ∧ x2 < 60) ∧ (0 ≤ (M.1 59 0 x2.toNat) ∧ (M.1 59 0 x2.toNat) < 32)) ∧ r = none ∧ M' = ((upI M.1 71 0 ((12 * x1) + (M.1 58 0 x2.toNat)).toNat (if (M.1 61 0 x2.toNat) = 1 then aOr (M.1 71 0 ((12 * x1) + (M.1 58 0 x2.toNat)).toNat) (aShl 1 (M.1 59 0 x2.toNat)) else aAnd (M.1 71 0 ((12 * x1) + (M.1 58 0 x2.toNat)).toNat) (aXor (aShl 1 (M.1 59 0 x2.toNat)) (-1)) : Int)), M.2.1, M.2.2)))) : Cl l G (d + 1) mX12_makes [vR (some (3, 0)), vI x1, vI x2] M r M' := by
  show Ex l G (d + 1) mX12_makes 0 [some (vR (some (3, 0))), some (vI x1), some (vI x2), none] [] M r M'
  obtain ⟨⟨o_1, o_2, o_3⟩, h⟩ := h
  refine r_bipush 2 dX12_makes_0 rfl rfl ?_
  refine r_iload_n 3 dX12_makes_2 rfl rfl ?_
  refine r_imul 4 dX12_makes_3 rfl o_1 ?_
  refine r_aload_n 5 dX12_makes_4 rfl rfl ?_
  refine g_R 8 dX12_makes_5 rfl rfl rfl fr_12_40 (sh_12_11 hS) ?_
  refine r_iload_n 9 dX12_makes_8 rfl rfl ?_
  refine a_I 60 10 dX12_makes_9 rfl rfl rfl rfl o_2 rfl ?_
  refine r_iadd 11 dX12_makes_10 rfl o_3 ?_
  refine r_istore_n (ls' := [some (vR (some (3, 0))), some (vI x1), some (vI x2), some (vI ((12 * x1) + (M.1 58 0 x2.toNat)))]) 12 dX12_makes_11 rfl rfl rfl rfl ?_
  refine r_aload_n 13 dX12_makes_12 rfl rfl ?_
  refine g_R 16 dX12_makes_13 rfl rfl rfl fr_12_37 (sh_12_10 hS) ?_
  refine r_iload_n 17 dX12_makes_16 rfl rfl ?_
  refine a_I 60 18 dX12_makes_17 rfl rfl rfl rfl o_2 rfl ?_
  refine r_if_ne 21 51 dX12_makes_18 rfl rfl (fun c => ?_) (fun c => ?_)
  · have h := h.1 (c)
    obtain ⟨o_4, h⟩ := h
    refine r_aload_n 52 dX12_makes_51 rfl rfl ?_
    refine g_R 55 dX12_makes_52 rfl rfl rfl fr_12_37 (sh_12_10 hS) ?_
    refine r_iload_n 56 dX12_makes_55 rfl rfl ?_
    refine a_I 60 57 dX12_makes_56 rfl rfl rfl rfl o_4 rfl ?_
    refine r_iconst 58 dX12_makes_57 rfl (InR_of rfl) ?_
    refine r_icmp_ne 61 111 dX12_makes_58 rfl rfl (fun c => ?_) (fun c => ?_)
    · have h := h.1 (c)
      obtain ⟨⟨o_5, o_6⟩, h⟩ := h
      refine r_aload_n 112 dX12_makes_111 rfl rfl ?_
      refine g_R 115 dX12_makes_112 rfl rfl rfl fr_12_85 (sh_12_26 hS) ?_
      refine r_iload_n 116 dX12_makes_115 rfl rfl ?_
      refine r_aload_n 117 dX12_makes_116 rfl rfl ?_
      refine g_R 120 dX12_makes_117 rfl rfl rfl fr_12_43 (sh_12_12 hS) ?_
      refine r_iload_n 121 dX12_makes_120 rfl rfl ?_
      refine a_I 60 122 dX12_makes_121 rfl rfl rfl rfl o_5 rfl ?_
      refine s_I 24 123 dX12_makes_122 rfl rfl (by decide) rfl rfl o_6 ?_
      exact r_vret dX12_makes_123 rfl h.1 h.2
    · have h := h.2 (Decidable.not_not.mp c)
      obtain ⟨⟨o_7, o_8, o_9, o_10, o_11⟩, h⟩ := h
      refine r_aload_n 62 dX12_makes_61 rfl rfl ?_
      refine g_R 65 dX12_makes_62 rfl rfl rfl fr_12_82 (sh_12_25 hS) ?_
      refine r_bipush 67 dX12_makes_65 rfl rfl ?_
      refine r_iload_n 68 dX12_makes_67 rfl rfl ?_
      refine r_imul 69 dX12_makes_68 rfl o_7 ?_
      refine r_aload_n 70 dX12_makes_69 rfl rfl ?_
      refine g_R 73 dX12_makes_70 rfl rfl rfl fr_12_43 (sh_12_12 hS) ?_
      refine r_iload_n 74 dX12_makes_73 rfl rfl ?_
      refine a_I 60 75 dX12_makes_74 rfl rfl rfl rfl o_8 rfl ?_
      refine r_iadd 76 dX12_makes_75 rfl o_9 ?_
      refine r_aload_n 77 dX12_makes_76 rfl rfl ?_
      refine g_R 80 dX12_makes_77 rfl rfl rfl fr_12_82 (sh_12_25 hS) ?_
      refine r_bipush 82 dX12_makes_80 rfl rfl ?_
      refine r_iload_n 83 dX12_makes_82 rfl rfl ?_
      refine r_imul 84 dX12_makes_83 rfl o_7 ?_
      refine r_aload_n 85 dX12_makes_84 rfl rfl ?_
      refine g_R 88 dX12_makes_85 rfl rfl rfl fr_12_43 (sh_12_12 hS) ?_
      refine r_iload_n 89 dX12_makes_88 rfl rfl ?_
      refine a_I 60 90 dX12_makes_89 rfl rfl rfl rfl o_8 rfl ?_
      refine r_iadd 91 dX12_makes_90 rfl o_9 ?_
      refine a_I 144 92 dX12_makes_91 rfl rfl rfl rfl o_10 rfl ?_
      refine r_aload_n 93 dX12_makes_92 rfl rfl ?_
      refine g_R 96 dX12_makes_93 rfl rfl rfl fr_12_46 (sh_12_13 hS) ?_
      refine r_iload_n 97 dX12_makes_96 rfl rfl ?_
      refine a_I 60 98 dX12_makes_97 rfl rfl rfl rfl o_8 rfl ?_
      refine r_aload_n 99 dX12_makes_98 rfl rfl ?_
      refine g_R 102 dX12_makes_99 rfl rfl rfl fr_12_49 (sh_12_14 hS) ?_
      refine r_iload_n 103 dX12_makes_102 rfl rfl ?_
      refine a_I 60 104 dX12_makes_103 rfl rfl rfl rfl o_8 rfl ?_
      refine c_1 [vI (M.1 72 0 ((6 * ((12 * x1) + (M.1 58 0 x2.toNat))) + (M.1 59 0 x2.toNat)).toNat), vI (M.1 60 0 x2.toNat), vI (M.1 61 0 x2.toNat)] [vI ((6 * ((12 * x1) + (M.1 58 0 x2.toNat))) + (M.1 59 0 x2.toNat)), vR (some (72, 0))] 107 dX12_makes_104 rfl rfl mo_X12_with ml_12_187 rfl rfl (KX12_with o_11) ?_
      refine s_I 144 108 dX12_makes_107 rfl rfl (by decide) rfl rfl o_10 ?_
      refine r_goto 123 dX12_makes_108 rfl ?_
      exact r_vret dX12_makes_123 rfl h.1 h.2
  · have h := h.2 (Decidable.not_not.mp c)
    obtain ⟨⟨o_12, o_13, o_14⟩, h⟩ := h
    refine r_aload_n 22 dX12_makes_21 rfl rfl ?_
    refine g_R 25 dX12_makes_22 rfl rfl rfl fr_12_79 (sh_12_24 hS) ?_
    refine r_iload_n 26 dX12_makes_25 rfl rfl ?_
    refine r_aload_n 27 dX12_makes_26 rfl rfl ?_
    refine g_R 30 dX12_makes_27 rfl rfl rfl fr_12_79 (sh_12_24 hS) ?_
    refine r_iload_n 31 dX12_makes_30 rfl rfl ?_
    refine a_I 24 32 dX12_makes_31 rfl rfl rfl rfl o_12 rfl ?_
    refine r_aload_n 33 dX12_makes_32 rfl rfl ?_
    refine g_R 36 dX12_makes_33 rfl rfl rfl fr_12_43 (sh_12_12 hS) ?_
    refine r_iload_n 37 dX12_makes_36 rfl rfl ?_
    refine a_I 60 38 dX12_makes_37 rfl rfl rfl rfl o_13 rfl ?_
    refine r_aload_n 39 dX12_makes_38 rfl rfl ?_
    refine g_R 42 dX12_makes_39 rfl rfl rfl fr_12_49 (sh_12_14 hS) ?_
    refine r_iload_n 43 dX12_makes_42 rfl rfl ?_
    refine a_I 60 44 dX12_makes_43 rfl rfl rfl rfl o_13 rfl ?_
    refine c_1 [vI (M.1 71 0 ((12 * x1) + (M.1 58 0 x2.toNat)).toNat), vI (M.1 59 0 x2.toNat), vI (M.1 61 0 x2.toNat)] [vI ((12 * x1) + (M.1 58 0 x2.toNat)), vR (some (71, 0))] 47 dX12_makes_44 rfl rfl mo_X12_with ml_12_187 rfl rfl (KX12_with o_14) ?_
    refine s_I 24 48 dX12_makes_47 rfl rfl (by decide) rfl rfl o_12 ?_
    refine r_goto 123 dX12_makes_48 rfl ?_
    exact r_vret dX12_makes_123 rfl h.1 h.2

set_option maxRecDepth 4000 in
theorem xX12_lays_0 {l : Launch} {G : Gt} {d : Nat} {M M' : Mem} {r : Option Vl} {x1 : Int} {x2 : Int} (h : 
    Ex l G (d + 1) mX12_lays 2 [some (vR (some (3, 0))), some (vI x1), some (vI x2), some (vI 0), none] [] M r M') : Cl l G (d + 1) mX12_lays [vR (some (3, 0)), vI x1, vI x2] M r M' := by
  show Ex l G (d + 1) mX12_lays 0 [some (vR (some (3, 0))), some (vI x1), some (vI x2), none, none] [] M r M'
  refine r_iconst 1 dX12_lays_0 rfl (InR_of rfl) ?_
  refine r_istore_n (ls' := [some (vR (some (3, 0))), some (vI x1), some (vI x2), some (vI 0), none]) 2 dX12_lays_1 rfl rfl rfl rfl ?_
  exact h
set_option maxRecDepth 4000 in
theorem xX12_lays_2 {l : Launch} {G : Gt} {d : Nat} {M M' : Mem} {r : Option Vl} {x1 : Int} {x2 : Int} {x3 : Int} (hS : Sh M.2.1) (h : 
    (12 ≤ x3 → Ex l G (d + 1) mX12_lays 79 [some (vR (some (3, 0))), some (vI x1), some (vI x2), some (vI 0), none] [] M r M') ∧ (¬ (12 ≤ x3) → (InR (12 * x1) ∧ InR ((12 * x1) + x3) ∧ (0 ≤ ((12 * x1) + x3) ∧ ((12 * x1) + x3) < 24) ∧ (0 ≤ x3 ∧ x3 < 12)) ∧ Ex l G (d + 1) mX12_lays 40 [some (vR (some (3, 0))), some (vI x1), some (vI x2), some (vI x3), some (vI 0)] [] ((upI (upI M.1 71 0 ((12 * x1) + x3).toNat 0) 73 0 ((12 * x1) + x3).toNat (M.1 49 0 x3.toNat)), M.2.1, M.2.2) r M')) : Ex l G (d + 1) mX12_lays 2 [some (vR (some (3, 0))), some (vI x1), some (vI x2), some (vI x3), none] [] M r M' := by
  refine r_iload_n 3 dX12_lays_2 rfl rfl ?_
  refine r_bipush 5 dX12_lays_3 rfl rfl ?_
  refine r_icmp_ge 8 77 dX12_lays_5 rfl rfl (fun c => ?_) (fun c => ?_)
  · have h := h.1 (c)
    refine r_iconst 78 dX12_lays_77 rfl (InR_of rfl) ?_
    refine r_istore_n (ls' := [some (vR (some (3, 0))), some (vI x1), some (vI x2), some (vI 0), none]) 79 dX12_lays_78 rfl rfl rfl rfl ?_
    exact h
  · have h := h.2 (c)
    obtain ⟨⟨o_1, o_2, o_3, o_4⟩, h⟩ := h
    refine r_aload_n 9 dX12_lays_8 rfl rfl ?_
    refine g_R 12 dX12_lays_9 rfl rfl rfl fr_12_79 (sh_12_24 hS) ?_
    refine r_bipush 14 dX12_lays_12 rfl rfl ?_
    refine r_iload_n 15 dX12_lays_14 rfl rfl ?_
    refine r_imul 16 dX12_lays_15 rfl o_1 ?_
    refine r_iload_n 17 dX12_lays_16 rfl rfl ?_
    refine r_iadd 18 dX12_lays_17 rfl o_2 ?_
    refine r_iconst 19 dX12_lays_18 rfl (InR_of rfl) ?_
    refine s_I 24 20 dX12_lays_19 rfl rfl (by decide) rfl rfl o_3 ?_
    refine r_aload_n 21 dX12_lays_20 rfl rfl ?_
    refine g_R 24 dX12_lays_21 rfl rfl rfl fr_12_85 (mR_0 (sh_12_26 hS)) ?_
    refine r_bipush 26 dX12_lays_24 rfl rfl ?_
    refine r_iload_n 27 dX12_lays_26 rfl rfl ?_
    refine r_imul 28 dX12_lays_27 rfl o_1 ?_
    refine r_iload_n 29 dX12_lays_28 rfl rfl ?_
    refine r_iadd 30 dX12_lays_29 rfl o_2 ?_
    refine r_aload_n 31 dX12_lays_30 rfl rfl ?_
    refine g_R 34 dX12_lays_31 rfl rfl rfl fr_12_13 (mR_0 (sh_12_2 hS)) ?_
    refine r_iload_n 35 dX12_lays_34 rfl rfl ?_
    refine a_I 12 36 dX12_lays_35 rfl rfl rfl rfl o_4 (mI_0 (upI_f rfl)) ?_
    refine s_I 24 37 dX12_lays_36 rfl rfl (by decide) rfl rfl o_3 ?_
    refine r_iconst 38 dX12_lays_37 rfl (InR_of rfl) ?_
    refine r_istore (ls' := [some (vR (some (3, 0))), some (vI x1), some (vI x2), some (vI x3), some (vI 0)]) 40 dX12_lays_38 rfl rfl rfl rfl ?_
    exact h
set_option maxRecDepth 4000 in
theorem xX12_lays_40 {l : Launch} {G : Gt} {d : Nat} {M M' : Mem} {r : Option Vl} {x1 : Int} {x2 : Int} {x3 : Int} {x4 : Int} (hS : Sh M.2.1) (h : 
    (6 ≤ x4 → (InR (x3 + 1)) ∧ Ex l G (d + 1) mX12_lays 2 [some (vR (some (3, 0))), some (vI x1), some (vI x2), some (vI (x3 + 1)), none] [] M r M') ∧ (¬ (6 ≤ x4) → (InR (12 * x1) ∧ InR ((12 * x1) + x3) ∧ InR (6 * ((12 * x1) + x3)) ∧ InR ((6 * ((12 * x1) + x3)) + x4) ∧ (0 ≤ ((6 * ((12 * x1) + x3)) + x4) ∧ ((6 * ((12 * x1) + x3)) + x4) < 144) ∧ InR (x4 + 1)) ∧ Ex l G (d + 1) mX12_lays 40 [some (vR (some (3, 0))), some (vI x1), some (vI x2), some (vI x3), some (vI (x4 + 1))] [] ((upI M.1 72 0 ((6 * ((12 * x1) + x3)) + x4).toNat 0), M.2.1, M.2.2) r M')) : Ex l G (d + 1) mX12_lays 40 [some (vR (some (3, 0))), some (vI x1), some (vI x2), some (vI x3), some (vI x4)] [] M r M' := by
  refine r_iload 42 dX12_lays_40 rfl rfl ?_
  refine r_bipush 44 dX12_lays_42 rfl rfl ?_
  refine r_icmp_ge 47 71 dX12_lays_44 rfl rfl (fun c => ?_) (fun c => ?_)
  · have h := h.1 (c)
    obtain ⟨o_1, h⟩ := h
    refine r_iinc (ls' := [some (vR (some (3, 0))), some (vI x1), some (vI x2), some (vI (x3 + 1)), some (vI x4)]) 74 dX12_lays_71 rfl rfl rfl rfl o_1 rfl ?_
    refine r_goto 2 dX12_lays_74 rfl ?_
    exact Ex.weak h ⟨rfl, rfl, rfl, rfl, trivial⟩
  · have h := h.2 (c)
    obtain ⟨⟨o_2, o_3, o_4, o_5, o_6, o_7⟩, h⟩ := h
    refine r_aload_n 48 dX12_lays_47 rfl rfl ?_
    refine g_R 51 dX12_lays_48 rfl rfl rfl fr_12_82 (sh_12_25 hS) ?_
    refine r_bipush 53 dX12_lays_51 rfl rfl ?_
    refine r_bipush 55 dX12_lays_53 rfl rfl ?_
    refine r_iload_n 56 dX12_lays_55 rfl rfl ?_
    refine r_imul 57 dX12_lays_56 rfl o_2 ?_
    refine r_iload_n 58 dX12_lays_57 rfl rfl ?_
    refine r_iadd 59 dX12_lays_58 rfl o_3 ?_
    refine r_imul 60 dX12_lays_59 rfl o_4 ?_
    refine r_iload 62 dX12_lays_60 rfl rfl ?_
    refine r_iadd 63 dX12_lays_62 rfl o_5 ?_
    refine r_iconst 64 dX12_lays_63 rfl (InR_of rfl) ?_
    refine s_I 144 65 dX12_lays_64 rfl rfl (by decide) rfl rfl o_6 ?_
    refine r_iinc (ls' := [some (vR (some (3, 0))), some (vI x1), some (vI x2), some (vI x3), some (vI (x4 + 1))]) 68 dX12_lays_65 rfl rfl rfl rfl o_7 rfl ?_
    refine r_goto 40 dX12_lays_68 rfl ?_
    exact h
set_option maxRecDepth 4000 in
theorem xX12_lays_79 {l : Launch} {G : Gt} {d : Nat} {M M' : Mem} {r : Option Vl} {x1 : Int} {x2 : Int} {x3 : Int} (hS : Sh M.2.1) (h : 
    ((M.1 48 0 2) ≤ x3 → r = none ∧ M' = M) ∧ (¬ ((M.1 48 0 2) ≤ x3) → ((0 ≤ x3 ∧ x3 < 60) ∧ (0 ≤ (M.1 74 0 x3.toNat) ∧ (M.1 74 0 x3.toNat) < 60)) ∧ ((x2 < (M.1 56 0 (M.1 74 0 x3.toNat).toNat) → r = none ∧ M' = M) ∧ (¬ (x2 < (M.1 56 0 (M.1 74 0 x3.toNat).toNat)) → ((0 ≤ x3 ∧ x3 < 60)) ∧ (∃ (M_4 : Mem), Cl l G d mX12_makes [vR (some (3, 0)), vI x1, vI (M.1 74 0 x3.toNat)] M none M_4 ∧ (InR (x3 + 1)) ∧ Ex l G (d + 1) mX12_lays 79 [some (vR (some (3, 0))), some (vI x1), some (vI x2), some (vI (x3 + 1)), none] [] M_4 r M'))))) : Ex l G (d + 1) mX12_lays 79 [some (vR (some (3, 0))), some (vI x1), some (vI x2), some (vI x3), none] [] M r M' := by
  refine r_iload_n 80 dX12_lays_79 rfl rfl ?_
  refine r_aload_n 81 dX12_lays_80 rfl rfl ?_
  refine g_R 84 dX12_lays_81 rfl rfl rfl fr_12_7 (sh_12_1 hS) ?_
  refine r_iconst 85 dX12_lays_84 rfl (InR_of rfl) ?_
  refine a_I 6 86 dX12_lays_85 rfl rfl rfl rfl ⟨by decide, by decide⟩ rfl ?_
  refine r_icmp_ge 89 121 dX12_lays_86 rfl rfl (fun c => ?_) (fun c => ?_)
  · have h := h.1 (c)
    exact r_vret dX12_lays_121 rfl h.1 h.2
  · have h := h.2 (c)
    obtain ⟨⟨o_1, o_2⟩, h⟩ := h
    refine r_aload_n 90 dX12_lays_89 rfl rfl ?_
    refine g_R 93 dX12_lays_90 rfl rfl rfl fr_12_34 (sh_12_9 hS) ?_
    refine r_aload_n 94 dX12_lays_93 rfl rfl ?_
    refine g_R 97 dX12_lays_94 rfl rfl rfl fr_12_88 (sh_12_27 hS) ?_
    refine r_iload_n 98 dX12_lays_97 rfl rfl ?_
    refine a_I 60 99 dX12_lays_98 rfl rfl rfl rfl o_1 rfl ?_
    refine a_I 60 100 dX12_lays_99 rfl rfl rfl rfl o_2 rfl ?_
    refine r_iload_n 101 dX12_lays_100 rfl rfl ?_
    refine r_icmp_gt 104 121 dX12_lays_101 rfl rfl (fun c => ?_) (fun c => ?_)
    · have h := h.1 (c)
      exact r_vret dX12_lays_121 rfl h.1 h.2
    · have h := h.2 (c)
      obtain ⟨o_3, h⟩ := h
      refine r_aload_n 105 dX12_lays_104 rfl rfl ?_
      refine r_iload_n 106 dX12_lays_105 rfl rfl ?_
      refine r_aload_n 107 dX12_lays_106 rfl rfl ?_
      refine g_R 110 dX12_lays_107 rfl rfl rfl fr_12_88 (sh_12_27 hS) ?_
      refine r_iload_n 111 dX12_lays_110 rfl rfl ?_
      refine a_I 60 112 dX12_lays_111 rfl rfl rfl rfl o_3 rfl ?_
      obtain ⟨M_4, hc_5, h⟩ := h
      refine v_0 (ci := 12) (C := (RX12, TX12, 68)) [vI x1, vI (M.1 74 0 x3.toNat)] [] 115 dX12_lays_112 rfl rfl rfl rfl rfl mo_X12_makes ml_12_191 rfl rfl hc_5 ?_
      obtain ⟨o_6, h⟩ := h
      refine r_iinc (ls' := [some (vR (some (3, 0))), some (vI x1), some (vI x2), some (vI (x3 + 1)), none]) 118 dX12_lays_115 rfl rfl rfl rfl o_6 rfl ?_
      refine r_goto 79 dX12_lays_118 rfl ?_
      exact h

/-- row 0 or 1 holds what is so behind n changes -/
def Laid (Q : QT) (I : IM) (row n : Nat) : Prop := (∀ p, p < 12 → I 71 0 (12 * row + p) = bI 10 (fun m => mkF Q n p m)) ∧ (∀ p t, p < 12 → t < 6 → I 72 0 (6 * (12 * row + p) + t) = bI 12 (fun q => tiF Q n p t q)) ∧ (∀ p, p < 12 → I 73 0 (12 * row + p) = plF Q n p)
/-- the state's rows are those of Q -/
def HoldsC (Q : QT) (I : IM) : Prop := (∀ f i, (f = 48 ∨ f = 49 ∨ f = 56 ∨ f = 57 ∨ f = 58 ∨ f = 59 ∨ f = 60 ∨ f = 61) → I f 0 i = Q f i) ∧ ∀ i, i < nCh Q → I 74 0 i = (srt Q i : Int)
