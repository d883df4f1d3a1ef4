/-! the reference sorts its changes -/
set_option maxRecDepth 4000 in
theorem xX12_sorts_0 {l : Launch} {G : Gt} {d : Nat} {M M' : Mem} {r : Option Vl}  (h : 
    Ex l G d mX12_sorts 2 [some (vR (some (3, 0))), some (vI 0), none] [] M r M') : Cl l G d mX12_sorts [vR (some (3, 0))] M r M' := by
  show Ex l G d mX12_sorts 0 [some (vR (some (3, 0))), none, none] [] M r M'
  refine r_iconst 1 dX12_sorts_0 rfl (InR_of rfl) ?_
  refine r_istore_n (ls' := [some (vR (some (3, 0))), some (vI 0), none]) 2 dX12_sorts_1 rfl rfl rfl rfl ?_
  exact h
set_option maxRecDepth 4000 in
theorem xX12_sorts_2 {l : Launch} {G : Gt} {d : Nat} {M M' : Mem} {r : Option Vl} {x1 : Int} (hS : Sh M.2.1) (h : 
    ((M.1 48 0 2) ≤ x1 → r = none ∧ M' = M) ∧ (¬ ((M.1 48 0 2) ≤ x1) → Ex l G d mX12_sorts 14 [some (vR (some (3, 0))), some (vI x1), some (vI x1)] [] M r M')) : Ex l G d mX12_sorts 2 [some (vR (some (3, 0))), some (vI x1), none] [] M r M' := by
  refine r_iload_n 3 dX12_sorts_2 rfl rfl ?_
  refine r_aload_n 4 dX12_sorts_3 rfl rfl ?_
  refine g_R 7 dX12_sorts_4 rfl rfl rfl fr_12_7 (sh_12_1 hS) ?_
  refine r_iconst 8 dX12_sorts_7 rfl (InR_of rfl) ?_
  refine a_I 6 9 dX12_sorts_8 rfl rfl rfl rfl ⟨by decide, by decide⟩ rfl ?_
  refine r_icmp_ge 12 73 dX12_sorts_9 rfl rfl (fun c => ?_) (fun c => ?_)
  · have h := h.1 (c)
    exact r_vret dX12_sorts_73 rfl h.1 h.2
  · have h := h.2 (c)
    refine r_iload_n 13 dX12_sorts_12 rfl rfl ?_
    refine r_istore_n (ls' := [some (vR (some (3, 0))), some (vI x1), some (vI x1)]) 14 dX12_sorts_13 rfl rfl rfl rfl ?_
    exact h
set_option maxRecDepth 4000 in
theorem xX12_sorts_14 {l : Launch} {G : Gt} {d : Nat} {M M' : Mem} {r : Option Vl} {x1 : Int} {x2 : Int} (hS : Sh M.2.1) (h : 
    (x2 ≤ 0 → ((0 ≤ x2 ∧ x2 < 60) ∧ InR (x1 + 1)) ∧ Ex l G d mX12_sorts 2 [some (vR (some (3, 0))), some (vI (x1 + 1)), none] [] ((upI M.1 74 0 x2.toNat x1), M.2.1, M.2.2) r M') ∧ (¬ (x2 ≤ 0) → (InR (x2 - 1) ∧ (0 ≤ (x2 - 1) ∧ (x2 - 1) < 60) ∧ (0 ≤ (M.1 74 0 (x2 - 1).toNat) ∧ (M.1 74 0 (x2 - 1).toNat) < 60) ∧ (0 ≤ x1 ∧ x1 < 60)) ∧ (((M.1 56 0 (M.1 74 0 (x2 - 1).toNat).toNat) ≤ (M.1 56 0 x1.toNat) → ((0 ≤ x2 ∧ x2 < 60) ∧ InR (x1 + 1)) ∧ Ex l G d mX12_sorts 2 [some (vR (some (3, 0))), some (vI (x1 + 1)), none] [] ((upI M.1 74 0 x2.toNat x1), M.2.1, M.2.2) r M') ∧ (¬ ((M.1 56 0 (M.1 74 0 (x2 - 1).toNat).toNat) ≤ (M.1 56 0 x1.toNat)) → (InR (x2 - 1) ∧ (0 ≤ (x2 - 1) ∧ (x2 - 1) < 60) ∧ (0 ≤ x2 ∧ x2 < 60) ∧ InR (x2 + (-1))) ∧ Ex l G d mX12_sorts 14 [some (vR (some (3, 0))), some (vI x1), some (vI (x2 + (-1)))] [] ((upI M.1 74 0 x2.toNat (M.1 74 0 (x2 - 1).toNat)), M.2.1, M.2.2) r M')))) : Ex l G d mX12_sorts 14 [some (vR (some (3, 0))), some (vI x1), some (vI x2)] [] M r M' := by
  refine r_iload_n 15 dX12_sorts_14 rfl rfl ?_
  refine r_if_le 18 60 dX12_sorts_15 rfl rfl (fun c => ?_) (fun c => ?_)
  · have h := h.1 (c)
    obtain ⟨⟨o_1, o_2⟩, h⟩ := h
    refine r_aload_n 61 dX12_sorts_60 rfl rfl ?_
    refine g_R 64 dX12_sorts_61 rfl rfl rfl fr_12_88 (sh_12_27 hS) ?_
    refine r_iload_n 65 dX12_sorts_64 rfl rfl ?_
    refine r_iload_n 66 dX12_sorts_65 rfl rfl ?_
    refine s_I 60 67 dX12_sorts_66 rfl rfl (by decide) rfl rfl o_1 ?_
    refine r_iinc (ls' := [some (vR (some (3, 0))), some (vI (x1 + 1)), some (vI x2)]) 70 dX12_sorts_67 rfl rfl rfl rfl o_2 rfl ?_
    refine r_goto 2 dX12_sorts_70 rfl ?_
    exact Ex.weak h ⟨rfl, rfl, trivial⟩
  · have h := h.2 (c)
    obtain ⟨⟨o_3, o_4, o_5, o_6⟩, h⟩ := h
    refine r_aload_n 19 dX12_sorts_18 rfl rfl ?_
    refine g_R 22 dX12_sorts_19 rfl rfl rfl fr_12_34 (sh_12_9 hS) ?_
    refine r_aload_n 23 dX12_sorts_22 rfl rfl ?_
    refine g_R 26 dX12_sorts_23 rfl rfl rfl fr_12_88 (sh_12_27 hS) ?_
    refine r_iload_n 27 dX12_sorts_26 rfl rfl ?_
    refine r_iconst 28 dX12_sorts_27 rfl (InR_of rfl) ?_
    refine r_isub 29 dX12_sorts_28 rfl o_3 ?_
    refine a_I 60 30 dX12_sorts_29 rfl rfl rfl rfl o_4 rfl ?_
    refine a_I 60 31 dX12_sorts_30 rfl rfl rfl rfl o_5 rfl ?_
    refine r_aload_n 32 dX12_sorts_31 rfl rfl ?_
    refine g_R 35 dX12_sorts_32 rfl rfl rfl fr_12_34 (sh_12_9 hS) ?_
    refine r_iload_n 36 dX12_sorts_35 rfl rfl ?_
    refine a_I 60 37 dX12_sorts_36 rfl rfl rfl rfl o_6 rfl ?_
    refine r_icmp_le 40 60 dX12_sorts_37 rfl rfl (fun c => ?_) (fun c => ?_)
    · have h := h.1 (c)
      obtain ⟨⟨o_7, o_8⟩, h⟩ := h
      refine r_aload_n 61 dX12_sorts_60 rfl rfl ?_
      refine g_R 64 dX12_sorts_61 rfl rfl rfl fr_12_88 (sh_12_27 hS) ?_
      refine r_iload_n 65 dX12_sorts_64 rfl rfl ?_
      refine r_iload_n 66 dX12_sorts_65 rfl rfl ?_
      refine s_I 60 67 dX12_sorts_66 rfl rfl (by decide) rfl rfl o_7 ?_
      refine r_iinc (ls' := [some (vR (some (3, 0))), some (vI (x1 + 1)), some (vI x2)]) 70 dX12_sorts_67 rfl rfl rfl rfl o_8 rfl ?_
      refine r_goto 2 dX12_sorts_70 rfl ?_
      exact Ex.weak h ⟨rfl, rfl, trivial⟩
    · have h := h.2 (c)
      obtain ⟨⟨o_9, o_10, o_11, o_12⟩, h⟩ := h
      refine r_aload_n 41 dX12_sorts_40 rfl rfl ?_
      refine g_R 44 dX12_sorts_41 rfl rfl rfl fr_12_88 (sh_12_27 hS) ?_
      refine r_iload_n 45 dX12_sorts_44 rfl rfl ?_
      refine r_aload_n 46 dX12_sorts_45 rfl rfl ?_
      refine g_R 49 dX12_sorts_46 rfl rfl rfl fr_12_88 (sh_12_27 hS) ?_
      refine r_iload_n 50 dX12_sorts_49 rfl rfl ?_
      refine r_iconst 51 dX12_sorts_50 rfl (InR_of rfl) ?_
      refine r_isub 52 dX12_sorts_51 rfl o_9 ?_
      refine a_I 60 53 dX12_sorts_52 rfl rfl rfl rfl o_10 rfl ?_
      refine s_I 60 54 dX12_sorts_53 rfl rfl (by decide) rfl rfl o_11 ?_
      refine r_iinc (ls' := [some (vR (some (3, 0))), some (vI x1), some (vI (x2 + (-1)))]) 57 dX12_sorts_54 rfl rfl rfl rfl o_12 rfl ?_
      refine r_goto 14 dX12_sorts_57 rfl ?_
      exact h

def rowS (D : Nat → Int) (b : Nat → Int) (k : Nat) : Nat → Int := fun i => if i < k then (srtF D k i : Int) else b i
def rowH (D : Nat → Int) (b : Nat → Int) (k a : Nat) : Nat → Int := fun i => if a < i ∧ i ≤ k then rowS D b k (i - 1) else rowS D b k i
section SO
variable {l : Launch} {G : Gt} {d : Nat} {M : Mem}
theorem sorts_in {n k : Nat} {r : Option Vl} {M' : Mem} (hS : Sh M.2.1) (hk : k < 60)
    (hx : Ex l G d mX12_sorts 2 [some (vR (some (3, 0))), some (vI ((k : Int) + 1)), none] [] (seI M.1 74 0 (rowS (M.1 56 0) (M.1 74 0) (k + 1)), M.2.1, M.2.2) r M') :
    Ex l G d mX12_sorts 14 [some (vR (some (3, 0))), some (vI (k : Int)), some (vI (k : Int))] [] (seI M.1 74 0 (rowS (M.1 56 0) (M.1 74 0) k), M.2.1, M.2.2) r M' := by
  have hp := insP_le (fun j => M.1 56 0 (srtF (M.1 56 0) k j)) k (M.1 56 0 k)
  have hg := insP_gt (fun j => M.1 56 0 (srtF (M.1 56 0) k j)) k (M.1 56 0 k)
  have hb := insP_before (fun j => M.1 56 0 (srtF (M.1 56 0) k j)) k (M.1 56 0 k)
  have hrow : rowS (M.1 56 0) (M.1 74 0) (k + 1) = fun i => if i < k + 1 then ((insF (srtF (M.1 56 0) k) (insP (fun j => M.1 56 0 (srtF (M.1 56 0) k j)) k (M.1 56 0 k)) k i : Nat) : Int) else M.1 74 0 i := rfl
  rw [hrow] at hx
  generalize hpe : insP (fun j => M.1 56 0 (srtF (M.1 56 0) k j)) k (M.1 56 0 k) = p at *
  have hrd : ∀ a, a ≤ k → 0 < a → seI M.1 74 0 (rowH (M.1 56 0) (M.1 74 0) k a) 74 0 (((a : Nat) : Int) - 1).toNat = (srtF (M.1 56 0) k (a - 1) : Int) := by
    intro a h1 h2
    rw [seI_fs, show (((a : Nat) : Int) - 1).toNat = a - 1 by omega]
    unfold rowH rowS
    rw [if_neg (by omega), if_pos (by omega)]
  have key : ∀ j, p + j ≤ k → Ex l G d mX12_sorts 14 [some (vR (some (3, 0))), some (vI (k : Int)), some (vI ((p + j : Nat) : Int))] [] (seI M.1 74 0 (rowH (M.1 56 0) (M.1 74 0) k (p + j)), M.2.1, M.2.2) r M' := by
    intro j
    induction j with
    | zero =>
      intro hj
      have e : upI (seI M.1 74 0 (rowH (M.1 56 0) (M.1 74 0) k (p + 0))) 74 0 ((p + 0 : Nat) : Int).toNat (k : Int) = seI M.1 74 0 (fun i => if i < k + 1 then ((insF (srtF (M.1 56 0) k) p k i : Nat) : Int) else M.1 74 0 i) := by
        rw [upI_seI]
        congr 1
        funext i
        simp only [Int.toNat_natCast, Nat.add_zero]
        unfold rowH rowS insF
        by_cases h1 : i = p
        · subst h1; simp [show i < k + 1 by omega]
        · by_cases h2 : i < p
          · simp [h1, show ¬ p < i by omega, show i < k by omega, show i < k + 1 by omega, h2]
          · by_cases h3 : i ≤ k
            · simp [h1, show p < i by omega, h3, show i - 1 < k by omega, show i < k + 1 by omega, h2]
            · simp [h1, h3, show ¬ i < k by omega, show ¬ i < k + 1 by omega]
      refine xX12_sorts_14 hS ⟨fun c => ⟨⟨by omega, by unfold InR; omega⟩, ?_⟩, fun c => ⟨⟨by unfold InR; omega, by omega, ?_, by omega⟩, fun _ => ⟨⟨by omega, by unfold InR; omega⟩, ?_⟩, fun c2 => absurd ?_ c2⟩⟩
      · dsimp only
        rw [e]; exact hx
      · dsimp only
        rw [hrd (p + 0) (by omega) (by omega)]
        have := srtF_lt (M.1 56 0) k (p + 0 - 1) (by omega)
        omega
      · dsimp only
        rw [e]; exact hx
      · dsimp only
        rw [hrd (p + 0) (by omega) (by omega), seI_f rfl, seI_f rfl]
        simpa using hb (by omega)
    | succ j ih =>
      intro hj
      have h1 := ih (by omega)
      have e : upI (seI M.1 74 0 (rowH (M.1 56 0) (M.1 74 0) k (p + (j + 1)))) 74 0 ((p + (j + 1) : Nat) : Int).toNat (srtF (M.1 56 0) k (p + (j + 1) - 1) : Int) = seI M.1 74 0 (rowH (M.1 56 0) (M.1 74 0) k (p + j)) := by
        rw [upI_seI]
        congr 1
        funext i
        simp only [Int.toNat_natCast]
        unfold rowH rowS
        by_cases h2 : i = p + (j + 1)
        · subst h2
          simp [show p + (j + 1) ≤ k by omega, show p + j < p + (j + 1) by omega, show p + (j + 1) - 1 < k by omega, show p + j < k by omega]
        · by_cases h3 : p + (j + 1) < i
          · simp [h2, h3, show p + j < i by omega]
          · simp [h2, h3, show ¬ p + j < i by omega]
      have hr := hrd (p + (j + 1)) hj (by omega)
      refine xX12_sorts_14 hS ⟨fun c => absurd c (by omega), fun c => ⟨⟨by unfold InR; omega, by omega, ?_, by omega⟩, fun c2 => absurd c2 ?_, fun _ => ⟨⟨by unfold InR; omega, by omega, by omega, by unfold InR; omega⟩, ?_⟩⟩⟩
      · dsimp only
        rw [hr]
        have := srtF_lt (M.1 56 0) k (p + (j + 1) - 1) (by omega)
        omega
      · dsimp only
        rw [hr, seI_f rfl, seI_f rfl]
        have := hg (p + (j + 1) - 1) (by omega) (by omega)
        simp only [Int.toNat_natCast]
        omega
      · dsimp only
        rw [hr, e, show (((p + (j + 1) : Nat) : Int) + (-1)) = ((p + j : Nat) : Int) by omega]
        exact h1
  have := key (k - p) (by omega)
  rw [show p + (k - p) = k by omega] at this
  have e : rowH (M.1 56 0) (M.1 74 0) k k = rowS (M.1 56 0) (M.1 74 0) k := by
    funext i
    unfold rowH
    rw [if_neg (by omega)]
  rw [e] at this
  exact this
theorem KX12_sorts (hS : Sh M.2.1) {n : Nat} (hn : M.1 48 0 2 = n) (h60 : n ≤ 60) : Cl l G d mX12_sorts [vR (some (3, 0))] M none (seI M.1 74 0 (rowS (M.1 56 0) (M.1 74 0) n), M.2.1, M.2.2) := by
  refine xX12_sorts_0 ?_
  have key : Ex l G d mX12_sorts 2 [some (vR (some (3, 0))), some (vI ((0 : Nat) : Int)), none] [] (seI M.1 74 0 (rowS (M.1 56 0) (M.1 74 0) 0), M.2.1, M.2.2) none (seI M.1 74 0 (rowS (M.1 56 0) (M.1 74 0) n), M.2.1, M.2.2) := by
    refine loopUp (P := fun k => Ex l G d mX12_sorts 2 [some (vR (some (3, 0))), some (vI ((k : Nat) : Int)), none] [] (seI M.1 74 0 (rowS (M.1 56 0) (M.1 74 0) k), M.2.1, M.2.2) none (seI M.1 74 0 (rowS (M.1 56 0) (M.1 74 0) n), M.2.1, M.2.2)) 0 n (Nat.zero_le _) ?_ ?_
    · intro k _ hk ih
      refine xX12_sorts_2 hS ⟨fun c => ?_, fun _ => sorts_in (n := n) hS (by omega) ih⟩
      dsimp only at c
      rw [seI_f rfl, hn] at c
      omega
    · refine xX12_sorts_2 hS ⟨fun _ => ⟨rfl, rfl⟩, fun c => absurd ?_ c⟩
      dsimp only
      rw [seI_f rfl, hn]
      exact Int.le_refl _
  have e0 : seI M.1 74 0 (rowS (M.1 56 0) (M.1 74 0) 0) = M.1 := by
    unfold rowS
    simp only [Nat.not_lt_zero, if_false]
    exact seI_self
  rw [e0] at key
  exact key
end SO
