set_option maxRecDepth 4000 in
theorem xX12_nextTo_0 {l : Launch} {G : Gt} {d : Nat} {M M' : Mem} {r : Option Vl} {x1 : Int} {x2 : Int} (h : 
    ∃ (M_1 : Mem), Cl l G d mX12_spreads [vR (some (3, 0)), vI x2] M none M_1 ∧ Ex l G (d + 1) mX12_nextTo 7 [some (vR (some (3, 0))), some (vI x1), some (vI x2), some (vI 0), none] [] M_1 r M') : Cl l G (d + 1) mX12_nextTo [vR (some (3, 0)), vI x1, vI x2] M r M' := by
  show Ex l G (d + 1) mX12_nextTo 0 [some (vR (some (3, 0))), some (vI x1), some (vI x2), none, none] [] M r M'
  refine r_aload_n 1 dX12_nextTo_0 rfl rfl ?_
  refine r_iload_n 2 dX12_nextTo_1 rfl rfl ?_
  obtain ⟨M_1, hc_2, h⟩ := h
  refine v_0 (ci := 12) (C := (RX12, TX12, 68)) [vI x2] [] 5 dX12_nextTo_2 rfl rfl rfl rfl rfl mo_X12_spreads ml_12_205 rfl rfl hc_2 ?_
  refine r_iconst 6 dX12_nextTo_5 rfl (InR_of rfl) ?_
  refine r_istore_n (ls' := [some (vR (some (3, 0))), some (vI x1), some (vI x2), some (vI 0), none]) 7 dX12_nextTo_6 rfl rfl rfl rfl ?_
  exact h
set_option maxRecDepth 4000 in
theorem xX12_nextTo_7 {l : Launch} {G : Gt} {d : Nat} {M M' : Mem} {r : Option Vl} {x1 : Int} {x2 : Int} {x3 : Int} (h : 
    (8 ≤ x3 → r = some (vI (-1)) ∧ M' = M) ∧ (¬ (8 ≤ x3) → ∃ (r_3 : Int) (M_1 : Mem), Cl l G d mX12_roadOf [vR (some (3, 0)), vI x1, vI x3] M (some (vI r_3)) M_1 ∧ Sh M_1.2.1 ∧ ((r_3 = (-1) → (InR (x3 + 1)) ∧ Ex l G (d + 1) mX12_nextTo 7 [some (vR (some (3, 0))), some (vI x1), some (vI x2), some (vI (x3 + 1)), none] [] M_1 r M') ∧ (¬ (r_3 = (-1)) → ((0 ≤ x3 ∧ x3 < 8)) ∧ (((M_1.1 75 0 x3.toNat) = 9999 → (InR (x3 + 1)) ∧ Ex l G (d + 1) mX12_nextTo 7 [some (vR (some (3, 0))), some (vI x1), some (vI x2), some (vI (x3 + 1)), none] [] M_1 r M') ∧ (¬ ((M_1.1 75 0 x3.toNat) = 9999) → ((0 ≤ x3 ∧ x3 < 8) ∧ (0 ≤ r_3 ∧ r_3 < 16) ∧ InR ((M_1.1 75 0 x3.toNat) + (M_1.1 55 0 r_3.toNat)) ∧ (0 ≤ x1 ∧ x1 < 8)) ∧ ((¬ (((M_1.1 75 0 x3.toNat) + (M_1.1 55 0 r_3.toNat)) = (M_1.1 75 0 x1.toNat)) → (InR (x3 + 1)) ∧ Ex l G (d + 1) mX12_nextTo 7 [some (vR (some (3, 0))), some (vI x1), some (vI x2), some (vI (x3 + 1)), none] [] M_1 r M') ∧ (((M_1.1 75 0 x3.toNat) + (M_1.1 55 0 r_3.toNat)) = (M_1.1 75 0 x1.toNat) → r = some (vI x3) ∧ M' = M_1)))))))) : Ex l G (d + 1) mX12_nextTo 7 [some (vR (some (3, 0))), some (vI x1), some (vI x2), some (vI x3), none] [] M r M' := by
  refine r_iload_n 8 dX12_nextTo_7 rfl rfl ?_
  refine r_bipush 10 dX12_nextTo_8 rfl rfl ?_
  refine r_icmp_ge 13 70 dX12_nextTo_10 rfl rfl (fun c => ?_) (fun c => ?_)
  · have h := h.1 (c)
    refine r_iconst 71 dX12_nextTo_70 rfl (InR_of rfl) ?_
    exact r_iret dX12_nextTo_71 rfl (.inl rfl) h.1 h.2
  · have h := h.2 (c)
    refine r_aload_n 14 dX12_nextTo_13 rfl rfl ?_
    refine r_iload_n 15 dX12_nextTo_14 rfl rfl ?_
    refine r_iload_n 16 dX12_nextTo_15 rfl rfl ?_
    obtain ⟨r_3, M_1, hc_2, hS, h⟩ := h
    refine v_1 (ci := 12) (C := (RX12, TX12, 68)) [vI x1, vI x3] [] 19 dX12_nextTo_16 rfl rfl rfl rfl rfl mo_X12_roadOf ml_12_166 rfl rfl hc_2 ?_
    refine r_istore (ls' := [some (vR (some (3, 0))), some (vI x1), some (vI x2), some (vI x3), some (vI r_3)]) 21 dX12_nextTo_19 rfl rfl rfl rfl ?_
    refine r_iload 23 dX12_nextTo_21 rfl rfl ?_
    refine r_iconst 24 dX12_nextTo_23 rfl (InR_of rfl) ?_
    refine r_icmp_eq 27 64 dX12_nextTo_24 rfl rfl (fun c => ?_) (fun c => ?_)
    · have h := h.1 (c)
      obtain ⟨o_4, h⟩ := h
      refine r_iinc (ls' := [some (vR (some (3, 0))), some (vI x1), some (vI x2), some (vI (x3 + 1)), some (vI r_3)]) 67 dX12_nextTo_64 rfl rfl rfl rfl o_4 rfl ?_
      refine r_goto 7 dX12_nextTo_67 rfl ?_
      exact Ex.weak h ⟨rfl, rfl, rfl, rfl, trivial⟩
    · have h := h.2 (c)
      obtain ⟨o_5, h⟩ := h
      refine r_aload_n 28 dX12_nextTo_27 rfl rfl ?_
      refine g_R 31 dX12_nextTo_28 rfl rfl rfl fr_12_91 (sh_12_28 hS) ?_
      refine r_iload_n 32 dX12_nextTo_31 rfl rfl ?_
      refine a_I 8 33 dX12_nextTo_32 rfl rfl rfl rfl o_5 rfl ?_
      refine r_sipush 36 dX12_nextTo_33 rfl rfl ?_
      refine r_icmp_eq 39 64 dX12_nextTo_36 rfl rfl (fun c => ?_) (fun c => ?_)
      · have h := h.1 (c)
        obtain ⟨o_6, h⟩ := h
        refine r_iinc (ls' := [some (vR (some (3, 0))), some (vI x1), some (vI x2), some (vI (x3 + 1)), some (vI r_3)]) 67 dX12_nextTo_64 rfl rfl rfl rfl o_6 rfl ?_
        refine r_goto 7 dX12_nextTo_67 rfl ?_
        exact Ex.weak h ⟨rfl, rfl, rfl, rfl, trivial⟩
      · have h := h.2 (c)
        obtain ⟨⟨o_7, o_8, o_9, o_10⟩, h⟩ := h
        refine r_aload_n 40 dX12_nextTo_39 rfl rfl ?_
        refine g_R 43 dX12_nextTo_40 rfl rfl rfl fr_12_91 (sh_12_28 hS) ?_
        refine r_iload_n 44 dX12_nextTo_43 rfl rfl ?_
        refine a_I 8 45 dX12_nextTo_44 rfl rfl rfl rfl o_7 rfl ?_
        refine r_aload_n 46 dX12_nextTo_45 rfl rfl ?_
        refine g_R 49 dX12_nextTo_46 rfl rfl rfl fr_12_31 (sh_12_8 hS) ?_
        refine r_iload 51 dX12_nextTo_49 rfl rfl ?_
        refine a_I 16 52 dX12_nextTo_51 rfl rfl rfl rfl o_8 rfl ?_
        refine r_iadd 53 dX12_nextTo_52 rfl o_9 ?_
        refine r_aload_n 54 dX12_nextTo_53 rfl rfl ?_
        refine g_R 57 dX12_nextTo_54 rfl rfl rfl fr_12_91 (sh_12_28 hS) ?_
        refine r_iload_n 58 dX12_nextTo_57 rfl rfl ?_
        refine a_I 8 59 dX12_nextTo_58 rfl rfl rfl rfl o_10 rfl ?_
        refine r_icmp_ne 62 64 dX12_nextTo_59 rfl rfl (fun c => ?_) (fun c => ?_)
        · have h := h.1 (c)
          obtain ⟨o_11, h⟩ := h
          refine r_iinc (ls' := [some (vR (some (3, 0))), some (vI x1), some (vI x2), some (vI (x3 + 1)), some (vI r_3)]) 67 dX12_nextTo_64 rfl rfl rfl rfl o_11 rfl ?_
          refine r_goto 7 dX12_nextTo_67 rfl ?_
          exact Ex.weak h ⟨rfl, rfl, rfl, rfl, trivial⟩
        · have h := h.2 (Decidable.not_not.mp c)
          refine r_iload_n 63 dX12_nextTo_62 rfl rfl ?_
          exact r_iret dX12_nextTo_63 rfl (.inl rfl) h.1 h.2

set_option maxRecDepth 4000 in
theorem xX12_far_0 {l : Launch} {G : Gt} {d : Nat} {M M' : Mem} {r : Option Vl} {x1 : Int} {x2 : Int} (h : 
    (¬ (0 ≤ x1 ∧ x1 < 8) → r = some (vI (-1)) ∧ M' = M) ∧ (0 ≤ x1 ∧ x1 < 8 → (0 ≤ x2 ∧ x2 < 8 → ∃ (M_1 : Mem), Cl l G (d + 1) mX12_spreads [vR (some (3, 0)), vI x1] M none M_1 ∧ Sh M_1.2.1 ∧ (((0 ≤ x2 ∧ x2 < 8)) ∧ (((¬ ((M_1.1 75 0 x2.toNat) = 9999) → ((0 ≤ x2 ∧ x2 < 8)))) ∧ r = some (vI (if (M_1.1 75 0 x2.toNat) = 9999 then (-2) else (M_1.1 75 0 x2.toNat) : Int)) ∧ M' = M_1))) ∧ (¬ (0 ≤ x2 ∧ x2 < 8) → r = some (vI (-1)) ∧ M' = M))) : Cl l G (d + 2) mX12_far [vR (some (3, 0)), vI x1, vI x2] M r M' := by
  show Ex l G (d + 2) mX12_far 0 [some (vR (some (3, 0))), some (vI x1), some (vI x2)] [] M r M'
  refine r_iload_n 1 dX12_far_0 rfl rfl ?_
  refine c_1 [vI x1] [] 4 dX12_far_1 rfl rfl mo_X12_isPlace ml_12_160 rfl rfl (KX12_isPlace) ?_
  refine r_if_eq 7 14 dX12_far_4 rfl rfl (fun c => ?_) (fun c => ?_)
  · have h := h.1 (b2_0.mp c)
    refine r_iconst 15 dX12_far_14 rfl (InR_of rfl) ?_
    exact r_iret dX12_far_15 rfl (.inl rfl) h.1 h.2
  · have h := h.2 (b2_1.mp c)
    refine r_iload_n 8 dX12_far_7 rfl rfl ?_
    refine c_1 [vI x2] [] 11 dX12_far_8 rfl rfl mo_X12_isPlace ml_12_160 rfl rfl (KX12_isPlace) ?_
    refine r_if_ne 14 16 dX12_far_11 rfl rfl (fun c => ?_) (fun c => ?_)
    · have h := h.1 (b2_1.mp c)
      refine r_aload_n 17 dX12_far_16 rfl rfl ?_
      refine r_iload_n 18 dX12_far_17 rfl rfl ?_
      obtain ⟨M_1, hc_2, hS, h⟩ := h
      refine v_0 (ci := 12) (C := (RX12, TX12, 68)) [vI x1] [] 21 dX12_far_18 rfl rfl rfl rfl rfl mo_X12_spreads ml_12_205 rfl rfl hc_2 ?_
      obtain ⟨o_3, h⟩ := h
      refine r_aload_n 22 dX12_far_21 rfl rfl ?_
      refine g_R 25 dX12_far_22 rfl rfl rfl fr_12_91 (sh_12_28 hS) ?_
      refine r_iload_n 26 dX12_far_25 rfl rfl ?_
      refine a_I 8 27 dX12_far_26 rfl rfl rfl rfl o_3 rfl ?_
      refine r_sipush 30 dX12_far_27 rfl rfl ?_
      obtain ⟨h0, h⟩ := h
      have hJ_4 : Ex l G (d + 2) mX12_far 44 [some (vR (some (3, 0))), some (vI x1), some (vI x2)] [vI (if (M_1.1 75 0 x2.toNat) = 9999 then (-2) else (M_1.1 75 0 x2.toNat) : Int)] M_1 r M' := by
        exact r_iret dX12_far_44 rfl (.inl rfl) h.1 h.2
      have h := h0
      refine r_icmp_ne 33 38 dX12_far_30 rfl rfl (fun c => ?_) (fun c => ?_)
      · have c_5 := c
        have h := h c_5
        have o_6 := h
        refine r_aload_n 39 dX12_far_38 rfl rfl ?_
        refine g_R 42 dX12_far_39 rfl rfl rfl fr_12_91 (sh_12_28 hS) ?_
        refine r_iload_n 43 dX12_far_42 rfl rfl ?_
        refine a_I 8 44 dX12_far_43 rfl rfl rfl rfl o_6 rfl ?_
        exact (Ex.at hJ_4 rfl (show [vI (M_1.1 75 0 x2.toNat)] = [vI (if (M_1.1 75 0 x2.toNat) = 9999 then (-2) else (M_1.1 75 0 x2.toNat) : Int)] by simp only [if_neg c_5]) rfl)
      · have c_5 := Decidable.not_not.mp c
        refine r_bipush 35 dX12_far_33 rfl rfl ?_
        refine r_goto 44 dX12_far_35 rfl ?_
        exact (Ex.at hJ_4 rfl (show [vI (-2)] = [vI (if (M_1.1 75 0 x2.toNat) = 9999 then (-2) else (M_1.1 75 0 x2.toNat) : Int)] by simp only [if_pos c_5]) rfl)
    · have h := h.2 (b2_0.mp (Decidable.not_not.mp c))
      refine r_iconst 15 dX12_far_14 rfl (InR_of rfl) ?_
      exact r_iret dX12_far_15 rfl (.inl rfl) h.1 h.2

def farT (Q : QT) (x : Nat) (g : Nat → Int) : Nat → Int := fun i => if i < 8 then farF Q x i else g i
def spM (Q : QT) (x : Nat) (M : Mem) : Mem := (seI M.1 75 0 (farT Q x (M.1 75 0)), M.2.1, M.2.2)
section SP
variable {l : Launch} {G : Gt} {d : Nat} {Q : QT} {M : Mem} {x : Nat}
theorem spO (hS : Sh M.2.1) (hw : WFr Q) (hH : HoldsR Q M.1) (hx : x < 8) : ∀ F, okF Q x F → F x = 0 → (∀ i, 8 ≤ i → F i = M.1 75 0 i) → Ex l G d mX12_spreads 34 [some (vR (some (3, 0))), some (vI (x : Int)), some (vI 0), none, none, none] [] (seI M.1 75 0 F, M.2.1, M.2.2) none (spM Q x M) := by
  have hfx : farF Q x x = 0 := by
    have := (Dk_self hw 8 x).1
    unfold farF
    unfold dist
    rw [this]
    rfl
  have key : (fun n : Nat => ∀ F, okF Q x F → F x = 0 → (∀ i, 8 ≤ i → F i = M.1 75 0 i) → n ≤ cnt (rgt Q x F) 8 → Ex l G d mX12_spreads 34 [some (vR (some (3, 0))), some (vI (x : Int)), some (vI (n : Int)), none, none, none] [] (seI M.1 75 0 F, M.2.1, M.2.2) none (spM Q x M)) 0 := by
    refine loopUp (P := fun n : Nat => ∀ F, okF Q x F → F x = 0 → (∀ i, 8 ≤ i → F i = M.1 75 0 i) → n ≤ cnt (rgt Q x F) 8 → Ex l G d mX12_spreads 34 [some (vR (some (3, 0))), some (vI (x : Int)), some (vI (n : Int)), none, none, none] [] (seI M.1 75 0 F, M.2.1, M.2.2) none (spM Q x M)) 0 8 (by omega) ?_ ?_
    · intro n _ hn ih F ho hz ht hc
      refine xX12_spreads_34 ⟨fun c => by omega, fun _ => ?_⟩
      refine spR hS hw hH hx n F hn (fun F' ho' hr' => ?_) F ho ⟨fun _ _ => Int.le_refl _, fun _ _ => rfl, fun j hj => by omega⟩
      have := ho' x hx
      have := hr'.1 x hx
      exact ih F' ho' (by omega) (fun i hi => by rw [hr'.2.1 i hi]; exact ht i hi) (rgt_more hw hx hn ho ho' hz hr' hc)
    · intro F ho hz ht hc
      have e : F = farT Q x (M.1 75 0) := by
        funext i
        unfold farT
        by_cases c : i < 8
        · rw [if_pos c]; exact of_decide_eq_true (cnt_full hc i c)
        · rw [if_neg c]; exact ht i (by omega)
      subst e
      exact xX12_spreads_34 ⟨fun _ => ⟨rfl, rfl⟩, fun c => by omega⟩
  intro F ho hz ht
  exact key F ho hz ht (Nat.zero_le _)
theorem KX12_spreads (hS : Sh M.2.1) (hw : WFr Q) (hH : HoldsR Q M.1) (hx : x < 8) : Cl l G d mX12_spreads [vR (some (3, 0)), vI (x : Int)] M none (spM Q x M) := by
  refine xX12_spreads_0 ?_
  have key : (fun k : Nat => Ex l G d mX12_spreads 2 [some (vR (some (3, 0))), some (vI (x : Int)), some (vI (k : Int)), none, none, none] [] (seI M.1 75 0 (fun i => if i < k then (if (i : Int) = (x : Int) then 0 else 9999) else M.1 75 0 i), M.2.1, M.2.2) none (spM Q x M)) 0 := by
    refine loopUp (P := fun k : Nat => Ex l G d mX12_spreads 2 [some (vR (some (3, 0))), some (vI (x : Int)), some (vI (k : Int)), none, none, none] [] (seI M.1 75 0 (fun i => if i < k then (if (i : Int) = (x : Int) then 0 else 9999) else M.1 75 0 i), M.2.1, M.2.2) none (spM Q x M)) 0 8 (by omega) ?_ ?_
    · intro k _ hk ih
      refine xX12_spreads_2 hS ⟨fun c => by omega, fun _ => ⟨⟨by omega, by unfold InR; omega⟩, ?_⟩⟩
      dsimp only
      rw [upI_seI]
      have e : (fun j => if j = (k : Int).toNat then (if (k : Int) = (x : Int) then (0 : Int) else 9999) else (if j < k then (if (j : Int) = (x : Int) then 0 else 9999) else M.1 75 0 j)) = (fun i => if i < k + 1 then (if (i : Int) = (x : Int) then (0 : Int) else 9999) else M.1 75 0 i) := by
        funext j
        rw [Int.toNat_natCast]
        by_cases c : j = k
        · rw [if_pos c, if_pos (show j < k + 1 by omega), c]
        · rw [if_neg c]
          by_cases c2 : j < k
          · rw [if_pos c2, if_pos (show j < k + 1 by omega)]
          · rw [if_neg c2, if_neg (show ¬ j < k + 1 by omega)]
      rw [e]
      exact ih
    · refine xX12_spreads_2 hS ⟨fun _ => ?_, fun c => by omega⟩
      refine spO hS hw hH hx _ (fun i hi => ?_) ?_ (fun i hi => ?_)
      · have h1 := farF_in hw hx hi
        rw [if_pos hi]
        by_cases c : (i : Int) = (x : Int)
        · rw [if_pos c]
          have c2 : i = x := by omega
          subst c2
          have := (Dk_self hw 8 i).1
          unfold dist at h1
          omega
        · rw [if_neg c]
          omega
      · rw [if_pos hx, if_pos rfl]
      · rw [if_neg (show ¬ i < 8 by omega)]
  have e : seI M.1 75 0 (fun i => if i < 0 then (if (i : Int) = (x : Int) then 0 else 9999) else M.1 75 0 i) = M.1 := by
    have e2 : (fun i : Nat => if i < 0 then (if (i : Int) = (x : Int) then (0 : Int) else 9999) else M.1 75 0 i) = M.1 75 0 := by
      funext i
      rw [if_neg (show ¬ i < 0 by omega)]
    rw [e2, seI_self]
  dsimp only at key
  rw [e] at key
  exact key
theorem KX12_nextTo {a b : Nat} (hS : Sh M.2.1) (hw : WFr Q) (hH : HoldsR Q M.1) (ha : a < 8) (hb : b < 8) : Cl l G (d + 1) mX12_nextTo [vR (some (3, 0)), vI (a : Int), vI (b : Int)] M (some (vI (nx Q a b))) (spM Q b M) := by
  have hS' : Sh (spM Q b M).2.1 := hS
  have hH' : HoldsR Q (spM Q b M).1 := hH.se
  have hf : ∀ i, i < 8 → (spM Q b M).1 75 0 i = farF Q b i := fun i hi => by
    unfold spM farT
    dsimp only
    rw [seI_s, if_pos hi]
  have ga := farF_in hw hb ha
  have es : ∀ v, dist Q v b = dist Q b v := fun v => Dk_sym Q 8 v b
  refine xX12_nextTo_0 ⟨_, KX12_spreads hS hw hH hb, ?_⟩
  have hnx : nx Q a b = firstF (fun v => decide (¬ (a = b ∨ 1000 ≤ dist Q a b) ∧ ¬ rd Q a v = 0 ∧ rd Q a v + dist Q v b = dist Q a b)) 8 := by
    unfold nx
    by_cases c : a = b ∨ 1000 ≤ dist Q a b
    · rw [if_pos c]
      exact (firstF_none fun i _ => decide_eq_false fun h => h.1 c).symm
    · rw [if_neg c]
      have : (fun v : Nat => decide (¬ rd Q a v = 0 ∧ rd Q a v + dist Q v b = dist Q a b)) = (fun v : Nat => decide (¬ (a = b ∨ 1000 ≤ dist Q a b) ∧ ¬ rd Q a v = 0 ∧ rd Q a v + dist Q v b = dist Q a b)) := by
        funext v
        exact decide_eq_decide.mpr ⟨fun h => ⟨c, h⟩, fun h => h.2⟩
      rw [this]
  rw [hnx]
  refine loopUp (P := fun v => (∀ i, i < v → (fun v : Nat => decide (¬ (a = b ∨ 1000 ≤ dist Q a b) ∧ ¬ rd Q a v = 0 ∧ rd Q a v + dist Q v b = dist Q a b)) i = false) → Ex l G (d + 1) mX12_nextTo 7 [some (vR (some (3, 0))), some (vI (a : Int)), some (vI (b : Int)), some (vI (v : Int)), none] [] (spM Q b M) (some (vI (firstF (fun v => decide (¬ (a = b ∨ 1000 ≤ dist Q a b) ∧ ¬ rd Q a v = 0 ∧ rd Q a v + dist Q v b = dist Q a b)) 8))) (spM Q b M)) 0 8 (by omega) ?_ ?_ (fun i hi => by omega)
  · intro v _ hv ih hno
    have gv := farF_in hw hb hv
    have h16 := hw.1
    have hin : InR ((v : Int) + 1) := by unfold InR; omega
    have hnext : (¬ (¬ (a = b ∨ 1000 ≤ dist Q a b) ∧ ¬ rd Q a v = 0 ∧ rd Q a v + dist Q v b = dist Q a b)) → Ex l G (d + 1) mX12_nextTo 7 [some (vR (some (3, 0))), some (vI (a : Int)), some (vI (b : Int)), some (vI ((v : Int) + 1)), none] [] (spM Q b M) (some (vI (firstF (fun v => decide (¬ (a = b ∨ 1000 ≤ dist Q a b) ∧ ¬ rd Q a v = 0 ∧ rd Q a v + dist Q v b = dist Q a b)) 8))) (spM Q b M) := fun hf => ih fun i hi => by
      by_cases e : i = v
      · subst e; exact decide_eq_false hf
      · exact hno i (by omega)
    have hsa := es a
    have hsv := es v
    refine xX12_nextTo_7 ⟨fun c => absurd c (by omega), fun _ => ⟨roI Q a v, spM Q b M, KX12_roadOf hS' hw hH', hS', fun c => ⟨hin, hnext ?_⟩, fun c => ?_⟩⟩
    · intro h
      obtain ⟨k, e⟩ := rd_some h.2.1
      unfold roI at c
      rw [e] at c
      dsimp only at c
      omega
    · obtain ⟨k, e⟩ : ∃ k, ro Q a v = some k := by
        cases e : ro Q a v with
        | some k => exact ⟨k, rfl⟩
        | none => exact absurd (by unfold roI; rw [e]) c
      have er : roI Q a v = k := by unfold roI; rw [e]
      have hk := (rkF_some e).1
      have h1 := rd_pos hw e
      have h9 := rd_in hw (a : Int) (v : Int)
      have ed : rd Q a v = Q 55 k := by unfold rd; rw [e]
      have h55 : (spM Q b M).1 55 0 k = Q 55 k := hH' 55 k (by omega)
      have hk16 : k < 16 := by unfold nRd at hk; omega
      rw [er]
      simp only [Int.toNat_natCast, hf v hv, hf a ha, h55]
      refine ⟨by omega, fun c1 => ⟨hin, hnext (by omega)⟩, fun c1 => ⟨⟨by omega, by omega, by unfold InR; omega, by omega⟩, fun c2 => ⟨hin, hnext (by omega)⟩, fun c2 => ⟨?_, by trivial⟩⟩⟩
      have hne : ¬ a = b := fun e2 => by
        subst e2
        have := (Dk_self hw 8 a).1
        unfold dist at ga
        omega
      rw [firstF_at hno (decide_eq_true ⟨by omega, by omega, by omega⟩) hv]
  · intro hno
    refine xX12_nextTo_7 ⟨fun _ => ⟨?_, rfl⟩, fun c => absurd (show (8 : Int) ≤ ((8 : Nat) : Int) by omega) c⟩
    rw [firstF_none hno]
theorem KX12_far {a b : Int} (hS : Sh M.2.1) (hw : WFr Q) (hH : HoldsR Q M.1) : ((0 ≤ a ∧ a < 8) ∧ (0 ≤ b ∧ b < 8) → Cl l G (d + 2) mX12_far [vR (some (3, 0)), vI a, vI b] M (some (vI (if 1000 ≤ dist Q a.toNat b.toNat then -2 else dist Q a.toNat b.toNat))) (spM Q a.toNat M)) ∧ (¬ ((0 ≤ a ∧ a < 8) ∧ (0 ≤ b ∧ b < 8)) → Cl l G (d + 2) mX12_far [vR (some (3, 0)), vI a, vI b] M (some (vI (-1))) M) := by
  constructor
  · intro ⟨h1, h2⟩
    have ea : a = (a.toNat : Int) := by omega
    have hK := KX12_spreads (l := l) (G := G) (d := d + 1) hS hw hH (show a.toNat < 8 by omega)
    rw [← ea] at hK
    have g := farF_in hw (show a.toNat < 8 by omega) (show b.toNat < 8 by omega)
    have hf : (spM Q a.toNat M).1 75 0 b.toNat = farF Q a.toNat b.toNat := by
      unfold spM farT
      dsimp only
      rw [seI_s, if_pos (show b.toNat < 8 by omega)]
    refine xX12_far_0 ⟨fun c => absurd h1 c, fun _ => ⟨fun _ => ⟨_, hK, hS, h2, fun _ => h2, ?_, rfl⟩, fun c => absurd h2 c⟩⟩
    rw [hf]
    rcases g with g | g
    · rw [if_neg (show ¬ farF Q a.toNat b.toNat = 9999 by omega), if_neg (show ¬ 1000 ≤ dist Q a.toNat b.toNat by omega), g.2.2.1]
    · rw [if_pos g.1, if_pos g.2]
  · intro hn
    exact xX12_far_0 ⟨fun _ => ⟨rfl, rfl⟩, fun c => ⟨fun c2 => absurd ⟨c, c2⟩ hn, fun _ => ⟨rfl, rfl⟩⟩⟩
end SP
