/-! SIGNS on the reference: fails, emits, opens, counts, gives, closes -/
section RW2
variable {l : Launch} {G : Gt} {d : Nat} {M : Mem} {r : Option Vl} {M' : Mem} {t : Tp} {n sl q : Nat} {e dp ti cn : Int} {o s : List (Int × Int)} {I I' I'' : IM}
def OutS (sl : Nat) (I : IM) (o : List (Int × Int)) : Prop := ∀ k, k < o.length → I 77 0 (400 * sl + k) = (o.getD k (0, 0)).1 ∧ I 78 0 (400 * sl + k) = (o.getD k (0, 0)).2
def OpS (I : IM) : List (Int × Int) → Prop
  | [] => True
  | x :: s => I 80 0 s.length = x.1 ∧ I 81 0 s.length = x.2 ∧ OpS I s
/-- only what reading may write is other -/
def frV (sl : Nat) (I I' : IM) : Prop := ∀ f k i, ¬ (k = 0 ∧ ((f = 3 ∧ 30 ≤ i ∧ i ≤ 38 ∧ ¬ i = 32 ∧ ¬ i = 33) ∨ ((f = 77 ∨ f = 78) ∧ 400 * sl ≤ i ∧ i < 400 * sl + 400) ∨ f = 80 ∨ f = 81)) → I' f k i = I f k i
theorem frV.rf : frV sl I I := fun _ _ _ _ => rfl
theorem frV.tr (h : frV sl I I') (h' : frV sl I' I'') : frV sl I I'' := fun f k i hn => (h' f k i hn).trans (h f k i hn)
theorem frV.md {i : Nat} {v : Int} (h : 30 ≤ i ∧ i ≤ 38 ∧ ¬ i = 32 ∧ ¬ i = 33) : frV sl I (upI I 3 0 i v) := fun f' k' i' hn => upI_ne (by omega)
theorem OpS.mono : ∀ {s : List (Int × Int)}, (∀ i, i < s.length → I' 80 0 i = I 80 0 i ∧ I' 81 0 i = I 81 0 i) → OpS I s → OpS I' s := by
  intro s
  induction s with
  | nil => intro _ _; trivial
  | cons x s ih =>
    intro h h1
    have hl : s.length < (x :: s).length := by simp
    exact ⟨(h _ hl).1.trans h1.1, (h _ hl).2.trans h1.2.1, ih (fun i hi => h i (by omega)) h1.2.2⟩
/-- the reference while it reads: place, fault, signs, depths, facts, what is open -/
def Rg (sl : Nat) (t : Tp) (n q : Nat) (e : Int) (o : List (Int × Int)) (dp ti cn : Int) (s : List (Int × Int)) (I : IM) : Prop := RTp t n I ∧ (I 3 0 32 = (sl : Int) ∧ sl < 8) ∧ I 3 0 30 = (q : Int) ∧ I 3 0 31 = e ∧ I 3 0 34 = (o.length : Int) ∧ I 3 0 35 = dp ∧ I 3 0 36 = ti ∧ I 3 0 37 = cn ∧ I 3 0 38 = (s.length : Int) ∧ OutS sl I o ∧ OpS I s
theorem RTp.fr (h : RTp t n I) (hf : frV sl I I') : RTp t n I' := ⟨by rw [hf _ _ _ (by omega)]; exact h.1, h.2.1, fun j hj => by rw [hf _ _ _ (by omega)]; exact h.2.2 j hj⟩
/-- the fields of md may be written -/
theorem Rg.md {i : Nat} {v : Int} {q' : Nat} {e' dp' ti' cn' : Int} (h : Rg sl t n q e o dp ti cn s I) (hi : i = 30 ∨ i = 31 ∨ i = 35 ∨ i = 36 ∨ i = 37)
    (h30 : (if i = 30 then v else (q : Int)) = (q' : Int)) (h31 : (if i = 31 then v else e) = e') (h35 : (if i = 35 then v else dp) = dp') (h36 : (if i = 36 then v else ti) = ti') (h37 : (if i = 37 then v else cn) = cn') : Rg sl t n q' e' o dp' ti' cn' s (upI I 3 0 i v) := by
  obtain ⟨g1, g2, g3, g4, g5, g6, g7, g8, g9, g10, g11⟩ := h
  refine ⟨g1.up (by omega), ⟨by rw [upI_ne (by omega)]; exact g2.1, g2.2⟩, ?_, ?_, by rw [upI_ne (by omega)]; exact g5, ?_, ?_, ?_, by rw [upI_ne (by omega)]; exact g9, fun k hk => by rw [upI_ne (by omega), upI_ne (by omega)]; exact g10 k hk, g11.mono fun k hk => ⟨by rw [upI_ne (by omega)], by rw [upI_ne (by omega)]⟩⟩
  · rw [upI_c, ← h30, g3]; rcases hi with rfl | rfl | rfl | rfl | rfl <;> rfl
  · rw [upI_c, ← h31, g4]; rcases hi with rfl | rfl | rfl | rfl | rfl <;> rfl
  · rw [upI_c, ← h35, g6]; rcases hi with rfl | rfl | rfl | rfl | rfl <;> rfl
  · rw [upI_c, ← h36, g7]; rcases hi with rfl | rfl | rfl | rfl | rfl <;> rfl
  · rw [upI_c, ← h37, g8]; rcases hi with rfl | rfl | rfl | rfl | rfl <;> rfl
theorem Rg.pop {x : Int × Int} {v : Int} (h : Rg sl t n q e o dp ti cn (x :: s) I) (hv : v = (s.length : Int)) : Rg sl t n q e o dp ti cn s (upI I 3 0 38 v) := by
  obtain ⟨g1, g2, g3, g4, g5, g6, g7, g8, g9, g10, g11⟩ := h
  exact ⟨g1.up (by omega), ⟨by rw [upI_ne (by omega)]; exact g2.1, g2.2⟩, by rw [upI_ne (by omega)]; exact g3, by rw [upI_ne (by omega)]; exact g4, by rw [upI_ne (by omega)]; exact g5, by rw [upI_ne (by omega)]; exact g6, by rw [upI_ne (by omega)]; exact g7, by rw [upI_ne (by omega)]; exact g8, by rw [upI_s]; exact hv, fun k hk => by rw [upI_ne (by omega), upI_ne (by omega)]; exact g10 k hk, g11.2.2.mono fun k hk => ⟨by rw [upI_ne (by omega)], by rw [upI_ne (by omega)]⟩⟩
set_option maxRecDepth 4000 in
theorem xX12_fails_0 {l : Launch} {G : Gt} {d : Nat} {M M' : Mem} {r : Option Vl} {x1 : Int} {x2 : Int} (h : 
    (¬ ((M.1 3 0 31) = 0) → r = none ∧ M' = M) ∧ ((M.1 3 0 31) = 0 → (InR (8 * x2) ∧ InR (1 + (8 * x2)) ∧ InR ((1 + (8 * x2)) + x1)) ∧ r = none ∧ M' = ((upI M.1 3 0 31 ((1 + (8 * x2)) + x1)), M.2.1, M.2.2))) : Cl l G d mX12_fails [vR (some (3, 0)), vI x1, vI x2] M r M' := by
  show Ex l G d mX12_fails 0 [some (vR (some (3, 0))), some (vI x1), some (vI x2)] [] M r M'
  refine r_aload_n 1 dX12_fails_0 rfl rfl ?_
  refine g_I 4 dX12_fails_1 rfl rfl rfl fi_12_215 rfl ?_
  refine r_if_ne 7 19 dX12_fails_4 rfl rfl (fun c => ?_) (fun c => ?_)
  · have h := h.1 (c)
    exact r_vret dX12_fails_19 rfl h.1 h.2
  · have h := h.2 (Decidable.not_not.mp c)
    obtain ⟨⟨o_1, o_2, o_3⟩, h⟩ := h
    refine r_aload_n 8 dX12_fails_7 rfl rfl ?_
    refine r_iconst 9 dX12_fails_8 rfl (InR_of rfl) ?_
    refine r_bipush 11 dX12_fails_9 rfl rfl ?_
    refine r_iload_n 12 dX12_fails_11 rfl rfl ?_
    refine r_imul 13 dX12_fails_12 rfl o_1 ?_
    refine r_iadd 14 dX12_fails_13 rfl o_2 ?_
    refine r_iload_n 15 dX12_fails_14 rfl rfl ?_
    refine r_iadd 16 dX12_fails_15 rfl o_3 ?_
    refine p_I 19 dX12_fails_16 rfl rfl rfl rfl pf_12_215 (.inl rfl) rfl ?_
    exact r_vret dX12_fails_19 rfl h.1 h.2

set_option maxRecDepth 4000 in
theorem xX12_emits_0 {l : Launch} {G : Gt} {d : Nat} {M M' : Mem} {r : Option Vl} {x1 : Int} {x2 : Int} (hS : Sh M.2.1) (h : 
    (InR (400 * (M.1 3 0 32)) ∧ InR ((400 * (M.1 3 0 32)) + (M.1 3 0 34)) ∧ (0 ≤ ((400 * (M.1 3 0 32)) + (M.1 3 0 34)) ∧ ((400 * (M.1 3 0 32)) + (M.1 3 0 34)) < 3200) ∧ InR ((M.1 3 0 34) + 1)) ∧ r = none ∧ M' = ((upI (upI (upI M.1 77 0 ((400 * (M.1 3 0 32)) + (M.1 3 0 34)).toNat x1) 78 0 ((400 * (M.1 3 0 32)) + (M.1 3 0 34)).toNat x2) 3 0 34 ((M.1 3 0 34) + 1)), M.2.1, M.2.2)) : Cl l G d mX12_emits [vR (some (3, 0)), vI x1, vI x2] M r M' := by
  show Ex l G d mX12_emits 0 [some (vR (some (3, 0))), some (vI x1), some (vI x2)] [] M r M'
  obtain ⟨⟨o_1, o_2, o_3, o_4⟩, h⟩ := h
  refine r_aload_n 1 dX12_emits_0 rfl rfl ?_
  refine g_R 4 dX12_emits_1 rfl rfl rfl fr_12_98 (sh_12_40 hS) ?_
  refine r_sipush 7 dX12_emits_4 rfl rfl ?_
  refine r_aload_n 8 dX12_emits_7 rfl rfl ?_
  refine g_I 11 dX12_emits_8 rfl rfl rfl fi_12_241 rfl ?_
  refine r_imul 12 dX12_emits_11 rfl o_1 ?_
  refine r_aload_n 13 dX12_emits_12 rfl rfl ?_
  refine g_I 16 dX12_emits_13 rfl rfl rfl fi_12_244 rfl ?_
  refine r_iadd 17 dX12_emits_16 rfl o_2 ?_
  refine r_iload_n 18 dX12_emits_17 rfl rfl ?_
  refine s_I 3200 19 dX12_emits_18 rfl rfl (by decide) rfl rfl o_3 ?_
  refine r_aload_n 20 dX12_emits_19 rfl rfl ?_
  refine g_R 23 dX12_emits_20 rfl rfl rfl fr_12_101 (mR_0 (sh_12_41 hS)) ?_
  refine r_sipush 26 dX12_emits_23 rfl rfl ?_
  refine r_aload_n 27 dX12_emits_26 rfl rfl ?_
  refine g_I 30 dX12_emits_27 rfl rfl rfl fi_12_241 (mI_0 (upI_f rfl)) ?_
  refine r_imul 31 dX12_emits_30 rfl o_1 ?_
  refine r_aload_n 32 dX12_emits_31 rfl rfl ?_
  refine g_I 35 dX12_emits_32 rfl rfl rfl fi_12_244 (mI_0 (upI_f rfl)) ?_
  refine r_iadd 36 dX12_emits_35 rfl o_2 ?_
  refine r_iload_n 37 dX12_emits_36 rfl rfl ?_
  refine s_I 3200 38 dX12_emits_37 rfl rfl (by decide) rfl rfl o_3 ?_
  refine r_aload_n 39 dX12_emits_38 rfl rfl ?_
  refine r_dup 40 dX12_emits_39 rfl rfl ?_
  refine g_I 43 dX12_emits_40 rfl rfl rfl fi_12_244 (mI_0 ((upI_f rfl).trans (upI_f rfl))) ?_
  refine r_iconst 44 dX12_emits_43 rfl (InR_of rfl) ?_
  refine r_iadd 45 dX12_emits_44 rfl o_4 ?_
  refine p_I 48 dX12_emits_45 rfl rfl rfl rfl pf_12_244 (.inl rfl) rfl ?_
  exact r_vret dX12_emits_48 rfl h.1 h.2

set_option maxRecDepth 4000 in
theorem xX12_opens_0 {l : Launch} {G : Gt} {d : Nat} {M M' : Mem} {r : Option Vl} {x1 : Int} {x2 : Int} (hS : Sh M.2.1) (h : 
    ((0 ≤ (M.1 3 0 38) ∧ (M.1 3 0 38) < 402) ∧ InR ((M.1 3 0 38) + 1)) ∧ r = none ∧ M' = ((upI (upI (upI M.1 80 0 (M.1 3 0 38).toNat x1) 81 0 (M.1 3 0 38).toNat x2) 3 0 38 ((M.1 3 0 38) + 1)), M.2.1, M.2.2)) : Cl l G d mX12_opens [vR (some (3, 0)), vI x1, vI x2] M r M' := by
  show Ex l G d mX12_opens 0 [some (vR (some (3, 0))), some (vI x1), some (vI x2)] [] M r M'
  obtain ⟨⟨o_1, o_2⟩, h⟩ := h
  refine r_aload_n 1 dX12_opens_0 rfl rfl ?_
  refine g_R 4 dX12_opens_1 rfl rfl rfl fr_12_107 (sh_12_43 hS) ?_
  refine r_aload_n 5 dX12_opens_4 rfl rfl ?_
  refine g_I 8 dX12_opens_5 rfl rfl rfl fi_12_247 rfl ?_
  refine r_iload_n 9 dX12_opens_8 rfl rfl ?_
  refine s_I 402 10 dX12_opens_9 rfl rfl (by decide) rfl rfl o_1 ?_
  refine r_aload_n 11 dX12_opens_10 rfl rfl ?_
  refine g_R 14 dX12_opens_11 rfl rfl rfl fr_12_110 (mR_0 (sh_12_44 hS)) ?_
  refine r_aload_n 15 dX12_opens_14 rfl rfl ?_
  refine g_I 18 dX12_opens_15 rfl rfl rfl fi_12_247 (mI_0 (upI_f rfl)) ?_
  refine r_iload_n 19 dX12_opens_18 rfl rfl ?_
  refine s_I 402 20 dX12_opens_19 rfl rfl (by decide) rfl rfl o_1 ?_
  refine r_aload_n 21 dX12_opens_20 rfl rfl ?_
  refine r_dup 22 dX12_opens_21 rfl rfl ?_
  refine g_I 25 dX12_opens_22 rfl rfl rfl fi_12_247 (mI_0 ((upI_f rfl).trans (upI_f rfl))) ?_
  refine r_iconst 26 dX12_opens_25 rfl (InR_of rfl) ?_
  refine r_iadd 27 dX12_opens_26 rfl o_2 ?_
  refine p_I 30 dX12_opens_27 rfl rfl rfl rfl pf_12_247 (.inl rfl) rfl ?_
  exact r_vret dX12_opens_30 rfl h.1 h.2

set_option maxRecDepth 4000 in
theorem xX12_counts_0 {l : Launch} {G : Gt} {d : Nat} {M M' : Mem} {r : Option Vl}  (h : 
    (¬ ((M.1 3 0 37) = 30) → (InR ((M.1 3 0 37) + 1)) ∧ r = none ∧ M' = ((upI M.1 3 0 37 ((M.1 3 0 37) + 1)), M.2.1, M.2.2)) ∧ ((M.1 3 0 37) = 30 → ∃ (M_2 : Mem), Cl l G d mX12_fails [vR (some (3, 0)), vI 3, vI (M.1 3 0 30)] M none M_2 ∧ (InR ((M_2.1 3 0 37) + 1)) ∧ r = none ∧ M' = ((upI M_2.1 3 0 37 ((M_2.1 3 0 37) + 1)), M_2.2.1, M_2.2.2))) : Cl l G (d + 1) mX12_counts [vR (some (3, 0))] M r M' := by
  show Ex l G (d + 1) mX12_counts 0 [some (vR (some (3, 0)))] [] M r M'
  refine r_aload_n 1 dX12_counts_0 rfl rfl ?_
  refine g_I 4 dX12_counts_1 rfl rfl rfl fi_12_250 rfl ?_
  refine r_bipush 6 dX12_counts_4 rfl rfl ?_
  refine r_icmp_ne 9 18 dX12_counts_6 rfl rfl (fun c => ?_) (fun c => ?_)
  · have h := h.1 (c)
    obtain ⟨o_1, h⟩ := h
    refine r_aload_n 19 dX12_counts_18 rfl rfl ?_
    refine r_dup 20 dX12_counts_19 rfl rfl ?_
    refine g_I 23 dX12_counts_20 rfl rfl rfl fi_12_250 rfl ?_
    refine r_iconst 24 dX12_counts_23 rfl (InR_of rfl) ?_
    refine r_iadd 25 dX12_counts_24 rfl o_1 ?_
    refine p_I 28 dX12_counts_25 rfl rfl rfl rfl pf_12_250 (.inl rfl) rfl ?_
    exact r_vret dX12_counts_28 rfl h.1 h.2
  · have h := h.2 (Decidable.not_not.mp c)
    refine r_aload_n 10 dX12_counts_9 rfl rfl ?_
    refine r_iconst 11 dX12_counts_10 rfl (InR_of rfl) ?_
    refine r_aload_n 12 dX12_counts_11 rfl rfl ?_
    refine g_I 15 dX12_counts_12 rfl rfl rfl fi_12_218 rfl ?_
    obtain ⟨M_2, hc_3, h⟩ := h
    refine v_0 (ci := 12) (C := (RX12, TX12, 68)) [vI 3, vI (M.1 3 0 30)] [] 18 dX12_counts_15 rfl rfl rfl rfl rfl mo_X12_fails ml_12_253 rfl rfl hc_3 ?_
    obtain ⟨o_4, h⟩ := h
    refine r_aload_n 19 dX12_counts_18 rfl rfl ?_
    refine r_dup 20 dX12_counts_19 rfl rfl ?_
    refine g_I 23 dX12_counts_20 rfl rfl rfl fi_12_250 rfl ?_
    refine r_iconst 24 dX12_counts_23 rfl (InR_of rfl) ?_
    refine r_iadd 25 dX12_counts_24 rfl o_4 ?_
    refine p_I 28 dX12_counts_25 rfl rfl rfl rfl pf_12_250 (.inl rfl) rfl ?_
    exact r_vret dX12_counts_28 rfl h.1 h.2

set_option maxRecDepth 4000 in
theorem xX12_gives_0 {l : Launch} {G : Gt} {d : Nat} {M M' : Mem} {r : Option Vl} {x1 : Int} (hS : Sh M.2.1) (h : 
    ((M.1 3 0 38) ≤ 0 → r = none ∧ M' = M) ∧ (¬ ((M.1 3 0 38) ≤ 0) → (InR ((M.1 3 0 38) - 1) ∧ (0 ≤ ((M.1 3 0 38) - 1) ∧ ((M.1 3 0 38) - 1) < 402)) ∧ (((M.1 80 0 ((M.1 3 0 38) - 1).toNat) = 7 → r = none ∧ M' = M) ∧ (¬ ((M.1 80 0 ((M.1 3 0 38) - 1).toNat) = 7) → (InR ((M.1 3 0 38) - 1) ∧ (0 ≤ ((M.1 3 0 38) - 1) ∧ ((M.1 3 0 38) - 1) < 402)) ∧ ((x1 < (M.1 80 0 ((M.1 3 0 38) - 1).toNat) → r = none ∧ M' = M) ∧ (¬ (x1 < (M.1 80 0 ((M.1 3 0 38) - 1).toNat)) → (InR ((M.1 3 0 38) - 1) ∧ (0 ≤ ((M.1 3 0 38) - 1) ∧ ((M.1 3 0 38) - 1) < 402)) ∧ (∃ (M_7 : Mem), Cl l G d mX12_emits [vR (some (3, 0)), vI (M.1 80 0 ((M.1 3 0 38) - 1).toNat), vI 0] ((upI M.1 3 0 38 ((M.1 3 0 38) - 1)), M.2.1, M.2.2) none M_7 ∧ Ex l G (d + 1) mX12_gives 0 [some (vR (some (3, 0))), some (vI x1)] [] M_7 r M'))))))) : Ex l G (d + 1) mX12_gives 0 [some (vR (some (3, 0))), some (vI x1)] [] M r M' := by
  refine r_aload_n 1 dX12_gives_0 rfl rfl ?_
  refine g_I 4 dX12_gives_1 rfl rfl rfl fi_12_247 rfl ?_
  refine r_if_le 7 65 dX12_gives_4 rfl rfl (fun c => ?_) (fun c => ?_)
  · have h := h.1 (c)
    exact r_vret dX12_gives_65 rfl h.1 h.2
  · have h := h.2 (c)
    obtain ⟨⟨o_1, o_2⟩, h⟩ := h
    refine r_aload_n 8 dX12_gives_7 rfl rfl ?_
    refine g_R 11 dX12_gives_8 rfl rfl rfl fr_12_107 (sh_12_43 hS) ?_
    refine r_aload_n 12 dX12_gives_11 rfl rfl ?_
    refine g_I 15 dX12_gives_12 rfl rfl rfl fi_12_247 rfl ?_
    refine r_iconst 16 dX12_gives_15 rfl (InR_of rfl) ?_
    refine r_isub 17 dX12_gives_16 rfl o_1 ?_
    refine a_I 402 18 dX12_gives_17 rfl rfl rfl rfl o_2 rfl ?_
    refine r_bipush 20 dX12_gives_18 rfl rfl ?_
    refine r_icmp_eq 23 65 dX12_gives_20 rfl rfl (fun c => ?_) (fun c => ?_)
    · have h := h.1 (c)
      exact r_vret dX12_gives_65 rfl h.1 h.2
    · have h := h.2 (c)
      obtain ⟨⟨o_3, o_4⟩, h⟩ := h
      refine r_aload_n 24 dX12_gives_23 rfl rfl ?_
      refine g_R 27 dX12_gives_24 rfl rfl rfl fr_12_107 (sh_12_43 hS) ?_
      refine r_aload_n 28 dX12_gives_27 rfl rfl ?_
      refine g_I 31 dX12_gives_28 rfl rfl rfl fi_12_247 rfl ?_
      refine r_iconst 32 dX12_gives_31 rfl (InR_of rfl) ?_
      refine r_isub 33 dX12_gives_32 rfl o_3 ?_
      refine a_I 402 34 dX12_gives_33 rfl rfl rfl rfl o_4 rfl ?_
      refine r_iload_n 35 dX12_gives_34 rfl rfl ?_
      refine r_icmp_gt 38 65 dX12_gives_35 rfl rfl (fun c => ?_) (fun c => ?_)
      · have h := h.1 (c)
        exact r_vret dX12_gives_65 rfl h.1 h.2
      · have h := h.2 (c)
        obtain ⟨⟨o_5, o_6⟩, h⟩ := h
        refine r_aload_n 39 dX12_gives_38 rfl rfl ?_
        refine r_dup 40 dX12_gives_39 rfl rfl ?_
        refine g_I 43 dX12_gives_40 rfl rfl rfl fi_12_247 rfl ?_
        refine r_iconst 44 dX12_gives_43 rfl (InR_of rfl) ?_
        refine r_isub 45 dX12_gives_44 rfl o_5 ?_
        refine p_I 48 dX12_gives_45 rfl rfl rfl rfl pf_12_247 (.inl rfl) rfl ?_
        refine r_aload_n 49 dX12_gives_48 rfl rfl ?_
        refine r_aload_n 50 dX12_gives_49 rfl rfl ?_
        refine g_R 53 dX12_gives_50 rfl rfl rfl fr_12_107 (mR_0 (sh_12_43 hS)) ?_
        refine r_aload_n 54 dX12_gives_53 rfl rfl ?_
        refine g_I 57 dX12_gives_54 rfl rfl rfl fi_12_247 (mI_0 (upI_s)) ?_
        refine a_I 402 58 dX12_gives_57 rfl rfl rfl rfl o_6 (mI_0 (upI_f rfl)) ?_
        refine r_iconst 59 dX12_gives_58 rfl (InR_of rfl) ?_
        obtain ⟨M_7, hc_8, h⟩ := h
        refine v_0 (ci := 12) (C := (RX12, TX12, 68)) [vI (M.1 80 0 ((M.1 3 0 38) - 1).toNat), vI 0] [] 62 dX12_gives_59 rfl rfl rfl rfl rfl mo_X12_emits ml_12_263 rfl rfl hc_8 ?_
        refine r_goto 0 dX12_gives_62 rfl ?_
        exact h

set_option maxRecDepth 4000 in
theorem xX12_closes_0 {l : Launch} {G : Gt} {d : Nat} {M M' : Mem} {r : Option Vl}  (hS : Sh M.2.1) (h : 
    ((M.1 3 0 38) ≤ 0 → r = none ∧ M' = M) ∧ (¬ ((M.1 3 0 38) ≤ 0) → (InR ((M.1 3 0 38) - 1) ∧ (0 ≤ ((M.1 3 0 38) - 1) ∧ ((M.1 3 0 38) - 1) < 402)) ∧ (((M.1 80 0 ((M.1 3 0 38) - 1).toNat) = 3 → (InR ((M.1 3 0 38) - 1) ∧ (0 ≤ ((M.1 3 0 38) - 1) ∧ ((M.1 3 0 38) - 1) < 402)) ∧ (∃ (M_5 : Mem), Cl l G d mX12_emits [vR (some (3, 0)), vI (M.1 80 0 ((M.1 3 0 38) - 1).toNat), vI (M.1 81 0 ((M.1 3 0 38) - 1).toNat)] ((upI M.1 3 0 38 ((M.1 3 0 38) - 1)), M.2.1, M.2.2) none M_5 ∧ Sh M_5.2.1 ∧ ((0 ≤ (M_5.1 3 0 38) ∧ (M_5.1 3 0 38) < 402)) ∧ (InR ((M_5.1 3 0 35) - (if (M_5.1 80 0 (M_5.1 3 0 38).toNat) = 3 then 1 else 0 : Int)) ∧ (0 ≤ (M_5.1 3 0 38) ∧ (M_5.1 3 0 38) < 402)) ∧ (InR ((M_5.1 3 0 36) - (if (M_5.1 80 0 (M_5.1 3 0 38).toNat) = 4 then 1 else 0 : Int))) ∧ Ex l G (d + 1) mX12_closes 0 [some (vR (some (3, 0)))] [] ((upI (upI M_5.1 3 0 35 ((M_5.1 3 0 35) - (if (M_5.1 80 0 (M_5.1 3 0 38).toNat) = 3 then 1 else 0 : Int))) 3 0 36 ((M_5.1 3 0 36) - (if (M_5.1 80 0 (M_5.1 3 0 38).toNat) = 4 then 1 else 0 : Int))), M_5.2.1, M_5.2.2) r M')) ∧ (¬ ((M.1 80 0 ((M.1 3 0 38) - 1).toNat) = 3) → (InR ((M.1 3 0 38) - 1) ∧ (0 ≤ ((M.1 3 0 38) - 1) ∧ ((M.1 3 0 38) - 1) < 402)) ∧ ((¬ ((M.1 80 0 ((M.1 3 0 38) - 1).toNat) = 4) → r = none ∧ M' = M) ∧ ((M.1 80 0 ((M.1 3 0 38) - 1).toNat) = 4 → (InR ((M.1 3 0 38) - 1) ∧ (0 ≤ ((M.1 3 0 38) - 1) ∧ ((M.1 3 0 38) - 1) < 402)) ∧ (∃ (M_19 : Mem), Cl l G d mX12_emits [vR (some (3, 0)), vI (M.1 80 0 ((M.1 3 0 38) - 1).toNat), vI (M.1 81 0 ((M.1 3 0 38) - 1).toNat)] ((upI M.1 3 0 38 ((M.1 3 0 38) - 1)), M.2.1, M.2.2) none M_19 ∧ Sh M_19.2.1 ∧ ((0 ≤ (M_19.1 3 0 38) ∧ (M_19.1 3 0 38) < 402)) ∧ (InR ((M_19.1 3 0 35) - (if (M_19.1 80 0 (M_19.1 3 0 38).toNat) = 3 then 1 else 0 : Int)) ∧ (0 ≤ (M_19.1 3 0 38) ∧ (M_19.1 3 0 38) < 402)) ∧ (InR ((M_19.1 3 0 36) - (if (M_19.1 80 0 (M_19.1 3 0 38).toNat) = 4 then 1 else 0 : Int))) ∧ Ex l G (d + 1) mX12_closes 0 [some (vR (some (3, 0)))] [] ((upI (upI M_19.1 3 0 35 ((M_19.1 3 0 35) - (if (M_19.1 80 0 (M_19.1 3 0 38).toNat) = 3 then 1 else 0 : Int))) 3 0 36 ((M_19.1 3 0 36) - (if (M_19.1 80 0 (M_19.1 3 0 38).toNat) = 4 then 1 else 0 : Int))), M_19.2.1, M_19.2.2) r M'))))))) : Ex l G (d + 1) mX12_closes 0 [some (vR (some (3, 0)))] [] M r M' := by
  refine r_aload_n 1 dX12_closes_0 rfl rfl ?_
  refine g_I 4 dX12_closes_1 rfl rfl rfl fi_12_247 rfl ?_
  refine r_if_le 7 126 dX12_closes_4 rfl rfl (fun c => ?_) (fun c => ?_)
  · have h := h.1 (c)
    exact r_vret dX12_closes_126 rfl h.1 h.2
  · have h := h.2 (c)
    obtain ⟨⟨o_1, o_2⟩, h⟩ := h
    refine r_aload_n 8 dX12_closes_7 rfl rfl ?_
    refine g_R 11 dX12_closes_8 rfl rfl rfl fr_12_107 (sh_12_43 hS) ?_
    refine r_aload_n 12 dX12_closes_11 rfl rfl ?_
    refine g_I 15 dX12_closes_12 rfl rfl rfl fi_12_247 rfl ?_
    refine r_iconst 16 dX12_closes_15 rfl (InR_of rfl) ?_
    refine r_isub 17 dX12_closes_16 rfl o_1 ?_
    refine a_I 402 18 dX12_closes_17 rfl rfl rfl rfl o_2 rfl ?_
    refine r_iconst 19 dX12_closes_18 rfl (InR_of rfl) ?_
    refine r_icmp_eq 22 37 dX12_closes_19 rfl rfl (fun c => ?_) (fun c => ?_)
    · have h := h.1 (c)
      obtain ⟨⟨o_3, o_4⟩, h⟩ := h
      refine r_aload_n 38 dX12_closes_37 rfl rfl ?_
      refine r_dup 39 dX12_closes_38 rfl rfl ?_
      refine g_I 42 dX12_closes_39 rfl rfl rfl fi_12_247 rfl ?_
      refine r_iconst 43 dX12_closes_42 rfl (InR_of rfl) ?_
      refine r_isub 44 dX12_closes_43 rfl o_3 ?_
      refine p_I 47 dX12_closes_44 rfl rfl rfl rfl pf_12_247 (.inl rfl) rfl ?_
      refine r_aload_n 48 dX12_closes_47 rfl rfl ?_
      refine r_aload_n 49 dX12_closes_48 rfl rfl ?_
      refine g_R 52 dX12_closes_49 rfl rfl rfl fr_12_107 (mR_0 (sh_12_43 hS)) ?_
      refine r_aload_n 53 dX12_closes_52 rfl rfl ?_
      refine g_I 56 dX12_closes_53 rfl rfl rfl fi_12_247 (mI_0 (upI_s)) ?_
      refine a_I 402 57 dX12_closes_56 rfl rfl rfl rfl o_4 (mI_0 (upI_f rfl)) ?_
      refine r_aload_n 58 dX12_closes_57 rfl rfl ?_
      refine g_R 61 dX12_closes_58 rfl rfl rfl fr_12_110 (mR_0 (sh_12_44 hS)) ?_
      refine r_aload_n 62 dX12_closes_61 rfl rfl ?_
      refine g_I 65 dX12_closes_62 rfl rfl rfl fi_12_247 (mI_0 (upI_s)) ?_
      refine a_I 402 66 dX12_closes_65 rfl rfl rfl rfl o_4 (mI_0 (upI_f rfl)) ?_
      obtain ⟨M_5, hc_6, hS, h⟩ := h
      refine v_0 (ci := 12) (C := (RX12, TX12, 68)) [vI (M.1 80 0 ((M.1 3 0 38) - 1).toNat), vI (M.1 81 0 ((M.1 3 0 38) - 1).toNat)] [] 69 dX12_closes_66 rfl rfl rfl rfl rfl mo_X12_emits ml_12_263 rfl rfl hc_6 ?_
      obtain ⟨o_7, h⟩ := h
      refine r_aload_n 70 dX12_closes_69 rfl rfl ?_
      refine r_dup 71 dX12_closes_70 rfl rfl ?_
      refine g_I 74 dX12_closes_71 rfl rfl rfl fi_12_272 rfl ?_
      refine r_aload_n 75 dX12_closes_74 rfl rfl ?_
      refine g_R 78 dX12_closes_75 rfl rfl rfl fr_12_107 (sh_12_43 hS) ?_
      refine r_aload_n 79 dX12_closes_78 rfl rfl ?_
      refine g_I 82 dX12_closes_79 rfl rfl rfl fi_12_247 rfl ?_
      refine a_I 402 83 dX12_closes_82 rfl rfl rfl rfl o_7 rfl ?_
      refine r_iconst 84 dX12_closes_83 rfl (InR_of rfl) ?_
      have hJ_8 : Ex l G (d + 1) mX12_closes 92 [some (vR (some (3, 0)))] [vI (if (M_5.1 80 0 (M_5.1 3 0 38).toNat) = 3 then 1 else 0 : Int), vI (M_5.1 3 0 35), vR (some (3, 0))] M_5 r M' := by
        obtain ⟨⟨o_10, o_11⟩, h⟩ := h
        refine r_isub 93 dX12_closes_92 rfl o_10 ?_
        refine p_I 96 dX12_closes_93 rfl rfl rfl rfl pf_12_272 (.inl rfl) rfl ?_
        refine r_aload_n 97 dX12_closes_96 rfl rfl ?_
        refine r_dup 98 dX12_closes_97 rfl rfl ?_
        refine g_I 101 dX12_closes_98 rfl rfl rfl fi_12_280 (mI_0 (upI_i (by decide))) ?_
        refine r_aload_n 102 dX12_closes_101 rfl rfl ?_
        refine g_R 105 dX12_closes_102 rfl rfl rfl fr_12_107 (mR_0 (sh_12_43 hS)) ?_
        refine r_aload_n 106 dX12_closes_105 rfl rfl ?_
        refine g_I 109 dX12_closes_106 rfl rfl rfl fi_12_247 (mI_0 (upI_i (by decide))) ?_
        refine a_I 402 110 dX12_closes_109 rfl rfl rfl rfl o_11 (mI_0 (upI_f rfl)) ?_
        refine r_iconst 111 dX12_closes_110 rfl (InR_of rfl) ?_
        have hJ_12 : Ex l G (d + 1) mX12_closes 119 [some (vR (some (3, 0)))] [vI (if (M_5.1 80 0 (M_5.1 3 0 38).toNat) = 4 then 1 else 0 : Int), vI (M_5.1 3 0 36), vR (some (3, 0))] ((upI M_5.1 3 0 35 ((M_5.1 3 0 35) - (if (M_5.1 80 0 (M_5.1 3 0 38).toNat) = 3 then 1 else 0 : Int))), M_5.2.1, M_5.2.2) r M' := by
          obtain ⟨o_14, h⟩ := h
          refine r_isub 120 dX12_closes_119 rfl o_14 ?_
          refine p_I 123 dX12_closes_120 rfl rfl rfl rfl pf_12_280 (.inl rfl) rfl ?_
          refine r_goto 0 dX12_closes_123 rfl ?_
          exact h
        refine r_icmp_ne 114 118 dX12_closes_111 rfl rfl (fun c => ?_) (fun c => ?_)
        · have c_13 := c
          refine r_iconst 119 dX12_closes_118 rfl (InR_of rfl) ?_
          exact (Ex.at hJ_12 rfl (show [vI 0, vI (M_5.1 3 0 36), vR (some (3, 0))] = [vI (if (M_5.1 80 0 (M_5.1 3 0 38).toNat) = 4 then 1 else 0 : Int), vI (M_5.1 3 0 36), vR (some (3, 0))] by simp only [if_neg c_13]) rfl)
        · have c_13 := Decidable.not_not.mp c
          refine r_iconst 115 dX12_closes_114 rfl (InR_of rfl) ?_
          refine r_goto 119 dX12_closes_115 rfl ?_
          exact (Ex.at hJ_12 rfl (show [vI 1, vI (M_5.1 3 0 36), vR (some (3, 0))] = [vI (if (M_5.1 80 0 (M_5.1 3 0 38).toNat) = 4 then 1 else 0 : Int), vI (M_5.1 3 0 36), vR (some (3, 0))] by simp only [if_pos c_13]) rfl)
      refine r_icmp_ne 87 91 dX12_closes_84 rfl rfl (fun c => ?_) (fun c => ?_)
      · have c_9 := c
        refine r_iconst 92 dX12_closes_91 rfl (InR_of rfl) ?_
        exact (Ex.at hJ_8 rfl (show [vI 0, vI (M_5.1 3 0 35), vR (some (3, 0))] = [vI (if (M_5.1 80 0 (M_5.1 3 0 38).toNat) = 3 then 1 else 0 : Int), vI (M_5.1 3 0 35), vR (some (3, 0))] by simp only [if_neg c_9]) rfl)
      · have c_9 := Decidable.not_not.mp c
        refine r_iconst 88 dX12_closes_87 rfl (InR_of rfl) ?_
        refine r_goto 92 dX12_closes_88 rfl ?_
        exact (Ex.at hJ_8 rfl (show [vI 1, vI (M_5.1 3 0 35), vR (some (3, 0))] = [vI (if (M_5.1 80 0 (M_5.1 3 0 38).toNat) = 3 then 1 else 0 : Int), vI (M_5.1 3 0 35), vR (some (3, 0))] by simp only [if_pos c_9]) rfl)
    · have h := h.2 (c)
      obtain ⟨⟨o_15, o_16⟩, h⟩ := h
      refine r_aload_n 23 dX12_closes_22 rfl rfl ?_
      refine g_R 26 dX12_closes_23 rfl rfl rfl fr_12_107 (sh_12_43 hS) ?_
      refine r_aload_n 27 dX12_closes_26 rfl rfl ?_
      refine g_I 30 dX12_closes_27 rfl rfl rfl fi_12_247 rfl ?_
      refine r_iconst 31 dX12_closes_30 rfl (InR_of rfl) ?_
      refine r_isub 32 dX12_closes_31 rfl o_15 ?_
      refine a_I 402 33 dX12_closes_32 rfl rfl rfl rfl o_16 rfl ?_
      refine r_iconst 34 dX12_closes_33 rfl (InR_of rfl) ?_
      refine r_icmp_ne 37 126 dX12_closes_34 rfl rfl (fun c => ?_) (fun c => ?_)
      · have h := h.1 (c)
        exact r_vret dX12_closes_126 rfl h.1 h.2
      · have h := h.2 (Decidable.not_not.mp c)
        obtain ⟨⟨o_17, o_18⟩, h⟩ := h
        refine r_aload_n 38 dX12_closes_37 rfl rfl ?_
        refine r_dup 39 dX12_closes_38 rfl rfl ?_
        refine g_I 42 dX12_closes_39 rfl rfl rfl fi_12_247 rfl ?_
        refine r_iconst 43 dX12_closes_42 rfl (InR_of rfl) ?_
        refine r_isub 44 dX12_closes_43 rfl o_17 ?_
        refine p_I 47 dX12_closes_44 rfl rfl rfl rfl pf_12_247 (.inl rfl) rfl ?_
        refine r_aload_n 48 dX12_closes_47 rfl rfl ?_
        refine r_aload_n 49 dX12_closes_48 rfl rfl ?_
        refine g_R 52 dX12_closes_49 rfl rfl rfl fr_12_107 (mR_0 (sh_12_43 hS)) ?_
        refine r_aload_n 53 dX12_closes_52 rfl rfl ?_
        refine g_I 56 dX12_closes_53 rfl rfl rfl fi_12_247 (mI_0 (upI_s)) ?_
        refine a_I 402 57 dX12_closes_56 rfl rfl rfl rfl o_18 (mI_0 (upI_f rfl)) ?_
        refine r_aload_n 58 dX12_closes_57 rfl rfl ?_
        refine g_R 61 dX12_closes_58 rfl rfl rfl fr_12_110 (mR_0 (sh_12_44 hS)) ?_
        refine r_aload_n 62 dX12_closes_61 rfl rfl ?_
        refine g_I 65 dX12_closes_62 rfl rfl rfl fi_12_247 (mI_0 (upI_s)) ?_
        refine a_I 402 66 dX12_closes_65 rfl rfl rfl rfl o_18 (mI_0 (upI_f rfl)) ?_
        obtain ⟨M_19, hc_20, hS, h⟩ := h
        refine v_0 (ci := 12) (C := (RX12, TX12, 68)) [vI (M.1 80 0 ((M.1 3 0 38) - 1).toNat), vI (M.1 81 0 ((M.1 3 0 38) - 1).toNat)] [] 69 dX12_closes_66 rfl rfl rfl rfl rfl mo_X12_emits ml_12_263 rfl rfl hc_20 ?_
        obtain ⟨o_21, h⟩ := h
        refine r_aload_n 70 dX12_closes_69 rfl rfl ?_
        refine r_dup 71 dX12_closes_70 rfl rfl ?_
        refine g_I 74 dX12_closes_71 rfl rfl rfl fi_12_272 rfl ?_
        refine r_aload_n 75 dX12_closes_74 rfl rfl ?_
        refine g_R 78 dX12_closes_75 rfl rfl rfl fr_12_107 (sh_12_43 hS) ?_
        refine r_aload_n 79 dX12_closes_78 rfl rfl ?_
        refine g_I 82 dX12_closes_79 rfl rfl rfl fi_12_247 rfl ?_
        refine a_I 402 83 dX12_closes_82 rfl rfl rfl rfl o_21 rfl ?_
        refine r_iconst 84 dX12_closes_83 rfl (InR_of rfl) ?_
        have hJ_22 : Ex l G (d + 1) mX12_closes 92 [some (vR (some (3, 0)))] [vI (if (M_19.1 80 0 (M_19.1 3 0 38).toNat) = 3 then 1 else 0 : Int), vI (M_19.1 3 0 35), vR (some (3, 0))] M_19 r M' := by
          obtain ⟨⟨o_24, o_25⟩, h⟩ := h
          refine r_isub 93 dX12_closes_92 rfl o_24 ?_
          refine p_I 96 dX12_closes_93 rfl rfl rfl rfl pf_12_272 (.inl rfl) rfl ?_
          refine r_aload_n 97 dX12_closes_96 rfl rfl ?_
          refine r_dup 98 dX12_closes_97 rfl rfl ?_
          refine g_I 101 dX12_closes_98 rfl rfl rfl fi_12_280 (mI_0 (upI_i (by decide))) ?_
          refine r_aload_n 102 dX12_closes_101 rfl rfl ?_
          refine g_R 105 dX12_closes_102 rfl rfl rfl fr_12_107 (mR_0 (sh_12_43 hS)) ?_
          refine r_aload_n 106 dX12_closes_105 rfl rfl ?_
          refine g_I 109 dX12_closes_106 rfl rfl rfl fi_12_247 (mI_0 (upI_i (by decide))) ?_
          refine a_I 402 110 dX12_closes_109 rfl rfl rfl rfl o_25 (mI_0 (upI_f rfl)) ?_
          refine r_iconst 111 dX12_closes_110 rfl (InR_of rfl) ?_
          have hJ_26 : Ex l G (d + 1) mX12_closes 119 [some (vR (some (3, 0)))] [vI (if (M_19.1 80 0 (M_19.1 3 0 38).toNat) = 4 then 1 else 0 : Int), vI (M_19.1 3 0 36), vR (some (3, 0))] ((upI M_19.1 3 0 35 ((M_19.1 3 0 35) - (if (M_19.1 80 0 (M_19.1 3 0 38).toNat) = 3 then 1 else 0 : Int))), M_19.2.1, M_19.2.2) r M' := by
            obtain ⟨o_28, h⟩ := h
            refine r_isub 120 dX12_closes_119 rfl o_28 ?_
            refine p_I 123 dX12_closes_120 rfl rfl rfl rfl pf_12_280 (.inl rfl) rfl ?_
            refine r_goto 0 dX12_closes_123 rfl ?_
            exact h
          refine r_icmp_ne 114 118 dX12_closes_111 rfl rfl (fun c => ?_) (fun c => ?_)
          · have c_27 := c
            refine r_iconst 119 dX12_closes_118 rfl (InR_of rfl) ?_
            exact (Ex.at hJ_26 rfl (show [vI 0, vI (M_19.1 3 0 36), vR (some (3, 0))] = [vI (if (M_19.1 80 0 (M_19.1 3 0 38).toNat) = 4 then 1 else 0 : Int), vI (M_19.1 3 0 36), vR (some (3, 0))] by simp only [if_neg c_27]) rfl)
          · have c_27 := Decidable.not_not.mp c
            refine r_iconst 115 dX12_closes_114 rfl (InR_of rfl) ?_
            refine r_goto 119 dX12_closes_115 rfl ?_
            exact (Ex.at hJ_26 rfl (show [vI 1, vI (M_19.1 3 0 36), vR (some (3, 0))] = [vI (if (M_19.1 80 0 (M_19.1 3 0 38).toNat) = 4 then 1 else 0 : Int), vI (M_19.1 3 0 36), vR (some (3, 0))] by simp only [if_pos c_27]) rfl)
        refine r_icmp_ne 87 91 dX12_closes_84 rfl rfl (fun c => ?_) (fun c => ?_)
        · have c_23 := c
          refine r_iconst 92 dX12_closes_91 rfl (InR_of rfl) ?_
          exact (Ex.at hJ_22 rfl (show [vI 0, vI (M_19.1 3 0 35), vR (some (3, 0))] = [vI (if (M_19.1 80 0 (M_19.1 3 0 38).toNat) = 3 then 1 else 0 : Int), vI (M_19.1 3 0 35), vR (some (3, 0))] by simp only [if_neg c_23]) rfl)
        · have c_23 := Decidable.not_not.mp c
          refine r_iconst 88 dX12_closes_87 rfl (InR_of rfl) ?_
          refine r_goto 92 dX12_closes_88 rfl ?_
          exact (Ex.at hJ_22 rfl (show [vI 1, vI (M_19.1 3 0 35), vR (some (3, 0))] = [vI (if (M_19.1 80 0 (M_19.1 3 0 38).toNat) = 3 then 1 else 0 : Int), vI (M_19.1 3 0 35), vR (some (3, 0))] by simp only [if_pos c_23]) rfl)

theorem KX12_fails {x1 x2 : Int} (h : Rg sl t n q e o dp ti cn s M.1) (h1 : 0 ≤ x1 ∧ x1 ≤ 3) (h2 : 0 ≤ x2 ∧ x2 ≤ 400) : ∃ I', Cl l G d mX12_fails [vR (some (3, 0)), vI x1, vI x2] M none (I', M.2.1, M.2.2) ∧ Rg sl t n q (if e = 0 then 1 + 8 * x2 + x1 else e) o dp ti cn s I' ∧ frV sl M.1 I' := by
  have h31 : M.1 3 0 31 = e := h.2.2.2.1
  by_cases he : e = 0
  · refine ⟨_, xX12_fails_0 ⟨fun c => absurd (h31.trans he) c, fun _ => ⟨by unfold InR; omega, rfl, rfl⟩⟩, h.md (by omega) rfl ?_ rfl rfl rfl, frV.md (by omega)⟩
    rw [if_pos rfl, if_pos he]
  · refine ⟨M.1, xX12_fails_0 ⟨fun _ => ⟨rfl, rfl⟩, fun c => absurd (h31.symm.trans c) he⟩, ?_, frV.rf⟩
    rw [if_neg he]; exact h
theorem KX12_emits {x1 x2 : Int} (hS : Sh M.2.1) (h : Rg sl t n q e o dp ti cn s M.1) (ho : o.length < 400) : ∃ I', Cl l G d mX12_emits [vR (some (3, 0)), vI x1, vI x2] M none (I', M.2.1, M.2.2) ∧ Rg sl t n q e (o ++ [(x1, x2)]) dp ti cn s I' ∧ frV sl M.1 I' ∧ ∀ i, I' 80 0 i = M.1 80 0 i := by
  obtain ⟨g1, g2, g3, g4, g5, g6, g7, g8, g9, g10, g11⟩ := h
  have e0 : (400 * M.1 3 0 32 + M.1 3 0 34).toNat = 400 * sl + o.length := by omega
  refine ⟨_, xX12_emits_0 hS ⟨⟨by unfold InR; omega, by unfold InR; omega, by omega, by unfold InR; omega⟩, rfl, rfl⟩, ?_, ?_, fun i => by rw [upI_ne (by omega), upI_ne (by omega), upI_ne (by omega)]⟩
  · rw [e0]
    refine ⟨((g1.up (by omega)).up (by omega)).up (by omega), ⟨?_, g2.2⟩, ?_, ?_, ?_, ?_, ?_, ?_, ?_, ?_, ?_⟩
    · rw [upI_ne (by omega), upI_ne (by omega), upI_ne (by omega)]; exact g2.1
    · rw [upI_ne (by omega), upI_ne (by omega), upI_ne (by omega)]; exact g3
    · rw [upI_ne (by omega), upI_ne (by omega), upI_ne (by omega)]; exact g4
    · rw [upI_s, g5]; simp
    · rw [upI_ne (by omega), upI_ne (by omega), upI_ne (by omega)]; exact g6
    · rw [upI_ne (by omega), upI_ne (by omega), upI_ne (by omega)]; exact g7
    · rw [upI_ne (by omega), upI_ne (by omega), upI_ne (by omega)]; exact g8
    · rw [upI_ne (by omega), upI_ne (by omega), upI_ne (by omega)]; exact g9
    · intro k hk
      have hk' : k < o.length + 1 := by simpa using hk
      by_cases ek : k = o.length
      · subst ek
        rw [getD_last]
        refine ⟨?_, ?_⟩
        · rw [upI_ne (by omega), upI_ne (by omega), upI_s]
        · rw [upI_ne (by omega), upI_s]
      · have : (o ++ [(x1, x2)]).getD k (0, 0) = o.getD k (0, 0) := by
          rw [List.getD_eq_getElem?_getD, List.getD_eq_getElem?_getD, List.getElem?_append_left (by omega)]
        rw [this]
        obtain ⟨a, b⟩ := g10 k (by omega)
        refine ⟨?_, ?_⟩
        · rw [upI_ne (by omega), upI_ne (by omega), upI_ne (by omega)]; exact a
        · rw [upI_ne (by omega), upI_ne (by omega), upI_ne (by omega)]; exact b
    · exact g11.mono fun k hk => ⟨by rw [upI_ne (by omega), upI_ne (by omega), upI_ne (by omega)], by rw [upI_ne (by omega), upI_ne (by omega), upI_ne (by omega)]⟩
  · rw [e0]
    intro f k i hn
    rw [upI_ne (by omega), upI_ne (by omega), upI_ne (by omega)]
theorem KX12_opens {x1 x2 : Int} (hS : Sh M.2.1) (h : Rg sl t n q e o dp ti cn s M.1) (ho : s.length < 402) : ∃ I', Cl l G d mX12_opens [vR (some (3, 0)), vI x1, vI x2] M none (I', M.2.1, M.2.2) ∧ Rg sl t n q e o dp ti cn ((x1, x2) :: s) I' ∧ frV sl M.1 I' := by
  obtain ⟨g1, g2, g3, g4, g5, g6, g7, g8, g9, g10, g11⟩ := h
  have e0 : (M.1 3 0 38).toNat = s.length := by omega
  refine ⟨_, xX12_opens_0 hS ⟨⟨by omega, by unfold InR; omega⟩, rfl, rfl⟩, ?_, ?_⟩
  · rw [e0]
    refine ⟨((g1.up (by omega)).up (by omega)).up (by omega), ⟨?_, g2.2⟩, ?_, ?_, ?_, ?_, ?_, ?_, ?_, ?_, ?_, ?_, ?_⟩
    · rw [upI_ne (by omega), upI_ne (by omega), upI_ne (by omega)]; exact g2.1
    · rw [upI_ne (by omega), upI_ne (by omega), upI_ne (by omega)]; exact g3
    · rw [upI_ne (by omega), upI_ne (by omega), upI_ne (by omega)]; exact g4
    · rw [upI_ne (by omega), upI_ne (by omega), upI_ne (by omega)]; exact g5
    · rw [upI_ne (by omega), upI_ne (by omega), upI_ne (by omega)]; exact g6
    · rw [upI_ne (by omega), upI_ne (by omega), upI_ne (by omega)]; exact g7
    · rw [upI_ne (by omega), upI_ne (by omega), upI_ne (by omega)]; exact g8
    · rw [upI_s, g9]; simp
    · intro k hk
      obtain ⟨a, b⟩ := g10 k hk
      exact ⟨by rw [upI_ne (by omega), upI_ne (by omega), upI_ne (by omega)]; exact a, by rw [upI_ne (by omega), upI_ne (by omega), upI_ne (by omega)]; exact b⟩
    · rw [upI_ne (by omega), upI_ne (by omega), upI_s]
    · rw [upI_ne (by omega), upI_s]
    · exact g11.mono fun k hk => ⟨by rw [upI_ne (by omega), upI_ne (by omega), upI_ne (by omega)], by rw [upI_ne (by omega), upI_ne (by omega), upI_ne (by omega)]⟩
  · intro f k i hn
    rw [upI_ne (by omega), upI_ne (by omega), upI_ne (by omega)]
theorem KX12_counts (h : Rg sl t n q e o dp ti cn s M.1) (hq : q ≤ 400) (hc : 0 ≤ cn ∧ cn ≤ 30) : ∃ I', Cl l G (d + 1) mX12_counts [vR (some (3, 0))] M none (I', M.2.1, M.2.2) ∧ Rg sl t n q (if e = 0 ∧ cn = 30 then 1 + 8 * (q : Int) + 3 else e) o dp ti (cn + 1) s I' ∧ frV sl M.1 I' := by
  have h37 : M.1 3 0 37 = cn := h.2.2.2.2.2.2.2.1
  have h30 : M.1 3 0 30 = (q : Int) := h.2.2.1
  by_cases he : cn = 30
  · obtain ⟨I1, c1, k1, f1⟩ := KX12_fails (l := l) (G := G) (d := d) (x1 := 3) (x2 := (q : Int)) h (by omega) (by omega)
    have h37' : I1 3 0 37 = cn := k1.2.2.2.2.2.2.2.1
    refine ⟨upI I1 3 0 37 (I1 3 0 37 + 1), xX12_counts_0 ⟨fun c => absurd (h37.trans he) c, fun _ => ⟨(I1, M.2.1, M.2.2), by rw [h30]; exact c1, by unfold InR; dsimp only; omega, rfl, rfl⟩⟩, ?_, f1.tr (frV.md (by omega))⟩
    refine k1.md (by omega) rfl ?_ rfl rfl ?_
    · rw [if_neg (by omega)]
      by_cases g : e = 0
      · rw [if_pos g, if_pos ⟨g, he⟩]
      · rw [if_neg g, if_neg (fun h => g h.1)]
    · rw [if_pos rfl, h37']
  · refine ⟨upI M.1 3 0 37 (M.1 3 0 37 + 1), xX12_counts_0 ⟨fun _ => ⟨by unfold InR; omega, rfl, rfl⟩, fun c => absurd (h37.symm.trans c) he⟩, ?_, frV.md (by omega)⟩
    refine h.md (by omega) rfl ?_ rfl rfl ?_
    · rw [if_neg (by omega), if_neg (fun h => he h.2)]
    · rw [if_pos rfl, h37]
theorem KX12_gives {most : Int} : ∀ {s o : List (Int × Int)} {M : Mem}, Sh M.2.1 → Rg sl t n q e o dp ti cn s M.1 → o.length + s.length ≤ 400 → ∃ I', Cl l G (d + 1) mX12_gives [vR (some (3, 0)), vI most] M none (I', M.2.1, M.2.2) ∧ Rg sl t n q e (o ++ gvO most s) dp ti cn (gvS most s) I' ∧ frV sl M.1 I' := by
  intro s
  induction s with
  | nil =>
    intro o M hS h hl
    have h38 : M.1 3 0 38 = (0 : Int) := h.2.2.2.2.2.2.2.2.1
    refine ⟨M.1, xX12_gives_0 hS ⟨fun _ => ⟨rfl, rfl⟩, fun c => by omega⟩, ?_, frV.rf⟩
    rw [show o ++ gvO most [] = o from List.append_nil o]
    exact h
  | cons x s ih =>
    intro o M hS h hl
    have h38 : M.1 3 0 38 = ((s.length + 1 : Nat) : Int) := h.2.2.2.2.2.2.2.2.1
    have hop := h.2.2.2.2.2.2.2.2.2.2
    have hl' : o.length + (s.length + 1) ≤ 400 := hl
    have e0 : (M.1 3 0 38 - 1).toNat = s.length := by omega
    have ex := hop.1
    by_cases c1 : x.1 = 7
    · refine ⟨M.1, xX12_gives_0 hS ⟨fun c => by omega, fun _ => ⟨⟨by unfold InR; omega, by omega⟩, fun _ => ⟨rfl, rfl⟩, fun c => absurd (by rw [e0, ex]; exact c1) c⟩⟩, ?_, frV.rf⟩
      rw [show gvO most (x :: s) = [] by unfold gvO; rw [if_neg (fun h => h.1 c1)], show gvS most (x :: s) = x :: s by unfold gvS; rw [if_neg (fun h => h.1 c1)], List.append_nil]
      exact h
    · by_cases c2 : x.1 ≤ most
      · obtain ⟨I1, k1, k2, k3, -⟩ := KX12_emits (l := l) (G := G) (d := d) (M := (upI M.1 3 0 38 (M.1 3 0 38 - 1), M.2.1, M.2.2)) (x1 := x.1) (x2 := 0) hS (h.pop (by omega)) (by omega)
        obtain ⟨I2, j1, j2, j3⟩ := ih (o := o ++ [(x.1, 0)]) (M := (I1, M.2.1, M.2.2)) hS k2 (by simp; omega)
        refine ⟨I2, xX12_gives_0 hS ⟨fun c => by omega, fun _ => ⟨⟨by unfold InR; omega, by omega⟩, fun c => absurd (by rw [e0, ex] at c; exact c) c1, fun _ => ⟨⟨by unfold InR; omega, by omega⟩, fun c => absurd c2 (by rw [e0, ex] at c; omega), fun _ => ⟨⟨by unfold InR; omega, by omega⟩, (I1, M.2.1, M.2.2), by rw [e0, ex]; exact k1, j1⟩⟩⟩⟩, ?_, ((frV.md (by omega)).tr k3).tr j3⟩
        rw [show gvO most (x :: s) = (x.1, 0) :: gvO most s by show (if _ then _ else _) = _; rw [if_pos ⟨c1, c2⟩], show gvS most (x :: s) = gvS most s by show (if _ then _ else _) = _; rw [if_pos ⟨c1, c2⟩], List.append_cons]
        exact j2
      · refine ⟨M.1, xX12_gives_0 hS ⟨fun c => by omega, fun _ => ⟨⟨by unfold InR; omega, by omega⟩, fun c => absurd (by rw [e0, ex] at c; exact c) c1, fun _ => ⟨⟨by unfold InR; omega, by omega⟩, fun _ => ⟨rfl, rfl⟩, fun c => absurd (show most < _ by rw [e0, ex]; omega) c⟩⟩⟩, ?_, frV.rf⟩
        rw [show gvO most (x :: s) = [] by unfold gvO; rw [if_neg (fun h => c2 h.2)], show gvS most (x :: s) = x :: s by unfold gvS; rw [if_neg (fun h => c2 h.2)], List.append_nil]
        exact h
end RW2
