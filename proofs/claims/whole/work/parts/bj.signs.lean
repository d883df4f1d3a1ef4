/-! SIGNS on the class: fail, put, countFact, leave, look -/
section CW2
variable {l : Launch} {G : Gt} {d : Nat} {M : Mem} {r : Option Vl} {M' : Mem} {t : Tp} {n st sp fa : Nat} {fl x1 : Int} {o : List (Int × Int)} {I I' I'' : IM}
/-- the reader: start, stop, fault, facts, signs -/
def Cg (t : Tp) (n st sp : Nat) (fl : Int) (fa : Nat) (o : List (Int × Int)) (I : IM) : Prop := CTp t n I ∧ I 12 0 2 = (st : Int) ∧ I 12 0 3 = (sp : Int) ∧ I 12 0 4 = fl ∧ I 12 0 5 = (fa : Int) ∧ I 12 0 9 = (o.length : Int) ∧ ∀ k, k < o.length → I 22 0 k = sgn (o.getD k (0, 0)).1 (o.getD k (0, 0)).2
def frY (I I' : IM) : Prop := ∀ f k i, ¬ (k = 0 ∧ ((f = 12 ∧ (i = 2 ∨ i = 3 ∨ i = 4 ∨ i = 5 ∨ i = 9)) ∨ f = 22)) → I' f k i = I f k i
theorem frY.rf : frY I I := fun _ _ _ _ => rfl
theorem frY.tr (h : frY I I') (h' : frY I' I'') : frY I I'' := fun f k i hn => (h' f k i hn).trans (h f k i hn)
theorem frY.up {f i : Nat} {v : Int} (h : (f = 12 ∧ (i = 2 ∨ i = 3 ∨ i = 4 ∨ i = 5 ∨ i = 9)) ∨ f = 22) : frY I (upI I f 0 i v) := fun f' k' i' hn => upI_ne (by omega)
theorem Cg.md {i : Nat} {v : Int} {st' sp' fa' : Nat} {fl' : Int} (h : Cg t n st sp fl fa o I) (hi : i = 2 ∨ i = 3 ∨ i = 4 ∨ i = 5)
    (h2 : (if i = 2 then v else (st : Int)) = (st' : Int)) (h3 : (if i = 3 then v else (sp : Int)) = (sp' : Int)) (h4 : (if i = 4 then v else fl) = fl') (h5 : (if i = 5 then v else (fa : Int)) = (fa' : Int)) : Cg t n st' sp' fl' fa' o (upI I 12 0 i v) := by
  obtain ⟨g1, g2, g3, g4, g5, g6, g7⟩ := h
  refine ⟨g1.up (by omega), ?_, ?_, ?_, ?_, by rw [upI_ne (by omega)]; exact g6, fun k hk => by rw [upI_ne (by omega)]; exact g7 k hk⟩
  · rw [upI_c, ← h2, g2]; rcases hi with rfl | rfl | rfl | rfl <;> rfl
  · rw [upI_c, ← h3, g3]; rcases hi with rfl | rfl | rfl | rfl <;> rfl
  · rw [upI_c, ← h4, g4]; rcases hi with rfl | rfl | rfl | rfl <;> rfl
  · rw [upI_c, ← h5, g5]; rcases hi with rfl | rfl | rfl | rfl <;> rfl
set_option maxRecDepth 4000 in
theorem xX2_leave_0 {l : Launch} {G : Gt} {d : Nat} {M M' : Mem} {r : Option Vl}  (h : 
    r = none ∧ M' = ((upI M.1 12 0 3 (M.1 12 0 2)), M.2.1, M.2.2)) : Cl l G d mX2_leave [vR (some (12, 0))] M r M' := by
  show Ex l G d mX2_leave 0 [some (vR (some (12, 0)))] [] M r M'
  refine r_aload_n 1 dX2_leave_0 rfl rfl ?_
  refine r_aload_n 2 dX2_leave_1 rfl rfl ?_
  refine g_I 5 dX2_leave_2 rfl rfl rfl fi_2_58 rfl ?_
  refine p_I 8 dX2_leave_5 rfl rfl rfl rfl pf_2_28 (.inl rfl) rfl ?_
  exact r_vret dX2_leave_8 rfl h.1 h.2

set_option maxRecDepth 4000 in
theorem xX2_fail_0 {l : Launch} {G : Gt} {d : Nat} {M M' : Mem} {r : Option Vl} {x1 : Int} (h : 
    (¬ ((M.1 12 0 4) = 0) → r = none ∧ M' = M) ∧ ((M.1 12 0 4) = 0 → (InR (8 * (M.1 12 0 2)) ∧ InR (1 + (8 * (M.1 12 0 2))) ∧ InR ((1 + (8 * (M.1 12 0 2))) + x1)) ∧ r = none ∧ M' = ((upI M.1 12 0 4 ((1 + (8 * (M.1 12 0 2))) + x1)), M.2.1, M.2.2))) : Cl l G d mX2_fail [vR (some (12, 0)), vI x1] M r M' := by
  show Ex l G d mX2_fail 0 [some (vR (some (12, 0))), some (vI x1)] [] M r M'
  refine r_aload_n 1 dX2_fail_0 rfl rfl ?_
  refine g_I 4 dX2_fail_1 rfl rfl rfl fi_2_31 rfl ?_
  refine r_if_ne 7 22 dX2_fail_4 rfl rfl (fun c => ?_) (fun c => ?_)
  · have h := h.1 (c)
    exact r_vret dX2_fail_22 rfl h.1 h.2
  · have h := h.2 (Decidable.not_not.mp c)
    obtain ⟨⟨o_1, o_2, o_3⟩, h⟩ := h
    refine r_aload_n 8 dX2_fail_7 rfl rfl ?_
    refine r_iconst 9 dX2_fail_8 rfl (InR_of rfl) ?_
    refine r_bipush 11 dX2_fail_9 rfl rfl ?_
    refine r_aload_n 12 dX2_fail_11 rfl rfl ?_
    refine g_I 15 dX2_fail_12 rfl rfl rfl fi_2_58 rfl ?_
    refine r_imul 16 dX2_fail_15 rfl o_1 ?_
    refine r_iadd 17 dX2_fail_16 rfl o_2 ?_
    refine r_iload_n 18 dX2_fail_17 rfl rfl ?_
    refine r_iadd 19 dX2_fail_18 rfl o_3 ?_
    refine p_I 22 dX2_fail_19 rfl rfl rfl rfl pf_2_31 (.inl rfl) rfl ?_
    exact r_vret dX2_fail_22 rfl h.1 h.2

set_option maxRecDepth 4000 in
theorem xX2_put_0 {l : Launch} {G : Gt} {d : Nat} {M M' : Mem} {r : Option Vl} {x1 : Int} (hS : Sh M.2.1) (h : 
    (¬ ((M.1 12 0 4) = 0) → r = none ∧ M' = M) ∧ ((M.1 12 0 4) = 0 → (400 ≤ (M.1 12 0 9) → r = none ∧ M' = M) ∧ (¬ (400 ≤ (M.1 12 0 9)) → ((0 ≤ (M.1 12 0 9) ∧ (M.1 12 0 9) < 400) ∧ InR ((M.1 12 0 9) + 1)) ∧ r = none ∧ M' = ((upI (upI M.1 22 0 (M.1 12 0 9).toNat x1) 12 0 9 ((M.1 12 0 9) + 1)), M.2.1, M.2.2)))) : Cl l G d mX2_put [vR (some (12, 0)), vI x1] M r M' := by
  show Ex l G d mX2_put 0 [some (vR (some (12, 0))), some (vI x1)] [] M r M'
  refine r_aload_n 1 dX2_put_0 rfl rfl ?_
  refine g_I 4 dX2_put_1 rfl rfl rfl fi_2_31 rfl ?_
  refine r_if_ne 7 37 dX2_put_4 rfl rfl (fun c => ?_) (fun c => ?_)
  · have h := h.1 (c)
    exact r_vret dX2_put_37 rfl h.1 h.2
  · have h := h.2 (Decidable.not_not.mp c)
    refine r_aload_n 8 dX2_put_7 rfl rfl ?_
    refine g_I 11 dX2_put_8 rfl rfl rfl fi_2_37 rfl ?_
    refine r_sipush 14 dX2_put_11 rfl rfl ?_
    refine r_icmp_ge 17 37 dX2_put_14 rfl rfl (fun c => ?_) (fun c => ?_)
    · have h := h.1 (c)
      exact r_vret dX2_put_37 rfl h.1 h.2
    · have h := h.2 (c)
      obtain ⟨⟨o_1, o_2⟩, h⟩ := h
      refine r_aload_n 18 dX2_put_17 rfl rfl ?_
      refine g_R 21 dX2_put_18 rfl rfl rfl fr_2_15 (sh_2_8 hS) ?_
      refine r_aload_n 22 dX2_put_21 rfl rfl ?_
      refine g_I 25 dX2_put_22 rfl rfl rfl fi_2_37 rfl ?_
      refine r_iload_n 26 dX2_put_25 rfl rfl ?_
      refine s_I 400 27 dX2_put_26 rfl rfl (by decide) rfl rfl o_1 ?_
      refine r_aload_n 28 dX2_put_27 rfl rfl ?_
      refine r_dup 29 dX2_put_28 rfl rfl ?_
      refine g_I 32 dX2_put_29 rfl rfl rfl fi_2_37 (mI_0 (upI_f rfl)) ?_
      refine r_iconst 33 dX2_put_32 rfl (InR_of rfl) ?_
      refine r_iadd 34 dX2_put_33 rfl o_2 ?_
      refine p_I 37 dX2_put_34 rfl rfl rfl rfl pf_2_37 (.inl rfl) rfl ?_
      exact r_vret dX2_put_37 rfl h.1 h.2

set_option maxRecDepth 4000 in
theorem xX2_countFact_0 {l : Launch} {G : Gt} {d : Nat} {M M' : Mem} {r : Option Vl}  (h : 
    (InR ((M.1 12 0 5) + 1)) ∧ ((((M.1 12 0 5) + 1) ≤ 30 → r = none ∧ M' = ((upI M.1 12 0 5 ((M.1 12 0 5) + 1)), M.2.1, M.2.2)) ∧ (¬ (((M.1 12 0 5) + 1) ≤ 30) → ∃ (M_2 : Mem), Cl l G d mX2_fail [vR (some (12, 0)), vI 3] ((upI M.1 12 0 5 ((M.1 12 0 5) + 1)), M.2.1, M.2.2) none M_2 ∧ r = none ∧ M' = M_2))) : Cl l G (d + 1) mX2_countFact [vR (some (12, 0))] M r M' := by
  show Ex l G (d + 1) mX2_countFact 0 [some (vR (some (12, 0)))] [] M r M'
  obtain ⟨o_1, h⟩ := h
  refine r_aload_n 1 dX2_countFact_0 rfl rfl ?_
  refine r_dup 2 dX2_countFact_1 rfl rfl ?_
  refine g_I 5 dX2_countFact_2 rfl rfl rfl fi_2_34 rfl ?_
  refine r_iconst 6 dX2_countFact_5 rfl (InR_of rfl) ?_
  refine r_iadd 7 dX2_countFact_6 rfl o_1 ?_
  refine p_I 10 dX2_countFact_7 rfl rfl rfl rfl pf_2_34 (.inl rfl) rfl ?_
  refine r_aload_n 11 dX2_countFact_10 rfl rfl ?_
  refine g_I 14 dX2_countFact_11 rfl rfl rfl fi_2_34 (mI_0 (upI_s)) ?_
  refine r_bipush 16 dX2_countFact_14 rfl rfl ?_
  refine r_icmp_le 19 24 dX2_countFact_16 rfl rfl (fun c => ?_) (fun c => ?_)
  · have h := h.1 (c)
    exact r_vret dX2_countFact_24 rfl h.1 h.2
  · have h := h.2 (c)
    refine r_aload_n 20 dX2_countFact_19 rfl rfl ?_
    refine r_iconst 21 dX2_countFact_20 rfl (InR_of rfl) ?_
    obtain ⟨M_2, hc_3, h⟩ := h
    refine v_0 (ci := 2) (C := (RX2, TX2, 10)) [vI 3] [] 24 dX2_countFact_21 rfl rfl rfl rfl rfl mo_X2_fail ml_2_61 rfl rfl hc_3 ?_
    exact r_vret dX2_countFact_24 rfl h.1 h.2

theorem KX2_leave (h : Cg t n st sp fl fa o M.1) : ∃ I', Cl l G d mX2_leave [vR (some (12, 0))] M none (I', M.2.1, M.2.2) ∧ Cg t n st st fl fa o I' ∧ frY M.1 I' := by
  have h2 : M.1 12 0 2 = (st : Int) := h.2.1
  exact ⟨_, xX2_leave_0 ⟨rfl, rfl⟩, h.md (by omega) rfl (by rw [if_pos rfl]; exact h2) rfl rfl, frY.up (by omega)⟩
theorem KX2_fail (h : Cg t n st sp fl fa o M.1) (hs : st ≤ 400) (hx : 0 ≤ x1 ∧ x1 ≤ 3) : ∃ I', Cl l G d mX2_fail [vR (some (12, 0)), vI x1] M none (I', M.2.1, M.2.2) ∧ Cg t n st sp (if fl = 0 then 1 + 8 * (st : Int) + x1 else fl) fa o I' ∧ frY M.1 I' := by
  have h2 : M.1 12 0 2 = (st : Int) := h.2.1
  have h4 : M.1 12 0 4 = fl := h.2.2.2.1
  by_cases c : fl = 0
  · refine ⟨_, xX2_fail_0 ⟨fun c' => absurd (h4.trans c) c', fun _ => ⟨by unfold InR; omega, rfl, rfl⟩⟩, h.md (by omega) rfl rfl ?_ rfl, frY.up (by omega)⟩
    rw [if_pos rfl, if_pos c, h2]
  · refine ⟨M.1, xX2_fail_0 ⟨fun _ => ⟨rfl, rfl⟩, fun c' => absurd (h4.symm.trans c') c⟩, ?_, frY.rf⟩
    rw [if_neg c]; exact h
theorem KX2_put (hS : Sh M.2.1) {x : Int × Int} (h : Cg t n st sp 0 fa o M.1) (ho : o.length < 400) (hx : x1 = sgn x.1 x.2) : ∃ I', Cl l G d mX2_put [vR (some (12, 0)), vI x1] M none (I', M.2.1, M.2.2) ∧ Cg t n st sp 0 fa (o ++ [x]) I' ∧ frY M.1 I' := by
  obtain ⟨g1, g2, g3, g4, g5, g6, g7⟩ := h
  have e0 : (M.1 12 0 9).toNat = o.length := by omega
  refine ⟨upI (upI M.1 22 0 o.length x1) 12 0 9 (M.1 12 0 9 + 1), xX2_put_0 hS ⟨fun c => absurd g4 c, fun _ => ⟨fun c => by omega, fun _ => ⟨⟨by omega, by unfold InR; omega⟩, rfl, by rw [e0]⟩⟩⟩, ?_, (frY.up (by omega)).tr (frY.up (by omega))⟩
  refine ⟨(g1.up (by omega)).up (by omega), ?_, ?_, ?_, ?_, ?_, fun k hk => ?_⟩
  · rw [upI_ne (by omega), upI_ne (by omega)]; exact g2
  · rw [upI_ne (by omega), upI_ne (by omega)]; exact g3
  · rw [upI_ne (by omega), upI_ne (by omega)]; exact g4
  · rw [upI_ne (by omega), upI_ne (by omega)]; exact g5
  · rw [upI_s, g6]; simp
  · have hk' : k < o.length + 1 := by simpa using hk
    by_cases ek : k = o.length
    · subst ek
      rw [getD_last, upI_ne (by omega), upI_s]; exact hx
    · have : (o ++ [x]).getD k (0, 0) = o.getD k (0, 0) := by
        rw [List.getD_eq_getElem?_getD, List.getD_eq_getElem?_getD, List.getElem?_append_left (by omega)]
      rw [this, upI_ne (by omega), upI_ne (by omega)]
      exact g7 k (by omega)
theorem put_no (hS : Sh M.2.1) (h : Cg t n st sp fl fa o M.1) (hf : ¬ fl = 0) : Cl l G d mX2_put [vR (some (12, 0)), vI x1] M none M := xX2_put_0 hS ⟨fun _ => ⟨rfl, rfl⟩, fun c => absurd (h.2.2.2.1.symm.trans c) hf⟩
theorem KX2_countFact (h : Cg t n st sp 0 fa o M.1) (hs : st ≤ 400) (hf : fa ≤ 30) : ∃ I', Cl l G (d + 1) mX2_countFact [vR (some (12, 0))] M none (I', M.2.1, M.2.2) ∧ Cg t n st sp (if fa = 30 then 1 + 8 * (st : Int) + 3 else 0) (fa + 1) o I' ∧ frY M.1 I' := by
  have h5 : M.1 12 0 5 = (fa : Int) := h.2.2.2.2.1
  have g1 : Cg t n st sp 0 (fa + 1) o (upI M.1 12 0 5 (M.1 12 0 5 + 1)) := h.md (by omega) rfl rfl rfl (by rw [if_pos rfl]; omega)
  by_cases c : fa = 30
  · obtain ⟨I1, k1, k2, k3⟩ := KX2_fail (l := l) (G := G) (d := d) (M := (upI M.1 12 0 5 (M.1 12 0 5 + 1), M.2.1, M.2.2)) (x1 := 3) g1 hs (by omega)
    refine ⟨I1, xX2_countFact_0 ⟨by unfold InR; omega, fun c => by omega, fun _ => ⟨_, k1, rfl, rfl⟩⟩, ?_, (frY.up (by omega)).tr k3⟩
    rw [if_pos c]; rw [if_pos rfl] at k2; exact k2
  · refine ⟨_, xX2_countFact_0 ⟨by unfold InR; omega, fun _ => ⟨rfl, rfl⟩, fun c' => by omega⟩, ?_, frY.up (by omega)⟩
    rw [if_neg c]; exact g1
theorem look_g (hX : M.2.1 12 0 0 = some (16, 0)) (hStr : cCnt M.2.2 1 = 28) (h : Cg t n st sp fl fa o M.1) (hn : sp ≤ n) : ∃ I', Cl l G (d + 6) mX2_look [vR (some (12, 0))] M (some (vI (lkS t n (bl t n sp)))) (I', M.2.1, M.2.2) ∧ Cg t n (bl t n sp) (lkE t n (bl t n sp)) fl fa o I' ∧ frY M.1 I' := by
  refine ⟨_, KX2_look hX hStr h.1 h.2.2.1 hn, ?_, (frY.up (by omega)).tr (frY.up (by omega))⟩
  exact (h.md (i := 2) (st' := bl t n sp) (by omega) (by rw [if_pos rfl]) rfl rfl rfl).md (by omega) rfl (by rw [if_pos rfl]) rfl rfl
end CW2
