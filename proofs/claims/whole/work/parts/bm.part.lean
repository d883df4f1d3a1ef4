/-! readPart on the class: the loop -/
section CW5
variable {l : Launch} {G : Gt} {d : Nat} {M : Mem} {r : Option Vl} {M' : Mem} {t : Tp} {n p : Nat} {I I' I'' : IM} {c c' : Cf} {S0 : List (Int × Int)} {dp ti : Nat}
set_option maxRecDepth 4000 in
theorem xX2_readPart_0 {l : Launch} {G : Gt} {d : Nat} {M M' : Mem} {r : Option Vl} {x1 : Int} {x2 : Int} (h : 
    ∃ (M_1 : Mem), Cl l G d mX2_readFact [vR (some (12, 0)), vI x1, vI x2] M none M_1 ∧ Ex l G (d + 1) mX2_readPart 8 [some (vR (some (12, 0))), some (vI x1), some (vI x2), some (vI 1)] [] M_1 r M') : Cl l G (d + 1) mX2_readPart [vR (some (12, 0)), vI x1, vI x2] M r M' := by
  show Ex l G (d + 1) mX2_readPart 0 [some (vR (some (12, 0))), some (vI x1), some (vI x2), none] [] M r M'
  refine r_aload_n 1 dX2_readPart_0 rfl rfl ?_
  refine r_iload_n 2 dX2_readPart_1 rfl rfl ?_
  refine r_iload_n 3 dX2_readPart_2 rfl rfl ?_
  obtain ⟨M_1, hc_2, h⟩ := h
  refine v_0 (ci := 2) (C := (RX2, TX2, 10)) [vI x1, vI x2] [] 6 dX2_readPart_3 rfl rfl rfl rfl rfl mo_X2_readFact ml_2_85 rfl rfl hc_2 ?_
  refine r_iconst 7 dX2_readPart_6 rfl (InR_of rfl) ?_
  refine r_istore_n (ls' := [some (vR (some (12, 0))), some (vI x1), some (vI x2), some (vI 1)]) 8 dX2_readPart_7 rfl rfl rfl rfl ?_
  exact h
set_option maxRecDepth 4000 in
theorem xX2_readPart_8 {l : Launch} {G : Gt} {d : Nat} {M M' : Mem} {r : Option Vl} {x1 : Int} {x2 : Int} {x3 : Int} (h : 
    (400 < x3 → r = none ∧ M' = M) ∧ (¬ (400 < x3) → (¬ ((M.1 12 0 4) = 0) → r = none ∧ M' = M) ∧ ((M.1 12 0 4) = 0 → ∃ (r_3 : Int) (M_1 : Mem), Cl l G d mX2_look [vR (some (12, 0))] M (some (vI r_3)) M_1 ∧ ((r_3 = 26 → ∃ (M_4 : Mem), Cl l G d mX2_readFact [vR (some (12, 0)), vI x1, vI x2] M_1 none M_4 ∧ (∃ (M_6 : Mem), Cl l G d mX2_put [vR (some (12, 0)), vI 26] M_4 none M_6 ∧ (InR (x3 + 1)) ∧ Ex l G (d + 1) mX2_readPart 8 [some (vR (some (12, 0))), some (vI x1), some (vI x2), some (vI (x3 + 1))] [] M_6 r M')) ∧ (¬ (r_3 = 26) → ∃ (M_9 : Mem), Cl l G d mX2_leave [vR (some (12, 0))] M_1 none M_9 ∧ r = none ∧ M' = M_9))))) : Ex l G (d + 1) mX2_readPart 8 [some (vR (some (12, 0))), some (vI x1), some (vI x2), some (vI x3)] [] M r M' := by
  refine r_iload_n 9 dX2_readPart_8 rfl rfl ?_
  refine r_sipush 12 dX2_readPart_9 rfl rfl ?_
  refine r_icmp_gt 15 54 dX2_readPart_12 rfl rfl (fun c => ?_) (fun c => ?_)
  · have h := h.1 (c)
    exact r_vret dX2_readPart_54 rfl h.1 h.2
  · have h := h.2 (c)
    refine r_aload_n 16 dX2_readPart_15 rfl rfl ?_
    refine g_I 19 dX2_readPart_16 rfl rfl rfl fi_2_31 rfl ?_
    refine r_if_ne 22 54 dX2_readPart_19 rfl rfl (fun c => ?_) (fun c => ?_)
    · have h := h.1 (c)
      exact r_vret dX2_readPart_54 rfl h.1 h.2
    · have h := h.2 (Decidable.not_not.mp c)
      refine r_aload_n 23 dX2_readPart_22 rfl rfl ?_
      obtain ⟨r_3, M_1, hc_2, h⟩ := h
      refine v_1 (ci := 2) (C := (RX2, TX2, 10)) [] [] 26 dX2_readPart_23 rfl rfl rfl rfl rfl mo_X2_look ml_2_54 rfl rfl hc_2 ?_
      refine r_bipush 28 dX2_readPart_26 rfl rfl ?_
      refine r_icmp_eq 31 36 dX2_readPart_28 rfl rfl (fun c => ?_) (fun c => ?_)
      · have h := h.1 (c)
        refine r_aload_n 37 dX2_readPart_36 rfl rfl ?_
        refine r_iload_n 38 dX2_readPart_37 rfl rfl ?_
        refine r_iload_n 39 dX2_readPart_38 rfl rfl ?_
        obtain ⟨M_4, hc_5, h⟩ := h
        refine v_0 (ci := 2) (C := (RX2, TX2, 10)) [vI x1, vI x2] [] 42 dX2_readPart_39 rfl rfl rfl rfl rfl mo_X2_readFact ml_2_85 rfl rfl hc_5 ?_
        refine r_aload_n 43 dX2_readPart_42 rfl rfl ?_
        refine r_bipush 45 dX2_readPart_43 rfl rfl ?_
        obtain ⟨M_6, hc_7, h⟩ := h
        refine v_0 (ci := 2) (C := (RX2, TX2, 10)) [vI 26] [] 48 dX2_readPart_45 rfl rfl rfl rfl rfl mo_X2_put ml_2_82 rfl rfl hc_7 ?_
        obtain ⟨o_8, h⟩ := h
        refine r_iinc (ls' := [some (vR (some (12, 0))), some (vI x1), some (vI x2), some (vI (x3 + 1))]) 51 dX2_readPart_48 rfl rfl rfl rfl o_8 rfl ?_
        refine r_goto 8 dX2_readPart_51 rfl ?_
        exact h
      · have h := h.2 (c)
        refine r_aload_n 32 dX2_readPart_31 rfl rfl ?_
        obtain ⟨M_9, hc_10, h⟩ := h
        refine v_0 (ci := 2) (C := (RX2, TX2, 10)) [] [] 35 dX2_readPart_32 rfl rfl rfl rfl rfl mo_X2_leave ml_2_76 rfl rfl hc_10 ?_
        exact r_vret dX2_readPart_35 rfl h.1 h.2

set_option maxRecDepth 4000 in
theorem xX2_readTest_0 {l : Launch} {G : Gt} {d : Nat} {M M' : Mem} {r : Option Vl} {x1 : Int} {x2 : Int} (h : 
    ∃ (M_1 : Mem), Cl l G d mX2_readPart [vR (some (12, 0)), vI x1, vI x2] M none M_1 ∧ Ex l G (d + 1) mX2_readTest 8 [some (vR (some (12, 0))), some (vI x1), some (vI x2), some (vI 1)] [] M_1 r M') : Cl l G (d + 1) mX2_readTest [vR (some (12, 0)), vI x1, vI x2] M r M' := by
  show Ex l G (d + 1) mX2_readTest 0 [some (vR (some (12, 0))), some (vI x1), some (vI x2), none] [] M r M'
  refine r_aload_n 1 dX2_readTest_0 rfl rfl ?_
  refine r_iload_n 2 dX2_readTest_1 rfl rfl ?_
  refine r_iload_n 3 dX2_readTest_2 rfl rfl ?_
  obtain ⟨M_1, hc_2, h⟩ := h
  refine v_0 (ci := 2) (C := (RX2, TX2, 10)) [vI x1, vI x2] [] 6 dX2_readTest_3 rfl rfl rfl rfl rfl mo_X2_readPart ml_2_79 rfl rfl hc_2 ?_
  refine r_iconst 7 dX2_readTest_6 rfl (InR_of rfl) ?_
  refine r_istore_n (ls' := [some (vR (some (12, 0))), some (vI x1), some (vI x2), some (vI 1)]) 8 dX2_readTest_7 rfl rfl rfl rfl ?_
  exact h
set_option maxRecDepth 4000 in
theorem xX2_readTest_8 {l : Launch} {G : Gt} {d : Nat} {M M' : Mem} {r : Option Vl} {x1 : Int} {x2 : Int} {x3 : Int} (h : 
    (400 < x3 → r = none ∧ M' = M) ∧ (¬ (400 < x3) → (¬ ((M.1 12 0 4) = 0) → r = none ∧ M' = M) ∧ ((M.1 12 0 4) = 0 → ∃ (r_3 : Int) (M_1 : Mem), Cl l G d mX2_look [vR (some (12, 0))] M (some (vI r_3)) M_1 ∧ ((r_3 = 27 → ∃ (M_4 : Mem), Cl l G d mX2_readPart [vR (some (12, 0)), vI x1, vI x2] M_1 none M_4 ∧ (∃ (M_6 : Mem), Cl l G d mX2_put [vR (some (12, 0)), vI 27] M_4 none M_6 ∧ (InR (x3 + 1)) ∧ Ex l G (d + 1) mX2_readTest 8 [some (vR (some (12, 0))), some (vI x1), some (vI x2), some (vI (x3 + 1))] [] M_6 r M')) ∧ (¬ (r_3 = 27) → ∃ (M_9 : Mem), Cl l G d mX2_leave [vR (some (12, 0))] M_1 none M_9 ∧ r = none ∧ M' = M_9))))) : Ex l G (d + 1) mX2_readTest 8 [some (vR (some (12, 0))), some (vI x1), some (vI x2), some (vI x3)] [] M r M' := by
  refine r_iload_n 9 dX2_readTest_8 rfl rfl ?_
  refine r_sipush 12 dX2_readTest_9 rfl rfl ?_
  refine r_icmp_gt 15 54 dX2_readTest_12 rfl rfl (fun c => ?_) (fun c => ?_)
  · have h := h.1 (c)
    exact r_vret dX2_readTest_54 rfl h.1 h.2
  · have h := h.2 (c)
    refine r_aload_n 16 dX2_readTest_15 rfl rfl ?_
    refine g_I 19 dX2_readTest_16 rfl rfl rfl fi_2_31 rfl ?_
    refine r_if_ne 22 54 dX2_readTest_19 rfl rfl (fun c => ?_) (fun c => ?_)
    · have h := h.1 (c)
      exact r_vret dX2_readTest_54 rfl h.1 h.2
    · have h := h.2 (Decidable.not_not.mp c)
      refine r_aload_n 23 dX2_readTest_22 rfl rfl ?_
      obtain ⟨r_3, M_1, hc_2, h⟩ := h
      refine v_1 (ci := 2) (C := (RX2, TX2, 10)) [] [] 26 dX2_readTest_23 rfl rfl rfl rfl rfl mo_X2_look ml_2_54 rfl rfl hc_2 ?_
      refine r_bipush 28 dX2_readTest_26 rfl rfl ?_
      refine r_icmp_eq 31 36 dX2_readTest_28 rfl rfl (fun c => ?_) (fun c => ?_)
      · have h := h.1 (c)
        refine r_aload_n 37 dX2_readTest_36 rfl rfl ?_
        refine r_iload_n 38 dX2_readTest_37 rfl rfl ?_
        refine r_iload_n 39 dX2_readTest_38 rfl rfl ?_
        obtain ⟨M_4, hc_5, h⟩ := h
        refine v_0 (ci := 2) (C := (RX2, TX2, 10)) [vI x1, vI x2] [] 42 dX2_readTest_39 rfl rfl rfl rfl rfl mo_X2_readPart ml_2_79 rfl rfl hc_5 ?_
        refine r_aload_n 43 dX2_readTest_42 rfl rfl ?_
        refine r_bipush 45 dX2_readTest_43 rfl rfl ?_
        obtain ⟨M_6, hc_7, h⟩ := h
        refine v_0 (ci := 2) (C := (RX2, TX2, 10)) [vI 27] [] 48 dX2_readTest_45 rfl rfl rfl rfl rfl mo_X2_put ml_2_82 rfl rfl hc_7 ?_
        obtain ⟨o_8, h⟩ := h
        refine r_iinc (ls' := [some (vR (some (12, 0))), some (vI x1), some (vI x2), some (vI (x3 + 1))]) 51 dX2_readTest_48 rfl rfl rfl rfl o_8 rfl ?_
        refine r_goto 8 dX2_readTest_51 rfl ?_
        exact h
      · have h := h.2 (c)
        refine r_aload_n 32 dX2_readTest_31 rfl rfl ?_
        obtain ⟨M_9, hc_10, h⟩ := h
        refine v_0 (ci := 2) (C := (RX2, TX2, 10)) [] [] 35 dX2_readTest_32 rfl rfl rfl rfl rfl mo_X2_leave ml_2_76 rfl rfl hc_10 ?_
        exact r_vret dX2_readTest_35 rfl h.1 h.2

def PaR (t : Tp) (n p0 : Nat) (S0 : List (Int × Int)) (c' : Cf) (I : IM) : Prop := (cM c' = 2 ∧ cE c' = 0 ∧ p0 ≤ cP c' ∧ ¬ isW t n 3 (bl t n (cP c')) = true ∧ ∃ w, (w = [] ∨ w = [(5, 0)]) ∧ cS c' = w ++ S0 ∧ Wm t n c' w I) ∨ FlC t n c' I
theorem stC_nk (hm : cM c = 1) (h : nk (cS c)) : step t n c = (2, cP c, cE c, cO c, cC c, cS c) := by
  rw [step_1 hm]
  unfold stC
  split
  · rfl
  · rename_i x s e0
    rw [e0] at h
    have h' : ¬ (x.1 = 3 ∨ x.1 = 4) := h
    rw [if_neg h']
theorem pa_8 (hF : RFact l G (d + 6) t n dp ti) (h1 : nk S0) (h2 : gvS 5 S0 = S0) (h3 : gvO 5 S0 = []) (hdp : dpN S0 = dp) (hti : tiN S0 = ti) : ∀ (k : Nat) {M : Mem} {c : Cf} {w : List (Int × Int)} {x3 : Nat}, n - cP c = k → Sh M.2.1 → M.2.1 12 0 0 = some (16, 0) → cCnt M.2.2 1 = 28 → InvD n c → cM c = 1 → cE c = 0 → (w = [] ∨ w = [(5, 0)]) → cS c = w ++ S0 → Wm t n c w M.1 → x3 ≤ cP c → ∃ I' c', Ex l G (d + 7) mX2_readPart 8 [some (vR (some (12, 0))), some (vI (dp : Int)), some (vI (ti : Int)), some (vI (x3 : Int))] [] M none (I', M.2.1, M.2.2) ∧ frY M.1 I' ∧ Rn t n c c' ∧ PaR t n (cP c) S0 c' I' := by
  intro k
  induction k using Nat.strongRecOn with
  | ind k ih =>
    intro M c w x3 hk hS hX hStr hi hm he hw hs hW hx
    obtain ⟨st, sp, hc, hsp, hb⟩ := hW
    obtain ⟨i1, i2, -⟩ := hi.1 he
    have hn := hc.1.2.1
    have hnk : nk (cS c) := by
      rw [hs]
      rcases hw with rfl | rfl
      · exact h1
      · show ¬ ((5 : Int) = 3 ∨ (5 : Int) = 4); omega
    have e1 := stC_nk (t := t) (n := n) hm hnk
    have run1 : Rn t n c (2, cP c, cE c, cO c, cC c, cS c) := Rn.one e1
    obtain ⟨b1, b2⟩ := rn_ge (fun i => decide (t i = 32)) n (cP c) i1
    have b1 : cP c ≤ bl t n (cP c) := b1
    have b2 : bl t n (cP c) ≤ n := b2
    have h4 : M.1 12 0 4 = 0 := hc.2.2.2.1
    obtain ⟨I1, k1, k2, k3⟩ := look_g (l := l) (G := G) (d := d) hX hStr hc hsp
    rw [hb] at k1 k2
    have hbb : bl t n (bl t n (cP c)) = bl t n (cP c) := rn_rn _ _ _ i1
    by_cases a : isW t n 3 (bl t n (cP c)) = true
    · obtain ⟨l1, l2⟩ := lk_W (by omega) b2 a
      have l1 : lkS t n (bl t n (cP c)) = 26 := l1
      have l2 : lkE t n (bl t n (cP c)) = bl t n (cP c) + 3 := l2
      have hpn : bl t n (cP c) + 3 ≤ n := isW_n b2 a
      rw [l2] at k2
      have t97 : t (bl t n (cP c)) = 97 := by
        have := (isW_i.mp a).2 0 (by decide)
        rw [Nat.add_zero] at this
        rw [this]; decide +kernel
      have gO : gvO 5 (cS c) = w := by
        rw [hs]
        rcases hw with rfl | rfl
        · exact h3
        · show (if ¬ (5 : Int) = 7 ∧ (5 : Int) ≤ 5 then ((5 : Int), (0 : Int)) :: gvO 5 S0 else []) = _
          rw [if_pos ⟨by omega, by omega⟩, h3]
      have gS : gvS 5 (cS c) = S0 := by
        rw [hs]
        rcases hw with rfl | rfl
        · exact h2
        · show (if ¬ (5 : Int) = 7 ∧ (5 : Int) ≤ 5 then gvS 5 S0 else (5, 0) :: S0) = _
          rw [if_pos ⟨by omega, by omega⟩, h2]
      have run2 : Rn t n (2, cP c, cE c, cO c, cC c, cS c) (0, bl t n (cP c) + 3, 0, cO c ++ w, cC c, (5, 0) :: S0) := by
        refine Rn.one ((step_2 rfl).trans ?_)
        show stF t n (2, cP c, cE c, cO c, cC c, cS c) (bl t n (cP c)) = _
        unfold stF
        rw [if_neg (by omega), if_neg (by omega), if_pos a]
        show (0, bl t n (cP c) + 3, cE c, cO c ++ gvO 5 (cS c), cC c, (5, 0) :: gvS 5 (cS c)) = _
        rw [gO, gS, he]
      have run3 := run1.tr run2
      have hi3 := InvD_run run3 hi
      obtain ⟨I2, c4, j1, j2, j3, j4⟩ := hF (M := (I1, M.2.1, M.2.2)) (c := (0, bl t n (cP c) + 3, 0, cO c ++ w, cC c, (5, 0) :: S0)) hS hX hStr hi3 rfl rfl (by show dpN ((5, 0) :: S0) = dp; rw [dp_c, if_neg (by dsimp only; omega)]; omega) (by show tiN ((5, 0) :: S0) = ti; rw [ti_c, if_neg (by dsimp only; omega)]; omega) ⟨_, _, by show Cg t n _ _ 0 (cC c) ((cO c ++ w) ++ []) I1; rw [List.append_nil]; exact k2, hpn, rfl⟩
      have run4 := run3.tr j3
      have hi4 := InvD_run run4 hi
      rcases j4 with ⟨m4, e4, s4, p4, st4, sp4, hc4, hsp4, hb4⟩ | fl
      · have s4 : cS c4 = (5, 0) :: S0 := s4
        have p4 : bl t n (cP c) + 3 < cP c4 := p4
        obtain ⟨q1, q2, -⟩ := hi4.1 e4
        rw [List.append_nil] at hc4
        have hl4 : (cO c4).length < 400 := by rw [s4] at q2; simp only [List.length_cons] at q2; omega
        obtain ⟨I3, v1, v2, v3⟩ := KX2_put (l := l) (G := G) (d := d + 6) (M := (I2, M.2.1, M.2.2)) (x1 := 26) (x := (5, 0)) hS hc4 hl4 (by decide)
        obtain ⟨I4, c5, z1, z2, z3, z4⟩ := ih (n - cP c4) (by omega) (M := (I3, M.2.1, M.2.2)) (c := c4) (w := [(5, 0)]) (x3 := x3 + 1) rfl hS hX hStr hi4 m4 e4 (.inr rfl) s4 ⟨st4, sp4, v2, hsp4, hb4⟩ (by omega)
        refine ⟨I4, c5, xX2_readPart_8 ⟨fun c => by omega, fun _ => ⟨fun c => absurd h4 c, fun _ => ⟨_, _, k1, fun _ => ⟨_, j1, _, v1, by unfold InR; omega, ?_⟩, fun c => absurd l1 c⟩⟩⟩, ((k3.tr j2).tr v3).tr z2, run4.tr z3, ?_⟩
        · rw [show (x3 : Int) + 1 = ((x3 + 1 : Nat) : Int) by omega]; exact z1
        · rcases z4 with ⟨y1, y2, y3, y4⟩ | y
          · exact .inl ⟨y1, y2, by omega, y4⟩
          · exact .inr y
      · obtain ⟨m4, e4, st4, sp4, fa4, o4, hc4⟩ := fl
        have pn := put_no (l := l) (G := G) (d := d + 6) (M := (I2, M.2.1, M.2.2)) (x1 := 26) hS hc4 e4
        have h44 : ¬ I2 12 0 4 = 0 := by rw [hc4.2.2.2.1]; exact e4
        exact ⟨I2, c4, xX2_readPart_8 ⟨fun c => by omega, fun _ => ⟨fun c => absurd h4 c, fun _ => ⟨_, _, k1, fun _ => ⟨_, j1, _, pn, by unfold InR; omega, xX2_readPart_8 ⟨fun _ => ⟨rfl, rfl⟩, fun _ => ⟨fun _ => ⟨rfl, rfl⟩, fun c => absurd c h44⟩⟩⟩, fun c => absurd l1 c⟩⟩⟩, k3.tr j2, run4, .inr ⟨m4, e4, st4, sp4, fa4, o4, hc4⟩⟩
    · have l1 : ¬ lkS t n (bl t n (cP c)) = 26 := fun h => a (lk_26 b2 h)
      obtain ⟨I2, v1, v2, v3⟩ := KX2_leave (l := l) (G := G) (d := d + 6) (M := (I1, M.2.1, M.2.2)) k2
      exact ⟨I2, _, xX2_readPart_8 ⟨fun c => by omega, fun _ => ⟨fun c => absurd h4 c, fun _ => ⟨_, _, k1, fun c => absurd c l1, fun _ => ⟨_, v1, rfl, rfl⟩⟩⟩⟩, k3.tr v3, run1, .inl ⟨rfl, he, Nat.le_refl _, a, w, hw, hs, _, _, v2, b2, hbb⟩⟩
theorem KX2_readPart (hF : RFact l G (d + 6) t n dp ti) (h1 : nk (cS c)) (h2 : gvS 5 (cS c) = cS c) (h3 : gvO 5 (cS c) = []) (hdp : dpN (cS c) = dp) (hti : tiN (cS c) = ti) (hS : Sh M.2.1) (hX : M.2.1 12 0 0 = some (16, 0)) (hStr : cCnt M.2.2 1 = 28) (hi : InvD n c) (hm : cM c = 0) (he : cE c = 0) (hW : Wm t n c [] M.1) : ∃ I' c', Cl l G (d + 7) mX2_readPart [vR (some (12, 0)), vI (dp : Int), vI (ti : Int)] M none (I', M.2.1, M.2.2) ∧ frY M.1 I' ∧ Rn t n c c' ∧ PaR t n (cP c + 1) (cS c) c' I' := by
  obtain ⟨I1, c1, j1, j2, j3, j4⟩ := hF hS hX hStr hi hm he hdp hti hW
  rcases j4 with ⟨m4, e4, s4, p4, hw4⟩ | fl
  · obtain ⟨I2, c2, k1, k2, k3, k4⟩ := pa_8 (l := l) (G := G) (d := d) hF h1 h2 h3 hdp hti _ (M := (I1, M.2.1, M.2.2)) (c := c1) (w := []) (x3 := 1) rfl hS hX hStr (InvD_run j3 hi) m4 e4 (.inl rfl) s4 hw4 (by omega)
    refine ⟨I2, c2, xX2_readPart_0 ⟨_, j1, k1⟩, j2.tr k2, j3.tr k3, ?_⟩
    rcases k4 with ⟨y1, y2, y3, y4⟩ | y
    · exact .inl ⟨y1, y2, by omega, y4⟩
    · exact .inr y
  · have fl' := fl
    obtain ⟨m4, e4, st4, sp4, fa4, o4, hc4⟩ := fl
    have h44 : ¬ I1 12 0 4 = 0 := by rw [hc4.2.2.2.1]; exact e4
    exact ⟨I1, c1, xX2_readPart_0 ⟨_, j1, xX2_readPart_8 ⟨fun _ => ⟨rfl, rfl⟩, fun _ => ⟨fun _ => ⟨rfl, rfl⟩, fun c => absurd c h44⟩⟩⟩, j2, j3, .inr fl'⟩
end CW5
