/-! readPlace on the class -/
section CW3
variable {l : Launch} {G : Gt} {d : Nat} {M : Mem} {r : Option Vl} {M' : Mem} {t : Tp} {n st sp fa : Nat} {fl x1 : Int} {o : List (Int × Int)} {I I' I'' : IM}
set_option maxRecDepth 4000 in
theorem xX2_readPlace_0 {l : Launch} {G : Gt} {d : Nat} {M M' : Mem} {r : Option Vl}  (h : 
    ((M.1 12 0 4) = 0 → ∃ (M_1 : Mem), Cl l G d mX2_skipBlanks [vR (some (12, 0))] M none M_1 ∧ Ex l G (d + 1) mX2_readPlace 12 [some (vR (some (12, 0)))] [] M_1 r M') ∧ (¬ ((M.1 12 0 4) = 0) → r = none ∧ M' = M)) : Cl l G (d + 1) mX2_readPlace [vR (some (12, 0))] M r M' := by
  show Ex l G (d + 1) mX2_readPlace 0 [some (vR (some (12, 0)))] [] M r M'
  refine r_aload_n 1 dX2_readPlace_0 rfl rfl ?_
  refine g_I 4 dX2_readPlace_1 rfl rfl rfl fi_2_31 rfl ?_
  refine r_if_eq 7 8 dX2_readPlace_4 rfl rfl (fun c => ?_) (fun c => ?_)
  · have h := h.1 (c)
    refine r_aload_n 9 dX2_readPlace_8 rfl rfl ?_
    obtain ⟨M_1, hc_2, h⟩ := h
    refine v_0 (ci := 2) (C := (RX2, TX2, 10)) [] [] 12 dX2_readPlace_9 rfl rfl rfl rfl rfl mo_X2_skipBlanks ml_2_98 rfl rfl hc_2 ?_
    exact h
  · have h := h.2 (c)
    exact r_vret dX2_readPlace_7 rfl h.1 h.2
set_option maxRecDepth 4000 in
theorem xX2_readPlace_12 {l : Launch} {G : Gt} {d : Nat} {M M' : Mem} {r : Option Vl}  (hT : M.2.1 12 0 0 = some (16, 0)) (h : 
    ((M.1 12 0 1) ≤ (M.1 12 0 3) → Ex l G (d + 1) mX2_readPlace 51 [some (vR (some (12, 0)))] [] M r M') ∧ (¬ ((M.1 12 0 1) ≤ (M.1 12 0 3)) → ((0 ≤ (M.1 12 0 3) ∧ (M.1 12 0 3) < 400)) ∧ ((¬ (48 ≤ (M.1 16 0 (M.1 12 0 3).toNat) ∧ (M.1 16 0 (M.1 12 0 3).toNat) ≤ 57) → Ex l G (d + 1) mX2_readPlace 51 [some (vR (some (12, 0)))] [] M r M') ∧ (48 ≤ (M.1 16 0 (M.1 12 0 3).toNat) ∧ (M.1 16 0 (M.1 12 0 3).toNat) ≤ 57 → (InR ((M.1 12 0 3) + 1)) ∧ Ex l G (d + 1) mX2_readPlace 12 [some (vR (some (12, 0)))] [] ((upI M.1 12 0 3 ((M.1 12 0 3) + 1)), M.2.1, M.2.2) r M')))) : Ex l G (d + 1) mX2_readPlace 12 [some (vR (some (12, 0)))] [] M r M' := by
  refine r_aload_n 13 dX2_readPlace_12 rfl rfl ?_
  refine g_I 16 dX2_readPlace_13 rfl rfl rfl fi_2_28 rfl ?_
  refine r_aload_n 17 dX2_readPlace_16 rfl rfl ?_
  refine g_I 20 dX2_readPlace_17 rfl rfl rfl fi_2_24 rfl ?_
  refine r_icmp_ge 23 51 dX2_readPlace_20 rfl rfl (fun c => ?_) (fun c => ?_)
  · have h := h.1 (c)
    exact h
  · have h := h.2 (c)
    obtain ⟨o_1, h⟩ := h
    refine r_aload_n 24 dX2_readPlace_23 rfl rfl ?_
    refine g_R 27 dX2_readPlace_24 rfl rfl rfl fr_2_9 hT ?_
    refine r_aload_n 28 dX2_readPlace_27 rfl rfl ?_
    refine g_I 31 dX2_readPlace_28 rfl rfl rfl fi_2_28 rfl ?_
    refine a_I 400 32 dX2_readPlace_31 rfl rfl rfl rfl o_1 rfl ?_
    refine c_1 [vI (M.1 16 0 (M.1 12 0 3).toNat)] [] 35 dX2_readPlace_32 rfl rfl mo_X2_isDigit ml_2_101 rfl rfl (KX2_isDigit) ?_
    refine r_if_eq 38 51 dX2_readPlace_35 rfl rfl (fun c => ?_) (fun c => ?_)
    · have h := h.1 (b2_0.mp c)
      exact h
    · have h := h.2 (b2_1.mp c)
      obtain ⟨o_2, h⟩ := h
      refine r_aload_n 39 dX2_readPlace_38 rfl rfl ?_
      refine r_dup 40 dX2_readPlace_39 rfl rfl ?_
      refine g_I 43 dX2_readPlace_40 rfl rfl rfl fi_2_28 rfl ?_
      refine r_iconst 44 dX2_readPlace_43 rfl (InR_of rfl) ?_
      refine r_iadd 45 dX2_readPlace_44 rfl o_2 ?_
      refine p_I 48 dX2_readPlace_45 rfl rfl rfl rfl pf_2_28 (.inl rfl) rfl ?_
      refine r_goto 12 dX2_readPlace_48 rfl ?_
      exact h
set_option maxRecDepth 4000 in
theorem xX2_readPlace_51 {l : Launch} {G : Gt} {d : Nat} {M M' : Mem} {r : Option Vl}  (hT : M.2.1 12 0 0 = some (16, 0)) (h : 
    (¬ ((M.1 12 0 2) = (M.1 12 0 3)) → (InR ((M.1 12 0 3) - (M.1 12 0 2))) ∧ ((1 < ((M.1 12 0 3) - (M.1 12 0 2)) → ∃ (M_2 : Mem), Cl l G d mX2_fail [vR (some (12, 0)), vI 1] M none M_2 ∧ r = none ∧ M' = M_2) ∧ (¬ (1 < ((M.1 12 0 3) - (M.1 12 0 2))) → ((0 ≤ (M.1 12 0 2) ∧ (M.1 12 0 2) < 400) ∧ InR ((M.1 16 0 (M.1 12 0 2).toNat) - 48)) ∧ ((((M.1 16 0 (M.1 12 0 2).toNat) - 48) < 8 → ((0 ≤ (M.1 12 0 2) ∧ (M.1 12 0 2) < 400) ∧ InR (16 + (M.1 16 0 (M.1 12 0 2).toNat)) ∧ InR ((16 + (M.1 16 0 (M.1 12 0 2).toNat)) - 48)) ∧ (∃ (M_9 : Mem), Cl l G d mX2_put [vR (some (12, 0)), vI ((16 + (M.1 16 0 (M.1 12 0 2).toNat)) - 48)] M none M_9 ∧ r = none ∧ M' = M_9)) ∧ (¬ (((M.1 16 0 (M.1 12 0 2).toNat) - 48) < 8) → ∃ (M_11 : Mem), Cl l G d mX2_fail [vR (some (12, 0)), vI 1] M none M_11 ∧ r = none ∧ M' = M_11))))) ∧ ((M.1 12 0 2) = (M.1 12 0 3) → ∃ (M_13 : Mem), Cl l G d mX2_fail [vR (some (12, 0)), vI 0] M none M_13 ∧ r = none ∧ M' = M_13)) : Ex l G (d + 1) mX2_readPlace 51 [some (vR (some (12, 0)))] [] M r M' := by
  refine r_aload_n 52 dX2_readPlace_51 rfl rfl ?_
  refine g_I 55 dX2_readPlace_52 rfl rfl rfl fi_2_58 rfl ?_
  refine r_aload_n 56 dX2_readPlace_55 rfl rfl ?_
  refine g_I 59 dX2_readPlace_56 rfl rfl rfl fi_2_28 rfl ?_
  refine r_icmp_ne 62 70 dX2_readPlace_59 rfl rfl (fun c => ?_) (fun c => ?_)
  · have h := h.1 (c)
    obtain ⟨o_1, h⟩ := h
    refine r_aload_n 71 dX2_readPlace_70 rfl rfl ?_
    refine g_I 74 dX2_readPlace_71 rfl rfl rfl fi_2_28 rfl ?_
    refine r_aload_n 75 dX2_readPlace_74 rfl rfl ?_
    refine g_I 78 dX2_readPlace_75 rfl rfl rfl fi_2_58 rfl ?_
    refine r_isub 79 dX2_readPlace_78 rfl o_1 ?_
    refine r_iconst 80 dX2_readPlace_79 rfl (InR_of rfl) ?_
    refine r_icmp_gt 83 100 dX2_readPlace_80 rfl rfl (fun c => ?_) (fun c => ?_)
    · have h := h.1 (c)
      refine r_aload_n 101 dX2_readPlace_100 rfl rfl ?_
      refine r_iconst 102 dX2_readPlace_101 rfl (InR_of rfl) ?_
      obtain ⟨M_2, hc_3, h⟩ := h
      refine v_0 (ci := 2) (C := (RX2, TX2, 10)) [vI 1] [] 105 dX2_readPlace_102 rfl rfl rfl rfl rfl mo_X2_fail ml_2_61 rfl rfl hc_3 ?_
      refine r_goto 127 dX2_readPlace_105 rfl ?_
      exact r_vret dX2_readPlace_127 rfl h.1 h.2
    · have h := h.2 (c)
      obtain ⟨⟨o_4, o_5⟩, h⟩ := h
      refine r_aload_n 84 dX2_readPlace_83 rfl rfl ?_
      refine g_R 87 dX2_readPlace_84 rfl rfl rfl fr_2_9 hT ?_
      refine r_aload_n 88 dX2_readPlace_87 rfl rfl ?_
      refine g_I 91 dX2_readPlace_88 rfl rfl rfl fi_2_58 rfl ?_
      refine a_I 400 92 dX2_readPlace_91 rfl rfl rfl rfl o_4 rfl ?_
      refine r_bipush 94 dX2_readPlace_92 rfl rfl ?_
      refine r_isub 95 dX2_readPlace_94 rfl o_5 ?_
      refine r_bipush 97 dX2_readPlace_95 rfl rfl ?_
      refine r_icmp_lt 100 108 dX2_readPlace_97 rfl rfl (fun c => ?_) (fun c => ?_)
      · have h := h.1 (c)
        obtain ⟨⟨o_6, o_7, o_8⟩, h⟩ := h
        refine r_aload_n 109 dX2_readPlace_108 rfl rfl ?_
        refine r_bipush 111 dX2_readPlace_109 rfl rfl ?_
        refine r_aload_n 112 dX2_readPlace_111 rfl rfl ?_
        refine g_R 115 dX2_readPlace_112 rfl rfl rfl fr_2_9 hT ?_
        refine r_aload_n 116 dX2_readPlace_115 rfl rfl ?_
        refine g_I 119 dX2_readPlace_116 rfl rfl rfl fi_2_58 rfl ?_
        refine a_I 400 120 dX2_readPlace_119 rfl rfl rfl rfl o_6 rfl ?_
        refine r_iadd 121 dX2_readPlace_120 rfl o_7 ?_
        refine r_bipush 123 dX2_readPlace_121 rfl rfl ?_
        refine r_isub 124 dX2_readPlace_123 rfl o_8 ?_
        obtain ⟨M_9, hc_10, h⟩ := h
        refine v_0 (ci := 2) (C := (RX2, TX2, 10)) [vI ((16 + (M.1 16 0 (M.1 12 0 2).toNat)) - 48)] [] 127 dX2_readPlace_124 rfl rfl rfl rfl rfl mo_X2_put ml_2_82 rfl rfl hc_10 ?_
        exact r_vret dX2_readPlace_127 rfl h.1 h.2
      · have h := h.2 (c)
        refine r_aload_n 101 dX2_readPlace_100 rfl rfl ?_
        refine r_iconst 102 dX2_readPlace_101 rfl (InR_of rfl) ?_
        obtain ⟨M_11, hc_12, h⟩ := h
        refine v_0 (ci := 2) (C := (RX2, TX2, 10)) [vI 1] [] 105 dX2_readPlace_102 rfl rfl rfl rfl rfl mo_X2_fail ml_2_61 rfl rfl hc_12 ?_
        refine r_goto 127 dX2_readPlace_105 rfl ?_
        exact r_vret dX2_readPlace_127 rfl h.1 h.2
  · have h := h.2 (Decidable.not_not.mp c)
    refine r_aload_n 63 dX2_readPlace_62 rfl rfl ?_
    refine r_iconst 64 dX2_readPlace_63 rfl (InR_of rfl) ?_
    obtain ⟨M_13, hc_14, h⟩ := h
    refine v_0 (ci := 2) (C := (RX2, TX2, 10)) [vI 0] [] 67 dX2_readPlace_64 rfl rfl rfl rfl rfl mo_X2_fail ml_2_61 rfl rfl hc_14 ?_
    refine r_goto 127 dX2_readPlace_67 rfl ?_
    exact r_vret dX2_readPlace_127 rfl h.1 h.2

/-- a place read from b -/
def PlR (t : Tp) (n b fa : Nat) (o : List (Int × Int)) (I : IM) : Prop := (dg t n b = b ∧ Cg t n b (dg t n b) (1 + 8 * (b : Int) + (0 : Nat)) fa o I) ∨ (¬ dg t n b = b ∧ (b + 1 < dg t n b ∨ 56 ≤ t b) ∧ Cg t n b (dg t n b) (1 + 8 * (b : Int) + (1 : Nat)) fa o I) ∨ (¬ dg t n b = b ∧ ¬ (b + 1 < dg t n b ∨ 56 ≤ t b) ∧ Cg t n b (dg t n b) 0 fa (o ++ [(1, t b - 48)]) I)
theorem pl_51 {b : Nat} (hS : Sh M.2.1) (hX : M.2.1 12 0 0 = some (16, 0)) (h : Cg t n b (dg t n b) 0 fa o M.1) (hb : b ≤ n) (ho : o.length < 400) : ∃ I', Ex l G (d + 1) mX2_readPlace 51 [some (vR (some (12, 0)))] [] M none (I', M.2.1, M.2.2) ∧ PlR t n b fa o I' ∧ frY M.1 I' := by
  have hn := h.1.2.1
  have h2 : M.1 12 0 2 = (b : Int) := h.2.1
  have h3 : M.1 12 0 3 = ((dg t n b : Nat) : Int) := h.2.2.1
  obtain ⟨f1, f2, f3, -⟩ := rn_sp (fun i => decide (48 ≤ t i ∧ t i ≤ 57)) n b hb
  have f1 : b ≤ dg t n b := f1
  have f2 : dg t n b ≤ n := f2
  by_cases c0 : dg t n b = b
  · obtain ⟨I1, k1, k2, k3⟩ := KX2_fail (l := l) (G := G) (d := d) (x1 := 0) h (by omega) (by omega)
    rw [if_pos rfl] at k2
    exact ⟨I1, xX2_readPlace_51 hX ⟨fun c => by omega, fun _ => ⟨_, k1, rfl, rfl⟩⟩, .inl ⟨c0, k2⟩, k3⟩
  · have f4 := f3 b (Nat.le_refl _) (by show b < dg t n b; omega)
    simp at f4
    have e2 : (M.1 12 0 2).toNat = b := by omega
    obtain ⟨tb, -⟩ := h.1.2.2 b (by omega)
    by_cases c1 : b + 1 < dg t n b
    · obtain ⟨I1, k1, k2, k3⟩ := KX2_fail (l := l) (G := G) (d := d) (x1 := 1) h (by omega) (by omega)
      rw [if_pos rfl] at k2
      exact ⟨I1, xX2_readPlace_51 hX ⟨fun _ => ⟨by unfold InR; omega, fun _ => ⟨_, k1, rfl, rfl⟩, fun c => by omega⟩, fun c => by omega⟩, .inr (.inl ⟨c0, .inl c1, k2⟩), k3⟩
    · by_cases c2 : 56 ≤ t b
      · obtain ⟨I1, k1, k2, k3⟩ := KX2_fail (l := l) (G := G) (d := d) (x1 := 1) h (by omega) (by omega)
        rw [if_pos rfl] at k2
        refine ⟨I1, xX2_readPlace_51 hX ⟨fun _ => ⟨by unfold InR; omega, fun c => by omega, fun _ => ⟨⟨by omega, ?_⟩, fun c => ?_, fun _ => ⟨_, k1, rfl, rfl⟩⟩⟩, fun c => by omega⟩, .inr (.inl ⟨c0, .inr c2, k2⟩), k3⟩
        · rw [e2, tb]; unfold InR; omega
        · rw [e2, tb] at c; omega
      · obtain ⟨I1, k1, k2, k3⟩ := KX2_put (l := l) (G := G) (d := d) (x1 := 16 + t b - 48) (x := (1, t b - 48)) hS h ho (by unfold sgn; rw [if_neg (by dsimp only; omega), if_neg (by dsimp only; omega), if_pos rfl]; dsimp only; omega)
        refine ⟨I1, xX2_readPlace_51 hX ⟨fun _ => ⟨by unfold InR; omega, fun c => by omega, fun _ => ⟨⟨by omega, ?_⟩, fun _ => ⟨⟨by omega, ?_, ?_⟩, _, ?_, rfl, rfl⟩, fun c => ?_⟩⟩, fun c => by omega⟩, .inr (.inr ⟨c0, by omega, k2⟩), k3⟩
        · rw [e2, tb]; unfold InR; omega
        · rw [e2, tb]; unfold InR; omega
        · rw [e2, tb]; unfold InR; omega
        · rw [e2, tb]; exact k1
        · rw [e2, tb] at c; omega
theorem pl_12 {b : Nat} (hb : b ≤ n) (ho : o.length < 400) : ∀ (k : Nat) {M : Mem} {q : Nat}, n - q = k → Sh M.2.1 → M.2.1 12 0 0 = some (16, 0) → Cg t n b q 0 fa o M.1 → b ≤ q → q ≤ n → (∀ i, b ≤ i → i < q → (48 ≤ t i ∧ t i ≤ 57)) → ∃ I', Ex l G (d + 1) mX2_readPlace 12 [some (vR (some (12, 0)))] [] M none (I', M.2.1, M.2.2) ∧ PlR t n b fa o I' ∧ frY M.1 I' := by
  intro k
  induction k with
  | zero =>
    intro M q hk hS hX h h1 h2 h3
    have eq : dg t n b = q := rn_eq h1 h2 (fun i a c => by simp; exact h3 i a c) (.inl (by omega))
    have g1 := h.1.1
    have g3 : M.1 12 0 3 = (q : Int) := h.2.2.1
    rw [← eq] at h
    obtain ⟨I1, k1, k2⟩ := pl_51 (l := l) (G := G) (d := d) hS hX h hb ho
    exact ⟨I1, xX2_readPlace_12 hX ⟨fun _ => k1, fun c => by omega⟩, k2⟩
  | succ k ih =>
    intro M q hk hS hX h h1 h2 h3
    have g1 := h.1.1
    have g3 : M.1 12 0 3 = (q : Int) := h.2.2.1
    have hn := h.1.2.1
    obtain ⟨tq, rq⟩ := h.1.2.2 q (by omega)
    have e3 : (M.1 12 0 3).toNat = q := by omega
    by_cases c : 48 ≤ t q ∧ t q ≤ 57
    · obtain ⟨I1, k1, k2, k3⟩ := ih (M := (upI M.1 12 0 3 (M.1 12 0 3 + 1), M.2.1, M.2.2)) (q := q + 1) (by omega) hS hX (h.md (by omega) rfl (by rw [if_pos rfl]; omega) rfl rfl) (by omega) (by omega) (fun i a c' => by
        by_cases e2 : i = q
        · subst e2; exact c
        · exact h3 i a (by omega))
      exact ⟨I1, xX2_readPlace_12 hX ⟨fun c => by omega, fun _ => ⟨by omega, fun c' => absurd (by rw [e3, tq]; exact c) c', fun _ => ⟨by unfold InR; omega, k1⟩⟩⟩, k2, (frY.up (by omega)).tr k3⟩
    · have eq : dg t n b = q := rn_eq h1 h2 (fun i a c => by simp; exact h3 i a c) (.inr (by simp; intro h'; omega))
      rw [← eq] at h
      obtain ⟨I1, k1, k2⟩ := pl_51 (l := l) (G := G) (d := d) hS hX h hb ho
      exact ⟨I1, xX2_readPlace_12 hX ⟨fun _ => k1, fun _ => ⟨by omega, fun _ => k1, fun c' => absurd (by rw [e3, tq] at c'; exact c') c⟩⟩, k2⟩
theorem KX2_readPlace (hS : Sh M.2.1) (hX : M.2.1 12 0 0 = some (16, 0)) (h : Cg t n st sp 0 fa o M.1) (hp : sp ≤ n) (ho : o.length < 400) : ∃ I', Cl l G (d + 1) mX2_readPlace [vR (some (12, 0))] M none (I', M.2.1, M.2.2) ∧ PlR t n (bl t n sp) fa o I' ∧ frY M.1 I' := by
  have b2 : bl t n sp ≤ n := (rn_ge _ _ _ hp).2
  have g4 : M.1 12 0 4 = 0 := h.2.2.2.1
  have kb := KX2_skipBlanks (l := l) (G := G) (d := d) (t := t) (n := n) _ rfl hX h.1 h.2.2.1 hp
  have g1 : Cg t n (bl t n sp) (bl t n sp) 0 fa o (upI (upI M.1 12 0 3 ((bl t n sp : Nat) : Int)) 12 0 2 ((bl t n sp : Nat) : Int)) := (h.md (i := 3) (sp' := bl t n sp) (by omega) rfl (by rw [if_pos rfl]) rfl rfl).md (by omega) (by rw [if_pos rfl]) rfl rfl rfl
  obtain ⟨I1, k1, k2, k3⟩ := pl_12 (l := l) (G := G) (d := d) b2 ho _ (M := (upI (upI M.1 12 0 3 ((bl t n sp : Nat) : Int)) 12 0 2 ((bl t n sp : Nat) : Int), M.2.1, M.2.2)) rfl hS hX g1 (Nat.le_refl _) b2 (fun i _ _ => by omega)
  exact ⟨I1, xX2_readPlace_0 ⟨fun _ => ⟨_, kb, k1⟩, fun c => absurd g4 c⟩, k2, ((frY.up (by omega)).tr (frY.up (by omega))).tr k3⟩
theorem place_no (h : Cg t n st sp fl fa o M.1) (hf : ¬ fl = 0) : Cl l G (d + 1) mX2_readPlace [vR (some (12, 0))] M none M := xX2_readPlace_0 ⟨fun c => absurd (h.2.2.2.1.symm.trans c) hf, fun _ => ⟨rfl, rfl⟩⟩
end CW3
