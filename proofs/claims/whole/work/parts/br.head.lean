/-! readHead on the class -/
section CW10
variable {l : Launch} {G : Gt} {d : Nat} {M : Mem} {t : Tp} {n p st sp : Nat} {I I' I'' : IM} {a b : Bool}
set_option maxRecDepth 4000 in
theorem xX2_readHead_0 {l : Launch} {G : Gt} {d : Nat} {M M' : Mem} {r : Option Vl}  (h : 
    Ex l G (d + 1) mX2_readHead 2 [some (vR (some (12, 0))), some (vI 0), none] [] M r M') : Cl l G (d + 1) mX2_readHead [vR (some (12, 0))] M r M' := by
  show Ex l G (d + 1) mX2_readHead 0 [some (vR (some (12, 0))), none, none] [] M r M'
  refine r_iconst 1 dX2_readHead_0 rfl (InR_of rfl) ?_
  refine r_istore_n (ls' := [some (vR (some (12, 0))), some (vI 0), none]) 2 dX2_readHead_1 rfl rfl rfl rfl ?_
  exact h
set_option maxRecDepth 4000 in
theorem xX2_readHead_2 {l : Launch} {G : Gt} {d : Nat} {M M' : Mem} {r : Option Vl} {x1 : Int} (h : 
    (2 ≤ x1 → r = none ∧ M' = M) ∧ (¬ (2 ≤ x1) → ∃ (r_3 : Int) (M_1 : Mem), Cl l G d mX2_look [vR (some (12, 0))] M (some (vI r_3)) M_1 ∧ ((¬ (r_3 = 30) → (¬ (r_3 = 31) → ∃ (M_4 : Mem), Cl l G d mX2_leave [vR (some (12, 0))] M_1 none M_4 ∧ r = none ∧ M' = M_4) ∧ (r_3 = 31 → (¬ ((M_1.1 12 0 7) = 0) → ∃ (M_6 : Mem), Cl l G d mX2_leave [vR (some (12, 0))] M_1 none M_6 ∧ r = none ∧ M' = M_6) ∧ ((M_1.1 12 0 7) = 0 → (InR (x1 + 1)) ∧ Ex l G (d + 1) mX2_readHead 2 [some (vR (some (12, 0))), some (vI (x1 + 1)), none] [] ((upI M_1.1 12 0 7 1), M_1.2.1, M_1.2.2) r M'))) ∧ (r_3 = 30 → (¬ ((M_1.1 12 0 6) = 0) → (¬ (r_3 = 31) → ∃ (M_9 : Mem), Cl l G d mX2_leave [vR (some (12, 0))] M_1 none M_9 ∧ r = none ∧ M' = M_9) ∧ (r_3 = 31 → (¬ ((M_1.1 12 0 7) = 0) → ∃ (M_11 : Mem), Cl l G d mX2_leave [vR (some (12, 0))] M_1 none M_11 ∧ r = none ∧ M' = M_11) ∧ ((M_1.1 12 0 7) = 0 → (InR (x1 + 1)) ∧ Ex l G (d + 1) mX2_readHead 2 [some (vR (some (12, 0))), some (vI (x1 + 1)), none] [] ((upI M_1.1 12 0 7 1), M_1.2.1, M_1.2.2) r M'))) ∧ ((M_1.1 12 0 6) = 0 → (InR (x1 + 1)) ∧ Ex l G (d + 1) mX2_readHead 2 [some (vR (some (12, 0))), some (vI (x1 + 1)), none] [] ((upI M_1.1 12 0 6 1), M_1.2.1, M_1.2.2) r M'))))) : Ex l G (d + 1) mX2_readHead 2 [some (vR (some (12, 0))), some (vI x1), none] [] M r M' := by
  refine r_iload_n 3 dX2_readHead_2 rfl rfl ?_
  refine r_iconst 4 dX2_readHead_3 rfl (InR_of rfl) ?_
  refine r_icmp_ge 7 65 dX2_readHead_4 rfl rfl (fun c => ?_) (fun c => ?_)
  · have h := h.1 (c)
    exact r_vret dX2_readHead_65 rfl h.1 h.2
  · have h := h.2 (c)
    refine r_aload_n 8 dX2_readHead_7 rfl rfl ?_
    obtain ⟨r_3, M_1, hc_2, h⟩ := h
    refine v_1 (ci := 2) (C := (RX2, TX2, 10)) [] [] 11 dX2_readHead_8 rfl rfl rfl rfl rfl mo_X2_look ml_2_54 rfl rfl hc_2 ?_
    refine r_istore_n (ls' := [some (vR (some (12, 0))), some (vI x1), some (vI r_3)]) 12 dX2_readHead_11 rfl rfl rfl rfl ?_
    refine r_iload_n 13 dX2_readHead_12 rfl rfl ?_
    refine r_bipush 15 dX2_readHead_13 rfl rfl ?_
    refine r_icmp_ne 18 33 dX2_readHead_15 rfl rfl (fun c => ?_) (fun c => ?_)
    · have h := h.1 (c)
      refine r_iload_n 34 dX2_readHead_33 rfl rfl ?_
      refine r_bipush 36 dX2_readHead_34 rfl rfl ?_
      refine r_icmp_ne 39 54 dX2_readHead_36 rfl rfl (fun c => ?_) (fun c => ?_)
      · have h := h.1 (c)
        refine r_aload_n 55 dX2_readHead_54 rfl rfl ?_
        obtain ⟨M_4, hc_5, h⟩ := h
        refine v_0 (ci := 2) (C := (RX2, TX2, 10)) [] [] 58 dX2_readHead_55 rfl rfl rfl rfl rfl mo_X2_leave ml_2_76 rfl rfl hc_5 ?_
        exact r_vret dX2_readHead_58 rfl h.1 h.2
      · have h := h.2 (Decidable.not_not.mp c)
        refine r_aload_n 40 dX2_readHead_39 rfl rfl ?_
        refine g_I 43 dX2_readHead_40 rfl rfl rfl fi_2_44 rfl ?_
        refine r_if_ne 46 54 dX2_readHead_43 rfl rfl (fun c => ?_) (fun c => ?_)
        · have h := h.1 (c)
          refine r_aload_n 55 dX2_readHead_54 rfl rfl ?_
          obtain ⟨M_6, hc_7, h⟩ := h
          refine v_0 (ci := 2) (C := (RX2, TX2, 10)) [] [] 58 dX2_readHead_55 rfl rfl rfl rfl rfl mo_X2_leave ml_2_76 rfl rfl hc_7 ?_
          exact r_vret dX2_readHead_58 rfl h.1 h.2
        · have h := h.2 (Decidable.not_not.mp c)
          obtain ⟨o_8, h⟩ := h
          refine r_aload_n 47 dX2_readHead_46 rfl rfl ?_
          refine r_iconst 48 dX2_readHead_47 rfl (InR_of rfl) ?_
          refine p_Z 51 dX2_readHead_48 rfl rfl rfl rfl pf_2_44 (.inl rfl) rfl (.inr rfl) ?_
          refine r_goto 59 dX2_readHead_51 rfl ?_
          refine r_iinc (ls' := [some (vR (some (12, 0))), some (vI (x1 + 1)), some (vI r_3)]) 62 dX2_readHead_59 rfl rfl rfl rfl o_8 rfl ?_
          refine r_goto 2 dX2_readHead_62 rfl ?_
          exact Ex.weak h ⟨rfl, rfl, trivial⟩
    · have h := h.2 (Decidable.not_not.mp c)
      refine r_aload_n 19 dX2_readHead_18 rfl rfl ?_
      refine g_I 22 dX2_readHead_19 rfl rfl rfl fi_2_40 rfl ?_
      refine r_if_ne 25 33 dX2_readHead_22 rfl rfl (fun c => ?_) (fun c => ?_)
      · have h := h.1 (c)
        refine r_iload_n 34 dX2_readHead_33 rfl rfl ?_
        refine r_bipush 36 dX2_readHead_34 rfl rfl ?_
        refine r_icmp_ne 39 54 dX2_readHead_36 rfl rfl (fun c => ?_) (fun c => ?_)
        · have h := h.1 (c)
          refine r_aload_n 55 dX2_readHead_54 rfl rfl ?_
          obtain ⟨M_9, hc_10, h⟩ := h
          refine v_0 (ci := 2) (C := (RX2, TX2, 10)) [] [] 58 dX2_readHead_55 rfl rfl rfl rfl rfl mo_X2_leave ml_2_76 rfl rfl hc_10 ?_
          exact r_vret dX2_readHead_58 rfl h.1 h.2
        · have h := h.2 (Decidable.not_not.mp c)
          refine r_aload_n 40 dX2_readHead_39 rfl rfl ?_
          refine g_I 43 dX2_readHead_40 rfl rfl rfl fi_2_44 rfl ?_
          refine r_if_ne 46 54 dX2_readHead_43 rfl rfl (fun c => ?_) (fun c => ?_)
          · have h := h.1 (c)
            refine r_aload_n 55 dX2_readHead_54 rfl rfl ?_
            obtain ⟨M_11, hc_12, h⟩ := h
            refine v_0 (ci := 2) (C := (RX2, TX2, 10)) [] [] 58 dX2_readHead_55 rfl rfl rfl rfl rfl mo_X2_leave ml_2_76 rfl rfl hc_12 ?_
            exact r_vret dX2_readHead_58 rfl h.1 h.2
          · have h := h.2 (Decidable.not_not.mp c)
            obtain ⟨o_13, h⟩ := h
            refine r_aload_n 47 dX2_readHead_46 rfl rfl ?_
            refine r_iconst 48 dX2_readHead_47 rfl (InR_of rfl) ?_
            refine p_Z 51 dX2_readHead_48 rfl rfl rfl rfl pf_2_44 (.inl rfl) rfl (.inr rfl) ?_
            refine r_goto 59 dX2_readHead_51 rfl ?_
            refine r_iinc (ls' := [some (vR (some (12, 0))), some (vI (x1 + 1)), some (vI r_3)]) 62 dX2_readHead_59 rfl rfl rfl rfl o_13 rfl ?_
            refine r_goto 2 dX2_readHead_62 rfl ?_
            exact Ex.weak h ⟨rfl, rfl, trivial⟩
      · have h := h.2 (Decidable.not_not.mp c)
        obtain ⟨o_14, h⟩ := h
        refine r_aload_n 26 dX2_readHead_25 rfl rfl ?_
        refine r_iconst 27 dX2_readHead_26 rfl (InR_of rfl) ?_
        refine p_Z 30 dX2_readHead_27 rfl rfl rfl rfl pf_2_40 (.inl rfl) rfl (.inr rfl) ?_
        refine r_goto 59 dX2_readHead_30 rfl ?_
        refine r_iinc (ls' := [some (vR (some (12, 0))), some (vI (x1 + 1)), some (vI r_3)]) 62 dX2_readHead_59 rfl rfl rfl rfl o_14 rfl ?_
        refine r_goto 2 dX2_readHead_62 rfl ?_
        exact Ex.weak h ⟨rfl, rfl, trivial⟩

theorem lk_j {j : Nat} (hj : j < 7) (hp : p ≤ n) (hc : 16 ≤ cdW j ∧ ¬ cdW j = 28 ∧ ¬ cdW j = 29 ∧ ¬ cdW j = 32) (h : lkS t n p = cdW j) : isW t n j p = true := by
  rcases lk_sp t n p hp with g | ⟨g, -, -⟩ | ⟨g, -, -⟩ | ⟨g1, g2, g⟩ | ⟨g1, g2, g⟩ | ⟨k, hk, g1, g⟩
  · omega
  · omega
  · omega
  · have := we_1 hp g1; omega
  · have := we_1 hp g1; omega
  · have h1 := cdW_v k hk
    have h2 := cdW_v j hj
    rw [show j = k by omega]; exact g1
def frZ (I I' : IM) : Prop := ∀ f k i, ¬ (k = 0 ∧ ((f = 12 ∧ 2 ≤ i ∧ i ≤ 9 ∧ ¬ i = 8) ∨ f = 22)) → I' f k i = I f k i
theorem frZ.tr (h : frZ I I') (h' : frZ I' I'') : frZ I I'' := fun f k i hn => (h' f k i hn).trans (h f k i hn)
theorem frY.z (h : frY I I') : frZ I I' := fun f k i hn => h f k i (by omega)
theorem Cg.fl {i : Nat} {v : Int} {fl : Int} {fa : Nat} {o : List (Int × Int)} (h : Cg t n st sp fl fa o I) (hi : i = 6 ∨ i = 7) : Cg t n st sp fl fa o (upI I 12 0 i v) := by
  obtain ⟨g1, g2, g3, g4, g5, g6, g7⟩ := h
  exact ⟨g1.up (by omega), by rw [upI_ne (by omega)]; exact g2, by rw [upI_ne (by omega)]; exact g3, by rw [upI_ne (by omega)]; exact g4, by rw [upI_ne (by omega)]; exact g5, by rw [upI_ne (by omega)]; exact g6, fun k hk => by rw [upI_ne (by omega)]; exact g7 k hk⟩
def HdC (t : Tp) (n : Nat) (R : Nat × Bool × Bool) (I : IM) : Prop := (∃ st sp, Cg t n st sp 0 0 [] I ∧ sp ≤ n ∧ bl t n sp = R.1) ∧ I 12 0 6 = bZ R.2.1 ∧ I 12 0 7 = bZ R.2.2
theorem look_s {fl : Int} {fa : Nat} {o : List (Int × Int)} (hX : M.2.1 12 0 0 = some (16, 0)) (hStr : cCnt M.2.2 1 = 28) (h : Cg t n st sp fl fa o (upI M.1 12 0 2 (st : Int))) (hn : sp ≤ n) : ∃ I', Cl l G (d + 6) mX2_look [vR (some (12, 0))] M (some (vI (lkS t n (bl t n sp)))) (I', M.2.1, M.2.2) ∧ Cg t n (bl t n sp) (lkE t n (bl t n sp)) fl fa o I' ∧ frY M.1 I' := by
  have hT : CTp t n M.1 := ⟨by have := h.1.1; rw [upI_ne (by omega)] at this; exact this, h.1.2.1, fun i hi => by have := h.1.2.2 i hi; rw [upI_ne (by omega)] at this; exact this⟩
  have h3 : M.1 12 0 3 = (sp : Int) := by have := h.2.2.1; rw [upI_ne (by omega)] at this; exact this
  refine ⟨_, KX2_look hX hStr hT h3 hn, ?_, (frY.up (by omega)).tr (frY.up (by omega))⟩
  have g := (h.md (i := 2) (v := ((bl t n sp : Nat) : Int)) (st' := bl t n sp) (by omega) (by rw [if_pos rfl]) rfl rfl rfl).md (i := 3) (v := ((lkE t n (bl t n sp) : Nat) : Int)) (sp' := lkE t n (bl t n sp)) (by omega) rfl (by rw [if_pos rfl]) rfl rfl
  rw [upI_up] at g
  exact g
theorem hd_2 : ∀ (k : Nat) {M : Mem} {st sp : Nat} {a b : Bool} {x1 : Nat}, x1 + k = 2 → M.2.1 12 0 0 = some (16, 0) → cCnt M.2.2 1 = 28 → Cg t n st sp 0 0 [] (upI M.1 12 0 2 (st : Int)) → (k = 0 → M.1 12 0 2 = (st : Int)) → sp ≤ n → M.1 12 0 6 = bZ a → M.1 12 0 7 = bZ b → ∃ I', Ex l G (d + 7) mX2_readHead 2 [some (vR (some (12, 0))), some (vI (x1 : Int)), none] [] M none (I', M.2.1, M.2.2) ∧ frZ M.1 I' ∧ HdC t n (hdP t n k (bl t n sp) a b) I' := by
  intro k
  induction k with
  | zero =>
    intro M st sp a b x1 hk hX hStr hc hst hsp h6 h7
    rw [← hst rfl, upI_id] at hc
    exact ⟨M.1, xX2_readHead_2 ⟨fun _ => ⟨rfl, rfl⟩, fun c => by omega⟩, fun _ _ _ _ => rfl, ⟨st, sp, hc, hsp, rfl⟩, h6, h7⟩
  | succ k ih =>
    intro M st sp a b x1 hk hX hStr hc hst hsp h6 h7
    obtain ⟨I1, k1, k2, k3⟩ := look_s (l := l) (G := G) (d := d) hX hStr hc hsp
    have b2 : bl t n sp ≤ n := (rn_ge _ _ _ hsp).2
    have hbb : bl t n (bl t n sp) = bl t n sp := rn_rn _ _ _ hsp
    generalize bl t n sp = p at b2 k1 k2 hbb ⊢
    have g6 : I1 12 0 6 = bZ a := by rw [k3 _ _ _ (by omega)]; exact h6
    have g7 : I1 12 0 7 = bZ b := by rw [k3 _ _ _ (by omega)]; exact h7
    have z : ∀ a : Bool, bZ a = 0 ↔ a = false := by intro a; cases a <;> simp [bZ]
    obtain ⟨I9, v1, v2, v3⟩ := KX2_leave (l := l) (G := G) (d := d + 6) (M := (I1, M.2.1, M.2.2)) k2
    have lv : hdP t n (k + 1) p a b = (p, a, b) → HdC t n (hdP t n (k + 1) p a b) I9 := fun e => by
      rw [e]
      exact ⟨⟨p, p, v2, b2, hbb⟩, by rw [v3 _ _ _ (by omega)]; exact g6, by rw [v3 _ _ _ (by omega)]; exact g7⟩
    have x5 : lkS t n p = 30 → isW t n 5 p = true := fun h => lk_j (j := 5) (by omega) b2 (by decide) h
    have x6 : lkS t n p = 31 → isW t n 6 p = true := fun h => lk_j (j := 6) (by omega) b2 (by decide) h
    by_cases c5 : isW t n 5 p = true ∧ a = false
    · obtain ⟨l1, l2⟩ := lk_W (j := 5) (by omega) b2 c5.1
      have l1 : lkS t n p = 30 := l1
      have l2 : lkE t n p = p + 4 := l2
      have hpn : p + 4 ≤ n := isW_n b2 c5.1
      rw [l2] at k2
      rw [l1] at k1
      have e2' : ∀ i, i = 6 ∨ i = 7 → (upI I1 12 0 i 1) 12 0 2 = ((p : Nat) : Int) := fun i hi => by rw [upI_ne (by omega)]; exact k2.2.1
      have k2' : ∀ i, i = 6 ∨ i = 7 → Cg t n p (p + 4) 0 0 [] (upI (upI I1 12 0 i 1) 12 0 2 ((p : Nat) : Int)) := fun i hi => by rw [← e2' i hi, upI_id]; exact k2.fl hi
      obtain ⟨I2, j1, j2, j3⟩ := ih (M := (upI I1 12 0 6 1, M.2.1, M.2.2)) (st := p) (sp := p + 4) (a := true) (b := b) (x1 := x1 + 1) (by omega) hX hStr (k2' 6 (.inl rfl)) (fun _ => e2' 6 (.inl rfl)) hpn (by dsimp only; rw [upI_s]; rfl) (by dsimp only; rw [upI_ne (by omega)]; exact g7)
      refine ⟨I2, xX2_readHead_2 ⟨fun c => by omega, fun _ => ⟨30, _, k1, fun c => absurd rfl c, fun _ => ⟨fun c => absurd (by dsimp only; rw [g6]; exact (z a).mpr c5.2) c, fun _ => ⟨by unfold InR; omega, ?_⟩⟩⟩⟩, (k3.z.tr (fun f k i hn => upI_ne (by omega))).tr j2, ?_⟩
      · rw [show (x1 : Int) + 1 = ((x1 + 1 : Nat) : Int) by omega]; exact j1
      · rw [show hdP t n (k + 1) p a b = hdP t n k (bl t n (p + 4)) true b by show (if _ then _ else _) = _; rw [if_pos c5]]; exact j3
    · by_cases c6 : isW t n 6 p = true ∧ b = false
      · obtain ⟨l1, l2⟩ := lk_W (j := 6) (by omega) b2 c6.1
        have l1 : lkS t n p = 31 := l1
        have l2 : lkE t n p = p + 4 := l2
        have hpn : p + 4 ≤ n := isW_n b2 c6.1
        rw [l2] at k2
        rw [l1] at k1
        have e2' : ∀ i, i = 6 ∨ i = 7 → (upI I1 12 0 i 1) 12 0 2 = ((p : Nat) : Int) := fun i hi => by rw [upI_ne (by omega)]; exact k2.2.1
        have k2' : ∀ i, i = 6 ∨ i = 7 → Cg t n p (p + 4) 0 0 [] (upI (upI I1 12 0 i 1) 12 0 2 ((p : Nat) : Int)) := fun i hi => by rw [← e2' i hi, upI_id]; exact k2.fl hi
        obtain ⟨I2, j1, j2, j3⟩ := ih (M := (upI I1 12 0 7 1, M.2.1, M.2.2)) (st := p) (sp := p + 4) (a := a) (b := true) (x1 := x1 + 1) (by omega) hX hStr (k2' 7 (.inr rfl)) (fun _ => e2' 7 (.inr rfl)) hpn (by dsimp only; rw [upI_ne (by omega)]; exact g6) (by dsimp only; rw [upI_s]; rfl)
        refine ⟨I2, xX2_readHead_2 ⟨fun c => by omega, fun _ => ⟨31, _, k1, fun _ => ⟨fun c => absurd rfl c, fun _ => ⟨fun c => absurd (by dsimp only; rw [g7]; exact (z b).mpr c6.2) c, fun _ => ⟨by unfold InR; omega, ?_⟩⟩⟩, fun c => by omega⟩⟩, (k3.z.tr (fun f k i hn => upI_ne (by omega))).tr j2, ?_⟩
        · rw [show (x1 : Int) + 1 = ((x1 + 1 : Nat) : Int) by omega]; exact j1
        · rw [show hdP t n (k + 1) p a b = hdP t n k (bl t n (p + 4)) a true by show (if _ then _ else _) = _; rw [if_neg c5, if_pos c6]]; exact j3
      · have e : hdP t n (k + 1) p a b = (p, a, b) := by show (if _ then _ else _) = _; rw [if_neg c5, if_neg c6]
        refine ⟨I9, xX2_readHead_2 ⟨fun c => by omega, fun _ => ⟨_, _, k1, fun _ => ⟨fun _ => ⟨_, v1, rfl, rfl⟩, fun h => ⟨fun _ => ⟨_, v1, rfl, rfl⟩, fun h' => absurd ⟨x6 h, (z b).mp (by rw [← g7]; exact h')⟩ c6⟩⟩, fun h => ⟨fun _ => ⟨fun _ => ⟨_, v1, rfl, rfl⟩, fun h' => by omega⟩, fun h' => absurd ⟨x5 h, (z a).mp (by rw [← g6]; exact h')⟩ c5⟩⟩⟩, (k3.tr v3).z, lv e⟩
end CW10
