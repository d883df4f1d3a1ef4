/-! readFact on the class -/
section CW8
variable {l : Launch} {G : Gt} {x : Nat} {M : Mem} {r : Option Vl} {M' : Mem} {t : Tp} {n p st sp fa : Nat} {I I' I'' : IM} {c c' : Cf} {S0 o : List (Int × Int)} {dp ti : Nat}
theorem fact_c (hN : dp < 10 → RFact l G (x + 7) t n (dp + 1) ti ∧ RFact l G (x + 9) t n (dp + 1) ti) (hT : ti < 4 → RFact l G (x + 10) t n dp (ti + 1)) (hd10 : dp ≤ 10) (ht4 : ti ≤ 4) : RFact l G (x + 11) t n dp ti := by
  intro M c hS hX hStr hi hm he hdp hti hW
  obtain ⟨st, sp, hc, hsp, hb⟩ := hW
  rw [List.append_nil] at hc
  obtain ⟨i1, i2, i3, i4, i5, ⟨i6, i7, i8⟩, -⟩ := hi.1 he
  obtain ⟨b1, b2⟩ := rn_ge (fun i => decide (t i = 32)) n (cP c) i1
  have b1 : cP c ≤ bl t n (cP c) := b1
  have b2 : bl t n (cP c) ≤ n := b2
  have hn := hc.1.2.1
  have h4 : M.1 12 0 4 = 0 := hc.2.2.2.1
  obtain ⟨I1, k1, k2, k3⟩ := look_g (l := l) (G := G) (d := x + 4) hX hStr hc hsp
  rw [hb] at k1 k2
  have s0 := step_0 (t := t) (n := n) hm
  generalize bl t n (cP c) = p at b1 b2 k1 k2 s0
  have fl : ∀ (code : Nat), code ≤ 3 → ∃ I', Cl l G (x + 10) mX2_fail [vR (some (12, 0)), vI (code : Int)] (I1, M.2.1, M.2.2) none (I', M.2.1, M.2.2) ∧ frY M.1 I' ∧ FcR t n c (flC c p code) I' := fun code hcode => by
    obtain ⟨I2, v1, v2, v3⟩ := KX2_fail (l := l) (G := G) (d := x + 10) (M := (I1, M.2.1, M.2.2)) (x1 := (code : Int)) k2 (by omega) (by omega)
    rw [if_pos rfl] at v2
    exact ⟨I2, v1, k3.tr v3, .inr ⟨rfl, by show ¬ (1 + 8 * (p : Int) + code) = 0; omega, _, _, _, _, v2⟩⟩
  -- a fact without a place
  have one : ∀ (y : Int × Int) (v : Int) (w : Nat), v = sgn y.1 y.2 → lkE t n p = p + w → 0 < w → p + w ≤ n → stA t n c p = (if cC c = 30 then flC c p 3 else (1, p + w, cE c, cO c ++ [y], cC c + 1, cS c)) → ∃ I', (∃ M_4 : Mem, Cl l G (x + 10) mX2_countFact [vR (some (12, 0))] (I1, M.2.1, M.2.2) none M_4 ∧ (∃ M_6 : Mem, Cl l G (x + 10) mX2_put [vR (some (12, 0)), vI v] M_4 none M_6 ∧ (none : Option Vl) = none ∧ ((I', M.2.1, M.2.2) : Mem) = M_6)) ∧ frY M.1 I' ∧ Rn t n c (stA t n c p) ∧ FcR t n c (stA t n c p) I' := by
    intro y v w hv hE hw hwn hst
    obtain ⟨I2, v1, v2, v3⟩ := KX2_countFact (l := l) (G := G) (d := x + 9) (M := (I1, M.2.1, M.2.2)) k2 (by omega) i8
    rw [hE] at v2
    have run : Rn t n c (stA t n c p) := Rn.one s0
    by_cases c0 : cC c = 30
    · rw [if_pos c0] at v2 hst
      have pn := put_no (l := l) (G := G) (d := x + 10) (M := (I2, M.2.1, M.2.2)) (x1 := v) hS v2 (by omega)
      refine ⟨I2, ⟨_, v1, _, pn, rfl, rfl⟩, k3.tr v3, run, ?_⟩
      rw [hst]
      exact .inr ⟨rfl, by show ¬ (1 + 8 * (p : Int) + ((3 : Nat) : Int)) = 0; omega, _, _, _, _, v2⟩
    · rw [if_neg c0] at v2 hst
      obtain ⟨I3, u1, u2, u3⟩ := KX2_put (l := l) (G := G) (d := x + 10) (M := (I2, M.2.1, M.2.2)) (x1 := v) (x := y) hS v2 (by omega) hv
      refine ⟨I3, ⟨_, v1, _, u1, rfl, rfl⟩, (k3.tr v3).tr u3, run, ?_⟩
      rw [hst]
      exact .inl ⟨rfl, he, rfl, by show cP c < p + w; omega, p, p + w, by show Cg t n _ _ 0 (cC c + 1) ((cO c ++ [y]) ++ []) I3; rw [List.append_nil]; exact u2, hwn, rfl⟩
  -- NOT, a bracket
  have nst : ∀ (k : Int) (w : Nat), (k = 3 ∨ k = 7) → lkE t n p = p + w → 0 < w → p + w ≤ n → stA t n c p = (if dpN (cS c) = 10 then flC c p 2 else (cM c, p + w, cE c, cO c, cC c, (k, 0) :: cS c)) → ∃ I' c', (((dp : Int) < 10 → InR ((dp : Int) + 1) ∧ (∃ M_9 : Mem, Cl l G (x + 10) mX2_readNested [vR (some (12, 0)), vI (if k = 3 then 25 else 28), vI ((dp : Int) + 1), vI (ti : Int)] (I1, M.2.1, M.2.2) none M_9 ∧ (none : Option Vl) = none ∧ ((I', M.2.1, M.2.2) : Mem) = M_9)) ∧ (¬ ((dp : Int) < 10) → ∃ M_11 : Mem, Cl l G (x + 10) mX2_fail [vR (some (12, 0)), vI 2] (I1, M.2.1, M.2.2) none M_11 ∧ (none : Option Vl) = none ∧ ((I', M.2.1, M.2.2) : Mem) = M_11)) ∧ frY M.1 I' ∧ Rn t n c c' ∧ FcR t n c c' I' := by
    intro k w hk hE hw hwn hst
    by_cases c0 : dpN (cS c) = 10
    · rw [if_pos c0] at hst
      obtain ⟨I2, v1, v2, v3⟩ := fl 2 (by omega)
      exact ⟨I2, _, ⟨fun c => by omega, fun _ => ⟨_, v1, rfl, rfl⟩⟩, v2, Rn.one (s0.trans hst), v3⟩
    · rw [if_neg c0] at hst
      rw [hE] at k2
      have run : Rn t n c (cM c, p + w, cE c, cO c, cC c, (k, 0) :: cS c) := Rn.one (s0.trans hst)
      obtain ⟨h7, h9⟩ := hN (by omega)
      obtain ⟨I2, c2, j1, j2, j3, j4⟩ := nest_c (l := l) (G := G) (x := x) (k := k) (M := (I1, M.2.1, M.2.2)) (c := (cM c, p + w, cE c, cO c, cC c, (k, 0) :: cS c)) h7 h9 hk hS hX hStr (InvD_run run hi) hm he rfl hdp hti ⟨p, p + w, by show Cg t n _ _ 0 (cC c) (cO c ++ []) I1; rw [List.append_nil]; exact k2, hwn, rfl⟩
      refine ⟨I2, c2, ⟨fun _ => ⟨by unfold InR; omega, _, j1, rfl, rfl⟩, fun c => by omega⟩, k3.tr j2, run.tr j3, ?_⟩
      rcases j4 with ⟨y1, y2, y3, y4, y5⟩ | y
      · exact .inl ⟨y1, y2, y3, by have y4 : p + w < cP c2 := y4; omega, y5⟩
      · exact .inr y
  by_cases a0 : p < n ∧ t p = 91
  · obtain ⟨l1, l2⟩ := lk_b a0
    obtain ⟨I2, c2, h, f, rn, fc⟩ := nst 7 1 (.inr rfl) l2 (by omega) (by omega) (by unfold stA; rw [if_pos a0])
    rw [l1] at k1
    rw [if_neg (show ¬ (7 : Int) = 3 by omega)] at h
    exact ⟨I2, c2, xX2_readFact_0 ⟨fun _ => ⟨28, _, k1, fun c => by omega, fun _ => ⟨fun _ => ⟨fun _ => ⟨fun _ => ⟨fun c => by omega, fun _ => ⟨fun c => absurd rfl c, fun _ => h⟩⟩, fun c => by omega⟩, fun c => by omega⟩, fun c => by omega⟩⟩, fun c => absurd h4 c⟩, f, rn, fc⟩
  by_cases a1 : isW t n 2 p = true
  · obtain ⟨l1, l2⟩ := lk_W (by omega) b2 a1
    have l1 : lkS t n p = 25 := l1
    have l2 : lkE t n p = p + 3 := l2
    have hpn : p + 3 ≤ n := isW_n b2 a1
    obtain ⟨I2, c2, h, f, rn, fc⟩ := nst 3 3 (.inl rfl) l2 (by omega) hpn (by unfold stA; rw [if_neg a0, if_pos a1])
    rw [l1] at k1
    rw [if_pos rfl] at h
    exact ⟨I2, c2, xX2_readFact_0 ⟨fun _ => ⟨25, _, k1, fun c => by omega, fun _ => ⟨fun _ => ⟨fun _ => ⟨fun _ => ⟨fun _ => h, fun c => absurd rfl c⟩, fun c => by omega⟩, fun c => by omega⟩, fun c => by omega⟩⟩, fun c => absurd h4 c⟩, f, rn, fc⟩
  have e1 : stA t n c p = stA1 t n c p := by unfold stA; rw [if_neg a0, if_neg a1]
  by_cases a2 : we t n p = p + 1 ∧ 117 ≤ t p
  · have ht := we_1 b2 a2.1
    obtain ⟨l1, l2⟩ := lk_l b2 a2.1
    have l1 : lkS t n p = 10 + (t p - 117) := by rw [l1]; unfold ltS; rw [if_neg (by omega), if_pos a2.2]
    have e2 : stA t n c p = (if tiN (cS c) = 4 then flC c p 2 else (cM c, p + 1, cE c, cO c, cC c, (4, t p - 117) :: cS c)) := by rw [e1]; unfold stA1; rw [if_pos a2]
    rw [l1] at k1
    by_cases c0 : tiN (cS c) = 4
    · rw [if_pos c0] at e2
      obtain ⟨I2, v1, v2, v3⟩ := fl 2 (by omega)
      exact ⟨I2, _, xX2_readFact_0 ⟨fun _ => ⟨_, _, k1, fun c => by omega, fun _ => ⟨fun _ => ⟨fun c => by omega, fun _ => ⟨fun c => by omega, fun _ => ⟨_, v1, rfl, rfl⟩⟩⟩, fun c => by omega⟩⟩, fun c => absurd h4 c⟩, v2, Rn.one (s0.trans e2), v3⟩
    · rw [if_neg c0] at e2
      rw [l2] at k2
      have run : Rn t n c (cM c, p + 1, cE c, cO c, cC c, (4, t p - 117) :: cS c) := Rn.one (s0.trans e2)
      obtain ⟨I2, c2, j1, j2, j3, j4⟩ := hT (by omega) (M := (I1, M.2.1, M.2.2)) (c := (cM c, p + 1, cE c, cO c, cC c, (4, t p - 117) :: cS c)) hS hX hStr (InvD_run run hi) hm he (by show dpN ((4, t p - 117) :: cS c) = dp; rw [dp_c, if_neg (by dsimp only; omega)]; omega) (by show tiN ((4, t p - 117) :: cS c) = ti + 1; rw [ti_c, if_pos rfl]; omega) ⟨p, p + 1, by show Cg t n _ _ 0 (cC c) (cO c ++ []) I1; rw [List.append_nil]; exact k2, by omega, rfl⟩
      rw [show ((ti + 1 : Nat) : Int) = (ti : Int) + 1 by omega] at j1
      have run2 := run.tr j3
      have hi2 := InvD_run run2 hi
      rcases j4 with ⟨m4, e4, s4, p4, st4, sp4, hc4, hsp4, hb4⟩ | fl4
      · have s4 : cS c2 = (4, t p - 117) :: cS c := s4
        have p4 : p + 1 < cP c2 := p4
        obtain ⟨q1, q2, -⟩ := hi2.1 e4
        rw [List.append_nil] at hc4
        have hl : (cO c2).length < 400 := by rw [s4] at q2; simp only [List.length_cons] at q2; omega
        obtain ⟨I3, v1, v2, v3⟩ := KX2_put (l := l) (G := G) (d := x + 10) (M := (I2, M.2.1, M.2.2)) (x1 := 10 + (t p - 117)) (x := (4, t p - 117)) hS hc4 hl (by unfold sgn; rw [if_neg (by dsimp only; omega), if_pos rfl])
        have run3 : Rn t n c2 (1, cP c2, cE c2, cO c2 ++ [(4, t p - 117)], cC c2, cS c) := by
          refine Rn.one ((step_1 m4).trans ?_)
          unfold stC
          rw [s4]
          show (if (4 : Int) = 3 ∨ (4 : Int) = 4 then (cM c2, cP c2, cE c2, cO c2 ++ [(4, t p - 117)], cC c2, cS c) else _) = _
          rw [if_pos (.inr rfl), m4]
        exact ⟨I3, _, xX2_readFact_0 ⟨fun _ => ⟨_, _, k1, fun c => by omega, fun _ => ⟨fun _ => ⟨fun c => by omega, fun _ => ⟨fun _ => ⟨by unfold InR; omega, _, j1, _, v1, rfl, rfl⟩, fun c => by omega⟩⟩, fun c => by omega⟩⟩, fun c => absurd h4 c⟩, (k3.tr j2).tr v3, run2.tr run3, .inl ⟨rfl, e4, rfl, by show cP c < cP c2; omega, st4, sp4, by show Cg t n _ _ 0 (cC c2) ((cO c2 ++ [(4, t p - 117)]) ++ []) I3; rw [List.append_nil]; exact v2, hsp4, hb4⟩⟩
      · have fl' := fl4
        obtain ⟨m4, e4, st4, sp4, fa4, o4, hc4⟩ := fl4
        have pn := put_no (l := l) (G := G) (d := x + 10) (M := (I2, M.2.1, M.2.2)) (x1 := 10 + (t p - 117)) hS hc4 e4
        exact ⟨I2, c2, xX2_readFact_0 ⟨fun _ => ⟨_, _, k1, fun c => by omega, fun _ => ⟨fun _ => ⟨fun c => by omega, fun _ => ⟨fun _ => ⟨by unfold InR; omega, _, j1, _, pn, rfl, rfl⟩, fun c => by omega⟩⟩, fun c => by omega⟩⟩, fun c => absurd h4 c⟩, k3.tr j2, run2, .inr fl'⟩
  have e2 : stA t n c p = stA2 t n c p := by rw [e1]; unfold stA1; rw [if_neg a2]
  by_cases a3 : we t n p = p + 1 ∧ t p ≤ 106
  · have ht := we_1 b2 a3.1
    obtain ⟨l1, l2⟩ := lk_l b2 a3.1
    have l1 : lkS t n p = t p - 97 := by rw [l1]; unfold ltS; rw [if_pos a3.2]
    rw [l1] at k1
    obtain ⟨I2, h, f, rn, fc⟩ := one (0, t p - 97) (t p - 97) 1 (by unfold sgn; rw [if_pos rfl]) l2 (by omega) (by omega) (by rw [e2]; unfold stA2; rw [if_pos a3])
    exact ⟨I2, _, xX2_readFact_0 ⟨fun _ => ⟨_, _, k1, fun _ => h, fun c => by omega⟩, fun c => absurd h4 c⟩, f, rn, fc⟩
  have e3 : stA t n c p = stA3 t n c p := by rw [e2]; unfold stA2; rw [if_neg a3]
  by_cases a4 : isW t n 1 p = true
  · obtain ⟨l1, l2⟩ := lk_W (by omega) b2 a4
    have l1 : lkS t n p = 24 := l1
    have l2 : lkE t n p = p + 2 := l2
    have hpn : p + 2 ≤ n := isW_n b2 a4
    rw [l1] at k1
    obtain ⟨I2, h, f, rn, fc⟩ := one (2, 0) 24 2 (by decide) l2 (by omega) hpn (by rw [e3]; unfold stA3; rw [if_pos a4])
    exact ⟨I2, _, xX2_readFact_0 ⟨fun _ => ⟨24, _, k1, fun c => by omega, fun _ => ⟨fun c => absurd rfl c, fun _ => h⟩⟩, fun c => absurd h4 c⟩, f, rn, fc⟩
  have e4 : stA t n c p = stA4 t n c p := by rw [e3]; unfold stA3; rw [if_neg a4]
  by_cases a5 : isW t n 0 p = true
  · obtain ⟨l1, l2⟩ := lk_W (by omega) b2 a5
    have l1 : lkS t n p = 16 := l1
    have l2 : lkE t n p = p + 2 := l2
    have hpn : p + 2 ≤ n := isW_n b2 a5
    rw [l1] at k1
    rw [l2] at k2
    obtain ⟨I2, v1, v2, v3⟩ := KX2_countFact (l := l) (G := G) (d := x + 9) (M := (I1, M.2.1, M.2.2)) k2 (by omega) i8
    have e5 : stA t n c p = (if cC c = 30 then flC c p 3 else
    if dg t n (bl t n (p + 2)) = bl t n (p + 2) then flC c (bl t n (p + 2)) 0
    else if bl t n (p + 2) + 1 < dg t n (bl t n (p + 2)) ∨ 56 ≤ t (bl t n (p + 2)) then flC c (bl t n (p + 2)) 1
    else (1, dg t n (bl t n (p + 2)), cE c, cO c ++ [(1, t (bl t n (p + 2)) - 48)], cC c + 1, cS c)) := by rw [e4]; unfold stA4; rw [if_pos a5]
    have run : Rn t n c (stA t n c p) := Rn.one s0
    by_cases c0 : cC c = 30
    · rw [if_pos c0] at v2 e5
      have pn := place_no (l := l) (G := G) (d := x + 9) (M := (I2, M.2.1, M.2.2)) v2 (by omega)
      refine ⟨I2, _, xX2_readFact_0 ⟨fun _ => ⟨16, _, k1, fun c => by omega, fun _ => ⟨fun _ => ⟨fun _ => ⟨fun c => absurd rfl c, fun _ => ⟨_, v1, _, pn, rfl, rfl⟩⟩, fun c => by omega⟩, fun c => by omega⟩⟩, fun c => absurd h4 c⟩, k3.tr v3, run, ?_⟩
      rw [e5]
      exact .inr ⟨rfl, by show ¬ (1 + 8 * (p : Int) + ((3 : Nat) : Int)) = 0; omega, _, _, _, _, v2⟩
    · rw [if_neg c0] at v2 e5
      obtain ⟨I3, u1, u2, u3⟩ := KX2_readPlace (l := l) (G := G) (d := x + 9) (M := (I2, M.2.1, M.2.2)) hS hX v2 hpn (by omega)
      obtain ⟨d1, d2⟩ := rn_ge (fun i => decide (t i = 32)) n (p + 2) hpn
      have d1 : p + 2 ≤ bl t n (p + 2) := d1
      have d2 : bl t n (p + 2) ≤ n := d2
      obtain ⟨f1, f2⟩ := rn_ge (fun i => decide (48 ≤ t i ∧ t i ≤ 57)) n (bl t n (p + 2)) d2
      have f1 : bl t n (p + 2) ≤ dg t n (bl t n (p + 2)) := f1
      have f2 : dg t n (bl t n (p + 2)) ≤ n := f2
      refine ⟨I3, _, xX2_readFact_0 ⟨fun _ => ⟨16, _, k1, fun c => by omega, fun _ => ⟨fun _ => ⟨fun _ => ⟨fun c => absurd rfl c, fun _ => ⟨_, v1, _, u1, rfl, rfl⟩⟩, fun c => by omega⟩, fun c => by omega⟩⟩, fun c => absurd h4 c⟩, (k3.tr v3).tr u3, run, ?_⟩
      rw [e5]
      rcases u2 with ⟨g1, g2⟩ | ⟨g1, g3, g2⟩ | ⟨g1, g3, g2⟩
      · rw [if_pos g1]
        exact .inr ⟨rfl, by show ¬ (1 + 8 * ((bl t n (p + 2) : Nat) : Int) + ((0 : Nat) : Int)) = 0; omega, _, _, _, _, g2⟩
      · rw [if_neg g1, if_pos g3]
        exact .inr ⟨rfl, by show ¬ (1 + 8 * ((bl t n (p + 2) : Nat) : Int) + ((1 : Nat) : Int)) = 0; omega, _, _, _, _, g2⟩
      · rw [if_neg g1, if_neg g3]
        exact .inl ⟨rfl, he, rfl, by show cP c < dg t n (bl t n (p + 2)); omega, bl t n (p + 2), dg t n (bl t n (p + 2)), by show Cg t n _ _ 0 (cC c + 1) ((cO c ++ [(1, t (bl t n (p + 2)) - 48)]) ++ []) I3; rw [List.append_nil]; exact g2, f2, rfl⟩
  have e5 : stA t n c p = flC c p 0 := by rw [e4]; unfold stA4; rw [if_neg a5]
  obtain ⟨I2, v1, v2, v3⟩ := fl 0 (by omega)
  have hv : lkS t n p = 32 ∨ lkS t n p = 29 ∨ lkS t n p = 26 ∨ lkS t n p = 27 ∨ lkS t n p = 30 ∨ lkS t n p = 31 := by
    rcases lk_sp t n p b2 with g | ⟨g, g1, g2⟩ | ⟨g, -, -⟩ | ⟨g1, g2, g⟩ | ⟨g1, g2, g⟩ | ⟨j, hj, g1, g⟩
    · omega
    · exact absurd ⟨g1, g2⟩ a0
    · omega
    · exact absurd ⟨g1, g2⟩ a3
    · exact absurd ⟨g1, g2⟩ a2
    · have hcd := cdW_v j hj
      by_cases j0 : j = 0
      · exact absurd (j0 ▸ g1) a5
      · by_cases j1 : j = 1
        · exact absurd (j1 ▸ g1) a4
        · by_cases j2 : j = 2
          · exact absurd (j2 ▸ g1) a1
          · omega
  exact ⟨I2, _, xX2_readFact_0 ⟨fun _ => ⟨_, _, k1, fun c => by omega, fun _ => ⟨fun _ => ⟨fun _ => ⟨fun _ => ⟨fun c => by omega, fun _ => ⟨fun _ => ⟨_, v1, rfl, rfl⟩, fun c => by omega⟩⟩, fun c => by omega⟩, fun c => by omega⟩, fun c => by omega⟩⟩, fun c => absurd h4 c⟩, v2, Rn.one (s0.trans e5), v3⟩
theorem rfact : ∀ (N dp ti : Nat), (10 - dp) + (4 - ti) ≤ N → dp ≤ 10 → ti ≤ 4 → ∀ d, RFact l G (d + 4 * N + 11) t n dp ti := by
  intro N
  induction N with
  | zero => intro dp ti h h1 h2 d; exact fact_c (fun h => by omega) (fun h => by omega) h1 h2
  | succ N ih =>
    intro dp ti h h1 h2 d
    rw [show d + 4 * (N + 1) + 11 = (d + 4 * N + 4) + 11 by omega]
    have g1 : dp < 10 → RFact l G (d + 4 * N + 4 + 7) t n (dp + 1) ti := fun hd => by
      rw [show d + 4 * N + 4 + 7 = d + 4 * N + 11 by omega]
      exact @ih (dp + 1) ti (by omega) (by omega) h2 d
    have g2 : dp < 10 → RFact l G (d + 4 * N + 4 + 9) t n (dp + 1) ti := fun hd => by
      rw [show d + 4 * N + 4 + 9 = d + 2 + 4 * N + 11 by omega]
      exact @ih (dp + 1) ti (by omega) (by omega) h2 (d + 2)
    have g3 : ti < 4 → RFact l G (d + 4 * N + 4 + 10) t n dp (ti + 1) := fun ht => by
      rw [show d + 4 * N + 4 + 10 = d + 3 + 4 * N + 11 by omega]
      exact @ih dp (ti + 1) (by omega) h1 (by omega) (d + 3)
    intro M c
    exact fact_c (x := d + 4 * N + 4) (fun hd => ⟨g1 hd, g2 hd⟩) g3 h1 h2
end CW8
