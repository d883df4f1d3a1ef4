/-! letter -/
section LE2
variable {l : Launch} {G : Gt} {d : Nat} {Q Q' : QT} {M M' : Mem} {k : Nat} {s c p pl now : Int}
theorem letN_f {f : Nat} (h : ¬ (62 ≤ f ∧ f ≤ 70)) : letN Q k s c p pl now f = Q f := by
  unfold letN
  rw [upQ_f (by omega), upQ_f (by omega), upQ_f (by omega), upQ_f (by omega), upQ_f (by omega), upQ_f (by omega), upQ_f (by omega), upQ_f (by omega), upQ_f (by omega)]
theorem letN_o {f j : Nat} (h : j ≠ k) : letN Q k s c p pl now f j = Q f j := by
  unfold letN
  rw [upQ_o (fun e => h e.2), upQ_o (fun e => h e.2), upQ_o (fun e => h e.2), upQ_o (fun e => h e.2), upQ_o (fun e => h e.2), upQ_o (fun e => h e.2), upQ_o (fun e => h e.2), upQ_o (fun e => h e.2), upQ_o (fun e => h e.2)]
theorem letN_s : letN Q k s c p pl now 62 k = s ∧ letN Q k s c p pl now 63 k = c ∧ letN Q k s c p pl now 64 k = p ∧ letN Q k s c p pl now 65 k = now ∧ letN Q k s c p pl now 66 k = 0 ∧ letN Q k s c p pl now 67 k = pl ∧ letN Q k s c p pl now 68 k = now ∧ letN Q k s c p pl now 69 k = -1 ∧ letN Q k s c p pl now 70 k = aShl 1 pl := by
  refine ⟨?_, ?_, ?_, ?_, ?_, ?_, ?_, ?_, ?_⟩
  · show (if k = k then s else _) = s; rw [if_pos rfl]
  · show (if k = k then c else _) = c; rw [if_pos rfl]
  · show (if k = k then p else _) = p; rw [if_pos rfl]
  · show (if k = k then now else _) = now; rw [if_pos rfl]
  · show (if k = k then 0 else _) = _; rw [if_pos rfl]
  · show (if k = k then pl else _) = pl; rw [if_pos rfl]
  · show (if k = k then now else _) = now; rw [if_pos rfl]
  · show (if k = k then -1 else _) = _; rw [if_pos rfl]
  · show (if k = k then aShl 1 pl else _) = _; rw [if_pos rfl]
def letZ (Q : QT) (s c p pl : Int) : QT := upQ (letN Q (nLt Q) s c p pl (Q 48 5)) 48 3 (Q 48 3 + 1)
theorem letZ_eq : eqC Q (letZ Q s c p pl) ∧ eqV Q (letZ Q s c p pl) ∧ eqR Q (letZ Q s c p pl) ∧ (letZ Q s c p pl 48 4 = Q 48 4 ∧ letZ Q s c p pl 50 = Q 50 ∧ letZ Q s c p pl 51 = Q 51 ∧ letZ Q s c p pl 52 = Q 52) ∧ (∀ f, ¬ (48 ≤ f ∧ f ≤ 70) → letZ Q s c p pl f = Q f) ∧ letZ Q s c p pl 48 3 = Q 48 3 + 1 ∧ letZ Q s c p pl 48 5 = Q 48 5 := by
  refine ⟨⟨rfl, rfl, rfl, rfl, rfl, rfl, rfl, rfl, rfl⟩, ⟨rfl, rfl, rfl, rfl, rfl, rfl⟩, ⟨rfl, rfl, rfl, rfl⟩, ⟨rfl, rfl, rfl, rfl⟩, fun f hf => ?_, rfl, rfl⟩
  unfold letZ
  rw [upQ_f (by omega), letN_f (by omega)]
theorem one_bI {pl : Int} (h : 0 ≤ pl ∧ pl < 8) : aShl 1 pl = bI 8 (fun j => tb (aShl 1 pl) (j : Int)) := (begL_WL (Q := fun _ _ => 1) (g := fun _ => 0) (s := 0) (p := 0) (day := 0) (by unfold nPp; simp) h (by omega)).2.2.1
theorem letZ_n (hl : WFl Q) : nLt (letZ Q s c p pl) = nLt Q + 1 := by
  have := hl.1
  unfold nLt
  rw [letZ_eq.2.2.2.2.2.1]
  omega
theorem letZ_W (h : WFA Q) (h0 : ¬ Q 48 3 = 8) (h1 : 0 ≤ s ∧ s < nPp Q) (h2 : 0 ≤ c ∧ c < nCv Q) (h3 : 0 ≤ pl ∧ pl < 8) : WFA (letZ Q s c p pl) := by
  obtain ⟨hc, hv, hr, ⟨e4, ek, ew, ey⟩, hO, e3, e5⟩ := letZ_eq (Q := Q) (s := s) (c := c) (p := p) (pl := pl)
  have q := WFQ_q hc hv hr ek h.q
  have hl := h.l
  have en := letZ_n (s := s) (c := c) (p := p) (pl := pl) hl
  refine h.mk2 ⟨q.1, q.2.1, q.2.2.1, q.2.2.2.1, ⟨by rw [e3]; have := hl.1; omega, by rw [e5]; exact hl.2.1, fun i hi => ?_⟩, by rw [nPp_q hc, ek]; exact h.1.2.2.2.2.2.1, by rw [ew]; exact h.1.2.2.2.2.2.2.1, by rw [e4, ey]; exact h.1.2.2.2.2.2.2.2⟩ q.2.2.2.2 (by rw [hO _ (by omega), hO _ (by omega)]; exact h.2.2.1) ?_ (eqM.of hO) hv.2.2.2.2
  · rw [en] at hi
    rw [nPp_q hc, nCv_q hv]
    by_cases e : i = nLt Q
    · subst e
      obtain ⟨n1, n2, n3, n4, n5, n6, n7, n8, n9⟩ := letN_s (Q := Q) (k := nLt Q) (s := s) (c := c) (p := p) (pl := pl) (now := Q 48 5)
      unfold letZ
      rw [upQ_f (by omega), upQ_f (by omega), upQ_f (by omega), upQ_f (by omega), upQ_f (by omega), upQ_f (by omega), upQ_f (by omega), n1, n2, n5, n6, n7, n8, n9]
      have := hl.2.1
      exact ⟨h1, h2, h3, by omega, one_bI h3, .inr ⟨.inl rfl, rfl⟩⟩
    · unfold letZ
      rw [upQ_f (by omega), upQ_f (by omega), upQ_f (by omega), upQ_f (by omega), upQ_f (by omega), upQ_f (by omega), upQ_f (by omega), letN_o e, letN_o e, letN_o e, letN_o e, letN_o e, letN_o e, letN_o e]
      exact hl.2.2 i (by omega)
  · have h8 : nLt Q < 8 := by have := hl.1; unfold nLt; omega
    intro f i g1 g2 g3
    unfold letZ
    by_cases e : f = 48
    · subst e
      rw [upQ_i (fun e => by subst e; unfold lenF at g3; rw [if_pos rfl] at g3; omega), letN_f (by omega)]
      exact h.2.2.2.1 _ i g1 g2 g3
    · rw [upQ_f e]
      by_cases e2 : 62 ≤ f
      · rw [letN_o (fun e3 => ?_)]
        · exact h.2.2.2.1 f i g1 g2 g3
        · unfold lenF at g3
          rw [if_neg (by omega), if_neg (by omega), if_neg (by omega), if_neg (by omega), if_neg (by omega), if_neg (by omega)] at g3
          omega
      · rw [letN_f (by omega)]; exact h.2.2.2.1 f i g1 g2 g3
theorem letterQ_W (h : WFA Q) : WFA (letterQ Q s c p pl) := by
  unfold letterQ
  by_cases g : ¬ Q 48 3 = 8 ∧ (0 ≤ s ∧ s < nPp Q) ∧ (0 ≤ c ∧ c < nCv Q) ∧ (0 ≤ p ∧ p < nPp Q) ∧ ¬ s = p ∧ (0 ≤ pl ∧ pl < 8)
  · rw [if_pos g]; exact letZ_W h g.1 g.2.1 g.2.2.1 g.2.2.2.2.2
  · rw [if_neg g]; exact h
theorem KX12_letter (hS : Sh M.2.1) (hw : WFA Q) (hH : HoldsQ Q M.1) : ∃ I', Cl l G (d + 2) mX12_letter [vR (some (3, 0)), vI s, vI c, vI p, vI pl] M (some (vI (letterV Q s c p pl))) (I', M.2.1, M.2.2) ∧ HoldsQ (letterQ Q s c p pl) I' ∧ frR M.1 I' := by
  have h12 := nPp_le hw.1.1
  have e1 := mppl_eq hw.1.1 hH.m
  have e2 : M.1 3 0 33 = (nCv Q : Int) := by rw [hH.m.2.2.2.1]; have := hw.2.1.1; unfold nCv; omega
  have hn8 : nCv Q ≤ 8 := by have := hw.2.1.1; unfold nCv; omega
  have e3 : M.1 48 0 3 = Q 48 3 := hH.1 _ _ (by unfold perF; omega)
  have e5 : M.1 48 0 5 = Q 48 5 := hH.1 _ _ (by unfold perF; omega)
  have hl := hw.l
  have h3 := hl.1
  unfold letterV letterQ
  by_cases g : ¬ Q 48 3 = 8 ∧ (0 ≤ s ∧ s < nPp Q) ∧ (0 ≤ c ∧ c < nCv Q) ∧ (0 ≤ p ∧ p < nPp Q) ∧ ¬ s = p ∧ (0 ≤ pl ∧ pl < 8)
  · rw [if_pos g, if_pos g]
    obtain ⟨g0, g1, g2, g3, g4, g5⟩ := g
    have H : HoldsQ (letN Q (nLt Q) s c p pl (Q 48 5)) (upI (upI (upI (upI (upI (upI (upI (upI (upI M.1 62 0 (nLt Q) s) 63 0 (nLt Q) c) 64 0 (nLt Q) p) 65 0 (nLt Q) (Q 48 5)) 66 0 (nLt Q) 0) 67 0 (nLt Q) pl) 68 0 (nLt Q) (Q 48 5)) 69 0 (nLt Q) (-1)) 70 0 (nLt Q) (aShl 1 pl)) := ((((((((hH.up (by unfold perF; omega) (by omega)).up (by unfold perF; omega) (by omega)).up (by unfold perF; omega) (by omega)).up (by unfold perF; omega) (by omega)).up (by unfold perF; omega) (by omega)).up (by unfold perF; omega) (by omega)).up (by unfold perF; omega) (by omega)).up (by unfold perF; omega) (by omega)).up (by unfold perF; omega) (by omega)
    refine ⟨_, xX12_letter_0 hS ?_, H.up (f := 48) (i := 3) (v := Q 48 3 + 1) (by unfold perF; omega) (by omega), (((((((((frR.up (by omega)).tr (frR.up (by omega))).tr (frR.up (by omega))).tr (frR.up (by omega))).tr (frR.up (by omega))).tr (frR.up (by omega))).tr (frR.up (by omega))).tr (frR.up (by omega))).tr (frR.up (by omega))).tr (frR.up (by omega))⟩
    rw [e1, e2, e3, e5]
    exact ⟨fun c => absurd c g0, fun _ => ⟨by unfold InR; omega, fun c => absurd g1 c, fun _ => ⟨by unfold InR; omega, fun c => absurd g2 c, fun _ => ⟨by unfold InR; omega, fun c => absurd g3 c, fun _ => ⟨fun c => absurd c.symm g4, fun _ => ⟨fun _ => ⟨⟨by omega, by omega, by unfold InR; omega⟩, rfl, rfl⟩, fun c => absurd g5 c⟩⟩⟩⟩⟩⟩
  · rw [if_neg g, if_neg g]
    refine ⟨M.1, xX12_letter_0 hS ?_, hH, frR.rf⟩
    rw [e1, e2, e3]
    exact ⟨fun _ => ⟨rfl, rfl⟩, fun g0 => ⟨by unfold InR; omega, fun _ => ⟨rfl, rfl⟩, fun g1 => ⟨by unfold InR; omega, fun _ => ⟨rfl, rfl⟩, fun g2 => ⟨by unfold InR; omega, fun _ => ⟨rfl, rfl⟩, fun g3 => ⟨fun _ => ⟨rfl, rfl⟩, fun g4 => ⟨fun g5 => absurd ⟨g0, g1, g2, g3, fun e => g4 e.symm, g5⟩ g, fun _ => ⟨rfl, rfl⟩⟩⟩⟩⟩⟩⟩
theorem KX11_letter (hR : RelC Q M) (hw : WFA Q) : ∃ M', Cl l G (d + 3) mX11_letter [vR (some (2, 0)), vI s, vI c, vI p, vI pl] M (some (vI (letterV Q s c p pl))) M' ∧ RelC (letterQ Q s c p pl) M' ∧ frK M M' := by
  have h12 := nPp_le hw.1.1
  have e1 := cppl_eq hw.1.1 hR.1.1
  have hco := KX11_coverOf (l := l) (G := G) (d := d + 2) (c := c) hR.1.1 hw.2.1
  have hl := hw.l
  have h3 := hl.1
  have hL := hR.2.1.2.2.2.2.2.2.2
  have e3 : M.1 4 0 8 = Q 48 3 := hL.1.1
  have e5 : M.1 4 0 10 = Q 48 5 := hL.1.2
  unfold letterV letterQ
  by_cases g : ¬ Q 48 3 = 8 ∧ (0 ≤ s ∧ s < nPp Q) ∧ (0 ≤ c ∧ c < nCv Q) ∧ (0 ≤ p ∧ p < nPp Q) ∧ ¬ s = p ∧ (0 ≤ pl ∧ pl < 8)
  · rw [if_pos g, if_pos g]
    obtain ⟨g0, g1, g2, g3, g4, g5⟩ := g
    rw [if_pos g2] at hco
    have hk8 : nLt Q < 8 := by unfold nLt; omega
    have hp : M.2.1 38 0 (Q 48 3).toNat = some (5, nLt Q) := hL.2.1 (nLt Q) hk8
    have b := KX5_begin (l := l) (G := G) (d := d + 1) (M := M) (k0 := nLt Q) (cv := c.toNat) (s := s) (p := p) (pl := pl) (day := Q 48 5) g5
    have B1 : RelB Q (seI M.1 5 (nLt Q) (begL (M.1 5 (nLt Q)) s p pl (Q 48 5)), upR M.2.1 5 (nLt Q) 0 (some (13, c.toNat)), M.2.2) := hR.1.beg
    obtain ⟨hc, hv, hr, ⟨q4, qk, qw, qy⟩, hO, q3, q5⟩ := letZ_eq (Q := Q) (s := s) (c := c) (p := p) (pl := pl)
    have en := letZ_n (s := s) (c := c) (p := p) (pl := pl) hl
    have o : ∀ f' k' i', ¬ (f' = 4 ∧ k' = 0 ∧ i' = 8) → ¬ (f' = 5 ∧ k' = nLt Q) → upI (seI M.1 5 (nLt Q) (begL (M.1 5 (nLt Q)) s p pl (Q 48 5))) 4 0 8 (Q 48 3 + 1) f' k' i' = M.1 f' k' i' := fun f' k' i' h1 h2 => by
      by_cases e : f' = 4 ∧ k' = 0
      · obtain ⟨rfl, rfl⟩ := e
        rw [upI_i (by omega), seI_fam (by omega)]
      · rw [upI_o e, seI_o h2]
    have oR : ∀ f' k' i', ¬ (f' = 5 ∧ k' = nLt Q) → upR M.2.1 5 (nLt Q) 0 (some (13, c.toNat)) f' k' i' = M.2.1 f' k' i' := fun f' k' i' h => by rw [upR_o h]
    obtain ⟨⟨a1, a2, a3, a4⟩, a5, a6, a7, a8, a9, a10, a11⟩ := hR.2.1
    refine ⟨(upI (seI M.1 5 (nLt Q) (begL (M.1 5 (nLt Q)) s p pl (Q 48 5))) 4 0 8 (Q 48 3 + 1), upR M.2.1 5 (nLt Q) 0 (some (13, c.toNat)), M.2.2), xX11_letter_0 ⟨_, M, hco, hR.1.1.1, ?_⟩, hR.one hw ?_ ?_ ?_ (eqM.of hO) (fun f k i hh => o f k i (by omega) (by omega)) (fun f k i hh => oR f k i (by omega)) (fun _ _ => rfl), ⟨fun f k i hh => o f k i (by omega) (by omega), ⟨rfl, rfl⟩, Nat.le_add_right _ _, Nat.le_add_right _ _⟩⟩
    · have e8 : (seI M.1 5 (nLt Q) (begL (M.1 5 (nLt Q)) s p pl (Q 48 5))) 4 0 8 = Q 48 3 := by rw [seI_fam (by omega)]; exact e3
      rw [e1, e3, e5]
      refine ⟨fun c => by omega, fun _ => ⟨fun _ => ⟨fun c => absurd ⟨g1, g3, g4⟩ c, fun _ => ⟨fun _ => ⟨by omega, nLt Q, hp, c.toNat, rfl, _, b, B1.1.1, ?_⟩, fun c => absurd g5 c⟩⟩, fun c => absurd c (by simp)⟩⟩
      dsimp only
      rw [e8]
      exact ⟨by unfold InR; omega, rfl, rfl⟩
    · refine RelB_q hc hv hr qk ⟨B1.1.up (by unfold relF; omega), ⟨fun x y hx hy => ?_, fun x y hx hy => ?_⟩, fun x y hx hy => ?_⟩
      · dsimp only; rw [o _ _ _ (by omega) (by omega)]; exact hR.1.2.1.1 x y hx hy
      · dsimp only; rw [o _ _ _ (by omega) (by omega)]; exact hR.1.2.1.2 x y hx hy
      · dsimp only; rw [o _ _ _ (by omega) (by omega)]; exact hR.1.2.2 x y hx hy
    · refine ⟨⟨?_, ?_, ?_, ?_⟩, fun j hj => ?_, fun x y hx hy => ?_, fun j hj => ?_, fun j hj => ?_, fun j hj => ?_, fun j hj => ?_, ⟨?_, ?_⟩, fun j hj => ?_, fun j hj => ?_⟩
      · dsimp only; rw [o _ _ _ (by omega) (by omega)]; exact a1
      · dsimp only; rw [o _ _ _ (by omega) (by omega)]; exact a2
      · dsimp only; rw [o _ _ _ (by omega) (by omega)]; exact a3
      · dsimp only; rw [o _ _ _ (by omega) (by omega)]; exact a4
      · dsimp only; rw [o _ _ _ (by omega) (by omega)]; exact a5 j hj
      · dsimp only; rw [o _ _ _ (by omega) (by omega)]; show _ = rd (letZ Q s c p pl) x y; rw [rd_q hr]; exact a6 x y hx hy
      · dsimp only; rw [o _ _ _ (by omega) (by omega)]; show _ = pk (letZ Q s c p pl) (srt (letZ Q s c p pl) j); rw [pk_q hc, srt_q hc]; exact a7 j (by rw [← nCh_q hc]; exact hj)
      · dsimp only; rw [o _ _ _ (by omega) (by omega)]; exact a8 j hj
      · dsimp only; rw [o _ _ _ (by omega) (by omega)]; exact a9 j hj
      · dsimp only; rw [o _ _ _ (by omega) (by omega)]; exact a10 j hj
      · dsimp only; rw [upI_s]; exact q3.symm
      · dsimp only; rw [o _ _ _ (by omega) (by omega)]; exact a11.1.2
      · dsimp only; rw [oR _ _ _ (by omega)]; exact a11.2.1 j hj
      · change j < nLt (letZ Q s c p pl) at hj
        rw [en] at hj
        by_cases e : j = nLt Q
        · subst e
          obtain ⟨n1, n2, n3, n4, n5, n6, n7, n8, n9⟩ := letN_s (Q := Q) (k := nLt Q) (s := s) (c := c) (p := p) (pl := pl) (now := Q 48 5)
          have eL : upI (seI M.1 5 (nLt Q) (begL (M.1 5 (nLt Q)) s p pl (Q 48 5))) 4 0 8 (Q 48 3 + 1) 5 (lti 0 (nLt Q)) = begL (M.1 5 (nLt Q)) s p pl (Q 48 5) := by
            rw [upI_o (by omega)]; exact seI_s
          dsimp only
          rw [eL]
          unfold LtC
          rw [upQ_f (by omega), upQ_f (by omega), upQ_f (by omega), upQ_f (by omega), upQ_f (by omega), upQ_f (by omega), upQ_f (by omega), upQ_f (by omega), upQ_f (by omega), n1, n2, n3, n4, n5, n6, n7, n8, n9]
          refine ⟨?_, rfl, rfl, rfl, rfl, rfl, rfl, rfl, rfl, ?_, ?_⟩
          · show upR M.2.1 5 (nLt Q) 0 (some (13, c.toNat)) 5 (nLt Q) 0 = _
            rw [upR_s]
          · show (0 : Int) ≤ 0; omega
          · show (0 : Int) ≤ Q 48 5; exact hl.2.1.1
        · have eL : upI (seI M.1 5 (nLt Q) (begL (M.1 5 (nLt Q)) s p pl (Q 48 5))) 4 0 8 (Q 48 3 + 1) 5 (lti 0 j) = M.1 5 (lti 0 j) := by
            rw [upI_o (by omega)]
            exact seI_o (fun e2 => e e2.2)
          have eR : upR M.2.1 5 (nLt Q) 0 (some (13, c.toNat)) 5 (lti 0 j) 0 = M.2.1 5 (lti 0 j) 0 := oR _ _ _ (fun e2 => e e2.2)
          dsimp only
          rw [eL, eR]
          unfold LtC
          rw [upQ_f (by omega), upQ_f (by omega), upQ_f (by omega), upQ_f (by omega), upQ_f (by omega), upQ_f (by omega), upQ_f (by omega), upQ_f (by omega), upQ_f (by omega), letN_o e, letN_o e, letN_o e, letN_o e, letN_o e, letN_o e, letN_o e, letN_o e, letN_o e]
          exact a11.2.2 j (by omega)
    · exact hR.2.2.1.fr (by show letZ Q s c p pl 3 29 = _; rw [hO _ (by omega)]) (hO _ (by omega)) (o 2 0 12 (by omega) (by omega)) (fun i => o 16 0 i (by omega) (by omega))
  · rw [if_neg g, if_neg g]
    refine ⟨M, xX11_letter_0 ⟨_, M, hco, hR.1.1.1, ?_⟩, hR, frK.rf⟩
    rw [e1, e3]
    refine ⟨fun _ => ⟨rfl, rfl⟩, fun g0 => ⟨fun a => ?_, fun _ => ⟨rfl, rfl⟩⟩⟩
    have g2 : 0 ≤ c ∧ c < nCv Q := by
      by_cases g2 : 0 ≤ c ∧ c < nCv Q
      · exact g2
      · rw [if_neg g2] at a; exact absurd rfl a
    exact ⟨fun _ => ⟨rfl, rfl⟩, fun g1 => ⟨fun g5 => absurd ⟨by omega, g1.1, g2, g1.2.1, g1.2.2, g5⟩ g, fun _ => ⟨rfl, rfl⟩⟩⟩
end LE2
