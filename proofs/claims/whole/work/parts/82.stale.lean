/-! stale, alone, tellers, lied: the class -/
section SC
variable {l : Launch} {G : Gt} {d : Nat} {Q : QT} {M : Mem}
theorem fitB {c s sent day r : Int} (hR : RelB Q M) (hq : WFQ Q) (hc : 0 ≤ c ∧ c < nCv Q) (hs : 0 ≤ s ∧ s < nPp Q) (hr : r = -1 ∨ (0 ≤ r ∧ r < nPp Q)) : ∃ M', Cl l G (d + 3) mX11_fitFor [vR (some (2, 0)), vR (some (13, c.toNat)), vI s, vI sent, vI day, vI r] M (some (vI (fV Q c.toNat s.toNat sent day r))) M' ∧ RelB Q M' ∧ frB M M' := by
  have h12 := nPp_le hq.1
  obtain ⟨M', k1, k2, k3⟩ := KX11_fitFor (l := l) (G := G) (d := d) (cv := c.toNat) (s := s.toNat) (sent := sent) (day := day) (r := r) hR.1 hq.1 hq.2.2.1 hq.2.2.2.2 (by omega) (by omega) hr
  rw [show ((s.toNat : Nat) : Int) = s by omega] at k1
  exact ⟨M', k1, hR.fr k2 k3.b, k3.b⟩
theorem KX11_stale {c s p day : Int} (hR : RelB Q M) (hq : WFQ Q) : ∃ M', Cl l G (d + 4) mX11_stale [vR (some (2, 0)), vI c, vI s, vI p, vI day] M (some (vI (staleV Q c s p day))) M' ∧ RelB Q M' ∧ frB M M' := by
  have h12 := nPp_le hq.1
  have e1 := cppl_eq hq.1 hR.1
  have hco := KX11_coverOf (l := l) (G := G) (d := d + 3) (c := c) hR.1 hq.2.2.2.2
  unfold staleV
  by_cases g : (0 ≤ c ∧ c < nCv Q) ∧ (0 ≤ s ∧ s < nPp Q) ∧ (0 ≤ p ∧ p < nPp Q) ∧ (0 ≤ day ∧ day ≤ 999)
  · rw [if_pos g]
    obtain ⟨g1, g2, g3, g4⟩ := g
    rw [if_pos g1] at hco
    obtain ⟨b1, b2, b3, b4⟩ := lastD_in g4
    have key : ∀ (n : Nat) (x : Int), x + n = lastD day + 1 → 0 ≤ x → ∀ M1, RelB Q M1 → frB M M1 → ∃ M', Ex l G (d + 4) mX11_stale 55 [some (vR (some (2, 0))), some (vI c), some (vI s), some (vI p), some (vI day), some (vR (some (13, c.toNat))), some (vI (lastD day)), some (vI x)] [] M1 (some (vI (stlF Q c.toNat s.toNat p day n x))) M' ∧ RelB Q M' ∧ frB M M' := by
      intro n
      induction n with
      | zero =>
        intro x hx h0 M1 R1 f1
        exact ⟨M1, xX11_stale_55 ⟨fun _ => ⟨rfl, rfl⟩, fun c => absurd (by omega) c⟩, R1, f1⟩
      | succ n ih =>
        intro x hx h0 M1 R1 f1
        obtain ⟨M3, c3, R3, f3⟩ := fitB (l := l) (G := G) (d := d) (c := c) (s := s) (sent := day) (day := x) (r := -1) R1 hq g1 g2 (.inl rfl)
        unfold stlF
        by_cases e : fV Q c.toNat s.toNat day x (-1) = aShl 1 p
        · rw [if_pos e]
          obtain ⟨M', x1, x2⟩ := ih (x + 1) (by omega) (by omega) M3 R3 (f1.tr f3)
          exact ⟨M', xX11_stale_55 ⟨fun c => by omega, fun _ => ⟨_, rfl, _, _, c3, by omega, fun _ => ⟨by unfold InR; omega, x1⟩, fun c => absurd e c⟩⟩, x2⟩
        · rw [if_neg e]
          exact ⟨M3, xX11_stale_55 ⟨fun c => by omega, fun _ => ⟨_, rfl, _, _, c3, by omega, fun c => absurd c e, fun _ => ⟨rfl, rfl⟩⟩⟩, R3, f1.tr f3⟩
    obtain ⟨M', x1, x2⟩ := key (lastD day - day + 1).toNat day (by omega) g4.1 M hR frB.rf
    refine ⟨M', xX11_stale_0 ⟨_, M, hco, hR.1.1, fun a => absurd a (by simp), fun _ => ?_⟩, x2⟩
    rw [e1]
    exact ⟨fun a => absurd g2 a, fun _ => ⟨fun a => absurd g3 a, fun _ => ⟨fun _ => ⟨by unfold InR; omega, x1⟩, fun a => absurd g4 a⟩⟩⟩
  · rw [if_neg g]
    refine ⟨M, xX11_stale_0 ⟨_, M, hco, hR.1.1, fun _ => ⟨rfl, rfl⟩, fun a => ?_⟩, hR, frB.rf⟩
    rw [e1]
    have g1 : 0 ≤ c ∧ c < nCv Q := by
      by_cases g1 : 0 ≤ c ∧ c < nCv Q
      · exact g1
      · rw [if_neg g1] at a; exact absurd rfl a
    exact ⟨fun _ => ⟨rfl, rfl⟩, fun g2 => ⟨fun _ => ⟨rfl, rfl⟩, fun g3 => ⟨fun g4 => absurd ⟨g1, g2, g3, g4⟩ g, fun _ => ⟨rfl, rfl⟩⟩⟩⟩
theorem KX11_alone {c s p day : Int} (hR : RelB Q M) (hq : WFQ Q) : ∃ M', Cl l G (d + 4) mX11_alone [vR (some (2, 0)), vI c, vI s, vI p, vI day] M (some (vI (aloneV Q c s p day))) M' ∧ RelB Q M' ∧ frB M M' := by
  have h12 := nPp_le hq.1
  have e1 := cppl_eq hq.1 hR.1
  have hco := KX11_coverOf (l := l) (G := G) (d := d + 3) (c := c) hR.1 hq.2.2.2.2
  unfold aloneV
  by_cases g : (0 ≤ c ∧ c < nCv Q) ∧ (0 ≤ s ∧ s < nPp Q) ∧ (0 ≤ p ∧ p < nPp Q) ∧ (0 ≤ day ∧ day ≤ 999)
  · rw [if_pos g]
    obtain ⟨g1, g2, g3, g4⟩ := g
    rw [if_pos g1] at hco
    obtain ⟨b1, b2, b3, b4⟩ := lastD_in g4
    obtain ⟨m, hm⟩ : ∃ m, (lastD day - day + 1).toNat = m := ⟨_, rfl⟩
    rw [hm]
    have key := loopUp (P := fun i : Nat => ∀ M1, RelB Q M1 → frB M M1 → ∃ M', Ex l G (d + 4) mX11_alone 58 [some (vR (some (2, 0))), some (vI c), some (vI s), some (vI p), some (vI day), some (vR (some (13, c.toNat))), some (vI (lastD day)), some (vI (cntF (fun i => fV Q c.toNat s.toNat day (day + i) (-1) = aShl 1 p) i)), some (vI (day + (i : Int)))] [] M1 (some (vI (cntF (fun i => fV Q c.toNat s.toNat day (day + i) (-1) = aShl 1 p) m))) M' ∧ RelB Q M' ∧ frB M M') 0 m (by omega) (by
      intro i _ hi ih M1 R1 f1
      have hc := cntF_in (fun i => fV Q c.toNat s.toNat day (day + i) (-1) = aShl 1 p) i
      obtain ⟨M3, c3, R3, f3⟩ := fitB (l := l) (G := G) (d := d) (c := c) (s := s) (sent := day) (day := day + (i : Int)) (r := -1) R1 hq g1 g2 (.inl rfl)
      obtain ⟨M', x1, x2⟩ := ih M3 R3 (f1.tr f3)
      refine ⟨M', xX11_alone_58 ⟨fun c => by omega, fun _ => ⟨_, rfl, _, _, c3, by omega, fun _ => by unfold InR; omega, by unfold InR; omega, ?_⟩⟩, x2⟩
      rw [show day + (i : Int) + 1 = day + ((i + 1 : Nat) : Int) by omega]
      have es : cntF (fun i => fV Q c.toNat s.toNat day (day + i) (-1) = aShl 1 p) (i + 1) = if fV Q c.toNat s.toNat day (day + (i : Int)) (-1) = aShl 1 p then cntF (fun i => fV Q c.toNat s.toNat day (day + i) (-1) = aShl 1 p) i + 1 else cntF (fun i => fV Q c.toNat s.toNat day (day + i) (-1) = aShl 1 p) i := by
        rw [show cntF (fun i => fV Q c.toNat s.toNat day (day + i) (-1) = aShl 1 p) (i + 1) = cntF (fun i => fV Q c.toNat s.toNat day (day + i) (-1) = aShl 1 p) i + (if fV Q c.toNat s.toNat day (day + (i : Int)) (-1) = aShl 1 p then 1 else 0) from rfl]
        split
        · rfl
        · rw [Int.add_zero]
      rw [← es]
      exact x1) (by
      intro M1 R1 f1
      exact ⟨M1, xX11_alone_58 ⟨fun _ => ⟨rfl, rfl⟩, fun c => absurd (by omega) c⟩, R1, f1⟩)
    obtain ⟨M', x1, x2⟩ := key M hR frB.rf
    rw [show day + ((0 : Nat) : Int) = day by omega] at x1
    refine ⟨M', xX11_alone_0 ⟨_, M, hco, hR.1.1, fun a => absurd a (by simp), fun _ => ?_⟩, x2⟩
    rw [e1]
    exact ⟨fun a => absurd g2 a, fun _ => ⟨fun a => absurd g3 a, fun _ => ⟨fun _ => ⟨by unfold InR; omega, x1⟩, fun a => absurd g4 a⟩⟩⟩
  · rw [if_neg g]
    refine ⟨M, xX11_alone_0 ⟨_, M, hco, hR.1.1, fun _ => ⟨rfl, rfl⟩, fun a => ?_⟩, hR, frB.rf⟩
    rw [e1]
    have g1 : 0 ≤ c ∧ c < nCv Q := by
      by_cases g1 : 0 ≤ c ∧ c < nCv Q
      · exact g1
      · rw [if_neg g1] at a; exact absurd rfl a
    exact ⟨fun _ => ⟨rfl, rfl⟩, fun g2 => ⟨fun _ => ⟨rfl, rfl⟩, fun g3 => ⟨fun g4 => absurd ⟨g1, g2, g3, g4⟩ g, fun _ => ⟨rfl, rfl⟩⟩⟩⟩
theorem KX11_tellers {c s day : Int} (hR : RelB Q M) (hq : WFQ Q) : ∃ M', Cl l G (d + 4) mX11_tellers [vR (some (2, 0)), vI c, vI s, vI day] M (some (vI (tellersV Q c s day))) M' ∧ RelB Q M' ∧ frB M M' := by
  have h12 := nPp_le hq.1
  have e1 := cppl_eq hq.1 hR.1
  have hco := KX11_coverOf (l := l) (G := G) (d := d + 3) (c := c) hR.1 hq.2.2.2.2
  unfold tellersV
  by_cases g : (0 ≤ c ∧ c < nCv Q) ∧ (0 ≤ s ∧ s < nPp Q) ∧ (0 ≤ day ∧ day ≤ 999)
  · rw [if_pos g]
    obtain ⟨g1, g2, g4⟩ := g
    rw [if_pos g1] at hco
    have key := loopUp (P := fun i : Nat => ∀ M1, RelB Q M1 → frB M M1 → ∃ M', Ex l G (d + 4) mX11_tellers 35 [some (vR (some (2, 0))), some (vI c), some (vI s), some (vI day), some (vR (some (13, c.toNat))), some (vI (bI i (fun r => decide (¬ fV Q c.toNat s.toNat day day r = 0)))), some (vI (i : Int))] [] M1 (some (vI (bI (nPp Q) (fun r => decide (¬ fV Q c.toNat s.toNat day day r = 0))))) M' ∧ RelB Q M' ∧ frB M M') 0 (nPp Q) (by omega) (by
      intro i _ hi ih M1 R1 f1
      have e1 := cppl_eq hq.1 R1.1
      obtain ⟨M3, c3, R3, f3⟩ := fitB (l := l) (G := G) (d := d) (c := c) (s := s) (sent := day) (day := day) (r := (i : Int)) R1 hq g1 g2 (by omega)
      obtain ⟨M', x1, x2⟩ := ih M3 R3 (f1.tr f3)
      refine ⟨M', xX11_tellers_35 R1.1.1 ⟨fun c => by omega, fun _ => ⟨_, rfl, _, _, c3, fun _ => by omega, by unfold InR; omega, ?_⟩⟩, x2⟩
      rw [bI_cl (by omega) (by simp)]
      exact x1) (by
      intro M1 R1 f1
      have e1 := cppl_eq hq.1 R1.1
      exact ⟨M1, xX11_tellers_35 R1.1.1 ⟨fun _ => ⟨rfl, rfl⟩, fun c => absurd (by omega) c⟩, R1, f1⟩)
    obtain ⟨M', x1, x2⟩ := key M hR frB.rf
    refine ⟨M', xX11_tellers_0 ⟨_, M, hco, hR.1.1, fun a => absurd a (by simp), fun _ => ?_⟩, x2⟩
    rw [e1]
    exact ⟨fun a => absurd g2 a, fun _ => ⟨fun _ => x1, fun a => absurd g4 a⟩⟩
  · rw [if_neg g]
    refine ⟨M, xX11_tellers_0 ⟨_, M, hco, hR.1.1, fun _ => ⟨rfl, rfl⟩, fun a => ?_⟩, hR, frB.rf⟩
    rw [e1]
    have g1 : 0 ≤ c ∧ c < nCv Q := by
      by_cases g1 : 0 ≤ c ∧ c < nCv Q
      · exact g1
      · rw [if_neg g1] at a; exact absurd rfl a
    exact ⟨fun _ => ⟨rfl, rfl⟩, fun g2 => ⟨fun g4 => absurd ⟨g1, g2, g4⟩ g, fun _ => ⟨rfl, rfl⟩⟩⟩
theorem KX11_lied {c s day : Int} (hR : RelB Q M) (hq : WFQ Q) : ∃ M', Cl l G (d + 4) mX11_lied [vR (some (2, 0)), vI c, vI s, vI day] M (some (vI (liedV Q c s day))) M' ∧ RelB Q M' ∧ frB M M' := by
  have h12 := nPp_le hq.1
  have e1 := cppl_eq hq.1 hR.1
  have hco := KX11_coverOf (l := l) (G := G) (d := d + 3) (c := c) hR.1 hq.2.2.2.2
  unfold liedV
  by_cases g : (0 ≤ c ∧ c < nCv Q) ∧ (0 ≤ s ∧ s < nPp Q) ∧ (0 ≤ day ∧ day ≤ 999)
  · rw [if_pos g]
    obtain ⟨g1, g2, g4⟩ := g
    rw [if_pos g1] at hco
    have key := loopUp (P := fun i : Nat => ∀ M1, RelB Q M1 → frB M M1 → ∃ M', Ex l G (d + 4) mX11_lied 47 [some (vR (some (2, 0))), some (vI c), some (vI s), some (vI day), some (vR (some (13, c.toNat))), some (vI (fV Q c.toNat s.toNat day day (-1))), some (vI (bI i (fun r => decide (¬ fV Q c.toNat s.toNat day day r = aAnd (fV Q c.toNat s.toNat day day (-1)) (bI 12 (snF Q (dn Q day) r)))))), some (vI (i : Int))] [] M1 (some (vI (bI (nPp Q) (fun r => decide (¬ fV Q c.toNat s.toNat day day r = aAnd (fV Q c.toNat s.toNat day day (-1)) (bI 12 (snF Q (dn Q day) r))))))) M' ∧ RelB Q M' ∧ frB M M') 0 (nPp Q) (by omega) (by
      intro i _ hi ih M1 R1 f1
      have e1 := cppl_eq hq.1 R1.1
      obtain ⟨M3, c3, R3, f3⟩ := fitB (l := l) (G := G) (d := d) (c := c) (s := s) (sent := day) (day := day) (r := (i : Int)) R1 hq g1 g2 (by omega)
      obtain ⟨M4, o4, R4, f4, p4, _⟩ := on_at (l := l) (G := G) (d := d + 1) (x := day) R3.1 hq.1
      have sn := KX11_seenBy (l := l) (G := G) (d := d + 2) (n := dn Q day) (k := dn Q day) (r := (i : Int)) R4.1 hq.1 hq.2.2.1 (dn_le Q day) R4.2.2.2.2.2 (R4.2.2.1.2.2.2.2.2 (dn Q day) p4) (by omega)
      obtain ⟨M', x1, x2⟩ := ih M4 (R3.fr R4 f4.b) ((f1.tr f3).tr f4.b)
      refine ⟨M', xX11_lied_47 R1.1.1 ⟨fun c => by omega, fun _ => ⟨_, _, c3, R3.1.1, _, _, o4, _, _, sn, fun _ => by omega, by unfold InR; omega, ?_⟩⟩, x2⟩
      rw [bI_cl (by omega) (by simp)]
      exact x1) (by
      intro M1 R1 f1
      have e1 := cppl_eq hq.1 R1.1
      exact ⟨M1, xX11_lied_47 R1.1.1 ⟨fun _ => ⟨rfl, rfl⟩, fun c => absurd (by omega) c⟩, R1, f1⟩)
    obtain ⟨M3, c3, R3, f3⟩ := fitB (l := l) (G := G) (d := d) (c := c) (s := s) (sent := day) (day := day) (r := -1) hR hq g1 g2 (.inl rfl)
    obtain ⟨M', x1, x2⟩ := key M3 R3 f3
    refine ⟨M', xX11_lied_0 ⟨_, M, hco, hR.1.1, fun a => absurd a (by simp), fun _ => ?_⟩, x2⟩
    rw [e1]
    exact ⟨fun a => absurd g2 a, fun _ => ⟨fun _ => ⟨_, rfl, _, _, c3, x1⟩, fun a => absurd g4 a⟩⟩
  · rw [if_neg g]
    refine ⟨M, xX11_lied_0 ⟨_, M, hco, hR.1.1, fun _ => ⟨rfl, rfl⟩, fun a => ?_⟩, hR, frB.rf⟩
    rw [e1]
    have g1 : 0 ≤ c ∧ c < nCv Q := by
      by_cases g1 : 0 ≤ c ∧ c < nCv Q
      · exact g1
      · rw [if_neg g1] at a; exact absurd rfl a
    exact ⟨fun _ => ⟨rfl, rfl⟩, fun g2 => ⟨fun g4 => absurd ⟨g1, g2, g4⟩ g, fun _ => ⟨rfl, rfl⟩⟩⟩
end SC
