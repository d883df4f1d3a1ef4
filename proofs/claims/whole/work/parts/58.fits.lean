section FF
variable {l : Launch} {G : Gt} {d : Nat} {Q : QT} {M : Mem}
theorem on_at {x : Int} (hR : RelA Q M) (hw : WFc Q) : ∃ M', Cl l G (d + 2) mX6_on [vR (some (6, 0)), vI x] M (some (vR (some (14, dn Q x)))) M' ∧ RelA Q M' ∧ frA M M' ∧ (dn Q x : Int) ≤ M'.1 6 0 2 ∧ M.1 6 0 2 ≤ M'.1 6 0 2 := by
  obtain ⟨M', h1, h2, h3, h4, h5, h6⟩ := KX6_on (l := l) (G := G) (d := d) (x1 := x) hR.1 hw hR.2.1 hR.2.2.1
  exact ⟨M', h1, hR.frP h2 h3 h4, h4.a, h5, h6⟩
theorem KX11_fitFor {cv s : Nat} {sent day r : Int} (hR : RelA Q M) (hw : WFc Q) (hk : WFk Q) (hV : WFV Q) (hcv : cv < nCv Q) (hs : s < 12) (hr : r = -1 ∨ (0 ≤ r ∧ r < nPp Q)) : ∃ M', Cl l G (d + 3) mX11_fitFor [vR (some (2, 0)), vR (some (13, cv)), vI (s : Int), vI sent, vI day, vI r] M (some (vI (fitV Q (if Q 84 cv = 0 then dn Q sent else dn Q day) s (snF Q (dn Q day) r) cv))) M' ∧ RelA Q M' ∧ frA M M' := by
  have h12 := nPp_le hw
  obtain ⟨M1, o1, R1, f1, p1, _⟩ := on_at (l := l) (G := G) (d := d) (x := day) hR hw
  have t1 := (R1.2.2.2.2.1.2.2 cv hcv).2.2.2.2
  by_cases c : Q 84 cv = 0
  · obtain ⟨M4, o4, R4, f4, p4, q4⟩ := on_at (l := l) (G := G) (d := d) (x := sent) R1 hw
    obtain ⟨M', k1, k2, k3⟩ := fit_at (l := l) (G := G) (d := d + 1) (n := dn Q sent) (k := dn Q sent) (cv := cv) (s := s) (seen := snF Q (dn Q day) r) R4 hw hV hcv hs rfl p4
    refine ⟨M', xX11_fitFor_0 hR.1 ⟨dn Q day, M1, o1, R1.1, fun _ => ⟨dn Q sent, M4, o4, R4.1, fun c2 => ?_, fun c2 => ?_⟩, fun c2 => absurd (t1.trans c) c2⟩, k2, (f1.tr f4).tr k3⟩
    · rw [if_pos c]
      have sn := KX11_seenBy (l := l) (G := G) (d := d + 1) (n := dn Q day) (k := dn Q day) (r := r) R4.1 hw hk (dn_le Q day) R4.2.2.2.2.2 (R4.2.2.1.2.2.2.2.2 (dn Q day) (by omega)) (by omega)
      exact ⟨_, M4, sn, R4.1, _, M', k1, rfl, rfl⟩
    · rw [if_pos c]
      subst c2
      have e := R4.2.1.1
      have hb := hw.1
      rw [e, every_sn (n := dn Q day) hw]
      exact ⟨by omega, _, M', k1, rfl, rfl⟩
  · obtain ⟨M', k1, k2, k3⟩ := fit_at (l := l) (G := G) (d := d + 1) (n := dn Q day) (k := dn Q day) (cv := cv) (s := s) (seen := snF Q (dn Q day) r) R1 hw hV hcv hs rfl p1
    refine ⟨M', xX11_fitFor_0 hR.1 ⟨dn Q day, M1, o1, R1.1, fun c2 => absurd (t1.symm.trans c2) c, fun _ => ⟨fun c2 => ?_, fun c2 => ?_⟩⟩, k2, f1.tr k3⟩
    · rw [if_neg c]
      have sn := KX11_seenBy (l := l) (G := G) (d := d + 1) (n := dn Q day) (k := dn Q day) (r := r) R1.1 hw hk (dn_le Q day) R1.2.2.2.2.2 (R1.2.2.1.2.2.2.2.2 (dn Q day) p1) (by omega)
      exact ⟨_, M1, sn, R1.1, _, M', k1, rfl, rfl⟩
    · rw [if_neg c]
      subst c2
      have e := R1.2.1.1
      have hb := hw.1
      rw [e, every_sn (n := dn Q day) hw]
      exact ⟨by omega, _, M', k1, rfl, rfl⟩
theorem KX11_coverOf {c : Int} (hR : RelA Q M) (hV : WFV Q) : Cl l G d mX11_coverOf [vR (some (2, 0)), vI c] M (some (vR (if 0 ≤ c ∧ c < nCv Q then some (13, c.toNat) else none))) M := by
  have e : M.1 2 0 10 = (nCv Q : Int) := by rw [hR.2.2.2.2.1.1]; have := hV.1; unfold nCv; omega
  have h8 : nCv Q ≤ 8 := by have := hV.1; unfold nCv; omega
  refine xX11_coverOf_0 hR.1 ⟨fun a => ⟨by rw [if_neg (show ¬ (0 ≤ c ∧ c < (nCv Q : Int)) by omega)], rfl⟩, fun a => ?_⟩
  rw [e]
  refine ⟨fun b => ⟨by omega, ?_, rfl⟩, fun b => ⟨by rw [if_neg (show ¬ (0 ≤ c ∧ c < (nCv Q : Int)) by omega)], rfl⟩⟩
  rw [if_pos (show 0 ≤ c ∧ c < (nCv Q : Int) by omega), (hR.2.2.2.2.1.2.2 c.toNat (by omega)).1]
theorem KX11_fits {c s sent day r : Int} (hR : RelA Q M) (hw : WFc Q) (hk : WFk Q) (hV : WFV Q) : ∃ M', Cl l G (d + 4) mX11_fits [vR (some (2, 0)), vI c, vI s, vI sent, vI day, vI r] M (some (vI (fitsV Q c s sent day r))) M' ∧ RelA Q M' ∧ frA M M' := by
  have h12 := nPp_le hw
  have hpp := nPp_eq hw
  have e1 : M.1 4 0 0 = (nPp Q : Int) := by rw [hR.2.1.1, hpp]
  have hco := KX11_coverOf (l := l) (G := G) (d := d + 3) (c := c) hR hV
  by_cases g : (0 ≤ c ∧ c < nCv Q) ∧ (0 ≤ s ∧ s < nPp Q) ∧ (0 ≤ sent ∧ sent ≤ 999) ∧ (0 ≤ day ∧ day ≤ 999) ∧ (r = -1 ∨ (0 ≤ r ∧ r < nPp Q))
  · obtain ⟨g1, g2, g3, g4, g5⟩ := g
    rw [if_pos g1] at hco
    obtain ⟨M', k1, k2, k3⟩ := KX11_fitFor (l := l) (G := G) (d := d) (cv := c.toNat) (s := s.toNat) (sent := sent) (day := day) (r := r) hR hw hk hV (by omega) (by omega) g5
    rw [show ((s.toNat : Nat) : Int) = s by omega] at k1
    have ev : fitsV Q c s sent day r = fitV Q (if Q 84 c.toNat = 0 then dn Q sent else dn Q day) s.toNat (snF Q (dn Q day) r) c.toNat := by unfold fitsV; rw [if_pos ⟨g1, g2, g3, g4, g5⟩]
    rw [ev]
    refine ⟨M', xX11_fits_0 ⟨_, M, hco, hR.1, fun a => absurd a (by simp), fun _ => ?_⟩, k2, k3⟩
    rw [e1]
    exact ⟨fun a => absurd g2 a, fun _ => ⟨fun a => absurd g3 a, fun _ => ⟨fun _ => ⟨fun _ => ⟨c.toNat, rfl, _, M', k1, rfl, rfl⟩, fun a => ⟨fun _ => ⟨c.toNat, rfl, _, M', k1, rfl, rfl⟩, fun b => absurd (by omega) b⟩⟩, fun a => absurd g4 a⟩⟩⟩
  · have ev : fitsV Q c s sent day r = -2 := by unfold fitsV; rw [if_neg g]
    rw [ev]
    refine ⟨M, xX11_fits_0 ⟨_, M, hco, hR.1, fun _ => ⟨rfl, rfl⟩, fun a => ?_⟩, hR, frA.rf⟩
    rw [e1]
    have g1 : 0 ≤ c ∧ c < nCv Q := by
      by_cases g1 : 0 ≤ c ∧ c < nCv Q
      · exact g1
      · rw [if_neg g1] at a; exact absurd rfl a
    exact ⟨fun _ => ⟨rfl, rfl⟩, fun g2 => ⟨fun _ => ⟨rfl, rfl⟩, fun g3 => ⟨fun g4 => ⟨fun g5 => absurd ⟨g1, g2, g3, g4, .inl g5⟩ g, fun _ => ⟨fun g5 => absurd ⟨g1, g2, g3, g4, .inr g5⟩ g, fun _ => ⟨rfl, rfl⟩⟩⟩, fun _ => ⟨rfl, rfl⟩⟩⟩⟩
end FF
