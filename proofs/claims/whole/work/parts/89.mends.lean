/-! mends on both sides -/
section MM
variable {l : Launch} {G : Gt} {d : Nat} {Q : QT} {M : Mem}
theorem KX12_mends {c s p day : Int} (hS : Sh M.2.1) (hw : WFA Q) (hH : HoldsQ Q M.1) : ∃ I', Cl l G (d + 4) mX12_mends [vR (some (3, 0)), vI c, vI s, vI p, vI day] M (some (vI (mendsV Q c s p day))) (I', M.2.1, M.2.2) ∧ frM M.1 I' := by
  have hq := hw.q
  have h12 := nPp_le hq.1
  have e1 := mppl_eq hq.1 hH.m
  have e2 : M.1 3 0 33 = (nCv Q : Int) := by rw [hH.m.2.2.2.1]; have := hq.2.2.2.2.1; unfold nCv; omega
  have hn8 : nCv Q ≤ 8 := by have := hq.2.2.2.2.1; unfold nCv; omega
  unfold mendsV
  by_cases g : (0 ≤ c ∧ c < nCv Q) ∧ (0 ≤ s ∧ s < nPp Q) ∧ (0 ≤ p ∧ p < nPp Q) ∧ (0 ≤ day ∧ day ≤ 999)
  · rw [if_pos g]
    obtain ⟨g1, g2, g3, g4⟩ := g
    obtain ⟨I0, c0, s0, L0⟩ := KX12_lays (l := l) (G := G) (d := d + 1) (row := 0) (x2 := day) hS hq.1 hH.m.1 (by omega)
    obtain ⟨I1, c1, s1, L1⟩ := KX12_lays (l := l) (G := G) (d := d + 1) (M := (I0, M.2.1, M.2.2)) (row := 1) (x2 := day) hS hq.1 (hH.m.fr (frM.ll s0)).1 (by omega)
    have f1 := (frM.ll s0).tr (frM.ll s1)
    obtain ⟨I3, c3, f3, L3⟩ := KX12_fittingAll (l := l) (G := G) (d := d) (M := (I1, M.2.1, M.2.2)) (c := c.toNat) (s := s.toNat) (day := day) hS hw (hH.fr f1) (Laid.same (row' := 1) L0 (by omega) (by omega) (by omega) s1) L1 (by omega) (by omega)
    rw [show ((c.toNat : Nat) : Int) = c by omega, show ((s.toNat : Nat) : Int) = s by omega] at c3
    have H3 := hH.fr (f1.tr f3)
    have hwo : ∀ i, i < 17 → 0 ≤ Q 51 i ∧ Q 51 i ≤ 99 := hw.1.2.2.2.2.2.2.1
    obtain ⟨all, hall⟩ : ∃ all, allE Q c.toNat s.toNat day = all := ⟨_, rfl⟩
    rw [hall] at c3 ⊢
    refine ⟨I3, xX12_mends_0 hS ?_, f1.tr f3⟩
    rw [e1, e2]
    refine ⟨by unfold InR; omega, fun a => absurd g1 a, fun _ => ⟨by unfold InR; omega, fun a => absurd g2 a, fun _ => ⟨by unfold InR; omega, fun a => absurd g3 a, fun _ => ⟨fun _ => ⟨_, c0, _, c1, _, _, c3, by omega, fun e => ?_, fun e => ⟨by rw [if_pos e], rfl⟩⟩, fun a => absurd g4 a⟩⟩⟩⟩
    rw [if_neg e]
    refine loopUp (P := fun w : Nat => Ex l G (d + 4) mX12_mends 77 [some (vR (some (3, 0))), some (vI c), some (vI s), some (vI p), some (vI day), some (vI all), some (vI (mdF Q all p s.toNat day w).1), some (vI (mdF Q all p s.toNat day w).2), some (vI (w : Int)), none, none, none, none] [] (I3, M.2.1, M.2.2) (some (vI (mdF Q all p s.toNat day 32).1)) (I3, M.2.1, M.2.2)) 0 32 (by omega) ?_ ?_
    · intro w _ hw32 ih
      rw [md1, md2] at ih
      have em : ((w : Int) % 16).toNat = w % 16 := by omega
      have em2 : ((w : Int) % 16) = ((w % 16 : Nat) : Int) := by omega
      have ew1 : I3 51 0 ((w : Int) % 16).toNat = Q 51 (w % 16) := by rw [em]; exact H3.1 _ _ (by unfold perF; omega)
      have ew2 : I3 51 0 16 = Q 51 16 := H3.1 _ _ (by unfold perF; omega)
      have q1 := hwo (w % 16) (by omega)
      have q2 := hwo 16 (by omega)
      have ep : Q 51 (w % 16) + (if 16 ≤ (w : Int) then Q 51 16 else 0) = prcW Q w := rfl
      have ept : I3 51 0 ((w : Int) % 16).toNat + (if 16 ≤ (w : Int) then I3 51 0 16 else 0) = prcW Q w := by rw [ew1, ew2]; rfl
      have hin : InR (prcW Q w) := by unfold prcW InR; split <;> omega
      refine xX12_mends_77 ⟨fun c => by omega, fun _ => ⟨by omega, fun c10 => ⟨⟨by unfold InR; omega, by omega⟩, ?_⟩, fun c10 => ?_⟩⟩
      · have ts := KX12_tiedSet (l := l) (G := G) (d := d + 3) (M := (I3, M.2.1, M.2.2)) (row := 1) (t := w % 16 - 10) (to := aShl 1 (s.toNat : Int)) hS hq.1 (dn_le Q day) H3.m.1 L3 (by omega) (by omega)
        rw [tie_one hq.1 (dn_le Q day) (by omega), show ((s.toNat : Nat) : Int) = s by omega] at ts
        have eh : bI 12 (fun p => tiF Q (dn Q day) p (w % 16 - 10) s.toNat) = hldW Q s.toNat day (w % 16) := bI_ext fun i _ => by unfold wdF; rw [if_neg (by omega)]
        rw [eh] at ts
        refine ⟨hldW Q s.toNat day (w % 16), (I3, M.2.1, M.2.2), by rw [em2, show (((w % 16 : Nat) : Int) - 10) = ((w % 16 - 10 : Nat) : Int) by omega]; exact ts, hS, ?_⟩
        simp only [ept]
        exact ⟨by omega, hin, by omega, by unfold InR; omega, ih⟩
      · have ms := KX12_markedSet (l := l) (G := G) (d := d + 2) (M := (I3, M.2.1, M.2.2)) (row := 1) (m := w % 16) hS hq.1 (dn_le Q day) H3.m.1 L3 (by omega) (by omega)
        have eh : bI 12 (fun p => mkF Q (dn Q day) p (w % 16)) = hldW Q s.toNat day (w % 16) := bI_ext fun i _ => by unfold wdF; rw [if_pos (by omega)]
        rw [eh] at ms
        refine ⟨hldW Q s.toNat day (w % 16), (I3, M.2.1, M.2.2), by rw [em2]; exact ms, hS, ?_⟩
        simp only [ept]
        exact ⟨by omega, hin, by omega, by unfold InR; omega, ih⟩
    · exact xX12_mends_77 ⟨fun _ => ⟨rfl, rfl⟩, fun c => absurd (by omega) c⟩
  · rw [if_neg g]
    refine ⟨M.1, xX12_mends_0 hS ?_, frM.rf⟩
    rw [e1, e2]
    exact ⟨by unfold InR; omega, fun _ => ⟨rfl, rfl⟩, fun g1 => ⟨by unfold InR; omega, fun _ => ⟨rfl, rfl⟩, fun g2 => ⟨by unfold InR; omega, fun _ => ⟨rfl, rfl⟩, fun g3 => ⟨fun g4 => absurd ⟨g1, g2, g3, g4⟩ g, fun _ => ⟨rfl, rfl⟩⟩⟩⟩⟩
theorem KX11_mends {c s p day : Int} (hR : RelC Q M) (hw : WFA Q) : ∃ M', Cl l G (d + 4) mX11_mends [vR (some (2, 0)), vI c, vI s, vI p, vI day] M (some (vI (mendsV Q c s p day))) M' ∧ RelC Q M' ∧ frK M M' := by
  have hq := hw.q
  have h12 := nPp_le hq.1
  have e1 := cppl_eq hq.1 hR.1.1
  have hco := KX11_coverOf (l := l) (G := G) (d := d + 3) (c := c) hR.1.1 hq.2.2.2.2
  unfold mendsV
  by_cases g : (0 ≤ c ∧ c < nCv Q) ∧ (0 ≤ s ∧ s < nPp Q) ∧ (0 ≤ p ∧ p < nPp Q) ∧ (0 ≤ day ∧ day ≤ 999)
  · rw [if_pos g]
    obtain ⟨g1, g2, g3, g4⟩ := g
    rw [if_pos g1] at hco
    obtain ⟨M4, o4, R4, f4, p4, _⟩ := on_at (l := l) (G := G) (d := d + 1) (x := day) hR.1.1 hq.1
    obtain ⟨hS4, hC4, hP4, hF4, hCv4, hK4⟩ := R4
    have L4 := hP4.2.2.2.2.2 (dn Q day) p4
    obtain ⟨a1, a2, a3, a4, a5⟩ := hCv4.2.2 c.toNat (by omega)
    obtain ⟨F', hE⟩ := KX3_evaluate (l := l) (G := G) (d := d + 3) (M := M4) (n := dn Q day) (k1 := c.toNat) (k3 := dn Q day) (s := s.toNat) (seen := snF Q (dn Q day) (-1)) hS4 hq.1 (dn_le Q day) a2 L4 (hw.2.1.2 c.toNat (by omega)) (by omega)
    have R4 : RelA Q M4 := ⟨hS4, hC4, hP4, hF4, hCv4, hK4⟩
    have R5 : RelA Q (seI M4.1 23 0 F', M4.2.1, M4.2.2) := R4.I fun f k i hr => by rw [seI_fam (by unfold relF at hr; omega)]
    have f5 : frB M4 (seI M4.1 23 0 F', M4.2.1, M4.2.2) := frB.se fun i => by unfold scC; omega
    have fB := f4.b.tr f5
    have RB := hR.1.fr R5 fB
    have RC := hR.fr hw RB fB
    have L5 := R5.2.2.1.2.2.2.2.2 (dn Q day) (by dsimp only; rw [seI_fam (by omega)]; exact p4)
    have ew : ∀ i, i < 17 → (seI M4.1 23 0 F') 37 0 i = Q 51 i := fun i hi => RC.2.1.2.2.2.2.2.1 i hi
    have hwo : ∀ i, i < 17 → 0 ≤ Q 51 i ∧ Q 51 i ≤ 99 := hw.1.2.2.2.2.2.2.1
    have ee : M4.1 4 0 0 = Q 48 0 := hC4.1
    have hb := hq.1.1
    have es := every_sn (n := dn Q day) hq.1
    obtain ⟨all, hall⟩ : ∃ all, allE Q c.toNat s.toNat day = all := ⟨_, rfl⟩
    rw [show bI 12 (evS Q (dn Q day) s.toNat (snF Q (dn Q day) (-1)) c.toNat) = all from hall, show ((s.toNat : Nat) : Int) = s by omega, ← es, ← ee] at hE
    rw [hall]
    refine ⟨_, xX11_mends_0 ⟨_, M, hco, hR.1.1.1, fun a => absurd a (by simp), fun _ => ?_⟩, RC, fB.ck RB⟩
    rw [e1]
    refine ⟨fun a => absurd g2 a, fun _ => ⟨fun a => absurd g3 a, fun _ => ⟨fun _ => ⟨_, M4, o4, hS4, by omega, c.toNat, rfl, _, _, hE, by omega, fun e => ?_, fun e => ⟨by rw [if_pos e], rfl⟩⟩, fun a => absurd g4 a⟩⟩⟩
    rw [if_neg e]
    refine loopUp (P := fun w : Nat => Ex l G (d + 4) mX11_mends 88 [some (vR (some (2, 0))), some (vI c), some (vI s), some (vI p), some (vI day), some (vR (some (13, c.toNat))), some (vR (some (14, dn Q day))), some (vI all), some (vI (mdF Q all p s.toNat day w).1), some (vI (mdF Q all p s.toNat day w).2), some (vI (w : Int)), none, none, none, none] [] (seI M4.1 23 0 F', M4.2.1, M4.2.2) (some (vI (mdF Q all p s.toNat day 32).1)) (seI M4.1 23 0 F', M4.2.1, M4.2.2)) 0 32 (by omega) ?_ ?_
    · intro w _ hw32 ih
      rw [md1, md2] at ih
      have wh := KX7_wordHolders (l := l) (G := G) (d := d + 3) (M := (seI M4.1 23 0 F', M4.2.1, M4.2.2)) (k := dn Q day) (n := dn Q day) (w := w % 16) (s := s.toNat) hS4 L5 (by omega) (by omega)
      rw [show ((s.toNat : Nat) : Int) = s by omega] at wh
      have wh : Cl l G (d + 3) mX7_wordHolders [vR (some (14, dn Q day)), vI ((w % 16 : Nat) : Int), vI s] (seI M4.1 23 0 F', M4.2.1, M4.2.2) (some (vI (hldW Q s.toNat day (w % 16)))) (seI M4.1 23 0 F', M4.2.1, M4.2.2) := wh
      have q1 := hwo (w % 16) (by omega)
      have q2 := hwo 16 (by omega)
      by_cases c16 : (w : Int) < 16
      · have ep : prcW Q w = Q 51 (w % 16) := by unfold prcW; rw [if_neg (by omega), Int.add_zero]
        rw [if_neg (show ¬ 16 ≤ (w : Int) by omega), ep] at ih
        have em : w % 16 = w := by omega
        rw [em] at ih wh
        have e37 : (seI M4.1 23 0 F') 37 0 (w : Int).toNat = Q 51 w := by rw [Int.toNat_natCast]; exact ew w (by omega)
        refine xX11_mends_88 ⟨fun c => by omega, fun _ => ?_⟩
        rw [if_pos c16, if_pos rfl]
        refine ⟨fun c => absurd rfl c, _, _, wh, hS4, ⟨fun _ => by omega, fun c => absurd rfl c⟩, by omega, by unfold InR; omega, ?_⟩
        simp only [e37, if_true]
        exact ih
      · have ep : prcW Q w = Q 51 (w % 16) + Q 51 16 := by unfold prcW; rw [if_pos (by omega)]
        rw [if_pos (show 16 ≤ (w : Int) by omega), ep] at ih
        have em : ((w : Int) - 16) = ((w % 16 : Nat) : Int) := by omega
        have e37 : (seI M4.1 23 0 F') 37 0 ((w : Int) - 16).toNat = Q 51 (w % 16) := by rw [em, Int.toNat_natCast]; exact ew (w % 16) (by omega)
        rw [← em] at wh
        have e38 : (seI M4.1 23 0 F') 37 0 16 = Q 51 16 := ew 16 (by omega)
        refine xX11_mends_88 ⟨fun c => by omega, fun _ => ?_⟩
        rw [if_neg c16, if_neg (show ¬ (1 : Int) = 0 by omega)]
        refine ⟨fun _ => by unfold InR; omega, _, _, wh, hS4, ⟨fun c => absurd c (by omega), fun _ => ?_⟩, by omega, by unfold InR; omega, ?_⟩
        · dsimp only
          rw [e37, e38]
          exact ⟨by unfold InR; omega, by omega, by unfold InR; omega⟩
        · simp only [e37, e38, show ¬ (1 : Int) = 0 by omega, if_false]
          exact ih
    · exact xX11_mends_88 ⟨fun _ => ⟨rfl, rfl⟩, fun c => absurd (by omega) c⟩
  · rw [if_neg g]
    refine ⟨M, xX11_mends_0 ⟨_, M, hco, hR.1.1.1, fun _ => ⟨rfl, rfl⟩, fun a => ?_⟩, hR, frK.rf⟩
    rw [e1]
    have g1 : 0 ≤ c ∧ c < nCv Q := by
      by_cases g1 : 0 ≤ c ∧ c < nCv Q
      · exact g1
      · rw [if_neg g1] at a; exact absurd rfl a
    exact ⟨fun _ => ⟨rfl, rfl⟩, fun g2 => ⟨fun _ => ⟨rfl, rfl⟩, fun g3 => ⟨fun g4 => absurd ⟨g1, g2, g3, g4⟩ g, fun _ => ⟨rfl, rfl⟩⟩⟩⟩
end MM
