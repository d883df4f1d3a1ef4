/-! judged: the reference -/
section JR
variable {l : Launch} {G : Gt} {d : Nat} {Q : QT} {M : Mem}
theorem KX12_judged {c s pl day : Int} (hS : Sh M.2.1) (hw : WFA Q) (hH : HoldsQ Q M.1) : ∃ I', Cl l G (d + 4) mX12_judged [vR (some (3, 0)), vI c, vI s, vI pl, vI day] M (some (vI (judgedV Q c s pl day))) (I', M.2.1, M.2.2) ∧ frM M.1 I' := by
  have hq := hw.q
  have h12 := nPp_le hq.1
  have e1 := mppl_eq hq.1 hH.m
  have e2 : M.1 3 0 33 = (nCv Q : Int) := by rw [hH.m.2.2.2.1]; have := hq.2.2.2.2.1; unfold nCv; omega
  have hn8 : nCv Q ≤ 8 := by have := hq.2.2.2.2.1; unfold nCv; omega
  have hy := hw.1.2.2.2.2.2.2.2
  unfold judgedV
  by_cases g : (0 ≤ c ∧ c < nCv Q) ∧ (0 ≤ s ∧ s < nPp Q) ∧ (0 ≤ pl ∧ pl < 8) ∧ (0 ≤ day ∧ day ≤ 999)
  · rw [if_pos g]
    obtain ⟨g1, g2, g3, g4⟩ := g
    have key : ∀ (n k : Nat), (Q 48 4).toNat = n + k → ∀ (I : IM) (L : Nat → Int), HoldsQ Q I → Laid Q I 0 (dn Q day) → L 4 = day → L 1 = s → WL Q L → L 7 ≤ 999 → ∃ I', Ex l G (d + 4) mX12_judged 55 [some (vR (some (3, 0))), some (vI c), some (vI s), some (vI pl), some (vI day), some (vI (L 6)), some (vI (L 9)), some (vI (L 7)), some (vI (k : Int)), none, none] [] (I, M.2.1, M.2.2) (some (vI (judF Q c.toNat n k L))) (I', M.2.1, M.2.2) ∧ frM I I' := by
      intro n
      induction n with
      | zero =>
        intro k hk I L hI h0 h4 h1 hL h9
        have e4 : I 48 0 4 = Q 48 4 := hI.1 _ _ (by unfold perF; omega)
        exact ⟨I, xX12_judged_55 hS ⟨fun _ => ⟨rfl, rfl⟩, fun c => absurd (by dsimp only; omega) c⟩, frM.rf⟩
      | succ n ih =>
        intro k hk I L hI h0 h4 h1 hL h9
        have e4 : I 48 0 4 = Q 48 4 := hI.1 _ _ (by unfold perF; omega)
        have g6 := hL.2.1
        have g7 := hL.2.2.2.1
        obtain ⟨I1, I3, res, c1, c3, f1, f3, L3, a3⟩ := ref_ask (l := l) (G := G) (d := d) (cv := c.toNat) (R := M.2.1) (C := M.2.2) hS hq hI.m (by rw [h4]; exact h0) hL (by omega)
        rw [h4] at L3
        have H3 := hI.fr f3.m
        rw [show ((c.toNat : Nat) : Int) = c by omega, h1] at c3
        have hwk := hy.2 k (by omega)
        have ew : I3 52 0 (k : Int).toNat = Q 52 k := by rw [Int.toNat_natCast]; exact H3.1 _ _ (by unfold perF; omega)
        have hle : ¬ (I 48 0 4 ≤ (k : Int)) := by omega
        have step : ∀ (to : Int), ¬ to = -1 → toL (stpL Q c.toNat L) = to → ∃ I', (((0 ≤ (k : Int) ∧ (k : Int) < 20)) ∧ ((¬ (to = (I3 52 0 (k : Int).toNat)) → some (vI (judF Q c.toNat (n + 1) k L)) = some (vI (k : Int)) ∧ (I', M.2.1, M.2.2) = (I3, M.2.1, M.2.2)) ∧ (to = (I3 52 0 (k : Int).toNat) → ∃ (r_12 : Int) (M_10 : Mem), Cl l G (d + 3) mX12_roadOf [vR (some (3, 0)), vI (L 6), vI to] (I3, M.2.1, M.2.2) (some (vI r_12)) M_10 ∧ Sh M_10.2.1 ∧ (((0 ≤ r_12 ∧ r_12 < 16) ∧ InR ((L 7) + (M_10.1 55 0 r_12.toNat))) ∧ ((((L 7) + (M_10.1 55 0 r_12.toNat)) ≤ 999 → ∃ (r_17 : Int) (M_15 : Mem), Cl l G (d + 3) mX12_roadOf [vR (some (3, 0)), vI (L 6), vI to] M_10 (some (vI r_17)) M_15 ∧ ((0 ≤ r_17 ∧ r_17 < 16) ∧ InR ((L 7) + (M_15.1 55 0 r_17.toNat)) ∧ (0 ≤ to ∧ to < 32) ∧ InR ((k : Int) + 1)) ∧ Ex l G (d + 4) mX12_judged 55 [some (vR (some (3, 0))), some (vI c), some (vI s), some (vI pl), some (vI day), some (vI to), some (vI (aOr (L 9) (aShl 1 to))), some (vI ((L 7) + (M_15.1 55 0 r_17.toNat))), some (vI ((k : Int) + 1)), none, none] [] M_15 (some (vI (judF Q c.toNat (n + 1) k L))) (I', M.2.1, M.2.2)) ∧ (¬ (((L 7) + (M_10.1 55 0 r_12.toNat)) ≤ 999) → some (vI (judF Q c.toNat (n + 1) k L)) = some (vI (k : Int)) ∧ (I', M.2.1, M.2.2) = M_10)))))) ∧ frM I I' := by
          intro to hto et
          have eJ : judF Q c.toNat (n + 1) k L = if toL (stpL Q c.toNat L) = Q 52 k ∧ L 7 + rd Q (L 6) (Q 52 k) ≤ 999 then judF Q c.toNat n (k + 1) (goL Q (Q 52 k) (askL (stpL Q c.toNat L) (bI 12 (akL Q c.toNat L)) L)) else (k : Int) := rfl
          rw [et] at eJ
          rw [ew]
          by_cases cw : to = Q 52 k
          · obtain ⟨v, hv⟩ : ∃ v : Nat, Q 52 k = (v : Int) := ⟨(Q 52 k).toNat, by omega⟩
            rw [hv] at cw hwk eJ
            subst cw
            have s1 : (stpL Q c.toNat L).1 = 0 := by
              by_cases s1 : (stpL Q c.toNat L).1 = 0
              · exact s1
              · unfold toL at et; rw [if_neg s1] at et; omega
            have s4 : 1 ≤ rd Q (L 6) v := by
              rcases stpL_or (cv := c.toNat) hq hL with ⟨x, _⟩ | ⟨x, _⟩ | ⟨_, u, u1, u2, u3⟩
              · omega
              · omega
              · have : (u : Int) = (v : Int) := by unfold toL at et; rw [if_pos s1, u2] at et; exact et
                rw [← this]; exact u3
            have hr9 := rd_in hq.2.1 (L 6) (v : Int)
            have rJ := KX12_roadOf (l := l) (G := G) (d := d + 3) (M := (I3, M.2.1, M.2.2)) (a := L 6) (b := (v : Int)) hS hq.2.1 H3.m.2.2.1
            rcases ro_or hq.2.1 (L 6) (v : Int) with ⟨_, q⟩ | ⟨j, q1, q2, q3, _⟩
            · omega
            rw [q2] at rJ
            have eR : I3 55 0 (j : Int).toNat = rd Q (L 6) v := by rw [Int.toNat_natCast, q3]; exact H3.1 _ _ (by unfold perF; omega)
            rw [hv]
            have hLa := hL.ask (stpL Q c.toNat L) (bI 12 (akL Q c.toNat L))
            by_cases c2 : L 7 + rd Q (L 6) v ≤ 999
            · rw [if_pos ⟨rfl, c2⟩] at eJ
              obtain ⟨I', x1, x2⟩ := ih (k + 1) (by omega) I3 (goL Q (v : Int) (askL (stpL Q c.toNat L) (bI 12 (akL Q c.toNat L)) L)) H3 L3 h4 h1 (hLa.go hq (by omega) s4 (by show L 7 ≤ 1990; omega)) (by show L 7 + rd Q (L 6) v ≤ 999; omega)
              refine ⟨I', ⟨by omega, fun c => absurd rfl c, fun _ => ⟨_, _, rJ, hS, ?_⟩⟩, f3.m.tr x2⟩
              dsimp only
              rw [eR]
              refine ⟨⟨by omega, by unfold InR; omega⟩, fun _ => ⟨_, _, rJ, ?_⟩, fun c => absurd c2 c⟩
              dsimp only
              rw [eR, eJ]
              exact ⟨⟨by omega, by unfold InR; omega, by omega, by unfold InR; omega⟩, x1⟩
            · rw [if_neg (fun x => c2 x.2)] at eJ
              refine ⟨I3, ⟨by omega, fun c => absurd rfl c, fun _ => ⟨_, _, rJ, hS, ?_⟩⟩, f3.m⟩
              dsimp only
              rw [eR, eJ]
              exact ⟨⟨by omega, by unfold InR; omega⟩, fun c => absurd c c2, fun _ => ⟨rfl, rfl⟩⟩
          · rw [if_neg (fun x => cw x.1)] at eJ
            exact ⟨I3, ⟨by omega, fun _ => ⟨by rw [eJ], rfl⟩, fun c => absurd c cw⟩, f3.m⟩
        have stop : toL (stpL Q c.toNat L) = -1 → judF Q c.toNat (n + 1) k L = (k : Int) := fun et => by
          unfold judF
          rw [if_neg (fun x => by rw [et] at x; omega)]
        rcases ask1_or (cv := c.toNat) (s := (L 1).toNat) (place := (L 6).toNat) (sent := L 4) (day := L 7) hq with e | ⟨r, h, x, e, _, ⟨rfl, v, v1, rfl⟩ | ⟨rfl, v, v1, rfl, v3⟩⟩
        · rw [e] at a3
          obtain ⟨q1, q2, q3, q4⟩ := a3
          have eS : stpL Q c.toNat L = if unsF Q (L 6).toNat (lw L) 8 = -1 then (2, -1) else (0, unsF Q (L 6).toNat (lw L) 8) := by unfold stpL stp; rw [e]
          have nn := KX12_unseen (l := l) (G := G) (d := d + 2) (M := (I3, M.2.1, M.2.2)) (a := (L 6).toNat) (w := lw L) hS hq.2.1 H3.m.2.2.1
          rw [show (((L 6).toNat : Nat) : Int) = L 6 by omega] at nn
          have nn' : Cl l G (d + 3) mX12_unseen [vR (some (3, 0)), vI (L 6), vI (L 9)] (I3, M.2.1, M.2.2) (some (vI (unsF Q (L 6).toNat (lw L) 8))) (I3, M.2.1, M.2.2) := by rw [hL.2.2.1]; exact nn
          by_cases u : unsF Q (L 6).toNat (lw L) 8 = -1
          · rw [if_pos u] at eS
            have et : toL (stpL Q c.toNat L) = -1 := by rw [eS]; rfl
            refine ⟨I3, xX12_judged_55 hS ⟨fun c => absurd c hle, fun _ => ⟨fun c => by omega, fun _ => ⟨_, c1, _, _, c3, hS, fun _ => ⟨fun c => absurd q1 c, fun _ => ⟨_, _, nn', hS, fun _ => ⟨by rw [stop et], rfl⟩, fun c => absurd u c⟩⟩, fun c => by omega⟩⟩⟩, f3.m⟩
          · rw [if_neg u] at eS
            have et : toL (stpL Q c.toNat L) = unsF Q (L 6).toNat (lw L) 8 := by rw [eS]; rfl
            obtain ⟨I', x1, x2⟩ := step _ u et
            exact ⟨I', xX12_judged_55 hS ⟨fun c => absurd c hle, fun _ => ⟨fun c => by omega, fun _ => ⟨_, c1, _, _, c3, hS, fun _ => ⟨fun c => absurd q1 c, fun _ => ⟨_, _, nn', hS, fun c => absurd c u, fun _ => x1⟩⟩, fun c => by omega⟩⟩⟩, x2⟩
        · rw [e] at a3
          obtain ⟨q1, q2, q3⟩ := a3
          have eS : stpL Q c.toNat L = (1, (v : Int)) := by unfold stpL stp; rw [e]; rfl
          have et : toL (stpL Q c.toNat L) = -1 := by rw [eS]; rfl
          exact ⟨I3, xX12_judged_55 hS ⟨fun c => absurd c hle, fun _ => ⟨fun c => by omega, fun _ => ⟨_, c1, _, _, c3, hS, fun _ => ⟨fun _ => ⟨by rw [stop et], rfl⟩, fun c => by omega⟩, fun c => by omega⟩⟩⟩, f3.m⟩
        · rw [e] at a3
          obtain ⟨q1, q2, q3⟩ := a3
          have eS : stpL Q c.toNat L = (0, (v : Int)) := by unfold stpL stp; rw [e]; rfl
          have q4 : I3 3 0 49 = (v : Int) := by
            rcases q3 with q | q
            · omega
            · exact q.2.1
          have et : toL (stpL Q c.toNat L) = I3 3 0 49 := by rw [eS, q4]; rfl
          obtain ⟨I', x1, x2⟩ := step _ (by omega) et
          exact ⟨I', xX12_judged_55 hS ⟨fun c => absurd c hle, fun _ => ⟨fun c => by omega, fun _ => ⟨_, c1, _, _, c3, hS, fun c => absurd q1 c, fun _ => ⟨fun c => by dsimp only at c; omega, fun _ => x1⟩⟩⟩⟩, x2⟩
    obtain ⟨I0, c0, s0, L0⟩ := KX12_lays (l := l) (G := G) (d := d + 1) (row := 0) (x2 := day) hS hq.1 hH.m.1 (by omega)
    obtain ⟨I', x1, x2⟩ := key (Q 48 4).toNat 0 rfl I0 (begL (fun _ => 0) s (-1) pl day) (hH.fr (frM.ll s0)) L0 rfl rfl (begL_WL g2 g3 g4) g4.2
    refine ⟨I', xX12_judged_0 hS ?_, (frM.ll s0).tr x2⟩
    rw [e1, e2]
    exact ⟨by unfold InR; omega, fun a => absurd g1 a, fun _ => ⟨by unfold InR; omega, fun a => absurd g2 a, fun _ => ⟨fun a => absurd g3 a, fun _ => ⟨fun _ => ⟨_, c0, by omega, x1⟩, fun a => absurd g4 a⟩⟩⟩⟩
  · rw [if_neg g]
    refine ⟨M.1, xX12_judged_0 hS ?_, frM.rf⟩
    rw [e1, e2]
    exact ⟨by unfold InR; omega, fun _ => ⟨rfl, rfl⟩, fun g1 => ⟨by unfold InR; omega, fun _ => ⟨rfl, rfl⟩, fun g2 => ⟨fun _ => ⟨rfl, rfl⟩, fun g3 => ⟨fun g4 => absurd ⟨g1, g2, g3, g4⟩ g, fun _ => ⟨rfl, rfl⟩⟩⟩⟩⟩
end JR
