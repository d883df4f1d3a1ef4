/-! needs: the reference, to the end -/
theorem ndA_n {y : Int × Int × Int} : ndA none y = y := rfl
def needsV (Q : QT) (s c p pl day what : Int) : Int := if (0 ≤ s ∧ s < nPp Q) ∧ (0 ≤ c ∧ c < nCv Q) ∧ (0 ≤ p ∧ p < nPp Q) ∧ ¬ s = p ∧ (0 ≤ pl ∧ pl < 8) ∧ (0 ≤ day ∧ day ≤ 999) ∧ (0 ≤ what ∧ what ≤ 2) then (if what = 0 then (ndV Q (fun Q => endV Q c s pl day 5 = 1 ∧ endV Q c s pl day 8 = p)).1 else if what = 1 then (ndV Q (fun Q => endV Q c s pl day 5 = 1 ∧ endV Q c s pl day 8 = p)).2.1 else (ndV Q (fun Q => endV Q c s pl day 5 = 1 ∧ endV Q c s pl day 8 = p)).2.2) else -1
section NR3
variable {l : Launch} {G : Gt} {d : Nat} {Q : QT} {M : Mem}
theorem finds_108 {s c p pl day : Int} (hS : Sh M.2.1) (hw : WFA Q) (h1 : 0 ≤ s ∧ s < nPp Q) (h2 : 0 ≤ c ∧ c < nCv Q) (h3 : 0 ≤ pl ∧ pl < 8) (h4 : 0 ≤ day ∧ day ≤ 999) : ∀ n a : Nat, n + a = 144 → ∀ I, HoldsQ Q I → FndP (2, -2, -2) I → frR M.1 I → ∃ M', Ex l G (d + 6) mX12_finds 108 [some (vR (some (3, 0))), some (vI s), some (vI c), some (vI p), some (vI pl), some (vI day), some (vI (a : Int)), none, none] [] (I, M.2.1, M.2.2) none M' ∧ ∃ I', M' = (I', M.2.1, M.2.2) ∧ HoldsQ Q I' ∧ FndP (ndB (nd3 Q (fun Q => endV Q c s pl day 5 = 1 ∧ endV Q c s pl day 8 = p) n a)) I' ∧ frR M.1 I' := by
  intro n
  induction n with
  | zero =>
    intro a ha I hI hP hf
    exact ⟨_, xX12_finds_108 ⟨fun _ => ⟨rfl, rfl⟩, fun c => absurd (by omega) c⟩, _, rfl, hI.fr (frM.md (by omega)), ⟨upI_s, by rw [upI_i (by omega)]; exact hP.2.1, by rw [upI_i (by omega)]; exact hP.2.2⟩, hf.tr (frR.up (by omega))⟩
  | succ n ih =>
    intro a ha I hI hP hf
    have en : nd3 Q (fun Q => endV Q c s pl day 5 = 1 ∧ endV Q c s pl day 8 = p) (n + 1) a = match (if (a / 12 < nPp Q ∧ a % 12 < nPp Q ∧ ¬ a / 12 = a % 12 ∧ ¬ tb (Q 50 (a / 12)) ((a % 12 : Nat) : Int) = true) then nd2 Q (fun Q => endV Q c s pl day 5 = 1 ∧ endV Q c s pl day 8 = p) a (143 - a) (a + 1) else none) with
      | some b => some (a, b)
      | none => nd3 Q (fun Q => endV Q c s pl day 5 = 1 ∧ endV Q c s pl day 8 = p) n (a + 1) := rfl
    obtain ⟨M', x1, x2⟩ := finds_122 (l := l) (G := G) (d := d) (M := M) (M' := M) (Q := Q) (s := s) (c := c) (p := p) (pl := pl) (day := day) (a := a) (Post := fun M' => ∃ I', M' = (I', M.2.1, M.2.2) ∧ HoldsQ Q I' ∧ FndP (ndB (nd3 Q (fun Q => endV Q c s pl day 5 = 1 ∧ endV Q c s pl day 8 = p) (n + 1) a)) I' ∧ frR M.1 I') hS hw h1 h2 h3 h4 (by omega) (by
        intro hno I1 H1 P1 f1
        obtain ⟨M', x1, x2⟩ := ih (a + 1) (by omega) I1 H1 P1 f1
        have e3 : nd3 Q (fun Q => endV Q c s pl day 5 = 1 ∧ endV Q c s pl day 8 = p) (n + 1) a = nd3 Q (fun Q => endV Q c s pl day 5 = 1 ∧ endV Q c s pl day 8 = p) n (a + 1) := by
          rw [en]
          rcases hno with hno | hno
          · rw [if_neg hno]
          · by_cases ca : (a / 12 < nPp Q ∧ a % 12 < nPp Q ∧ ¬ a / 12 = a % 12 ∧ ¬ tb (Q 50 (a / 12)) ((a % 12 : Nat) : Int) = true)
            · rw [if_pos ca, hno]
            · rw [if_neg ca]
        rw [e3]
        exact ⟨M', x1, x2⟩) (by
        intro b ca hb I1 H1 P1 f1
        refine ⟨I1, rfl, H1, ?_, f1⟩
        rw [en, if_pos ca, hb]
        exact P1) (143 - a) (a + 1) (by omega) (by omega) rfl I hI hP hf
    exact ⟨M', xX12_finds_108 ⟨fun c => by omega, fun _ => ⟨by unfold InR; omega, x1⟩⟩, x2⟩
theorem finds_40 {s c p pl day : Int} (hS : Sh M.2.1) (hw : WFA Q) (h1 : 0 ≤ s ∧ s < nPp Q) (h2 : 0 ≤ c ∧ c < nCv Q) (h3 : 0 ≤ pl ∧ pl < 8) (h4 : 0 ≤ day ∧ day ≤ 999) : ∀ n a : Nat, n + a = 144 → ∀ I, HoldsQ Q I → FndP (1, -2, -2) I → frR M.1 I → ∃ M', Ex l G (d + 6) mX12_finds 40 [some (vR (some (3, 0))), some (vI s), some (vI c), some (vI p), some (vI pl), some (vI day), some (vI (a : Int)), none, none] [] (I, M.2.1, M.2.2) none M' ∧ ∃ I', M' = (I', M.2.1, M.2.2) ∧ HoldsQ Q I' ∧ FndP (ndA (nd1 Q (fun Q => endV Q c s pl day 5 = 1 ∧ endV Q c s pl day 8 = p) n a) (ndB (nd3 Q (fun Q => endV Q c s pl day 5 = 1 ∧ endV Q c s pl day 8 = p) 144 0))) I' ∧ frR M.1 I' := by
  have h12 := nPp_le hw.1.1
  intro n
  induction n with
  | zero =>
    intro a ha I hI hP hf
    obtain ⟨M', x1, x2⟩ := finds_108 (l := l) (G := G) (d := d) (M := M) (s := s) (c := c) (p := p) (pl := pl) (day := day) hS hw h1 h2 h3 h4 144 0 rfl (upI I 3 0 61 2) (hI.fr (frM.md (by omega))) ⟨upI_s, by rw [upI_i (by omega)]; exact hP.2.1, by rw [upI_i (by omega)]; exact hP.2.2⟩ (hf.tr (frR.up (by omega)))
    have e0 : nd1 Q (fun Q => endV Q c s pl day 5 = 1 ∧ endV Q c s pl day 8 = p) 0 a = none := rfl
    rw [e0, ndA_n]
    exact ⟨M', xX12_finds_40 ⟨fun _ => x1, fun c => absurd (by omega) c⟩, x2⟩
  | succ n ih =>
    intro a ha I hI hP hf
    have sa := KX12_isStrange (l := l) (G := G) (d := d + 3) (M := (I, M.2.1, M.2.2)) (a := a) hS hw hI (by omega)
    have en : nd1 Q (fun Q => endV Q c s pl day 5 = 1 ∧ endV Q c s pl day 8 = p) (n + 1) a = if (a / 12 < nPp Q ∧ a % 12 < nPp Q ∧ ¬ a / 12 = a % 12 ∧ ¬ tb (Q 50 (a / 12)) ((a % 12 : Nat) : Int) = true) ∧ (endV (tQ Q a) c s pl day 5 = 1 ∧ endV (tQ Q a) c s pl day 8 = p) then some a else nd1 Q (fun Q => endV Q c s pl day 5 = 1 ∧ endV Q c s pl day 8 = p) n (a + 1) := rfl
    by_cases ca : (a / 12 < nPp Q ∧ a % 12 < nPp Q ∧ ¬ a / 12 = a % 12 ∧ ¬ tb (Q 50 (a / 12)) ((a % 12 : Nat) : Int) = true)
    · rw [if_pos ca] at sa
      obtain ⟨I1, t1, H1, m1, f1⟩ := ref_turn (l := l) (G := G) (d := d) (R := M.2.1) (C := M.2.2) hS hI (show a < 144 by omega)
      have w1 := tQ_W hw ca.1 ca.2.1
      obtain ⟨I3, t3, H3, m3, f3⟩ := ref_run (l := l) (G := G) (d := d) (R := M.2.1) (C := M.2.2) (s := s) (c := c) (p := p) (pl := pl) (day := day) hS w1 H1 (by rw [tQ_p]; exact h1) (by rw [tQ_v]; exact h2) h3 h4
      obtain ⟨I4, t4, H4, m4, f4⟩ := ref_turn (l := l) (G := G) (d := d) (R := M.2.1) (C := M.2.2) hS H3 (show a < 144 by omega)
      rw [tQ_tw (kn_in hw (by omega))] at H4
      have hf4 := ((hf.tr f1).tr f3).tr f4
      have mm : ∀ i, 61 ≤ i → I4 3 0 i = I 3 0 i := fun i hi => by rw [m4 i hi, m3 i hi, m1 i hi]
      by_cases cr : (endV (tQ Q a) c s pl day 5 = 1 ∧ endV (tQ Q a) c s pl day 8 = p)
      · rw [if_pos cr] at t3
        rw [en, if_pos ⟨ca, cr⟩]
        exact ⟨_, xX12_finds_40 ⟨fun c => by omega, fun _ => ⟨_, _, sa, fun c => by omega, fun _ => ⟨_, t1, _, _, t3, _, t4, fun c => by omega, fun _ => ⟨rfl, rfl⟩⟩⟩⟩, upI I4 3 0 62 (a : Int), rfl, H4.fr (frM.md (by omega)), ⟨by rw [upI_i (by omega), mm _ (by omega)]; exact hP.1, upI_s, by rw [upI_i (by omega), mm _ (by omega)]; exact hP.2.2⟩, hf4.tr (frR.up (by omega))⟩
      · rw [if_neg cr] at t3
        rw [en, if_neg (fun x => cr x.2)]
        obtain ⟨M', x1, x2⟩ := ih (a + 1) (by omega) I4 H4 ⟨by rw [mm _ (by omega)]; exact hP.1, by rw [mm _ (by omega)]; exact hP.2.1, by rw [mm _ (by omega)]; exact hP.2.2⟩ hf4
        exact ⟨M', xX12_finds_40 ⟨fun c => by omega, fun _ => ⟨_, _, sa, fun c => by omega, fun _ => ⟨_, t1, _, _, t3, _, t4, fun _ => ⟨by unfold InR; omega, x1⟩, fun c => absurd rfl c⟩⟩⟩, x2⟩
    · rw [if_neg ca] at sa
      rw [en, if_neg (fun x => ca x.1)]
      obtain ⟨M', x1, x2⟩ := ih (a + 1) (by omega) I hI hP hf
      exact ⟨M', xX12_finds_40 ⟨fun c => by omega, fun _ => ⟨_, _, sa, fun _ => ⟨by unfold InR; omega, x1⟩, fun c => absurd rfl c⟩⟩, x2⟩
theorem KX12_finds {s c p pl day : Int} (hS : Sh M.2.1) (hw : WFA Q) (hH : HoldsQ Q M.1) (h1 : 0 ≤ s ∧ s < nPp Q) (h2 : 0 ≤ c ∧ c < nCv Q) (h3 : 0 ≤ pl ∧ pl < 8) (h4 : 0 ≤ day ∧ day ≤ 999) : ∃ I', Cl l G (d + 6) mX12_finds [vR (some (3, 0)), vI s, vI c, vI p, vI pl, vI day] M none (I', M.2.1, M.2.2) ∧ HoldsQ Q I' ∧ FndP (ndV Q (fun Q => endV Q c s pl day 5 = 1 ∧ endV Q c s pl day 8 = p)) I' ∧ frR M.1 I' := by
  have H1 : HoldsQ Q (upI (upI (upI M.1 3 0 61 0) 3 0 62 (-2)) 3 0 63 (-2)) := ((hH.fr (frM.md (by omega))).fr (frM.md (by omega))).fr (frM.md (by omega))
  have f1 : frR M.1 (upI (upI (upI M.1 3 0 61 0) 3 0 62 (-2)) 3 0 63 (-2)) := ((frR.up (by omega)).tr (frR.up (by omega))).tr (frR.up (by omega))
  obtain ⟨I2, t2, H2, m2, f2⟩ := ref_run (l := l) (G := G) (d := d) (R := M.2.1) (C := M.2.2) (s := s) (c := c) (p := p) (pl := pl) (day := day) hS hw H1 h1 h2 h3 h4
  have e61 : I2 3 0 61 = 0 := by rw [m2 _ (by omega), upI_i (by omega), upI_i (by omega), upI_s]
  have e62 : I2 3 0 62 = -2 := by rw [m2 _ (by omega), upI_i (by omega), upI_s]
  have e63 : I2 3 0 63 = -2 := by rw [m2 _ (by omega), upI_s]
  by_cases cr : (endV Q c s pl day 5 = 1 ∧ endV Q c s pl day 8 = p)
  · rw [if_pos cr] at t2
    refine ⟨I2, xX12_finds_0 ⟨_, _, t2, fun c => by omega, fun _ => ⟨rfl, rfl⟩⟩, H2, ?_, f1.tr f2⟩
    unfold ndV
    rw [if_pos cr]
    exact ⟨e61, e62, e63⟩
  · rw [if_neg cr] at t2
    obtain ⟨M', x1, I', rfl, x2, x3, x4⟩ := finds_40 (l := l) (G := G) (d := d) (M := M) (s := s) (c := c) (p := p) (pl := pl) (day := day) hS hw h1 h2 h3 h4 144 0 rfl (upI I2 3 0 61 1) (H2.fr (frM.md (by omega))) ⟨upI_s, by rw [upI_i (by omega)]; exact e62, by rw [upI_i (by omega)]; exact e63⟩ ((f1.tr f2).tr (frR.up (by omega)))
    refine ⟨I', xX12_finds_0 ⟨_, _, t2, fun _ => x1, fun c => absurd rfl c⟩, x2, ?_, x4⟩
    unfold ndV
    rw [if_neg cr]
    exact x3
theorem KX12_needs {s c p pl day what : Int} (hS : Sh M.2.1) (hw : WFA Q) (hH : HoldsQ Q M.1) : ∃ I', Cl l G (d + 7) mX12_needs [vR (some (3, 0)), vI s, vI c, vI p, vI pl, vI day, vI what] M (some (vI (needsV Q s c p pl day what))) (I', M.2.1, M.2.2) ∧ HoldsQ Q I' ∧ frR M.1 I' := by
  have h12 := nPp_le hw.1.1
  have e1 := mppl_eq hw.1.1 hH.m
  have e2 : M.1 3 0 33 = (nCv Q : Int) := by rw [hH.m.2.2.2.1]; have := hw.2.1.1; unfold nCv; omega
  have hn8 : nCv Q ≤ 8 := by have := hw.2.1.1; unfold nCv; omega
  unfold needsV
  by_cases g : (0 ≤ s ∧ s < nPp Q) ∧ (0 ≤ c ∧ c < nCv Q) ∧ (0 ≤ p ∧ p < nPp Q) ∧ ¬ s = p ∧ (0 ≤ pl ∧ pl < 8) ∧ (0 ≤ day ∧ day ≤ 999) ∧ (0 ≤ what ∧ what ≤ 2)
  · rw [if_pos g]
    obtain ⟨g1, g2, g3, g4, g5, g6, g7⟩ := g
    obtain ⟨I', x1, x2, x3, x4⟩ := KX12_finds (l := l) (G := G) (d := d) (s := s) (c := c) (p := p) (pl := pl) (day := day) hS hw hH g1 g2 g5 g6
    refine ⟨I', xX12_needs_0 hS ?_, x2, x4⟩
    rw [e1, e2]
    refine ⟨⟨by unfold InR; omega, by unfold InR; omega⟩, fun a => absurd ⟨g1, g2, g5, g6⟩ a, fun _ => ⟨by unfold InR; omega, fun a => absurd g3 a, fun _ => ⟨fun a => absurd a.symm g4, fun _ => ⟨fun _ => ⟨_, x1, ?_, rfl⟩, fun a => absurd g7 a⟩⟩⟩⟩
    dsimp only
    rw [x3.1, x3.2.1, x3.2.2]
  · rw [if_neg g]
    refine ⟨M.1, xX12_needs_0 hS ?_, hH, frR.rf⟩
    rw [e1, e2]
    exact ⟨⟨by unfold InR; omega, by unfold InR; omega⟩, fun _ => ⟨rfl, rfl⟩, fun g1 => ⟨by unfold InR; omega, fun _ => ⟨rfl, rfl⟩, fun g3 => ⟨fun _ => ⟨rfl, rfl⟩, fun g4 => ⟨fun g7 => absurd ⟨g1.1, g1.2.1, g3, fun e => g4 e.symm, g1.2.2.1, g1.2.2.2, g7⟩ g, fun _ => ⟨rfl, rfl⟩⟩⟩⟩⟩
end NR3
