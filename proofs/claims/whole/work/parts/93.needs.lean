/-! needs: the reference's loops -/
section NR2
variable {l : Launch} {G : Gt} {d : Nat} {Q : QT} {M : Mem}
theorem ref_run {I : IM} {R : RM} {C : Ct} {s c p pl day : Int} (hS : Sh R) (hw : WFA Q) (hH : HoldsQ Q I) (h1 : 0 ≤ s ∧ s < nPp Q) (h2 : 0 ≤ c ∧ c < nCv Q) (h3 : 0 ≤ pl ∧ pl < 8) (h4 : 0 ≤ day ∧ day ≤ 999) : ∃ I2, Cl l G (d + 5) mX12_endsRight [vR (some (3, 0)), vI s, vI c, vI p, vI pl, vI day] (I, R, C) (some (vI (if endV Q c s pl day 5 = 1 ∧ endV Q c s pl day 8 = p then 1 else 0))) (I2, R, C) ∧ HoldsQ Q I2 ∧ (∀ i, 61 ≤ i → I2 3 0 i = I 3 0 i) ∧ frR I I2 := by
  obtain ⟨I2, x1, x2, _⟩ := KX12_endsRight (l := l) (G := G) (d := d) (M := (I, R, C)) (s := s) (c := c) (p := p) (pl := pl) (day := day) hS hw.q hH.m h1 h2 h3 h4
  exact ⟨I2, x1, hH.fr x2.m, fun i hi => x2 _ _ _ (by unfold scr; omega), x2.m.r⟩
theorem ref_turn {I : IM} {R : RM} {C : Ct} {a : Nat} (hS : Sh R) (hH : HoldsQ Q I) (ha : a < 144) : ∃ I1, Cl l G (d + 5) mX12_turns [vR (some (3, 0)), vI (a : Int)] (I, R, C) none (I1, R, C) ∧ HoldsQ (tQ Q a) I1 ∧ (∀ i, 61 ≤ i → I1 3 0 i = I 3 0 i) ∧ frR I I1 := by
  obtain ⟨I1, x1, x2, x3⟩ := KX12_turns (l := l) (G := G) (d := d + 5) (M := (I, R, C)) hS hH ha
  exact ⟨I1, x1, x2, fun i _ => x3 _ _ _ (by omega), fun f k i hn => x3 f k i (by omega)⟩
theorem finds_122 {s c p pl day : Int} {a : Nat} {M' : Mem} {Post : Mem → Prop} (hS : Sh M.2.1) (hw : WFA Q) (h1 : 0 ≤ s ∧ s < nPp Q) (h2 : 0 ≤ c ∧ c < nCv Q) (h3 : 0 ≤ pl ∧ pl < 8) (h4 : 0 ≤ day ∧ day ≤ 999) (ha : a < 144)
    (K : (¬ (a / 12 < nPp Q ∧ a % 12 < nPp Q ∧ ¬ a / 12 = a % 12 ∧ ¬ tb (Q 50 (a / 12)) ((a % 12 : Nat) : Int) = true) ∨ nd2 Q (fun Q => endV Q c s pl day 5 = 1 ∧ endV Q c s pl day 8 = p) a (143 - a) (a + 1) = none) → ∀ I, HoldsQ Q I → FndP (2, -2, -2) I → frR M.1 I → ∃ M', Ex l G (d + 6) mX12_finds 108 [some (vR (some (3, 0))), some (vI s), some (vI c), some (vI p), some (vI pl), some (vI day), some (vI ((a : Int) + 1)), none, none] [] (I, M.2.1, M.2.2) none M' ∧ Post M')
    (F : ∀ b, (a / 12 < nPp Q ∧ a % 12 < nPp Q ∧ ¬ a / 12 = a % 12 ∧ ¬ tb (Q 50 (a / 12)) ((a % 12 : Nat) : Int) = true) → nd2 Q (fun Q => endV Q c s pl day 5 = 1 ∧ endV Q c s pl day 8 = p) a (143 - a) (a + 1) = some b → ∀ I, HoldsQ Q I → FndP (2, (a : Int), (b : Int)) I → frR M.1 I → Post (I, M.2.1, M.2.2)) :
    ∀ n b, n + b = 144 → a < b → nd2 Q (fun Q => endV Q c s pl day 5 = 1 ∧ endV Q c s pl day 8 = p) a (143 - a) (a + 1) = nd2 Q (fun Q => endV Q c s pl day 5 = 1 ∧ endV Q c s pl day 8 = p) a n b → ∀ I, HoldsQ Q I → FndP (2, -2, -2) I → frR M.1 I → ∃ M', Ex l G (d + 6) mX12_finds 122 [some (vR (some (3, 0))), some (vI s), some (vI c), some (vI p), some (vI pl), some (vI day), some (vI (a : Int)), some (vI (b : Int)), none] [] (I, M.2.1, M.2.2) none M' ∧ Post M' := by
  have h12 := nPp_le hw.1.1
  intro n
  induction n with
  | zero =>
    intro b hb hab e I hI hP hf
    obtain ⟨M', x1, x2⟩ := K (.inr e) I hI hP hf
    exact ⟨M', xX12_finds_122 ⟨fun _ => ⟨by unfold InR; omega, x1⟩, fun c => absurd (by omega) c⟩, x2⟩
  | succ n ih =>
    intro b hb hab e I hI hP hf
    have sa := KX12_isStrange (l := l) (G := G) (d := d + 3) (M := (I, M.2.1, M.2.2)) (a := a) hS hw hI ha
    have sb := KX12_isStrange (l := l) (G := G) (d := d + 3) (M := (I, M.2.1, M.2.2)) (a := b) hS hw hI (by omega)
    by_cases ca : (a / 12 < nPp Q ∧ a % 12 < nPp Q ∧ ¬ a / 12 = a % 12 ∧ ¬ tb (Q 50 (a / 12)) ((a % 12 : Nat) : Int) = true)
    · rw [if_pos ca] at sa
      have en : nd2 Q (fun Q => endV Q c s pl day 5 = 1 ∧ endV Q c s pl day 8 = p) a (n + 1) b = if (b / 12 < nPp Q ∧ b % 12 < nPp Q ∧ ¬ b / 12 = b % 12 ∧ ¬ tb (Q 50 (b / 12)) ((b % 12 : Nat) : Int) = true) ∧ (endV (tQ (tQ Q a) b) c s pl day 5 = 1 ∧ endV (tQ (tQ Q a) b) c s pl day 8 = p) then some b else nd2 Q (fun Q => endV Q c s pl day 5 = 1 ∧ endV Q c s pl day 8 = p) a n (b + 1) := rfl
      by_cases cb : (b / 12 < nPp Q ∧ b % 12 < nPp Q ∧ ¬ b / 12 = b % 12 ∧ ¬ tb (Q 50 (b / 12)) ((b % 12 : Nat) : Int) = true)
      · rw [if_pos cb] at sb
        obtain ⟨I1, t1, H1, m1, f1⟩ := ref_turn (l := l) (G := G) (d := d) (R := M.2.1) (C := M.2.2) hS hI ha
        obtain ⟨I2, t2, H2, m2, f2⟩ := ref_turn (l := l) (G := G) (d := d) (R := M.2.1) (C := M.2.2) hS H1 (show b < 144 by omega)
        have w1 := tQ_W hw ca.1 ca.2.1
        have w2 := tQ_W (a := b) w1 (by rw [tQ_p]; exact cb.1) (by rw [tQ_p]; exact cb.2.1)
        obtain ⟨I3, t3, H3, m3, f3⟩ := ref_run (l := l) (G := G) (d := d) (R := M.2.1) (C := M.2.2) (s := s) (c := c) (p := p) (pl := pl) (day := day) hS w2 H2 (by rw [tQ_p, tQ_p]; exact h1) (by rw [tQ_v, tQ_v]; exact h2) h3 h4
        obtain ⟨I4, t4, H4, m4, f4⟩ := ref_turn (l := l) (G := G) (d := d) (R := M.2.1) (C := M.2.2) hS H3 ha
        obtain ⟨I5, t5, H5, m5, f5⟩ := ref_turn (l := l) (G := G) (d := d) (R := M.2.1) (C := M.2.2) hS H4 (show b < 144 by omega)
        rw [tQ_4 hw ha (by omega) cb.1 cb.2.1] at H5
        have hf5 := ((((hf.tr f1).tr f2).tr f3).tr f4).tr f5
        have mm : ∀ i, 61 ≤ i → I5 3 0 i = I 3 0 i := fun i hi => by rw [m5 i hi, m4 i hi, m3 i hi, m2 i hi, m1 i hi]
        by_cases cr : (endV (tQ (tQ Q a) b) c s pl day 5 = 1 ∧ endV (tQ (tQ Q a) b) c s pl day 8 = p)
        · rw [if_pos cr] at t3
          rw [en, if_pos ⟨cb, cr⟩] at e
          have post := F b ca e (upI (upI I5 3 0 62 (a : Int)) 3 0 63 (b : Int)) ((H5.fr (frM.md (by omega))).fr (frM.md (by omega))) ⟨by rw [upI_i (by omega), upI_i (by omega), mm _ (by omega)]; exact hP.1, by rw [upI_i (by omega), upI_s], by rw [upI_s]⟩ ((hf5.tr (frR.up (by omega))).tr (frR.up (by omega)))
          exact ⟨_, xX12_finds_122 ⟨fun c => by omega, fun _ => ⟨_, _, sa, fun c => by omega, fun _ => ⟨_, _, sb, fun c => by omega, fun _ => ⟨_, t1, _, t2, _, _, t3, _, t4, _, t5, fun c => by omega, fun _ => ⟨rfl, rfl⟩⟩⟩⟩⟩, post⟩
        · rw [if_neg cr] at t3
          rw [en, if_neg (fun x => cr x.2)] at e
          obtain ⟨M', x1, x2⟩ := ih (b + 1) (by omega) (by omega) e I5 H5 ⟨by rw [mm _ (by omega)]; exact hP.1, by rw [mm _ (by omega)]; exact hP.2.1, by rw [mm _ (by omega)]; exact hP.2.2⟩ hf5
          exact ⟨M', xX12_finds_122 ⟨fun c => by omega, fun _ => ⟨_, _, sa, fun c => by omega, fun _ => ⟨_, _, sb, fun c => by omega, fun _ => ⟨_, t1, _, t2, _, _, t3, _, t4, _, t5, fun _ => ⟨by unfold InR; omega, x1⟩, fun c => absurd rfl c⟩⟩⟩⟩, x2⟩
      · rw [if_neg cb] at sb
        rw [en, if_neg (fun x => cb x.1)] at e
        obtain ⟨M', x1, x2⟩ := ih (b + 1) (by omega) (by omega) e I hI hP hf
        exact ⟨M', xX12_finds_122 ⟨fun c => by omega, fun _ => ⟨_, _, sa, fun c => by omega, fun _ => ⟨_, _, sb, fun _ => ⟨by unfold InR; omega, x1⟩, fun c => absurd rfl c⟩⟩⟩, x2⟩
    · rw [if_neg ca] at sa
      obtain ⟨M', x1, x2⟩ := K (.inl ca) I hI hP hf
      exact ⟨M', xX12_finds_122 ⟨fun c => by omega, fun _ => ⟨_, _, sa, fun _ => ⟨by unfold InR; omega, x1⟩, fun c => absurd rfl c⟩⟩, x2⟩
end NR2
