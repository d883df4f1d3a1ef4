/-! copies -/
theorem endL_7 {Q : QT} (hq : WFQ Q) {cv : Nat} : ∀ {n : Nat} {L : Nat → Int}, 0 ≤ L 7 ∧ L 7 ≤ 999 → 0 ≤ endL Q cv n L 7 ∧ endL Q cv n L 7 ≤ 999 := by
  intro n
  induction n with
  | zero => intro L h; exact h
  | succ n ih =>
    intro L h
    unfold endL
    split
    · rename_i c
      refine ih ?_
      have := rd_in hq.2.1 (L 6) (stpL Q cv L).2
      show 0 ≤ L 7 + rd Q (L 6) (stpL Q cv L).2 ∧ L 7 + rd Q (L 6) (stpL Q cv L).2 ≤ 999
      omega
    · exact h
def dayV (Q : QT) (c s p pl day : Int) : Int := if endV Q c s pl day 5 = 1 ∧ endV Q c s pl day 8 = p then endV Q c s pl day 7 else -2
theorem dayV_in {Q : QT} (hq : WFQ Q) {c s p pl day : Int} (h : 0 ≤ day ∧ day ≤ 999) : dayV Q c s p pl day = -2 ∨ (0 ≤ dayV Q c s p pl day ∧ dayV Q c s p pl day ≤ 999) := by
  unfold dayV
  split
  · exact .inr (endL_7 hq h)
  · exact .inl rfl
def cpV (a b what : Int) : Int := if a = -2 ∧ b = -2 then -2 else if what = 0 then (if a = b then 2 else if b = -2 then 0 else if a = -2 then 1 else if b ≤ a then 1 else 0) else if (if a = b then 2 else if b = -2 then 0 else if a = -2 then 1 else if b ≤ a then 1 else 0 : Int) = 1 then b else a
def copiesG (Q : QT) (s c p one other day what : Int) : Prop := (0 ≤ s ∧ s < nPp Q) ∧ (0 ≤ c ∧ c < nCv Q) ∧ (0 ≤ p ∧ p < nPp Q) ∧ ¬ s = p ∧ (0 ≤ one ∧ one < 8) ∧ (0 ≤ other ∧ other < 8) ∧ (0 ≤ day ∧ day ≤ 999) ∧ (0 ≤ what ∧ what ≤ 1)
def copiesV (Q : QT) (s c p one other day what : Int) : Int := if (0 ≤ s ∧ s < nPp Q) ∧ (0 ≤ c ∧ c < nCv Q) ∧ (0 ≤ p ∧ p < nPp Q) ∧ ¬ s = p ∧ (0 ≤ one ∧ one < 8) ∧ (0 ≤ other ∧ other < 8) ∧ (0 ≤ day ∧ day ≤ 999) ∧ (0 ≤ what ∧ what ≤ 1) then cpV (dayV Q c s p one day) (dayV Q c s p other day) what else -1
section CP
variable {l : Launch} {G : Gt} {d : Nat} {Q : QT} {M : Mem}
theorem KX12_endsRight {s c p pl day : Int} (hS : Sh M.2.1) (hq : WFQ Q) (hH : HoldsM Q M.1) (h1 : 0 ≤ s ∧ s < nPp Q) (h2 : 0 ≤ c ∧ c < nCv Q) (h3 : 0 ≤ pl ∧ pl < 8) (h4 : 0 ≤ day ∧ day ≤ 999) : ∃ I', Cl l G (d + 5) mX12_endsRight [vR (some (3, 0)), vI s, vI c, vI p, vI pl, vI day] M (some (vI (if endV Q c s pl day 5 = 1 ∧ endV Q c s pl day 8 = p then 1 else 0))) (I', M.2.1, M.2.2) ∧ frE M.1 I' ∧ EndP (endV Q c s pl day) I' := by
  obtain ⟨I', x1, x2, x3⟩ := KX12_endsFrom (l := l) (G := G) (d := d) (s := s) (c := c) (pl := pl) (day := day) hS hq hH h1 h2 h3 h4
  refine ⟨I', xX12_endsRight_0 ⟨_, x1, ?_⟩, x2, x3⟩
  simp only [x3.1, x3.2.1]
  by_cases a : endV Q c s pl day 5 = 1
  · by_cases b : endV Q c s pl day 8 = p
    · rw [if_pos a, if_pos b, if_pos ⟨a, b⟩]; exact ⟨.inr rfl, rfl, trivial⟩
    · rw [if_pos a, if_neg b, if_neg (fun x => b x.2)]; exact ⟨.inl rfl, rfl, trivial⟩
  · rw [if_neg a, if_neg (fun x => a x.1)]; exact ⟨.inl rfl, rfl, trivial⟩
theorem cp_ref {a b what F S : Int} (ha : a = -2 ∨ (0 ≤ a ∧ a ≤ 999)) (hb : b = -2 ∨ (0 ≤ b ∧ b ≤ 999)) (hF : F = if a = -2 then 1000 else a) (hS : S = if b = -2 then 1000 else b) (hw : 0 ≤ what ∧ what ≤ 1) : ((if S ≤ F then S else F) ≤ 999 → cpV a b what = (if what = 1 then (if S ≤ F then S else F) else (if F = S then 2 else (if S ≤ F then 1 else 0 : Int) : Int) : Int)) ∧ (¬ ((if S ≤ F then S else F) ≤ 999) → cpV a b what = -2) := by
  unfold cpV
  constructor
  · intro c
    by_cases h1 : a = -2
    · rw [if_pos h1] at hF
      by_cases h2 : b = -2
      · rw [if_pos h2] at hS; rw [hF, hS] at c; simp at c
      · rw [if_neg h2] at hS
        rw [if_neg (fun x => h2 x.2), if_neg (show ¬ a = b by omega), if_neg h2, if_pos h1, hF, hS, if_pos (show b ≤ 1000 by omega)]
        by_cases w : what = 0
        · rw [if_pos w, if_neg (show ¬ what = 1 by omega), if_neg (show ¬ (1000 : Int) = b by omega), if_pos (show b ≤ 1000 by omega)]
        · rw [if_neg w, if_pos rfl, if_pos (show what = 1 by omega)]
    · rw [if_neg h1] at hF
      rw [if_neg (fun x => h1 x.1)]
      by_cases h2 : b = -2
      · rw [if_pos h2] at hS
        rw [if_neg (show ¬ a = b by omega), if_pos h2, hF, hS, if_neg (show ¬ 1000 ≤ a by omega)]
        by_cases w : what = 0
        · rw [if_pos w, if_neg (show ¬ what = 1 by omega), if_neg (show ¬ a = 1000 by omega), if_neg (show ¬ 1000 ≤ a by omega)]
        · rw [if_neg w, if_neg (by omega), if_pos (show what = 1 by omega)]
      · rw [if_neg h2] at hS
        rw [if_neg h2, if_neg h1, hF, hS]
        by_cases w : what = 0
        · rw [if_pos w, if_neg (show ¬ what = 1 by omega)]
        · rw [if_neg w, if_pos (show what = 1 by omega)]
          by_cases c1 : a = b
          · rw [if_pos c1, if_neg (by omega), if_pos (show b ≤ a by omega)]; exact c1
          · rw [if_neg c1]
            by_cases c2 : b ≤ a
            · rw [if_pos c2, if_pos rfl, if_pos c2]
            · rw [if_neg c2, if_neg (by omega), if_neg c2]
  · intro c
    have h1 : a = -2 := by
      by_cases h1 : a = -2
      · exact h1
      · rw [if_neg h1] at hF
        by_cases c2 : S ≤ F
        · rw [if_pos c2] at c; omega
        · rw [if_neg c2] at c; omega
    have h2 : b = -2 := by
      by_cases h2 : b = -2
      · exact h2
      · rw [if_neg h2] at hS
        by_cases c2 : S ≤ F
        · rw [if_pos c2] at c; omega
        · rw [if_neg c2] at c; omega
    rw [if_pos ⟨h1, h2⟩]
theorem KX12_copies {s c p one other day what : Int} (hS : Sh M.2.1) (hq : WFQ Q) (hH : HoldsM Q M.1) : ∃ I', Cl l G (d + 6) mX12_copies [vR (some (3, 0)), vI s, vI c, vI p, vI one, vI other, vI day, vI what] M (some (vI (copiesV Q s c p one other day what))) (I', M.2.1, M.2.2) ∧ frM M.1 I' := by
  have h12 := nPp_le hq.1
  have e1 := mppl_eq hq.1 hH
  have e2 : M.1 3 0 33 = (nCv Q : Int) := by rw [hH.2.2.2.1]; have := hq.2.2.2.2.1; unfold nCv; omega
  have hn8 : nCv Q ≤ 8 := by have := hq.2.2.2.2.1; unfold nCv; omega
  by_cases g : (0 ≤ s ∧ s < nPp Q) ∧ (0 ≤ c ∧ c < nCv Q) ∧ (0 ≤ p ∧ p < nPp Q) ∧ ¬ s = p ∧ (0 ≤ one ∧ one < 8) ∧ (0 ≤ other ∧ other < 8) ∧ (0 ≤ day ∧ day ≤ 999) ∧ (0 ≤ what ∧ what ≤ 1)
  · obtain ⟨g1, g2, g3, g4, g5, g6, g7, g8⟩ := g
    obtain ⟨I1, x1, x2, x3⟩ := KX12_endsRight (l := l) (G := G) (d := d) (s := s) (c := c) (p := p) (pl := one) (day := day) hS hq hH g1 g2 g5 g7
    obtain ⟨I2, y1, y2, y3⟩ := KX12_endsRight (l := l) (G := G) (d := d) (M := (I1, M.2.1, M.2.2)) (s := s) (c := c) (p := p) (pl := other) (day := day) hS hq (hH.fr x2.m) g1 g2 g6 g7
    refine ⟨I2, xX12_copies_0 hS ?_, x2.m.tr y2.m⟩
    rw [e1, e2]
    refine ⟨⟨by unfold InR; omega, by unfold InR; omega⟩, fun a => absurd ⟨g1, g2, g5, g7⟩ a, fun _ => ⟨fun a => absurd g6 a, fun _ => ⟨by unfold InR; omega, fun a => absurd g3 a, fun _ => ⟨fun a => absurd a.symm g4, fun _ => ⟨fun _ => ⟨_, _, x1, _, _, y1, ?_⟩, fun a => absurd g8 a⟩⟩⟩⟩⟩
    dsimp only
    have key := cp_ref (what := what) (F := if (if endV Q c s one day 5 = 1 ∧ endV Q c s one day 8 = p then 1 else 0 : Int) = 0 then 1000 else I1 3 0 58) (S := if (if endV Q c s other day 5 = 1 ∧ endV Q c s other day 8 = p then 1 else 0 : Int) = 0 then 1000 else I2 3 0 58) (dayV_in (c := c) (s := s) (p := p) (pl := one) hq g7) (dayV_in (c := c) (s := s) (p := p) (pl := other) hq g7) (by
      have := endL_7 hq (cv := c.toNat) (n := 100) (L := begL (fun _ => 0) s (-1) one day) g7
      rw [x3.2.2.1]
      unfold dayV
      by_cases a : endV Q c s one day 5 = 1 ∧ endV Q c s one day 8 = p
      · rw [if_pos a, if_pos a, if_neg (by omega), if_neg (show ¬ endV Q c s one day 7 = -2 by unfold endV; omega)]
      · rw [if_neg a, if_neg a, if_pos rfl, if_pos rfl]) (by
      have := endL_7 hq (cv := c.toNat) (n := 100) (L := begL (fun _ => 0) s (-1) other day) g7
      rw [y3.2.2.1]
      unfold dayV
      by_cases a : endV Q c s other day 5 = 1 ∧ endV Q c s other day 8 = p
      · rw [if_pos a, if_pos a, if_neg (by omega), if_neg (show ¬ endV Q c s other day 7 = -2 by unfold endV; omega)]
      · rw [if_neg a, if_neg a, if_pos rfl, if_pos rfl]) g8
    have ev : copiesV Q s c p one other day what = cpV (dayV Q c s p one day) (dayV Q c s p other day) what := by unfold copiesV; rw [if_pos ⟨g1, g2, g3, g4, g5, g6, g7, g8⟩]
    rw [ev]
    exact ⟨fun a => ⟨by rw [key.1 a], rfl⟩, fun a => ⟨by rw [key.2 a], rfl⟩⟩
  · refine ⟨M.1, xX12_copies_0 hS ?_, frM.rf⟩
    have ev : copiesV Q s c p one other day what = -1 := by unfold copiesV; rw [if_neg g]
    rw [e1, e2, ev]
    exact ⟨⟨by unfold InR; omega, by unfold InR; omega⟩, fun _ => ⟨rfl, rfl⟩, fun g1 => ⟨fun _ => ⟨rfl, rfl⟩, fun g2 => ⟨by unfold InR; omega, fun _ => ⟨rfl, rfl⟩, fun g3 => ⟨fun _ => ⟨rfl, rfl⟩, fun g4 => ⟨fun g5 => absurd ⟨g1.1, g1.2.1, g3, fun e => g4 e.symm, g1.2.2.1, g2, g1.2.2.2, g5⟩ g, fun _ => ⟨rfl, rfl⟩⟩⟩⟩⟩⟩
theorem KX11_dayRight {s c p pl day : Int} (hR : RelB Q M) (hq : WFQ Q) (h1 : 0 ≤ s ∧ s < nPp Q) (h2 : 0 ≤ c ∧ c < nCv Q) (h3 : 0 ≤ pl ∧ pl < 8) (h4 : 0 ≤ day ∧ day ≤ 999) : ∃ M', Cl l G (d + 6) mX11_dayRight [vR (some (2, 0)), vR (some (13, c.toNat)), vI s, vI p, vI pl, vI day] M (some (vI (dayV Q c s p pl day))) M' ∧ RelB Q M' ∧ frB M M' := by
  obtain ⟨M1, M', b, R1, k1, k2, k3, k4, k5⟩ := trip_end (l := l) (G := G) (d := d) (s := s) (p := p) (c := c) (pl := pl) (day := day) hR hq h1 h2 h3 h4
  refine ⟨M', xX11_dayRight_0 hR.1.1 ⟨M1, b, R1.1.1, M', k1, k2.1.1, ?_, rfl⟩, k2, k3⟩
  unfold dayV
  rw [← k4 5 (by omega), ← k4 8 (by omega), ← k4 7 (by omega), k5]
theorem KX11_copies {s c p one other day what : Int} (hR : RelB Q M) (hq : WFQ Q) : ∃ M', Cl l G (d + 7) mX11_copies [vR (some (2, 0)), vI s, vI c, vI p, vI one, vI other, vI day, vI what] M (some (vI (copiesV Q s c p one other day what))) M' ∧ RelB Q M' ∧ frB M M' := by
  have h12 := nPp_le hq.1
  have e1 := cppl_eq hq.1 hR.1
  have hco := KX11_coverOf (l := l) (G := G) (d := d + 6) (c := c) hR.1 hq.2.2.2.2
  by_cases g : (0 ≤ s ∧ s < nPp Q) ∧ (0 ≤ c ∧ c < nCv Q) ∧ (0 ≤ p ∧ p < nPp Q) ∧ ¬ s = p ∧ (0 ≤ one ∧ one < 8) ∧ (0 ≤ other ∧ other < 8) ∧ (0 ≤ day ∧ day ≤ 999) ∧ (0 ≤ what ∧ what ≤ 1)
  · obtain ⟨g1, g2, g3, g4, g5, g6, g7, g8⟩ := g
    rw [if_pos g2] at hco
    obtain ⟨M1, x1, x2, x3⟩ := KX11_dayRight (l := l) (G := G) (d := d) (s := s) (p := p) (c := c) (pl := one) (day := day) hR hq g1 g2 g5 g7
    obtain ⟨M2, y1, y2, y3⟩ := KX11_dayRight (l := l) (G := G) (d := d) (s := s) (p := p) (c := c) (pl := other) (day := day) x2 hq g1 g2 g6 g7
    have ev : copiesV Q s c p one other day what = cpV (dayV Q c s p one day) (dayV Q c s p other day) what := by unfold copiesV; rw [if_pos ⟨g1, g2, g3, g4, g5, g6, g7, g8⟩]
    rw [ev]
    refine ⟨M2, xX11_copies_0 ⟨_, M, hco, hR.1.1, fun a => absurd a (by simp), fun _ => ?_⟩, y2, x3.tr y3⟩
    rw [e1]
    refine ⟨fun a => absurd ⟨g1, g3, g4⟩ a, fun _ => ⟨fun a => absurd g5 a, fun _ => ⟨fun _ => ⟨fun a => absurd g7 a, fun _ => ⟨fun a => by omega, fun _ => ⟨fun _ => ⟨c.toNat, rfl, _, M1, x1, _, M2, y1, fun a => ⟨fun w => ⟨?_, rfl⟩, fun w => ⟨?_, rfl⟩⟩, fun a => ⟨fun b => ⟨fun w => ⟨?_, rfl⟩, fun w => ⟨?_, rfl⟩⟩, fun b => ⟨?_, rfl⟩⟩⟩, fun a => by omega⟩⟩⟩, fun a => absurd g6 a⟩⟩⟩
    · unfold cpV; rw [if_neg (fun x => a x.1), if_neg w]
    · unfold cpV; rw [if_neg (fun x => a x.1), if_pos w]
    · unfold cpV; rw [if_neg (fun x => b x.2), if_neg w]
    · unfold cpV; rw [if_neg (fun x => b x.2), if_pos w]
    · unfold cpV; rw [if_pos ⟨a, b⟩]
  · have ev : copiesV Q s c p one other day what = -1 := by unfold copiesV; rw [if_neg g]
    rw [ev]
    refine ⟨M, xX11_copies_0 ⟨_, M, hco, hR.1.1, fun _ => ⟨rfl, rfl⟩, fun a => ?_⟩, hR, frB.rf⟩
    rw [e1]
    have g2 : 0 ≤ c ∧ c < nCv Q := by
      by_cases g2 : 0 ≤ c ∧ c < nCv Q
      · exact g2
      · rw [if_neg g2] at a; exact absurd rfl a
    exact ⟨fun _ => ⟨rfl, rfl⟩, fun g1 => ⟨fun _ => ⟨rfl, rfl⟩, fun g5 => ⟨fun g6 => ⟨fun _ => ⟨rfl, rfl⟩, fun g7 => ⟨fun _ => ⟨rfl, rfl⟩, fun g8 => ⟨fun g9 => absurd ⟨g1.1, g2, g1.2.1, g1.2.2, g5, g6, g7, by omega⟩ g, fun _ => ⟨rfl, rfl⟩⟩⟩⟩, fun _ => ⟨rfl, rfl⟩⟩⟩⟩
end CP
