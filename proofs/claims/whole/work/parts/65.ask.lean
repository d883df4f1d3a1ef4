/-! asking on a day: bundled -/
def WFQ (Q : QT) : Prop := WFc Q ∧ WFr Q ∧ WFk Q ∧ WFp Q ∧ WFV Q
def RelB (Q : QT) (M : Mem) : Prop := RelA Q M ∧ WaysC Q M.1 ∧ RoadsC Q M.1 0
theorem RelB.fr {Q : QT} {M M' : Mem} (h : RelB Q M) (hR : RelA Q M') (hf : frB M M') : RelB Q M' := by
  refine ⟨hR, ⟨fun a b ha hb => ?_, fun a b ha hb => ?_⟩, fun a b ha hb => ?_⟩
  · rw [hf.1 _ _ _ (by unfold scC; omega)]; exact h.2.1.1 a b ha hb
  · rw [hf.1 _ _ _ (by unfold scC; omega)]; exact h.2.1.2 a b ha hb
  · rw [hf.1 _ _ _ (by unfold scC; omega)]; exact h.2.2 a b ha hb
def nD (Q : QT) (cv : Nat) (sent day : Int) : Nat := if Q 84 cv = 0 then dn Q sent else dn Q day
def ask1 (Q : QT) (cv s : Nat) (sent day : Int) (place : Nat) : Option (Nat × Int × Int) := askF Q (nD Q cv sent day) (dn Q day) s cv place (nPp Q)
def akd1 (Q : QT) (cv s : Nat) (sent day : Int) (place : Nat) : Nat → Bool := akd Q (nD Q cv sent day) (dn Q day) s cv place
theorem firstF_or (p : Nat → Bool) (n : Nat) : firstF p n = -1 ∨ ∃ v, v < n ∧ firstF p n = (v : Int) ∧ p v = true := by
  rcases least_or p n with h | ⟨j, h1, h2, h3⟩
  · exact .inl (firstF_none h)
  · exact .inr ⟨j, h1, firstF_at h3 h2 h1, h2⟩
theorem nx_or (Q : QT) (a b : Nat) : nx Q a b = -1 ∨ ∃ v : Nat, v < 8 ∧ nx Q a b = (v : Int) ∧ ¬ rd Q a v = 0 := by
  unfold nx
  split
  · exact .inl rfl
  · rcases firstF_or (fun v => decide (¬ rd Q a v = 0 ∧ rd Q a v + dist Q v b = dist Q a b)) 8 with h | ⟨v, h1, h2, h3⟩
    · exact .inl h
    · exact .inr ⟨v, h1, h2, (of_decide_eq_true h3).1⟩
/-- what one who tells may say -/
theorem tellF_or {Q : QT} {n n1 s cv place r : Nat} {h w : Int} (e : tellF Q n n1 s cv place r = some (h, w)) : (h = 0 ∧ w = mnt Q n n1 s cv r ∧ ¬ w = -1) ∨ (h = 1 ∧ ∃ v : Nat, v < 8 ∧ w = (v : Int) ∧ ¬ rd Q place v = 0) := by
  unfold tellF at e
  split at e
  · cases e
  · rename_i c1
    split at e
    · cases e; exact .inl ⟨rfl, rfl, c1⟩
    · split at e
      · cases e
      · rename_i c2
        cases e
        rcases nx_or Q place (plF Q n1 (mnt Q n n1 s cv r).toNat).toNat with c | c
        · exact absurd c c2
        · exact .inr ⟨rfl, c⟩
theorem askF_or {Q : QT} {n n1 s cv place : Nat} {x : Nat × Int × Int} : ∀ {k : Nat}, askF Q n n1 s cv place k = some x → x.1 < k ∧ tellF Q n n1 s cv place x.1 = some x.2 := by
  intro k
  induction k with
  | zero => intro e; cases e
  | succ k ih =>
    intro e
    unfold askF at e
    cases e2 : askF Q n n1 s cv place k with
    | some y =>
      rw [e2] at e
      cases e
      have := ih e2
      exact ⟨by omega, this.2⟩
    | none =>
      rw [e2] at e
      dsimp only at e
      split at e
      · cases e3 : tellF Q n n1 s cv place k with
        | none => rw [e3] at e; cases e
        | some y => rw [e3] at e; cases e; exact ⟨by show k < k + 1; omega, e3⟩
      · cases e
theorem mnt_or {Q : QT} {n n1 s cv r : Nat} (hp : WFp Q) (hr : r < nPp Q) (h12 : nPp Q ≤ 12) : mnt Q n n1 s cv r = -1 ∨ ∃ v : Nat, v < nPp Q ∧ mnt Q n n1 s cv r = (v : Int) := by
  unfold mnt
  split
  · exact .inr ⟨r, hr, rfl⟩
  · rcases firstF_or (fitS Q n s (snF Q n1 r) cv) 12 with h | ⟨v, h1, h2, h3⟩
    · exact .inl h
    · exact .inr ⟨v, fitS_in hp hr h12 h1 h3, h2⟩
theorem ask1_or {Q : QT} {cv s place : Nat} {sent day : Int} (hq : WFQ Q) : ask1 Q cv s sent day place = none ∨ ∃ r h w, ask1 Q cv s sent day place = some (r, h, w) ∧ r < nPp Q ∧ ((h = 0 ∧ ∃ v : Nat, v < nPp Q ∧ w = (v : Int)) ∨ (h = 1 ∧ ∃ v : Nat, v < 8 ∧ w = (v : Int) ∧ ¬ rd Q place v = 0)) := by
  unfold ask1
  cases e : askF Q (nD Q cv sent day) (dn Q day) s cv place (nPp Q) with
  | none => exact .inl rfl
  | some x =>
    obtain ⟨r, h, w⟩ := x
    obtain ⟨h1, h2⟩ := askF_or e
    refine .inr ⟨r, h, w, rfl, h1, ?_⟩
    rcases tellF_or h2 with ⟨a, b, c⟩ | g
    · rcases mnt_or (n := nD Q cv sent day) (n1 := dn Q day) (s := s) (cv := cv) hq.2.2.2.1 h1 (nPp_le hq.1) with m | ⟨v, m1, m2⟩
      · exact absurd (b.trans m) c
      · exact .inl ⟨a, v, m1, b.trans m2⟩
    · exact .inr g
section AK3
variable {l : Launch} {G : Gt} {d : Nat} {Q : QT} {M : Mem}
theorem KX0_ask {cv s place : Nat} {sent day : Int} (hR : RelB Q M) (hq : WFQ Q) (hcv : cv < nCv Q) (hs : s < 12) (hpl : place < 8) : ∃ M', Cl l G (d + 3) mX0_ask [vR (some (9, 0)), vR (some (13, cv)), vI (s : Int), vI sent, vI day, vI (place : Int)] M none M' ∧ RelB Q M' ∧ frG scK M M' ∧ AskC (ask1 Q cv s sent day place) M'.1 ∧ M'.1 9 0 7 = bI 12 (akd1 Q cv s sent day place) := by
  have hw := hq.1
  obtain ⟨M1, o1, R1, f1, p1, _⟩ := on_at (l := l) (G := G) (d := d) (x := day) hR.1 hw
  have t1 := (R1.2.2.2.2.1.2.2 cv hcv).2.2.2.2
  have key : ∀ M4 : Mem, RelA Q M4 → frG scK M M4 → (dn Q day : Int) ≤ M4.1 6 0 2 → (nD Q cv sent day : Int) ≤ M4.1 6 0 2 → ∃ I', Ex l G (d + 3) mX0_ask 56 [some (vR (some (9, 0))), some (vR (some (13, cv))), some (vI (s : Int)), some (vI sent), some (vI day), some (vI (place : Int)), some (vR (some (14, dn Q day))), some (vR (some (14, nD Q cv sent day))), some (vI 0), none, none, none, none] [] (upI (upI (upI (upI M4.1 9 0 4 2) 9 0 5 (-1)) 9 0 6 (-1)) 9 0 7 0, M4.2.1, M4.2.2) none (I', M4.2.1, M4.2.2) ∧ RelB Q (I', M4.2.1, M4.2.2) ∧ frG scK M (I', M4.2.1, M4.2.2) ∧ AskC (ask1 Q cv s sent day place) I' ∧ I' 9 0 7 = bI 12 (akd1 Q cv s sent day place) := by
    intro M4 R4 f4 p4 p5
    have B4 := hR.fr R4 (f4.b fun _ _ _ => scK.c)
    obtain ⟨I', h1, h2, h3, h4, h5⟩ := ask_56 (l := l) (G := G) (d := d + 1) (M := M4) (n1 := dn Q day) (n := nD Q cv sent day) (s := s) (cv := cv) (place := place) (x3 := sent) (x4 := day) hw hq.2.2.1 hq.2.2.2.1 hq.2.2.2.2 B4.2.1 p4 p5 hcv hs hpl (upI (upI (upI (upI M4.1 9 0 4 2) 9 0 5 (-1)) 9 0 6 (-1)) 9 0 7 0) ((((R4.up (by unfold relF; omega)).up (M := (_, M4.2.1, M4.2.2)) (by unfold relF; omega)).up (M := (_, M4.2.1, M4.2.2)) (by unfold relF; omega)).up (M := (_, M4.2.1, M4.2.2)) (by unfold relF; omega)) ((((frX.up (by omega)).tr (frX.up (by omega))).tr (frX.up (by omega))).tr (frX.up (by omega))) (by rw [upI_i (by omega), upI_i (by omega), upI_i (by omega), upI_s]) (by rw [upI_i (by omega), upI_i (by omega), upI_s]) (by rw [upI_i (by omega), upI_s]) (by rw [upI_s])
    have hf := f4.tr h3.k
    exact ⟨I', h1, hR.fr h2 (hf.b fun _ _ _ => scK.c), hf, h4, h5⟩
  by_cases c : Q 84 cv = 0
  · obtain ⟨M4, o4, R4, f4, p4, q4⟩ := on_at (l := l) (G := G) (d := d) (x := sent) R1 hw
    have en : nD Q cv sent day = dn Q sent := by unfold nD; rw [if_pos c]
    obtain ⟨I', h1, h2⟩ := key M4 R4 (f1.k.tr f4.k) (by omega) (by rw [en]; exact p4)
    rw [en] at h1
    exact ⟨_, xX0_ask_0 hR.1.1 ⟨_, M1, o1, R1.1, fun _ => ⟨_, M4, o4, h1⟩, fun c2 => absurd (t1.trans c) c2⟩, h2⟩
  · have en : nD Q cv sent day = dn Q day := by unfold nD; rw [if_neg c]
    obtain ⟨I', h1, h2⟩ := key M1 R1 f1.k p1 (by rw [en]; exact p1)
    rw [en] at h1
    exact ⟨_, xX0_ask_0 hR.1.1 ⟨_, M1, o1, R1.1, fun c2 => absurd (t1.symm.trans c2) c, fun _ => h1⟩, h2⟩
theorem KX11_asked {c s sent day place what : Int} (hR : RelB Q M) (hq : WFQ Q) : ∃ M', Cl l G (d + 4) mX11_asked [vR (some (2, 0)), vI c, vI s, vI sent, vI day, vI place, vI what] M (some (vI (askedV Q c s sent day place what))) M' ∧ RelB Q M' ∧ frB M M' := by
  have hw := hq.1
  have h12 := nPp_le hw
  have e1 := cppl_eq hw hR.1
  have hco := KX11_coverOf (l := l) (G := G) (d := d + 3) (c := c) hR.1 hq.2.2.2.2
  by_cases g : (0 ≤ c ∧ c < nCv Q) ∧ (0 ≤ s ∧ s < nPp Q) ∧ (0 ≤ sent ∧ sent ≤ 999) ∧ (0 ≤ day ∧ day ≤ 999) ∧ (0 ≤ place ∧ place < 8) ∧ (0 ≤ what ∧ what ≤ 2)
  · obtain ⟨g1, g2, g3, g4, g5, g6⟩ := g
    rw [if_pos g1] at hco
    obtain ⟨M', k1, k2, k3, k4, _⟩ := KX0_ask (l := l) (G := G) (d := d) (cv := c.toNat) (s := s.toNat) (sent := sent) (day := day) (place := place.toNat) hR hq (by omega) (by omega) (by omega)
    rw [show ((s.toNat : Nat) : Int) = s by omega, show ((place.toNat : Nat) : Int) = place by omega] at k1
    have ev : askedV Q c s sent day place what = (match ask1 Q c.toNat s.toNat sent day place.toNat with
      | none => if what = 0 then 2 else -1
      | some (r, h, w) => if what = 0 then h else if what = 2 then (r : Int) else w) := by unfold askedV; rw [if_pos ⟨g1, g2, g3, g4, g5, g6⟩]; rfl
    rw [ev]
    refine ⟨M', xX11_asked_0 ⟨_, M, hco, hR.1.1, fun a => absurd a (by simp), fun _ => ?_⟩, k2, k3.b fun _ _ _ => scK.c⟩
    rw [e1]
    refine ⟨fun a => absurd g2 a, fun _ => ⟨fun a => absurd g3 a, fun _ => ⟨fun _ => ⟨fun a => absurd g5 a, fun _ => ⟨fun a => by omega, fun _ => ⟨fun _ => ⟨c.toNat, rfl, M', k1, k2.1.1, fun w0 => ⟨?_, rfl⟩, fun w0 => ⟨?_, rfl⟩⟩, fun a => by omega⟩⟩⟩, fun a => absurd g4 a⟩⟩⟩
    · revert k4
      cases ask1 Q c.toNat s.toNat sent day place.toNat with
      | none =>
        intro k4
        obtain ⟨q1, q2, q3⟩ := k4
        dsimp only
        rw [q2, q3, if_neg w0]
        split <;> rfl
      | some x =>
        obtain ⟨r, h, w⟩ := x
        intro k4
        obtain ⟨q1, q2, q3⟩ := k4
        dsimp only
        rw [q2, q3, if_neg w0]
        by_cases w2 : what = 2
        · rw [if_pos w2, if_neg (by omega)]
        · rw [if_neg w2, if_pos (by omega)]
    · revert k4
      cases ask1 Q c.toNat s.toNat sent day place.toNat with
      | none =>
        intro k4
        obtain ⟨q1, q2, q3⟩ := k4
        dsimp only
        rw [q1, if_pos w0]
      | some x =>
        obtain ⟨r, h, w⟩ := x
        intro k4
        obtain ⟨q1, q2, q3⟩ := k4
        dsimp only
        rw [q1, if_pos w0]
  · have ev : askedV Q c s sent day place what = -2 := by unfold askedV; rw [if_neg g]
    rw [ev]
    refine ⟨M, xX11_asked_0 ⟨_, M, hco, hR.1.1, fun _ => ⟨rfl, rfl⟩, fun a => ?_⟩, hR, frB.rf⟩
    rw [e1]
    have g1 : 0 ≤ c ∧ c < nCv Q := by
      by_cases g1 : 0 ≤ c ∧ c < nCv Q
      · exact g1
      · rw [if_neg g1] at a; exact absurd rfl a
    exact ⟨fun _ => ⟨rfl, rfl⟩, fun g2 => ⟨fun _ => ⟨rfl, rfl⟩, fun g3 => ⟨fun g4 => ⟨fun _ => ⟨rfl, rfl⟩, fun g5 => ⟨fun _ => ⟨rfl, rfl⟩, fun g6 => ⟨fun g7 => absurd ⟨g1, g2, g3, g4, g5, by omega⟩ g, fun _ => ⟨rfl, rfl⟩⟩⟩⟩, fun _ => ⟨rfl, rfl⟩⟩⟩⟩
end AK3
