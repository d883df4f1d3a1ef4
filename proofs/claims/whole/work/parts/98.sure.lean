/-! sure: the reference, to the end -/
section SR2
variable {l : Launch} {G : Gt} {d : Nat} {Q : QT} {M : Mem}
def rgF (Q : QT) (cv s : Nat) (who day : Int) (a q : Nat) (I : IM) : Prop := ∀ a' p', ((a < a' ∧ a' ≤ 60) ∨ (a' = a ∧ p' < q)) → p' < 8 → rgT Q cv s who day (SI I) (TI I) a' p'
theorem SI_ll {I I' : IM} {row : Nat} (h : sameL row I I') : SI I' = SI I ∧ TI I' = TI I := ⟨funext fun a => funext fun p => h _ _ _ (by omega), funext fun a => funext fun p => h _ _ _ (by omega)⟩
theorem sure_104 {s cv : Nat} {who place day what : Int} {a : Nat} {v : Int} {M' : Mem} {Post : Int → Mem → Prop} (hS : Sh M.2.1) (hq : WFQ Q) (hs : s < nPp Q) (hc : cv < nCv Q) (ha : a ≤ 60)
    (K : ∀ I, HoldsM Q I → frM M.1 I → Laid Q I 0 (dn Q day) → rgF Q cv s who day a 8 I → ∃ v M', Ex l G (d + 4) mX12_sure 69 [some (vR (some (3, 0))), some (vI (s : Int)), some (vI (cv : Int)), some (vI who), some (vI place), some (vI day), some (vI what), some (vI ((a : Int) + (-1))), none] [] (I, M.2.1, M.2.2) (some (vI v)) M' ∧ Post v M') :
    ∀ n q : Nat, n + q = 8 → ∀ I, HoldsM Q I → frM M.1 I → Laid Q I 0 (dn Q day) → Laid Q I 1 (dn Q (dyA day a)) → rgF Q cv s who day a q I → ∃ v M', Ex l G (d + 4) mX12_sure 104 [some (vR (some (3, 0))), some (vI (s : Int)), some (vI (cv : Int)), some (vI who), some (vI place), some (vI day), some (vI what), some (vI (a : Int)), some (vI (q : Int))] [] (I, M.2.1, M.2.2) (some (vI v)) M' ∧ Post v M' := by
  intro n
  induction n with
  | zero =>
    intro q hq8 I hI hf h0 h1 hr
    have eq8 : q = 8 := by omega
    subst eq8
    obtain ⟨v, M', x1, x2⟩ := K I hI hf h0 hr
    exact ⟨v, M', xX12_sure_104 ⟨fun _ => ⟨by unfold InR; omega, x1⟩, fun c => absurd (by omega) c⟩, x2⟩
  | succ n ih =>
    intro q hq8 I hI hf h0 h1 hr
    obtain ⟨I', c1, c2, c3, c4, c5, c6⟩ := KX12_looks (l := l) (G := G) (d := d) (M := (I, M.2.1, M.2.2)) (n0 := dn Q day) (n1 := dn Q (dyA day a)) (n := nD Q cv day (dyA day a)) (s := s) (cv := cv) (place := q) (a := a) (who := who) hS hq hI (dn_le Q _) (dn_le Q _) rfl h0 h1 hc hs (by omega) ha (fun v hv h9 h1 h6 => (hr (a + (rd Q (q : Int) (v : Int)).toNat) v (.inl (by omega)) hv).1)
    have ho : ∀ a' p', ¬ (a' = a ∧ p' = q) → p' < 8 → SI I' a' p' = SI I a' p' ∧ TI I' a' p' = TI I a' p' := fun a' p' hn hp => by
      have := c3 (8 * a' + p') (by omega)
      exact ⟨this.2, this.1⟩
    have hr' : rgF Q cv s who day a (q + 1) I' := fun a' p' hh hp => by
      by_cases e : a' = a ∧ p' = q
      · obtain ⟨rfl, rfl⟩ := e
        have hn : ∀ v, v < 8 → ntA Q cv s day a' p' v → (a' : Int) + rd Q (p' : Int) (v : Int) ≤ 60 → SI I' (a' + (rd Q (p' : Int) (v : Int)).toNat) v = SI I (a' + (rd Q (p' : Int) (v : Int)).toNat) v ∧ TI I' (a' + (rd Q (p' : Int) (v : Int)).toNat) v = TI I (a' + (rd Q (p' : Int) (v : Int)).toNat) v := fun v hv hx h6 => by
          have := ntA_rd hq.2.1 hx
          exact ho _ v (by omega) hv
        refine ⟨c4, c5.trans ?_, ?_⟩
        · unfold gdS
          exact ⟨fun ⟨x, y, z⟩ => ⟨x, y, fun v hv hx => ⟨(z v hv hx).1, by rw [(hn v hv hx (z v hv hx).1).1]; exact (z v hv hx).2⟩⟩, fun ⟨x, y, z⟩ => ⟨x, y, fun v hv hx => ⟨(z v hv hx).1, by rw [← (hn v hv hx (z v hv hx).1).1]; exact (z v hv hx).2⟩⟩⟩
        · have e : elT Q (opA Q cv s day a' p') (ntA Q cv s day a' p') who (TI I') a' p' = elT Q (opA Q cv s day a' p') (ntA Q cv s day a' p') who (TI I) a' p' := funext fun x => propext (by
            unfold elT
            exact ⟨fun y => y.elim .inl fun ⟨v, hv, hx, hr, h2, h0⟩ => .inr ⟨v, hv, hx, hr, by rw [← (hn v hv hx hr).2]; exact h2, h0⟩, fun y => y.elim .inl fun ⟨v, hv, hx, hr, h2, h0⟩ => .inr ⟨v, hv, hx, hr, by rw [(hn v hv hx hr).2]; exact h2, h0⟩⟩)
          rw [e]
          exact c6
      · refine rgT_c (hr a' p' (by omega) hp) (ho a' p' e hp) (fun v hv hx h6 => ?_)
        have := ntA_rd hq.2.1 hx
        exact ho _ v (by omega) hv
    obtain ⟨v, M', x1, x2⟩ := ih (q + 1) (by omega) I' (hI.fr c2.m) (hf.tr c2.m) (h0.fr5 c2) (h1.fr5 c2) hr'
    exact ⟨v, M', xX12_sure_104 ⟨fun c => by omega, fun _ => ⟨_, c1, by unfold InR; omega, x1⟩⟩, x2⟩
theorem sure_69 {s cv : Nat} {who day what : Int} {place : Nat} (hS : Sh M.2.1) (hq : WFQ Q) (hs : s < nPp Q) (hc : cv < nCv Q) (hpl : place < 8) (hd : 0 ≤ day ∧ day ≤ 999) :
    ∀ m : Nat, m ≤ 61 → ∀ I, HoldsM Q I → frM M.1 I → Laid Q I 0 (dn Q day) → (∀ a p, m ≤ a → a ≤ 60 → p < 8 → rgT Q cv s who day (SI I) (TI I) a p) → ∃ v M', Ex l G (d + 4) mX12_sure 69 [some (vR (some (3, 0))), some (vI (s : Int)), some (vI (cv : Int)), some (vI who), some (vI (place : Int)), some (vI day), some (vI what), some (vI ((m : Int) + (-1))), none] [] (I, M.2.1, M.2.2) (some (vI v)) M' ∧ ∃ I', M' = (I', M.2.1, M.2.2) ∧ frM M.1 I' ∧ ∃ X S T, tabT Q cv s who day X S T ∧ X 0 place ∧ v = (if what = 0 then S 0 place else T 0 place) := by
  intro m
  induction m with
  | zero =>
    intro _ I hI hf h0 hr
    have ei : (8 * 0 + (place : Int)).toNat = 8 * 0 + place := by omega
    have h01 := (hr 0 place (by omega) (by omega) hpl).1
    refine ⟨(if what = 0 then SI I 0 place else TI I 0 place), _, xX12_sure_69 (M := (I, M.2.1, M.2.2)) hS ⟨fun _ => ?_, fun c => absurd (by omega) c⟩, I, rfl, hf, fun a p => a ≤ 60 ∧ p < 8, SI I, TI I, ?_, ⟨by omega, hpl⟩, rfl⟩
    · refine ⟨⟨fun _ => ⟨⟨by unfold InR; omega, by unfold InR; omega⟩, by omega⟩, fun _ => ⟨⟨by unfold InR; omega, by unfold InR; omega⟩, by omega⟩⟩, ?_, rfl⟩
      rw [ei]
      by_cases c : what = 0
      · rw [if_pos c, if_pos c]
        show some (vI (SI I 0 place)) = some (vI (if SI I 0 place = 0 then 0 else 1))
        rcases h01 with h | h
        · rw [h]; rfl
        · rw [h]; rfl
      · rw [if_neg c, if_neg c]
        rfl
    · intro a p hx
      refine ⟨hr a p (by omega) hx.1 hx.2, fun v hv _ h6 => ⟨by omega, hv⟩⟩
  | succ a ih =>
    intro ha I hI hf h0 hr
    obtain ⟨I1, c1, s1, L1⟩ := KX12_lays (l := l) (G := G) (d := d + 1) (M := (I, M.2.1, M.2.2)) (row := 1) (x2 := dyA day a) hS hq.1 hI.1 (by omega)
    obtain ⟨e1, e2⟩ := SI_ll s1
    have h0' := Laid.same (row' := 1) h0 (by omega) (by omega) (by omega) s1
    obtain ⟨v, M', x1, x2⟩ := sure_104 (l := l) (G := G) (d := d) (M := M) (M' := M) (v := 0) (Q := Q) (s := s) (cv := cv) (who := who) (place := (place : Int)) (day := day) (what := what) (a := a) (Post := fun v M' => ∃ I', M' = (I', M.2.1, M.2.2) ∧ frM M.1 I' ∧ ∃ X S T, tabT Q cv s who day X S T ∧ X 0 place ∧ v = (if what = 0 then S 0 place else T 0 place)) hS hq hs hc (by omega) (fun J hJ jf j0 jr => ih (by omega) J hJ jf j0 (fun a' p h1 h2 h3 => by
      by_cases e : a' = a
      · exact jr a' p (.inr ⟨e, by omega⟩) h3
      · exact jr a' p (.inl (by omega)) h3)) 8 0 rfl I1 (hI.fr (frM.ll s1)) (hf.tr (frM.ll s1)) h0' L1 (fun a' p h1 h2 => by rw [e1, e2]; exact hr a' p (by omega) (by omega) h2)
    have ed : (if 999 < day + (((a + 1 : Nat) : Int) + (-1)) then 999 else day + (((a + 1 : Nat) : Int) + (-1)) : Int) = dyA day a := by
      unfold dyA
      rw [show ((a + 1 : Nat) : Int) + (-1) = (a : Int) by omega]
    refine ⟨v, M', xX12_sure_69 hS ⟨fun c => by omega, fun _ => ⟨by unfold InR; omega, fun _ => by unfold InR; omega, (I1, M.2.1, M.2.2), ?_, ?_⟩⟩, x2⟩
    · rw [ed]; exact c1
    · rw [show ((a + 1 : Nat) : Int) + (-1) = (a : Int) by omega]; exact x1
theorem KX12_sure {s c p pl day what : Int} (hS : Sh M.2.1) (hq : WFQ Q) (hH : HoldsM Q M.1) : ∃ I', Cl l G (d + 4) mX12_sure [vR (some (3, 0)), vI s, vI c, vI p, vI pl, vI day, vI what] M (some (vI (surV Q s c p pl day what))) (I', M.2.1, M.2.2) ∧ frM M.1 I' := by
  have h12 := nPp_le hq.1
  have e1 := mppl_eq hq.1 hH
  have e2 : M.1 3 0 33 = (nCv Q : Int) := by rw [hH.2.2.2.1]; have := hq.2.2.2.2.1; unfold nCv; omega
  have hn8 : nCv Q ≤ 8 := by have := hq.2.2.2.2.1; unfold nCv; omega
  by_cases g : surG Q s c p pl day what
  · have gg := g
    obtain ⟨g1, g2, g3, g4, g5, g6, g7⟩ := gg
    obtain ⟨I1, c1, s1, L1⟩ := KX12_lays (l := l) (G := G) (d := d + 1) (row := 0) (x2 := day) hS hq.1 hH.1 (by omega)
    obtain ⟨v, M', x1, I', rfl, x2, x3⟩ := sure_69 (l := l) (G := G) (d := d) (M := M) (Q := Q) (s := s.toNat) (cv := c.toNat) (who := p) (day := day) (what := what) (place := pl.toNat) hS hq (by omega) (by omega) (by omega) g6 61 (by omega) I1 (hH.fr (frM.ll s1)) (frM.ll s1) L1 (fun a p h1 h2 => by omega)
    rw [show ((s.toNat : Nat) : Int) = s by omega, show ((c.toNat : Nat) : Int) = c by omega, show ((pl.toNat : Nat) : Int) = pl by omega, show ((61 : Nat) : Int) + (-1) = 60 by omega] at x1
    rw [surV_eq (v := v) hq.2.1 ⟨fun _ => x3, fun n => absurd g n⟩]
    refine ⟨I', xX12_sure_0 hS ?_, x2⟩
    rw [e1, e2]
    exact ⟨by unfold InR; omega, fun a => absurd g1 a, fun _ => ⟨by unfold InR; omega, fun a => absurd g2 a, fun _ => ⟨by unfold InR; omega, fun a => absurd g3 a, fun _ => ⟨fun a => absurd a.symm g4, fun _ => ⟨fun a => absurd g5 a, fun _ => ⟨fun a => absurd g6 a, fun _ => ⟨fun _ => ⟨_, c1, x1⟩, fun a => absurd g7 a⟩⟩⟩⟩⟩⟩⟩
  · rw [surV_eq (v := -1) hq.2.1 ⟨fun n => absurd n g, fun _ => rfl⟩]
    refine ⟨M.1, xX12_sure_0 hS ?_, frM.rf⟩
    rw [e1, e2]
    exact ⟨by unfold InR; omega, fun _ => ⟨rfl, rfl⟩, fun g1 => ⟨by unfold InR; omega, fun _ => ⟨rfl, rfl⟩, fun g2 => ⟨by unfold InR; omega, fun _ => ⟨rfl, rfl⟩, fun g3 => ⟨fun _ => ⟨rfl, rfl⟩, fun g4 => ⟨fun _ => ⟨rfl, rfl⟩, fun g5 => ⟨fun _ => ⟨rfl, rfl⟩, fun g6 => ⟨fun g7 => absurd ⟨g1, g2, g3, fun e => g4 e.symm, g5, g6, g7⟩ g, fun _ => ⟨rfl, rfl⟩⟩⟩⟩⟩⟩⟩⟩
end SR2
