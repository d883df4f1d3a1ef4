/-! days on the class -/
section CD
variable {l : Launch} {G : Gt} {d : Nat} {Q : QT} {M : Mem}
theorem KX8_howManyAre (hS : Sh M.2.1) (hl : WFl Q) (hC : LetsC Q M 0) : Cl l G d mX8_howManyAre [vR (some (4, 0)), vI 0] M (some (vI (undV Q))) M := by
  have h8 := hl.n8
  have e3 : M.1 4 0 8 = (nLt Q : Int) := hC.1.1.trans (nLt_eq hl)
  refine xX8_howManyAre_0 ?_
  refine loopUp (P := fun k : Nat => Ex l G d mX8_howManyAre 4 [some (vR (some (4, 0))), some (vI 0), some (vI (cntF (fun k => Q 66 k = 0) k)), some (vI (k : Int))] [] M (some (vI (undV Q))) M) 0 (nLt Q) (by omega) ?_ ?_
  · intro k _ hk ih
    have hc := cntF_in (fun k => Q 66 k = 0) k
    obtain ⟨_, hL⟩ := hC.2.2 k hk
    have e5 : M.1 5 k 5 = Q 66 k := hL.2.2.2.1
    refine xX8_howManyAre_4 hS ⟨fun c => by omega, fun _ => ⟨by omega, k, by rw [Int.toNat_natCast]; exact hC.2.1 k (by omega), ?_⟩⟩
    rw [e5]
    refine ⟨⟨?_, by unfold InR; omega⟩, ih⟩
    unfold InR
    split <;> omega
  · exact xX8_howManyAre_4 hS ⟨fun _ => ⟨rfl, rfl⟩, fun c => absurd (by omega) c⟩
theorem KX0_oneDay (hR : RelB Q M) (hq : WFQ Q) (hl : WFl Q) (hC : LetsC Q M 0) : ∃ M', Cl l G (d + 5) mX0_oneDay [vR (some (9, 0))] M none M' ∧ RelB (dayQ Q) M' ∧ LetsC (dayQ Q) M' 0 ∧ frG scD M M' := by
  have h8 := hl.n8
  have hnow := hl.2.1
  have key := loopUp (P := fun k : Nat => ∀ M1, RelB (dayF Q k) M1 → LetsC (dayF Q k) M1 0 → frG scD M M1 → ∃ M', Ex l G (d + 5) mX0_oneDay 2 [some (vR (some (9, 0))), some (vI (k : Int)), none, none] [] M1 none M' ∧ RelB (dayQ Q) M' ∧ LetsC (dayQ Q) M' 0 ∧ frG scD M M') 0 (nLt Q) (by omega) (by
    intro k _ hk ih M1 R1 C1 f1
    have hT := dayF_T (Q := Q) k
    have es : dayF Q k 48 = Q 48 := hT _ (by omega)
    have hqk := hT.q hq
    have hlk := dayF_W hq hl k (by omega)
    have enl : nLt (dayF Q k) = nLt Q := by unfold nLt; rw [es]
    have e3 : M1.1 4 0 8 = (nLt Q : Int) := by rw [C1.1.1, es]; exact nLt_eq hl
    obtain ⟨_, hL⟩ := C1.2.2 k (by omega)
    have e5 : M1.1 5 k 5 = dayF Q k 66 k := hL.2.2.2.1
    have e7 : M1.1 5 k 7 = dayF Q k 68 k := hL.2.2.2.2.2.1
    have e10 : M1.1 4 0 10 = dayF Q k 48 5 := C1.1.2
    have ed : dayF Q (k + 1) = if dayF Q k 66 k = 0 ∧ dayF Q k 68 k = dayF Q k 48 5 then stepQ (dayF Q k) k else dayF Q k := rfl
    have hi1 : InR ((k : Int) + 1) := by unfold InR; omega
    have ep : M1.2.1 38 0 (k : Int).toNat = some (5, k) := by rw [Int.toNat_natCast]; exact C1.2.1 k (by omega)
    by_cases c1 : dayF Q k 66 k = 0
    · by_cases c2 : dayF Q k 68 k = dayF Q k 48 5
      · rw [if_pos ⟨c1, c2⟩] at ed
        obtain ⟨r, M7, c7, g⟩ := one_step (l := l) (G := G) (d := d) R1 hqk hlk C1 (by omega) c1 c2
        rcases g with ⟨g1, g2, g3, g4⟩ | ⟨g1, M11, g5, g2, g3, g4⟩
        · obtain ⟨M', x1, x2⟩ := ih M7 (by rw [ed]; exact g2) (by rw [ed]; exact g3) (f1.tr g4)
          exact ⟨M', xX0_oneDay_2 R1.1.1 ⟨fun c => by omega, fun _ => ⟨by omega, k, ep, fun c => absurd (e5.trans c1) c, fun _ => ⟨fun c => absurd (e7.trans (c2.trans e10.symm)) c, fun _ => ⟨r, M7, c7, fun _ => ⟨hi1, x1⟩, fun c => absurd g1 c⟩⟩⟩⟩, x2⟩
        · obtain ⟨M', x1, x2⟩ := ih M11 (by rw [ed]; exact g2) (by rw [ed]; exact g3) (f1.tr g4)
          exact ⟨M', xX0_oneDay_2 R1.1.1 ⟨fun c => by omega, fun _ => ⟨by omega, k, ep, fun c => absurd (e5.trans c1) c, fun _ => ⟨fun c => absurd (e7.trans (c2.trans e10.symm)) c, fun _ => ⟨r, M7, c7, fun c => absurd c g1, fun _ => ⟨M11, g5, hi1, x1⟩⟩⟩⟩⟩, x2⟩
      · rw [if_neg (fun c => c2 c.2)] at ed
        obtain ⟨M', x1, x2⟩ := ih M1 (by rw [ed]; exact R1) (by rw [ed]; exact C1) f1
        exact ⟨M', xX0_oneDay_2 R1.1.1 ⟨fun c => by omega, fun _ => ⟨by omega, k, ep, fun c => absurd (e5.trans c1) c, fun _ => ⟨fun _ => ⟨hi1, x1⟩, fun c => absurd (e7.symm.trans (c.trans e10)) c2⟩⟩⟩, x2⟩
    · rw [if_neg (fun c => c1 c.1)] at ed
      obtain ⟨M', x1, x2⟩ := ih M1 (by rw [ed]; exact R1) (by rw [ed]; exact C1) f1
      exact ⟨M', xX0_oneDay_2 R1.1.1 ⟨fun c => by omega, fun _ => ⟨by omega, k, ep, fun _ => ⟨hi1, x1⟩, fun c => absurd (e5.symm.trans c) c1⟩⟩, x2⟩) (by
    intro M1 R1 C1 f1
    have hT := dayF_T (Q := Q) (nLt Q)
    have es : dayF Q (nLt Q) 48 = Q 48 := hT _ (by omega)
    have e3 : M1.1 4 0 8 = (nLt Q : Int) := by rw [C1.1.1, es]; exact nLt_eq hl
    have e10 : M1.1 4 0 10 = Q 48 5 := by rw [C1.1.2, es]
    obtain ⟨d1, d2, d3⟩ := dayQ_n (Q := Q)
    have enl : nLt (dayF Q (nLt Q)) = nLt Q := by show (dayF Q (nLt Q) 48 3).toNat = _; rw [es]; rfl
    have R2 : RelB (dayQ Q) M1 := by
      have hc : eqC (dayF Q (nLt Q)) (dayQ Q) := ⟨by unfold dayQ; rw [upQ_i (by omega)], by unfold dayQ; rw [upQ_i (by omega)], upQ_f (by omega), upQ_f (by omega), upQ_f (by omega), upQ_f (by omega), upQ_f (by omega), upQ_f (by omega), upQ_f (by omega)⟩
      have hv : eqV (dayF Q (nLt Q)) (dayQ Q) := ⟨by unfold dayQ; rw [upQ_f (by omega)], upQ_f (by omega), upQ_f (by omega), upQ_f (by omega), upQ_f (by omega), upQ_f (by omega)⟩
      have hr : eqR (dayF Q (nLt Q)) (dayQ Q) := ⟨by unfold dayQ; rw [upQ_i (by omega)], upQ_f (by omega), upQ_f (by omega), upQ_f (by omega)⟩
      exact RelB_q hc hv hr (upQ_f (by omega)) R1
    have f2 : frG scD M1 (upI M1.1 4 0 10 (Q 48 5 + 1), M1.2.1, M1.2.2) := frG.I fun f k i hn => by
      by_cases e : f = 4 ∧ k = 0
      · obtain ⟨rfl, rfl⟩ := e
        rw [upI_i (fun e => hn (by unfold scD; omega))]
      · rw [upI_o e]
    refine ⟨(upI M1.1 4 0 10 (Q 48 5 + 1), M1.2.1, M1.2.2), xX0_oneDay_2 R1.1.1 ⟨fun _ => ⟨by unfold InR; omega, rfl, by rw [e10]⟩, fun c => absurd (by omega) c⟩, ⟨R2.1.up (by unfold relF; omega), ⟨fun a b ha hb => ?_, fun a b ha hb => ?_⟩, fun a b ha hb => ?_⟩, ⟨⟨?_, ?_⟩, C1.2.1, fun i hi => ?_⟩, f1.tr f2⟩
    · dsimp only; rw [upI_f rfl]; exact R2.2.1.1 a b ha hb
    · dsimp only; rw [upI_f rfl]; exact R2.2.1.2 a b ha hb
    · dsimp only; rw [upI_f rfl]; exact R2.2.2 a b ha hb
    · dsimp only; rw [upI_i (by omega), d2, e3]; exact (nLt_eq hl).symm
    · dsimp only; rw [upI_s, d3]
    · rw [d1] at hi
      have := C1.2.2 i (by omega)
      have el : (upI M1.1 4 0 10 (Q 48 5 + 1)) 5 (lti 0 i) = M1.1 5 (lti 0 i) := upI_o (by omega)
      dsimp only
      rw [el]
      unfold dayQ LtC
      rw [upQ_f (by omega), upQ_f (by omega), upQ_f (by omega), upQ_f (by omega), upQ_f (by omega), upQ_f (by omega), upQ_f (by omega), upQ_f (by omega), upQ_f (by omega)]
      exact this)
  obtain ⟨M', x1, x2⟩ := key M hR hC frG.rf
  exact ⟨M', xX0_oneDay_0 x1, x2⟩
/-- rows that days leave as they are -/
def eqD (Q Q' : QT) : Prop := eqC Q Q' ∧ eqV Q Q' ∧ eqR Q Q' ∧ (Q' 48 4 = Q 48 4 ∧ Q' 50 = Q 50 ∧ Q' 51 = Q 51 ∧ Q' 52 = Q 52) ∧ (∀ f, ¬ (48 ≤ f ∧ f ≤ 70) → Q' f = Q f) ∧ ∀ f i, 48 ≤ f → f ≤ 70 → lenF f ≤ i → Q' f i = Q f i
theorem eqC.tr {Q Q' Q'' : QT} (h : eqC Q Q') (g : eqC Q' Q'') : eqC Q Q'' := ⟨g.1.trans h.1, g.2.1.trans h.2.1, g.2.2.1.trans h.2.2.1, g.2.2.2.1.trans h.2.2.2.1, g.2.2.2.2.1.trans h.2.2.2.2.1, g.2.2.2.2.2.1.trans h.2.2.2.2.2.1, g.2.2.2.2.2.2.1.trans h.2.2.2.2.2.2.1, g.2.2.2.2.2.2.2.1.trans h.2.2.2.2.2.2.2.1, g.2.2.2.2.2.2.2.2.trans h.2.2.2.2.2.2.2.2⟩
theorem eqV.tr {Q Q' Q'' : QT} (h : eqV Q Q') (g : eqV Q' Q'') : eqV Q Q'' := ⟨g.1.trans h.1, g.2.1.trans h.2.1, g.2.2.1.trans h.2.2.1, g.2.2.2.1.trans h.2.2.2.1, g.2.2.2.2.1.trans h.2.2.2.2.1, g.2.2.2.2.2.trans h.2.2.2.2.2⟩
theorem eqR.tr {Q Q' Q'' : QT} (h : eqR Q Q') (g : eqR Q' Q'') : eqR Q Q'' := ⟨g.1.trans h.1, g.2.1.trans h.2.1, g.2.2.1.trans h.2.2.1, g.2.2.2.trans h.2.2.2⟩
theorem eqD.rf {Q : QT} : eqD Q Q := ⟨eqC.rf, eqV.rf, eqR.rf, ⟨rfl, rfl, rfl, rfl⟩, fun _ _ => rfl, fun _ _ _ _ _ => rfl⟩
theorem eqD.tr {Q Q' Q'' : QT} (h : eqD Q Q') (g : eqD Q' Q'') : eqD Q Q'' := ⟨h.1.tr g.1, h.2.1.tr g.2.1, h.2.2.1.tr g.2.2.1, ⟨g.2.2.2.1.1.trans h.2.2.2.1.1, g.2.2.2.1.2.1.trans h.2.2.2.1.2.1, g.2.2.2.1.2.2.1.trans h.2.2.2.1.2.2.1, g.2.2.2.1.2.2.2.trans h.2.2.2.1.2.2.2⟩, fun f hf => (g.2.2.2.2.1 f hf).trans (h.2.2.2.2.1 f hf), fun f i a b c => (g.2.2.2.2.2 f i a b c).trans (h.2.2.2.2.2 f i a b c)⟩
theorem dayF_z {Q : QT} : ∀ k, k ≤ 8 → ∀ f i, 48 ≤ f → f ≤ 70 → lenF f ≤ i → dayF Q k f i = Q f i := by
  intro k
  induction k with
  | zero => intros; rfl
  | succ k ih =>
    intro hk f i h1 h2 h3
    unfold dayF
    split
    · by_cases c : f = 66 ∨ f = 67 ∨ f = 68 ∨ f = 69 ∨ f = 70
      · have hl : lenF f = 8 := by
          unfold lenF
          rw [if_neg (by omega), if_neg (by omega), if_neg (by omega), if_neg (by omega), if_neg (by omega), if_neg (by omega)]
        rw [stepQ_o (by omega)]; exact ih (by omega) f i h1 h2 h3
      · rw [stepQ_T f c]; exact ih (by omega) f i h1 h2 h3
    · exact ih (by omega) f i h1 h2 h3
theorem dayQ_d {Q : QT} (hl : WFl Q) : eqD Q (dayQ Q) := by
  have hT := dayF_T (Q := Q) (nLt Q)
  refine ⟨dayQ_c, dayQ_v, dayQ_r, ⟨?_, dayQ_k, ?_, ?_⟩, fun f hf => ?_, fun f i h1 h2 h3 => ?_⟩
  · unfold dayQ; rw [upQ_i (by omega), hT _ (by omega)]
  · unfold dayQ; rw [upQ_f (by omega), hT _ (by omega)]
  · unfold dayQ; rw [upQ_f (by omega), hT _ (by omega)]
  · unfold dayQ; rw [upQ_f (by omega), hT _ (by omega)]
  · unfold dayQ
    rw [upQ_o (fun c => ?_)]
    · exact dayF_z (nLt Q) hl.n8 f i h1 h2 h3
    · obtain ⟨rfl, rfl⟩ := c
      unfold lenF at h3
      rw [if_pos rfl] at h3
      omega
theorem WFA.dd {Q' : QT} (h : WFA Q) (hd : eqD Q Q') (hl : WFl Q') : WFA Q' := by
  obtain ⟨hc, hv, hr, ⟨h4, hk, hw, hy⟩, hO, hz⟩ := hd
  have q := WFQ_q hc hv hr hk h.q
  refine ⟨⟨q.1, q.2.1, q.2.2.1, q.2.2.2.1, hl, ?_, by rw [hw]; exact h.1.2.2.2.2.2.2.1, by rw [h4, hy]; exact h.1.2.2.2.2.2.2.2⟩, q.2.2.2.2, ?_, fun f i h1 h2 h3 => (hz f i h1 h2 h3).trans (h.2.2.2.1 f i h1 h2 h3), fun k hk => ?_, by rw [hv.2.2.2.2.1, hv.2.2.2.2.2]; exact h.2.2.2.2.2⟩
  · rw [nPp_q hc, hk]; exact h.1.2.2.2.2.2.1
  · rw [hO _ (by omega), hO _ (by omega)]; exact h.2.2.1
  · rw [hO 91 (by omega), QB_eq (eqM.of hO)]; exact h.2.2.2.2.1 k hk
theorem daysF_d (hw : WFA Q) : ∀ n : Nat, Q 48 5 + n ≤ 999 → eqD Q (daysF Q n) ∧ WFA (daysF Q n) := by
  intro n
  induction n with
  | zero => intro _; exact ⟨eqD.rf, hw⟩
  | succ n ih =>
    intro h
    obtain ⟨a, b⟩ := ih (by omega)
    obtain ⟨w1, w2, w3⟩ := daysF_W hw.q hw.l n (by omega)
    have e := a.tr (dayQ_d w2)
    exact ⟨e, hw.dd e (dayQ_l w1 w2 (by omega))⟩
theorem KX11_days {n : Int} (hR : RelC Q M) (hw : WFA Q) : ∃ M', Cl l G (d + 6) mX11_days [vR (some (2, 0)), vI n] M (some (vI (daysV Q n))) M' ∧ RelC (daysQ Q n) M' ∧ frK M M' ∧ WFA (daysQ Q n) := by
  have hnow := hw.l.2.1
  have e5 : M.1 4 0 10 = Q 48 5 := hR.2.1.2.2.2.2.2.2.2.1.2
  have hS := hR.1.1.1
  by_cases g : (1 ≤ n ∧ n ≤ 60) ∧ Q 48 5 + n ≤ 999
  · have ev : daysV Q n = undV (daysF Q n.toNat) := by unfold daysV; rw [if_pos g]
    have eq : daysQ Q n = daysF Q n.toNat := by unfold daysQ; rw [if_pos g]
    have key := loopUp (P := fun k : Nat => ∀ M1, RelB (daysF Q k) M1 → LetsC (daysF Q k) M1 0 → frG scD M M1 → ∃ M', Ex l G (d + 6) mX11_days 30 [some (vR (some (2, 0))), some (vI n), some (vI (k : Int))] [] M1 (some (vI (undV (daysF Q n.toNat)))) M' ∧ RelB (daysF Q n.toNat) M' ∧ LetsC (daysF Q n.toNat) M' 0 ∧ frG scD M M') 0 n.toNat (by omega) (by
      intro k _ hk ih M1 R1 C1 f1
      obtain ⟨w1, w2, w3⟩ := daysF_W hw.q hw.l k (by omega)
      obtain ⟨M4, c4, R4, C4, f4⟩ := KX0_oneDay (l := l) (G := G) (d := d) R1 w1 w2 C1
      obtain ⟨M', x1, x2⟩ := ih M4 R4 C4 (f1.tr f4)
      exact ⟨M', xX11_days_30 R1.1.1 ⟨fun c => by omega, fun _ => ⟨M4, c4, by unfold InR; omega, x1⟩⟩, x2⟩) (by
      intro M1 R1 C1 f1
      obtain ⟨w1, w2, w3⟩ := daysF_W hw.q hw.l n.toNat (by omega)
      have u := KX8_howManyAre (l := l) (G := G) (d := d + 5) R1.1.1 w2 C1
      exact ⟨M1, xX11_days_30 R1.1.1 ⟨fun _ => ⟨_, _, u, rfl, rfl⟩, fun c => absurd (by omega) c⟩, R1, C1, f1⟩)
    obtain ⟨M', x1, x2, x3, x4⟩ := key M hR.1 hR.2.1.2.2.2.2.2.2.2 frG.rf
    obtain ⟨⟨hc, hv, hr, hQ, hO, hz⟩, hwd⟩ := daysF_d hw n.toNat (by omega)
    rw [ev, eq]
    refine ⟨M', xX11_days_0 hS ⟨fun c => by omega, fun _ => ⟨fun c => by omega, fun _ => ?_⟩⟩, hR.dd hw x2 x3 hc hr hQ hO x4, x4.ck x2, hwd⟩
    rw [e5]
    exact ⟨by unfold InR; omega, fun _ => x1, fun c => absurd g.2 c⟩
  · have ev : daysV Q n = -1 := by unfold daysV; rw [if_neg g]
    have eq : daysQ Q n = Q := by unfold daysQ; rw [if_neg g]
    rw [ev, eq]
    refine ⟨M, xX11_days_0 hS ⟨fun _ => ⟨rfl, rfl⟩, fun c1 => ⟨fun _ => ⟨rfl, rfl⟩, fun c2 => ?_⟩⟩, hR, frB.rf.ck hR.1, hw⟩
    rw [e5]
    exact ⟨by unfold InR; omega, fun c => absurd ⟨by omega, c⟩ g, fun _ => ⟨rfl, rfl⟩⟩
end CD
