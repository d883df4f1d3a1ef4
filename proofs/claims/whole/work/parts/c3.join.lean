/-! each call on both sides: the same answer, the same state behind it -/
def LwS (Q : QT) (M : Mem) : Prop := RelC Q M ∧ HoldsQ Q M.1 ∧ WFA Q ∧ cCnt M.2.2 0 = 1 ∧ cCnt M.2.2 1 = 28
def Jn (l : Launch) (G : Gt) (mc mr : Md) (as : List Vl) (M : Mem) : Prop := ∃ (v : Int) (M1 : Mem) (I' : IM) (Q' : QT), Cl l G 1000 mc (vR (some (2, 0)) :: as) M (some (vI v)) M1 ∧ Cl l G 1000 mr (vR (some (3, 0)) :: as) M1 (some (vI v)) (I', M1.2.1, M1.2.2) ∧ LwS Q' (I', M1.2.1, M1.2.2) ∧ cNc M1.2.2 ≤ cNc M.2.2 + 600 ∧ cNs M1.2.2 ≤ cNs M.2.2 + 14000
section JO
variable {l : Launch} {G : Gt} {Q Q' : QT} {M M1 : Mem} {mc mr : Md} {as : List Vl} {v : Int}
/-- the reference's writes leave the class's relation -/
theorem RelC.r {I' : IM} (h : RelC Q M) (hw : WFA Q) (hf : frR M.1 I') : RelC Q (I', M.2.1, M.2.2) := by
  have hI : ∀ f k i, ¬ (f = 3 ∨ 48 ≤ f) → I' f k i = M.1 f k i := hf
  have hB : RelB Q (I', M.2.1, M.2.2) := ⟨h.1.1.I fun f k i hr => hI f k i (by unfold relF at hr; omega), ⟨fun a b ha hb => by dsimp only; rw [hI _ _ _ (by omega)]; exact h.1.2.1.1 a b ha hb, fun a b ha hb => by dsimp only; rw [hI _ _ _ (by omega)]; exact h.1.2.1.2 a b ha hb⟩, fun a b ha hb => by dsimp only; rw [hI _ _ _ (by omega)]; exact h.1.2.2 a b ha hb⟩
  exact h.one hw hB (h.2.1.fr hw.l.n8 (fun i => hI _ _ _ (by omega)) (fun f' i hh => hI _ _ _ (by omega)) (fun i => rfl) (fun i hi => ⟨fun x => hI _ _ _ (by omega), rfl⟩)) (h.2.2.1.fr rfl rfl (hI _ _ _ (by omega)) (fun i => hI _ _ _ (by omega))) ⟨rfl, rfl, rfl⟩ (fun f' k i hh => hI _ _ _ (by omega)) (fun f' k i hh => rfl) (fun f' hh => rfl)
theorem HoldsQ.ck (h : HoldsQ Q M.1) (hf : frK M M1) : HoldsQ Q M1.1 := ⟨fun f i hp => by rw [hf.1 f 0 i (by unfold perF at hp; omega)]; exact h.1 f i hp, fun i hi => by rw [hf.1 _ 0 i (by omega)]; exact h.2 i hi⟩
theorem jnn (h : LwS Q M) (hc : ∃ M1, Cl l G 1000 mc (vR (some (2, 0)) :: as) M (some (vI v)) M1 ∧ RelC Q' M1 ∧ frK M M1) (hr : ∀ M1 : Mem, Sh M1.2.1 → HoldsQ Q M1.1 → ∃ I', Cl l G 1000 mr (vR (some (3, 0)) :: as) M1 (some (vI v)) (I', M1.2.1, M1.2.2) ∧ HoldsQ Q' I' ∧ frR M1.1 I') (hw : WFA Q') : Jn l G mc mr as M := by
  obtain ⟨M1, a1, a2, a3⟩ := hc
  obtain ⟨I', b1, b2, b3⟩ := hr M1 a2.1.1.1 (h.2.1.ck a3)
  exact ⟨v, M1, I', Q', a1, b1, ⟨a2.r hw b3, b2, hw, a3.2.1.1.trans h.2.2.2.1, a3.2.1.2.trans h.2.2.2.2⟩, a3.2.2.1, a3.2.2.2⟩
theorem cBb (h : LwS Q M) {X : Mem → Prop} (hc : ∃ M1, X M1 ∧ RelB Q M1 ∧ frB M M1) : ∃ M1, X M1 ∧ RelC Q M1 ∧ frK M M1 := by
  obtain ⟨M1, a, b, c⟩ := hc
  exact ⟨M1, a, h.1.fr h.2.2.1 b c, c.ck b⟩
theorem cAa (h : LwS Q M) {X : Mem → Prop} (hc : ∃ M1, X M1 ∧ RelA Q M1 ∧ frA M M1) : ∃ M1, X M1 ∧ RelC Q M1 ∧ frK M M1 := by
  obtain ⟨M1, a, b, c⟩ := hc
  exact cBb h ⟨M1, a, h.1.1.fr b c.b, c.b⟩
theorem cPu (h : LwS Q M) {X : Mem → Prop} (hc : X M) : ∃ M1, X M1 ∧ RelC Q M1 ∧ frK M M1 := ⟨M, hc, h.1, frK.rf⟩
theorem rMm {X : IM → Prop} (hH : HoldsQ Q M1.1) (hc : ∃ I', X I' ∧ frM M1.1 I') : ∃ I', X I' ∧ HoldsQ Q I' ∧ frR M1.1 I' := by
  obtain ⟨I', a, b⟩ := hc
  exact ⟨I', a, hH.fr b, b.r⟩
theorem rPp {X : IM → Prop} (hH : HoldsQ Q M1.1) (hc : X M1.1) : ∃ I', X I' ∧ HoldsQ Q I' ∧ frR M1.1 I' := ⟨M1.1, hc, hH, frR.rf⟩
theorem KX12_farQ {d : Nat} {a b : Int} (hS : Sh M.2.1) (hw : WFA Q) (hH : HoldsQ Q M.1) : ∃ I', Cl l G (d + 2) mX12_far [vR (some (3, 0)), vI a, vI b] M (some (vI (farV Q a b))) (I', M.2.1, M.2.2) ∧ frM M.1 I' := by
  have k := KX12_far (l := l) (G := G) (d := d) (a := a) (b := b) hS hw.1.2.1 hH.m.2.2.1
  unfold farV
  by_cases g : (0 ≤ a ∧ a < 8) ∧ (0 ≤ b ∧ b < 8)
  · rw [if_pos g]
    refine ⟨_, k.1 g, fun f k i hn => ?_⟩
    rw [seI_o (fun e => hn ⟨by unfold scr; omega, e.2⟩)]
  · rw [if_neg g]
    exact ⟨M.1, k.2 g, fun _ _ _ _ => rfl⟩
theorem J_road {a b dd : Int} (h : LwS Q M) : Jn l G mX11_road mX12_road [vI a, vI b, vI dd] M := jnn (v := (roadV Q a b dd)) h (KX11_road h.1 h.2.2.1) (fun M1 hS hH => KX12_road hS h.2.2.1 hH) (roadQ_W h.2.2.1)
theorem J_person {pl : Int} (h : LwS Q M) : Jn l G mX11_person mX12_person [vI pl] M := jnn (v := (personV Q pl)) h (KX11_person h.1 h.2.2.1) (fun M1 hS hH => KX12_person hS h.2.2.1 hH) (personQ_W h.2.2.1)
theorem J_change {day kind who what oth is : Int} (h : LwS Q M) (hz : is = 0 ∨ is = 1) : Jn l G mX11_change mX12_change [vI day, vI kind, vI who, vI what, vI oth, vI is] M := jnn (v := (changeV Q day kind who what oth is)) h (KX11_change h.1 h.2.2.1 hz) (fun M1 hS hH => KX12_change hS h.2.2.1 hH) (changeQ_W h.2.2.1)
theorem J_knows {a b is : Int} (h : LwS Q M) : Jn l G mX11_knows mX12_knows [vI a, vI b, vI is] M := jnn (v := (knowsV Q a b is)) h (KX11_knows h.1 h.2.2.1) (fun M1 hS hH => KX12_knows hS h.2.2.1 hH) (knowsQ_W h.2.2.1)
theorem J_worth {o n : Int} (h : LwS Q M) : Jn l G mX11_worth mX12_worth [vI o, vI n] M := jnn (v := (worthV Q o n)) h (KX11_worth h.1 h.2.2.1) (fun M1 hS hH => KX12_worth hS hH) (worthQ_W h.2.2.1)
theorem J_feed {a b c e f : Int} (h : LwS Q M) : Jn l G mX11_feed mX12_feed [vI a, vI b, vI c, vI e, vI f] M := jnn (v := (feedV Q)) h (KX11_feed h.1 h.2.2.1) (fun M1 hS hH => KX12_feed hS h.2.2.1 hH) (feedQ_W h.2.2.1)
theorem J_end {n : Int} (h : LwS Q M) : Jn l G mX11_end mX12_end [vI n] M := jnn (v := (endVV Q n)) h (KX11_end h.1 h.2.2.1) (fun M1 hS hH => KX12_end hH) (endQ_W h.2.2.1)
theorem J_cover (h : LwS Q M) : Jn l G mX11_cover mX12_cover [] M := by
  obtain ⟨M1, v, a1, a2, a3⟩ := KX11_cover (l := l) (G := G) (d := 929) h.1 h.2.2.1 h.2.2.2.2
  have hR := a3
  obtain ⟨I0, Q1, r1, -, c1, -, -⟩ := KX12_cover (l := l) (G := G) (d := 0) h.1.1.1.1 h.2.2.2.2 h.2.2.1 h.2.1
  have hS1 : Sh M1.2.1 := (a3 Q1 r1 c1).2.1.1.1
  obtain ⟨I', Q2, r2, b1, c2, b2, b3⟩ := KX12_cover (l := l) (G := G) (d := 994) hS1 (a2.2.1.2.trans h.2.2.2.2) h.2.2.1 (h.2.1.ck a2)
  obtain ⟨e, hR2⟩ := a3 Q2 r2 c2
  subst e
  have hw := CovS_W h.2.2.1 c2
  exact ⟨r2, M1, I', Q2, a1, b1, ⟨hR2.r hw b3, b2, hw, a2.2.1.1.trans h.2.2.2.1, a2.2.1.2.trans h.2.2.2.2⟩, a2.2.2.1, a2.2.2.2⟩
theorem J_marks {p day : Int} (h : LwS Q M) : Jn l G mX11_marks mX12_marks [vI p, vI day] M := jnn (v := (marksV Q p day)) h (cAa h (KX11_marks h.1.1.1 h.2.2.1.q.1)) (fun M1 hS hH => rMm hH (KX12_marks hS h.2.2.1.q.1 hH.m)) (h.2.2.1)
theorem J_ties {p t day : Int} (h : LwS Q M) : Jn l G mX11_ties mX12_ties [vI p, vI t, vI day] M := jnn (v := (tiesV Q p t day)) h (cAa h (KX11_ties h.1.1.1 h.2.2.1.q.1)) (fun M1 hS hH => rMm hH (KX12_ties hS h.2.2.1.q.1 hH.m)) (h.2.2.1)
theorem J_lives {p day : Int} (h : LwS Q M) : Jn l G mX11_lives mX12_lives [vI p, vI day] M := jnn (v := (livesV Q p day)) h (cAa h (KX11_lives h.1.1.1 h.2.2.1.q.1)) (fun M1 hS hH => rMm hH (KX12_lives hS h.2.2.1.q.1 hH.m)) (h.2.2.1)
theorem J_sees {p day : Int} (h : LwS Q M) : Jn l G mX11_sees mX12_sees [vI p, vI day] M := jnn (v := (seesV Q p day)) h (cAa h (KX11_sees h.1.1.1 h.2.2.1.q.1 h.2.2.1.q.2.2.1)) (fun M1 hS hH => rMm hH (KX12_sees hS h.2.2.1.q.1 h.2.2.1.q.2.2.1 hH.m)) (h.2.2.1)
theorem J_far {a b : Int} (h : LwS Q M) : Jn l G mX11_far mX12_far [vI a, vI b] M := jnn (v := (farV Q a b)) h (cPu h (KX11_far h.1.1.1.1 h.2.2.1.q.2.1 h.1.1.2.1)) (fun M1 hS hH => rMm hH (KX12_farQ hS h.2.2.1 hH)) (h.2.2.1)
theorem J_fits {c s sent day r : Int} (h : LwS Q M) : Jn l G mX11_fits mX12_fits [vI c, vI s, vI sent, vI day, vI r] M := jnn (v := (fitsV Q c s sent day r)) h (cAa h (KX11_fits h.1.1.1 h.2.2.1.q.1 h.2.2.1.q.2.2.1 h.2.2.1.q.2.2.2.2)) (fun M1 hS hH => rMm hH (KX12_fits hS h.2.2.1.q.1 h.2.2.1.q.2.2.1 h.2.2.1.q.2.2.2.2 hH.m)) (h.2.2.1)
theorem J_asked {c s sent day place what : Int} (h : LwS Q M) : Jn l G mX11_asked mX12_asked [vI c, vI s, vI sent, vI day, vI place, vI what] M := jnn (v := (askedV Q c s sent day place what)) h (cBb h (KX11_asked h.1.1 h.2.2.1.q)) (fun M1 hS hH => rMm hH (KX12_asked hS h.2.2.1.q.1 h.2.2.1.q.2.1 h.2.2.1.q.2.2.1 h.2.2.1.q.2.2.2.1 h.2.2.1.q.2.2.2.2 hH.m)) (h.2.2.1)
theorem J_stale {c s p day : Int} (h : LwS Q M) : Jn l G mX11_stale mX12_stale [vI c, vI s, vI p, vI day] M := jnn (v := (staleV Q c s p day)) h (cBb h (KX11_stale h.1.1 h.2.2.1.q)) (fun M1 hS hH => rMm hH (KX12_stale hS h.2.2.1.q hH.m)) (h.2.2.1)
theorem J_letter {s c p pl : Int} (h : LwS Q M) : Jn l G mX11_letter mX12_letter [vI s, vI c, vI p, vI pl] M := jnn (v := (letterV Q s c p pl)) h (KX11_letter h.1 h.2.2.1) (fun M1 hS hH => KX12_letter hS h.2.2.1 hH) (letterQ_W h.2.2.1)
theorem J_days {n : Int} (h : LwS Q M) : Jn l G mX11_days mX12_days [vI n] M := jnn (v := (daysV Q n)) h ((KX11_days h.1 h.2.2.1).imp fun _ x => ⟨x.1, x.2.1, x.2.2.1⟩) (fun M1 hS hH => KX12_days hS h.2.2.1.q h.2.2.1.l hH) ((KX11_days (l := l) (G := G) (d := 0) h.1 h.2.2.1).choose_spec.2.2.2)
theorem J_letters {i what : Int} (h : LwS Q M) : Jn l G mX11_letters mX12_letters [vI i, vI what] M := jnn (v := (lettersV Q i what)) h (cPu h (KX11_letters h.1 h.2.2.1)) (fun M1 hS hH => rPp hH (KX12_letters hS h.2.2.1 hH)) (h.2.2.1)
theorem J_sure {s c p pl day what : Int} (h : LwS Q M) : Jn l G mX11_sure mX12_sure [vI s, vI c, vI p, vI pl, vI day, vI what] M := jnn (v := (surV Q s c p pl day what)) h (cBb h (KX11_sure h.1.1 h.2.2.1.q)) (fun M1 hS hH => rMm hH (KX12_sure hS h.2.2.1.q hH.m)) (h.2.2.1)
theorem J_rings {c s day what : Int} (h : LwS Q M) : Jn l G mX11_rings mX12_rings [vI c, vI s, vI day, vI what] M := jnn (v := (ringsV Q c s day what)) h (cBb h (KX11_rings h.1 h.2.2.1)) (fun M1 hS hH => rMm hH (KX12_rings hS h.2.2.1.q hH.m)) (h.2.2.1)
theorem J_told {x : Int} (h : LwS Q M) : Jn l G mX11_told mX12_told [vI x] M := jnn (v := (toldV Q x)) h (KX11_told h.1 h.2.2.1) (fun M1 hS hH => KX12_told hS h.2.2.1 hH) (toldQ_W h.2.2.1)
theorem J_judged {c s pl day : Int} (h : LwS Q M) : Jn l G mX11_judged mX12_judged [vI c, vI s, vI pl, vI day] M := jnn (v := (judgedV Q c s pl day)) h (KX11_judged h.1 h.2.2.1) (fun M1 hS hH => rMm hH (KX12_judged hS h.2.2.1 hH)) (h.2.2.1)
theorem J_cheapest {s p fr to what : Int} (h : LwS Q M) : Jn l G mX11_cheapest mX12_cheapest [vI s, vI p, vI fr, vI to, vI what] M := jnn (v := (cheV Q s p fr to what)) h (cBb h (KX11_cheapest h.1 h.2.2.1)) (fun M1 hS hH => rMm hH (KX12_cheapest hS h.2.2.1 hH)) (h.2.2.1)
theorem J_apart {fr to what : Int} (h : LwS Q M) : Jn l G mX11_apart mX12_apart [vI fr, vI to, vI what] M := jnn (v := (apV1 Q fr to what)) h (cBb h (KX11_apart h.1.1 h.2.2.1.q)) (fun M1 hS hH => rMm hH (KX12_apart hS h.2.2.1.q hH.m)) (h.2.2.1)
theorem J_ends {s c pl day what : Int} (h : LwS Q M) : Jn l G mX11_ends mX12_ends [vI s, vI c, vI pl, vI day, vI what] M := jnn (v := (endsV Q s c pl day what)) h (cBb h (KX11_ends h.1.1 h.2.2.1.q)) (fun M1 hS hH => rMm hH (KX12_ends hS h.2.2.1.q hH.m)) (h.2.2.1)
theorem J_needs {s c p pl day what : Int} (h : LwS Q M) : Jn l G mX11_needs mX12_needs [vI s, vI c, vI p, vI pl, vI day, vI what] M := jnn (v := (needsV Q s c p pl day what)) h (cBb h (KX11_needs h.1.1 h.2.2.1)) (fun M1 hS hH => KX12_needs hS h.2.2.1 hH) (h.2.2.1)
theorem J_mends {c s p day : Int} (h : LwS Q M) : Jn l G mX11_mends mX12_mends [vI c, vI s, vI p, vI day] M := jnn (v := (mendsV Q c s p day)) h (KX11_mends h.1 h.2.2.1) (fun M1 hS hH => rMm hH (KX12_mends hS h.2.2.1 hH)) (h.2.2.1)
theorem J_tellers {c s day : Int} (h : LwS Q M) : Jn l G mX11_tellers mX12_tellers [vI c, vI s, vI day] M := jnn (v := (tellersV Q c s day)) h (cBb h (KX11_tellers h.1.1 h.2.2.1.q)) (fun M1 hS hH => rMm hH (KX12_tellers hS h.2.2.1.q hH.m)) (h.2.2.1)
theorem J_lied {c s day : Int} (h : LwS Q M) : Jn l G mX11_lied mX12_lied [vI c, vI s, vI day] M := jnn (v := (liedV Q c s day)) h (cBb h (KX11_lied h.1.1 h.2.2.1.q)) (fun M1 hS hH => rMm hH (KX12_lied hS h.2.2.1.q hH.m)) (h.2.2.1)
theorem J_alone {c s p day : Int} (h : LwS Q M) : Jn l G mX11_alone mX12_alone [vI c, vI s, vI p, vI day] M := jnn (v := (aloneV Q c s p day)) h (cBb h (KX11_alone h.1.1 h.2.2.1.q)) (fun M1 hS hH => rMm hH (KX12_alone hS h.2.2.1.q hH.m)) (h.2.2.1)
theorem J_chain {a b : Int} (h : LwS Q M) : Jn l G mX11_chain mX12_chain [vI a, vI b] M := jnn (v := (chainV Q a b)) h (cPu h (KX11_chain h.1.1 h.2.2.1.q)) (fun M1 hS hH => rPp hH (KX12_chain hS h.2.2.1.q hH.m)) (h.2.2.1)
theorem J_circle {a : Int} (h : LwS Q M) : Jn l G mX11_circle mX12_circle [vI a] M := jnn (v := (circleV Q a)) h (cPu h (KX11_circle h.1.1 h.2.2.1.q)) (fun M1 hS hH => rPp hH (KX12_circle hS h.2.2.1.q hH.m)) (h.2.2.1)
theorem J_strangers {day : Int} (h : LwS Q M) : Jn l G mX11_strangers mX12_strangers [vI day] M := jnn (v := (strV Q day)) h (cBb h (KX11_strangers h.1.1 h.2.2.1.q)) (fun M1 hS hH => rMm hH (KX12_strangers hS h.2.2.1.q hH.m)) (h.2.2.1)
theorem J_copies {s c p one other day what : Int} (h : LwS Q M) : Jn l G mX11_copies mX12_copies [vI s, vI c, vI p, vI one, vI other, vI day, vI what] M := jnn (v := (copiesV Q s c p one other day what)) h (cBb h (KX11_copies h.1.1 h.2.2.1.q)) (fun M1 hS hH => rMm hH (KX12_copies hS h.2.2.1.q hH.m)) (h.2.2.1)
theorem J_often (h : LwS Q M) : Jn l G mX11_often mX12_often [] M := jnn (v := (oftenV Q)) h (cBb h (KX11_often h.1 h.2.2.1)) (fun M1 hS hH => rPp hH (KX12_often hS h.2.2.1 hH)) (h.2.2.1)
theorem J_count {what : Int} (h : LwS Q M) : Jn l G mX11_count mX12_count [vI what] M := jnn (v := (countV Q what)) h (cPu h (KX11_count h.1 h.2.2.1)) (fun M1 hS hH => rPp hH (KX12_count hS h.2.2.1 hH)) (h.2.2.1)
theorem J_image {k : Int} (h : LwS Q M) : Jn l G mX11_image mX12_image [vI k] M := jnn (v := (imageV Q k)) h (KX11_image h.1 h.2.2.1) (fun M1 hS hH => KX12_image hS h.2.2.1 hH) (imageQ_W h.2.2.1)
theorem J_back {k : Int} (h : LwS Q M) : Jn l G mX11_back mX12_back [vI k] M := jnn (v := (backV Q k)) h (KX11_back h.1 h.2.2.1) (fun M1 hS hH => KX12_back hS h.2.2.1 hH) (backQ_W h.2.2.1)
end JO
