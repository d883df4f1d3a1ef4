/-! cover on both sides: what it does to the state -/
def tpQ (Q : QT) : Tp := fun i => Q 76 i % 256
def tlQ (Q : QT) : Nat := (Q 3 29).toNat
/-- what cover may change -/
def covF (sl f i : Nat) : Prop := (f = 3 ∧ (i = 29 ∨ i = 33)) ∨ ((f = 77 ∨ f = 78) ∧ 400 * sl ≤ i ∧ i < 400 * sl + 400) ∨ ((f = 79 ∨ f = 83 ∨ f = 84) ∧ i = sl)
def CovS (Q Q' : QT) (r : Int) : Prop := (¬ nCv Q < 8 → Q' = Q ∧ r = -1) ∧ (nCv Q < 8 → ∃ c', Rn (tpQ Q) (tlQ Q) (c0 (tpQ Q) (tlQ Q)) c' ∧ cM c' = 3 ∧ r = (if cE c' = 0 then (nCv Q : Int) else -2 - cE c') ∧ Q' 3 29 = 0 ∧ Q' 3 33 = (nCv Q : Int) + (if cE c' = 0 then 1 else 0) ∧ (Q' 83 (nCv Q) = bZ (hdR (tpQ Q) (tlQ Q)).2.1 ∧ Q' 84 (nCv Q) = bZ (hdR (tpQ Q) (tlQ Q)).2.2) ∧ (cE c' = 0 → Q' 79 (nCv Q) = ((cO c').length : Int) ∧ ∀ k, k < (cO c').length → kd Q' (nCv Q) k = ((cO c').getD k (0, 0)).1 ∧ nm Q' (nCv Q) k = ((cO c').getD k (0, 0)).2) ∧ ∀ f i, ¬ covF (nCv Q) f i → Q' f i = Q f i)
/-- at a good end nothing is open -/
def EndE (c : Cf) : Prop := cM c = 3 → cE c = 0 → cS c = []
section CVS
variable {l : Launch} {G : Gt} {d : Nat} {Q Q' : QT} {M M' : Mem} {t : Tp} {n : Nat} {c c' : Cf}
theorem EndE_step (h : EndE c) : EndE (step t n c) := by
  have f0 : ∀ p k : Nat, EndE (flC c p k) := fun p k _ h => by have h' : 1 + 8 * (p : Int) + k = 0 := h; omega
  have f1 : ∀ m p e o k s, ¬ m = 3 → EndE (m, p, e, o, k, s) := fun m p e o k s hm h => absurd h hm
  unfold step
  split
  · rename_i m0
    unfold stA stA1 stA2 stA3 stA4
    repeat' split
    all_goals first | exact f0 _ _ | exact f1 _ _ _ _ _ _ (by omega)
  · split
    · unfold stC
      repeat' split
      all_goals exact f1 _ _ _ _ _ _ (by omega)
    · split
      · unfold stF
        repeat' split
        all_goals first | exact f0 _ _ | exact f1 _ _ _ _ _ _ (by omega) | exact fun _ _ => rfl
      · exact h
theorem EndE_run (hr : Rn t n c c') (h : EndE c) : EndE c' := by
  obtain ⟨k, rfl⟩ := hr
  induction k generalizing c with
  | zero => exact h
  | succ k ih => exact ih (EndE_step h)
theorem WFv_new {sl : Nat} {o : List (Int × Int)} (h1 : Q' 79 sl = (o.length : Int)) (h2 : ∀ k, k < o.length → kd Q' sl k = (o.getD k (0, 0)).1 ∧ nm Q' sl k = (o.getD k (0, 0)).2) (hok : OkL o) (hh : htL o o.length = 1) (hl : o.length ≤ 400) : WFv Q' sl := by
  have hht : ∀ k, k ≤ o.length → ht Q' sl k = htL o k := by
    intro k
    induction k with
    | zero => intro _; rfl
    | succ k ih => intro hk; unfold ht htL; rw [(h2 k (by omega)).1, ih (by omega)]
  have hln : ln Q' sl = o.length := by unfold ln; rw [h1]; exact Int.toNat_natCast _
  have hpos : 1 ≤ o.length := by
    rcases Nat.eq_zero_or_pos o.length with e | e
    · rw [e] at hh
      have : htL o 0 = 0 := rfl
      omega
    · exact e
  refine ⟨by rw [h1]; omega, fun k hk => ?_, by rw [hln, hht _ (Nat.le_refl _)]; exact hh⟩
  rw [hln] at hk
  obtain ⟨a1, a2, a3, a4, a5, a6, _⟩ := hok k hk
  rw [(h2 k hk).1, (h2 k hk).2, hht k (by omega)]
  exact ⟨a1, a2, a3, a4, a5, a6⟩
theorem WFi_v (h : WFi Q) (hf : ∀ f, 48 ≤ f → f ≤ 70 → Q' f = Q f) (hv : nCv Q ≤ nCv Q') : WFi Q' := by
  have hc : eqC Q Q' := ⟨by rw [hf _ (by omega) (by omega)], by rw [hf _ (by omega) (by omega)], hf _ (by omega) (by omega), hf _ (by omega) (by omega), hf _ (by omega) (by omega), hf _ (by omega) (by omega), hf _ (by omega) (by omega), hf _ (by omega) (by omega), hf _ (by omega) (by omega)⟩
  have hr : eqR Q Q' := ⟨by rw [hf _ (by omega) (by omega)], hf _ (by omega) (by omega), hf _ (by omega) (by omega), hf _ (by omega) (by omega)⟩
  refine ⟨WFc_q hc h.1, WFr_q hr h.2.1, ?_, ?_, ?_, ?_, ?_, ?_⟩
  · unfold WFk; rw [hf _ (by omega) (by omega)]; exact h.2.2.1
  · unfold WFp; rw [hf _ (by omega) (by omega), nPp_q hc]; exact h.2.2.2.1
  · obtain ⟨l1, l2, l3⟩ := h.2.2.2.2.1
    have en : nLt Q' = nLt Q := by unfold nLt; rw [hf _ (by omega) (by omega)]
    refine ⟨by rw [hf _ (by omega) (by omega)]; exact l1, by rw [hf _ (by omega) (by omega)]; exact l2, fun i hi => ?_⟩
    rw [en] at hi
    obtain ⟨a1, a2, a3, a4, a5, a6⟩ := l3 i hi
    rw [hf 62 (by omega) (by omega), hf 63 (by omega) (by omega), hf 67 (by omega) (by omega), hf 68 (by omega) (by omega), hf 70 (by omega) (by omega), hf 66 (by omega) (by omega), hf 69 (by omega) (by omega), nPp_q hc]
    exact ⟨a1, ⟨a2.1, by omega⟩, a3, a4, a5, a6⟩
  · rw [hf _ (by omega) (by omega), nPp_q hc]; exact h.2.2.2.2.2.1
  · rw [hf _ (by omega) (by omega)]; exact h.2.2.2.2.2.2.1
  · rw [hf 48 (by omega) (by omega), hf 52 (by omega) (by omega)]; exact h.2.2.2.2.2.2.2
theorem QB_cv {k f : Nat} (hi : Q' 90 = Q 90) (h1 : 48 ≤ f) (h2 : f ≤ 70) : QB Q' k f = QB Q k f := by
  funext i
  rw [QB_f ⟨h1, h2⟩, QB_f ⟨h1, h2⟩, hi]
/-- covers that stood stay -/
theorem eqK_cv (hw : WFA Q) (hO : ∀ f i, ¬ covF (nCv Q) f i → Q' f i = Q f i) {x : Nat} (hx : x < nCv Q) : eqK Q Q' x := by
  have hv := (hw.2.1.2 x hx).1
  have hl : ln Q x ≤ 400 := by unfold ln; omega
  exact ⟨⟨hO _ _ (by unfold covF; omega), fun k hk => ⟨by unfold kd; exact hO _ _ (by unfold covF; omega), by unfold nm; exact hO _ _ (by unfold covF; omega)⟩⟩, hO _ _ (by unfold covF; omega), hO _ _ (by unfold covF; omega)⟩
theorem bZ_or (a : Bool) : bZ a = 0 ∨ bZ a = 1 := by
  unfold bZ
  split
  · exact .inr rfl
  · exact .inl rfl
theorem hdP_le : ∀ (k p : Nat) (a b : Bool), p ≤ n → (hdP t n k p a b).1 ≤ n := by
  intro k
  induction k with
  | zero => intro p a b h; exact h
  | succ k ih =>
    intro p a b h
    unfold hdP
    split
    · rename_i g
      have h4 := isW_n h g.1
      have e4 : sLn 5 = 4 := rfl
      exact ih _ _ _ (rn_ge _ _ _ (by omega)).2
    · split
      · rename_i g
        have h4 := isW_n h g.1
        have e4 : sLn 6 = 4 := rfl
        exact ih _ _ _ (rn_ge _ _ _ (by omega)).2
      · exact h
/-- the words ahead end within the text -/
theorem hdR_le (t : Tp) (n : Nat) : (hdR t n).1 ≤ n := hdP_le 2 _ _ _ (rn_ge _ _ _ (Nat.zero_le _)).2
theorem CovS_W {r : Int} (hw : WFA Q) (h : CovS Q Q' r) : WFA Q' := by
  by_cases hlt : nCv Q < 8
  · obtain ⟨c', run, m3, er, e29, e33, ⟨eo, et⟩, eok, hO⟩ := h.2 hlt
    have hf : ∀ f, 48 ≤ f → f ≤ 70 → Q' f = Q f := fun f _ _ => funext fun i => hO f i (by unfold covF; omega)
    have hle : nCv Q ≤ nCv Q' := by
      have : nCv Q' = (Q' 3 33).toNat := rfl
      rw [this, e33]
      split <;> omega
    have h33 := hw.2.1.1
    have hn33 : (nCv Q : Int) = Q 3 33 := by unfold nCv; omega
    have hn400 : tlQ Q ≤ 400 := by have := hw.2.2.1.1; unfold tlQ; omega
    have hrun := InvD_run run (c0_inv (hdR_le _ _))
    have hend := EndE_run run (show EndE (c0 (tpQ Q) (tlQ Q)) from fun h => by cases h)
    have him : Q' 90 = Q 90 := funext fun i => hO _ _ (by unfold covF; omega)
    refine ⟨WFi_v hw.1 hf hle, ⟨?_, fun x hx => ?_⟩, ⟨by rw [e29]; omega, fun i => ?_⟩, fun f i h1 h2 h3 => by rw [hf f h1 h2]; exact hw.2.2.2.1 f i h1 h2 h3, fun k hk => ?_, fun x => ?_⟩
    · rw [e33]; split <;> omega
    · by_cases e : x < nCv Q
      · exact WFv_q (eqK_cv hw hO e).1 (hw.2.1.2 x e)
      · have hx' : x < (Q' 3 33).toNat := hx
        rw [e33] at hx'
        have hz : cE c' = 0 := by
          by_cases hz : cE c' = 0
          · exact hz
          · rw [if_neg hz] at hx'; omega
        rw [if_pos hz] at hx'
        have ex : x = nCv Q := by omega
        subst ex
        obtain ⟨k1, k2⟩ := eok hz
        obtain ⟨i1, i2, i3, i4, i5, -⟩ := hrun.1 hz
        have es := hend m3 hz
        rw [es] at i2 i5
        have i5' : htL (cO c') (cO c').length = 1 := by rw [i5, if_neg (by omega)]; rfl
        simp only [List.length_nil] at i2
        exact WFv_new k1 k2 i3 i5' (by omega)
    · rw [hO _ _ (by unfold covF; omega)]; exact hw.2.2.1.2 i
    · rw [hO _ _ (by unfold covF; omega)]
      rcases hw.2.2.2.2.1 k hk with a | ⟨a, b⟩
      · exact .inl a
      · exact .inr ⟨a, WFi_v b (fun f h1 h2 => QB_cv him h1 h2) (by unfold nCv; rw [QB_33, QB_33]; exact hle)⟩
    · by_cases e : x = nCv Q
      · subst e
        rw [eo, et]
        exact ⟨bZ_or _, bZ_or _⟩
      · rw [hO _ _ (by unfold covF; omega), hO _ _ (by unfold covF; omega)]
        exact hw.2.2.2.2.2 x
  · rw [(h.1 hlt).1]; exact hw
/-- the state behind cover, out of the reference's memory -/
def cvQ (Q : QT) (I : IM) : QT := fun f i => if (f = 3 ∧ (i = 29 ∨ i = 33)) ∨ ((f = 77 ∨ f = 78) ∧ 400 * nCv Q ≤ i ∧ i < 400 * nCv Q + 400) ∨ ((f = 79 ∨ f = 83 ∨ f = 84) ∧ i = nCv Q) then I f 0 i else Q f i
theorem cvQ_p {I : IM} {f i : Nat} (h : covF (nCv Q) f i) : cvQ Q I f i = I f 0 i := if_pos h
theorem cvQ_n {I : IM} {f i : Nat} (h : ¬ covF (nCv Q) f i) : cvQ Q I f i = Q f i := if_neg h
theorem KX12_cover (hS : Sh M.2.1) (hStr : cCnt M.2.2 1 = 28) (hw : WFA Q) (hH : HoldsQ Q M.1) : ∃ I' Q' r, Cl l G (d + 6) mX12_cover [vR (some (3, 0))] M (some (vI r)) (I', M.2.1, M.2.2) ∧ CovS Q Q' r ∧ HoldsQ Q' I' ∧ frR M.1 I' := by
  have h33 := hw.2.1.1
  have e33 : M.1 3 0 33 = (nCv Q : Int) := by rw [hH.1 _ _ (by unfold perF; omega)]; unfold nCv; omega
  by_cases hlt : nCv Q < 8
  · have hT : RTp (tpQ Q) (tlQ Q) M.1 := by
      have h29 := hw.2.2.1.1
      refine ⟨by rw [hH.1 _ _ (by unfold perF; omega)]; unfold tlQ; omega, by unfold tlQ; omega, fun i _ => ?_⟩
      rw [hH.1 _ _ (by unfold perF; omega)]
      exact ⟨hw.2.2.1.2 i, rfl⟩
    obtain ⟨I', c', k1, k2, k3, k4, k5, k6, k7, k8, k9⟩ := KX12_coverR (l := l) (G := G) (d := d) hS hStr hT e33 hlt
    have u : ∀ f, ¬ (f = 3 ∨ f = 77 ∨ f = 78 ∨ f = 79 ∨ f = 83 ∨ f = 84) → cvQ Q I' f = Q f := fun f h => funext fun i => cvQ_n (by unfold covF; omega)
    have en : nCh (cvQ Q I') = nCh Q := by unfold nCh; rw [u _ (by omega)]
    have es : ∀ i, srt (cvQ Q I') i = srt Q i := fun i => by unfold srt; rw [u _ (by omega), en]
    refine ⟨I', cvQ Q I', _, k1, ⟨fun h => absurd hlt h, fun _ => ⟨c', k2, k3, rfl, ?_, ?_, ⟨?_, ?_⟩, fun hz => ⟨?_, fun k hk => ?_⟩, fun f i hn => cvQ_n hn⟩⟩, ⟨fun f i hp => ?_, fun i hi => ?_⟩, fun f k i hn => k9 f k i (by omega)⟩
    · rw [cvQ_p (by unfold covF; omega)]; exact k4
    · rw [cvQ_p (by unfold covF; omega)]; exact k5
    · rw [cvQ_p (by unfold covF; omega)]; exact k7.1
    · rw [cvQ_p (by unfold covF; omega)]; exact k7.2
    · rw [cvQ_p (by unfold covF; omega)]; exact (k8 hz).1
    · have h4 := k6.2
      have h5 := (k8 hz).1
      unfold kd nm
      rw [cvQ_p (by unfold covF; omega), cvQ_p (by unfold covF; omega)]
      exact (k8 hz).2 k hk
    · by_cases e : covF (nCv Q) f i
      · rw [cvQ_p e]
      · rw [cvQ_n e, k9 f 0 i (by unfold perF at hp; unfold covF at e; omega)]
        exact hH.1 f i hp
    · rw [k9 _ _ _ (by omega), es]
      rw [en] at hi
      exact hH.2 i hi
  · have hn8 : nCv Q ≤ 8 := by unfold nCv; omega
    refine ⟨M.1, Q, -1, xX12_cover_0 ⟨fun c => absurd (by omega) c, fun _ => ⟨rfl, rfl⟩⟩, ⟨fun _ => ⟨rfl, rfl⟩, fun h => absurd h hlt⟩, hH, frR.rf⟩
end CVS
