/-! THE WHOLE RELATION -/
def lenF (f : Nat) : Nat := if f = 48 then 6 else if f ≤ 50 then 12 else if f = 51 then 17 else if f = 52 then 20 else if f ≤ 55 then 16 else if f ≤ 61 then 60 else 8
def offF (f : Nat) : Nat := if f = 48 then 0 else if f = 49 then 6 else if f = 50 then 18 else if f = 51 then 30 else if f = 52 then 47 else if f ≤ 55 then 67 + 16 * (f - 53) else if f ≤ 61 then 115 + 60 * (f - 56) else 475 + 8 * (f - 62)
/-- the state that an image holds -/
def QB (Q : QT) (k : Nat) : QT := fun f => if 48 ≤ f ∧ f ≤ 70 then fun i => if i < lenF f then Q 90 (570 * k + offF f + i) else 0 else if f = 3 then fun i => if i = 33 then Q 3 33 else 0 else fun _ => 0
/-- what images hang on -/
def eqM (Q Q' : QT) : Prop := Q' 90 = Q 90 ∧ Q' 3 33 = Q 3 33 ∧ Q' 91 = Q 91
theorem eqM.of {Q Q' : QT} (h : ∀ f, ¬ (48 ≤ f ∧ f ≤ 70) → Q' f = Q f) : eqM Q Q' := ⟨h _ (by omega), by rw [h _ (by omega)], h _ (by omega)⟩
def WFi (Q : QT) : Prop := WFc Q ∧ WFr Q ∧ WFk Q ∧ WFp Q ∧ WFl Q ∧ (∀ r, nPp Q ≤ r → r < 12 → Q 50 r = 0) ∧ (∀ i, i < 17 → 0 ≤ Q 51 i ∧ Q 51 i ≤ 99) ∧ ((0 ≤ Q 48 4 ∧ Q 48 4 ≤ 20) ∧ ∀ i, i < 20 → 0 ≤ Q 52 i ∧ Q 52 i < 8)
def WFz (Q : QT) : Prop := ∀ f i, 48 ≤ f → f ≤ 70 → lenF f ≤ i → Q f i = 0
def WFA (Q : QT) : Prop := WFi Q ∧ WFV Q ∧ ((0 ≤ Q 3 29 ∧ Q 3 29 ≤ 400) ∧ ∀ i, -128 ≤ Q 76 i ∧ Q 76 i ≤ 127) ∧ WFz Q ∧ (∀ k, k < 4 → Q 91 k = 0 ∨ (Q 91 k = 1 ∧ WFi (QB Q k))) ∧ ∀ c, (Q 83 c = 0 ∨ Q 83 c = 1) ∧ (Q 84 c = 0 ∨ Q 84 c = 1)
theorem WFA.q {Q : QT} (h : WFA Q) : WFQ Q := ⟨h.1.1, h.1.2.1, h.1.2.2.1, h.1.2.2.2.1, h.2.1⟩
theorem WFA.l {Q : QT} (h : WFA Q) : WFl Q := h.1.2.2.2.2.1
def StI (Q : QT) (M : Mem) (j : Nat) : Prop := (M.1 4 j 0 = Q 48 0 ∧ M.1 4 j 2 = Q 48 1 ∧ M.1 4 j 4 = Q 48 2 ∧ M.1 4 j 11 = Q 48 4) ∧ (∀ i, i < 12 → M.1 33 j i = Q 49 i) ∧ RoadsC Q M.1 j ∧ (∀ i, i < nCh Q → M.1 35 j i = pk Q (srt Q i)) ∧ (∀ i, i < 12 → M.1 36 j i = Q 50 i) ∧ (∀ i, i < 17 → M.1 37 j i = Q 51 i) ∧ (∀ i, i < 20 → M.1 39 j i = Q 52 i) ∧ LetsC Q M j
def TapC (Q : QT) (M : Mem) : Prop := M.1 2 0 12 = Q 3 29 ∧ ∀ i, i < 400 → M.1 16 0 i = Q 76 i % 256
def ImgC (Q : QT) (M : Mem) : Prop := (∀ k, k < 4 → (Q 91 k = 0 ∧ M.2.1 17 0 k = none) ∨ (Q 91 k = 1 ∧ ∃ j, 1 ≤ j ∧ j < cCnt M.2.2 4 ∧ M.2.1 17 0 k = some (4, j) ∧ StI (QB Q k) M j)) ∧ ∀ k k' j, k < 4 → k' < 4 → M.2.1 17 0 k = some (4, j) → M.2.1 17 0 k' = some (4, j) → k = k'
/-- how many of each family there are -/
def CntC (Q : QT) (M : Mem) : Prop := (∀ f, (f = 33 ∨ f = 34 ∨ f = 35 ∨ f = 36 ∨ f = 37 ∨ f = 38 ∨ f = 39) → cCnt M.2.2 f = cCnt M.2.2 4) ∧ cCnt M.2.2 5 = 1 + 8 * cCnt M.2.2 4 ∧ 1 ≤ cCnt M.2.2 4
def RelC (Q : QT) (M : Mem) : Prop := RelB Q M ∧ StI Q M 0 ∧ TapC Q M ∧ ImgC Q M ∧ CntC Q M
theorem lti_8 {j i : Nat} (hi : i < 8) : ¬ lti j i = 8 := by
  cases j with
  | zero => show ¬ i = 8; omega
  | succ j => show ¬ 9 + 8 * j + i = 8; omega
theorem lti_lt {j i : Nat} (hj : 1 ≤ j) : ¬ lti j i < 8 := by
  cases j with
  | zero => omega
  | succ j => show ¬ 9 + 8 * j + i < 8; omega
section RC
variable {Q Q' : QT} {M M' : Mem}
theorem LetsC.fr {j : Nat} (h : LetsC Q M j) (hs : ∀ i, i = 8 ∨ i = 10 → M'.1 4 j i = M.1 4 j i) (hp : ∀ i, M'.2.1 38 j i = M.2.1 38 j i) (hl : ∀ i, i < nLt Q → (∀ x, M'.1 5 (lti j i) x = M.1 5 (lti j i) x) ∧ M'.2.1 5 (lti j i) 0 = M.2.1 5 (lti j i) 0) : LetsC Q M' j := by
  refine ⟨⟨by rw [hs 8 (by omega)]; exact h.1.1, by rw [hs 10 (by omega)]; exact h.1.2⟩, fun i hi => by rw [hp]; exact h.2.1 i hi, fun i hi => ?_⟩
  rw [(hl i hi).2, show M'.1 5 (lti j i) = M.1 5 (lti j i) from funext (hl i hi).1]
  exact h.2.2 i hi
theorem StI.fr {j : Nat} (h : StI Q M j) (h8 : nLt Q ≤ 8) (hs : ∀ i, M'.1 4 j i = M.1 4 j i) (hI : ∀ f i, (f = 33 ∨ f = 34 ∨ f = 35 ∨ f = 36 ∨ f = 37 ∨ f = 39) → M'.1 f j i = M.1 f j i) (hp : ∀ i, M'.2.1 38 j i = M.2.1 38 j i) (hl : ∀ i, i < 8 → (∀ x, M'.1 5 (lti j i) x = M.1 5 (lti j i) x) ∧ M'.2.1 5 (lti j i) 0 = M.2.1 5 (lti j i) 0) : StI Q M' j := by
  obtain ⟨⟨a1, a2, a3, a4⟩, a5, a6, a7, a8, a9, a10, a11⟩ := h
  refine ⟨⟨by rw [hs]; exact a1, by rw [hs]; exact a2, by rw [hs]; exact a3, by rw [hs]; exact a4⟩, fun i hi => by rw [hI _ _ (by omega)]; exact a5 i hi, fun a b ha hb => by rw [hI _ _ (by omega)]; exact a6 a b ha hb, fun i hi => by rw [hI _ _ (by omega)]; exact a7 i hi, fun i hi => by rw [hI _ _ (by omega)]; exact a8 i hi, fun i hi => by rw [hI _ _ (by omega)]; exact a9 i hi, fun i hi => by rw [hI _ _ (by omega)]; exact a10 i hi, a11.fr (fun i _ => hs i) hp (fun i hi => hl i (by omega))⟩
theorem QB_eq (h : eqM Q Q') (k : Nat) : QB Q' k = QB Q k := by
  funext f
  unfold QB
  rw [h.1, h.2.1]
theorem TapC.fr (h : TapC Q M) (h1 : Q' 3 29 = Q 3 29) (h2 : Q' 76 = Q 76) (h3 : M'.1 2 0 12 = M.1 2 0 12) (h4 : ∀ i, M'.1 16 0 i = M.1 16 0 i) : TapC Q' M' := ⟨by rw [h3, h1]; exact h.1, fun i hi => by rw [h4, h2]; exact h.2 i hi⟩
/-- images stay, if only the state at hand is other -/
theorem ImgC.fr (h : ImgC Q M) (hw : ∀ k, k < 4 → Q 91 k = 1 → nLt (QB Q k) ≤ 8) (hq : eqM Q Q') (hR : ∀ k, M'.2.1 17 0 k = M.2.1 17 0 k) (hc : cCnt M'.2.2 4 = cCnt M.2.2 4) (hs : ∀ j f i, 1 ≤ j → (f = 4 ∨ f = 33 ∨ f = 34 ∨ f = 35 ∨ f = 36 ∨ f = 37 ∨ f = 39) → M'.1 f j i = M.1 f j i) (hp : ∀ j i, 1 ≤ j → M'.2.1 38 j i = M.2.1 38 j i) (hl : ∀ k, 9 ≤ k → (∀ x, M'.1 5 k x = M.1 5 k x) ∧ M'.2.1 5 k 0 = M.2.1 5 k 0) : ImgC Q' M' := by
  refine ⟨fun k hk => ?_, fun k k' j hk hk' e e' => h.2 k k' j hk hk' (by rw [← hR]; exact e) (by rw [← hR]; exact e')⟩
  rw [hR, QB_eq hq, hq.2.2, hc]
  rcases h.1 k hk with a | ⟨a, j, b1, b2, b3, b4⟩
  · exact .inl a
  · refine .inr ⟨a, j, b1, b2, b3, b4.fr (hw k hk a) (fun i => hs j _ i b1 (by omega)) (fun f i hf => hs j f i b1 (by omega)) (fun i => hp j i b1) (fun i hi => hl _ ?_)⟩
    cases j with
    | zero => omega
    | succ j => show 9 ≤ 9 + 8 * j + i; omega
theorem WFA.im (h : WFA Q) : ∀ k, k < 4 → Q 91 k = 1 → nLt (QB Q k) ≤ 8 := fun k hk e => by
  rcases h.2.2.2.2.1 k hk with a | a
  · omega
  · have := a.2.2.2.2.2.1.1
    unfold nLt
    omega
theorem WFl.n8 (h : WFl Q) : nLt Q ≤ 8 := by have := h.1; unfold nLt; omega
/-- what answers keeps the relation -/
theorem RelC.fr (h : RelC Q M) (hw : WFA Q) (hR : RelB Q M') (hf : frB M M') : RelC Q M' := by
  refine ⟨hR, h.2.1.fr hw.l.n8 (fun i => hf.1 _ _ _ (by unfold scC; omega)) (fun f i hh => hf.1 _ _ _ (by unfold scC; omega)) (fun i => hf.2.1 _ _ _ (by unfold scR; omega)) (fun i hi => ⟨fun x => hf.1 _ _ _ (by show ¬ scC 5 i x; unfold scC; omega), hf.2.1 _ _ _ (by show ¬ scR 5 i 0; unfold scR; omega)⟩), h.2.2.1.fr rfl rfl (hf.1 _ _ _ (by unfold scC; omega)) (fun i => hf.1 _ _ _ (by unfold scC; omega)), h.2.2.2.1.fr hw.im ⟨rfl, rfl, rfl⟩ (fun k => hf.2.1 _ _ _ (by unfold scR; omega)) (hf.2.2.1 _ (by omega)) (fun j f i hj hh => hf.1 _ _ _ (by unfold scC; omega)) (fun j i hj => hf.2.1 _ _ _ (by unfold scR; omega)) (fun k hk => ⟨fun x => hf.1 _ _ _ (by unfold scC; omega), hf.2.1 _ _ _ (by unfold scR; omega)⟩), ?_⟩
  obtain ⟨c1, c2, c3⟩ := h.2.2.2.2
  refine ⟨fun f hh => ?_, ?_, ?_⟩
  · rw [hf.2.2.1 f (by omega), hf.2.2.1 _ (by omega)]; exact c1 f hh
  · rw [hf.2.2.1 _ (by omega), hf.2.2.1 _ (by omega)]; exact c2
  · rw [hf.2.2.1 _ (by omega)]; exact c3
/-- the class's own cells alone are other, and the room that a call takes -/
def frK (M M' : Mem) : Prop := (∀ f k i, (f = 3 ∨ 48 ≤ f ∨ f < 2) → M'.1 f k i = M.1 f k i) ∧ (cCnt M'.2.2 0 = cCnt M.2.2 0 ∧ cCnt M'.2.2 1 = cCnt M.2.2 1) ∧ cNc M'.2.2 ≤ cNc M.2.2 + 600 ∧ cNs M'.2.2 ≤ cNs M.2.2 + 14000
theorem frB.ck (hf : frB M M') (h : RelB Q M') : frK M M' := by
  have h1 := hf.2.2.2.2.1
  have h2 := hf.2.2.2.2.2
  have h3 := h.1.2.2.1.2.1
  exact ⟨fun f k i hh => hf.1 f k i (by unfold scC; omega), ⟨hf.2.2.1 _ (by omega), hf.2.2.1 _ (by omega)⟩, by omega, by omega⟩
/-- a letter's steps and the day's end keep the rest -/
theorem RelC.dd (h : RelC Q M) (hw : WFA Q) (hR : RelB Q' M') (hL : LetsC Q' M' 0) (hc : eqC Q Q') (hr : eqR Q Q') (hQ : Q' 48 4 = Q 48 4 ∧ Q' 50 = Q 50 ∧ Q' 51 = Q 51 ∧ Q' 52 = Q 52) (hO : ∀ f, ¬ (48 ≤ f ∧ f ≤ 70) → Q' f = Q f) (hf : frG scD M M') : RelC Q' M' := by
  obtain ⟨⟨a1, a2, a3, a4⟩, a5, a6, a7, a8, a9, a10, a11⟩ := h.2.1
  have g : ∀ f i, (f = 33 ∨ f = 34 ∨ f = 35 ∨ f = 36 ∨ f = 37 ∨ f = 39) → M'.1 f 0 i = M.1 f 0 i := fun f i hh => hf.1 _ _ _ (by unfold scD scK scA; omega)
  have gs : ∀ i, ¬ i = 10 → M'.1 4 0 i = M.1 4 0 i := fun i hi => hf.1 _ _ _ (by unfold scD scK scA; omega)
  refine ⟨hR, ⟨⟨by rw [gs _ (by omega), hc.1]; exact a1, by rw [gs _ (by omega), hr.1]; exact a2, by rw [gs _ (by omega), hc.2.1]; exact a3, by rw [gs _ (by omega), hQ.1]; exact a4⟩, fun i hi => by rw [g _ _ (by omega), hc.2.2.1]; exact a5 i hi, hR.2.2, fun i hi => by rw [g _ _ (by omega), pk_q hc, srt_q hc]; exact a7 i (by rw [nCh_q hc] at hi; exact hi), fun i hi => by rw [g _ _ (by omega), hQ.2.1]; exact a8 i hi, fun i hi => by rw [g _ _ (by omega), hQ.2.2.1]; exact a9 i hi, fun i hi => by rw [g _ _ (by omega), hQ.2.2.2]; exact a10 i hi, hL⟩, h.2.2.1.fr (by rw [hO _ (by omega)]) (hO _ (by omega)) (hf.1 _ _ _ (by unfold scD scK scA; omega)) (fun i => hf.1 _ _ _ (by unfold scD scK scA; omega)), h.2.2.2.1.fr hw.im (eqM.of hO) (fun k => hf.2.1 _ _ _ (by omega)) (hf.2.2.1 _ (by omega)) (fun j f i hj hh => hf.1 _ _ _ (by unfold scD scK scA; omega)) (fun j i hj => hf.2.1 _ _ _ (by omega)) (fun k hk => ⟨fun x => hf.1 _ _ _ (by unfold scD scK scA; omega), hf.2.1 _ _ _ (by omega)⟩), ?_⟩
  obtain ⟨c1, c2, c3⟩ := h.2.2.2.2
  refine ⟨fun f hh => ?_, ?_, ?_⟩
  · rw [hf.2.2.1 f (by omega), hf.2.2.1 _ (by omega)]; exact c1 f hh
  · rw [hf.2.2.1 _ (by omega), hf.2.2.1 _ (by omega)]; exact c2
  · rw [hf.2.2.1 _ (by omega)]; exact c3
theorem frG.ck (hf : frG scD M M') (h : RelB Q M') : frK M M' := by
  have h1 := hf.2.2.2.2.1
  have h2 := hf.2.2.2.2.2
  have h3 := h.1.2.2.1.2.1
  exact ⟨fun f k i hh => hf.1 f k i (by unfold scD scK scA; omega), ⟨hf.2.2.1 _ (by omega), hf.2.2.1 _ (by omega)⟩, by omega, by omega⟩
end RC
