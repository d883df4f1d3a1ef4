/-! the whole state: Q changed at a place; the reference holds Q; letters -/
def upQ (Q : QT) (f i : Nat) (v : Int) : QT := fun f' => if f' = f then fun i' => if i' = i then v else Q f' i' else Q f'
theorem upQ_f {Q : QT} {f i : Nat} {v : Int} {f' : Nat} (h : f' ≠ f) : upQ Q f i v f' = Q f' := by unfold upQ; rw [if_neg h]
theorem upQ_c {Q : QT} {f i : Nat} {v : Int} {i' : Nat} : upQ Q f i v f i' = if i' = i then v else Q f i' := by unfold upQ; rw [if_pos rfl]
theorem upQ_s {Q : QT} {f i : Nat} {v : Int} : upQ Q f i v f i = v := by rw [upQ_c, if_pos rfl]
theorem upQ_i {Q : QT} {f i : Nat} {v : Int} {i' : Nat} (h : i' ≠ i) : upQ Q f i v f i' = Q f i' := by rw [upQ_c, if_neg h]
theorem upQ_o {Q : QT} {f i : Nat} {v : Int} {f' i' : Nat} (h : ¬ (f' = f ∧ i' = i)) : upQ Q f i v f' i' = Q f' i' := by
  by_cases e : f' = f
  · subst e; rw [upQ_i (fun e => h ⟨rfl, e⟩)]
  · rw [upQ_f e]
def perF (f i : Nat) : Prop := (48 ≤ f ∧ f ≤ 70) ∨ f = 77 ∨ f = 78 ∨ f = 79 ∨ f = 83 ∨ f = 84 ∨ f = 76 ∨ f = 90 ∨ f = 91 ∨ (f = 3 ∧ (i = 29 ∨ i = 33))
def HoldsQ (Q : QT) (I : IM) : Prop := (∀ f i, perF f i → I f 0 i = Q f i) ∧ ∀ i, i < nCh Q → I 74 0 i = (srt Q i : Int)
/-- only the reference's own cells are other -/
def frR (I I' : IM) : Prop := ∀ f k i, ¬ (f = 3 ∨ 48 ≤ f) → I' f k i = I f k i
theorem frR.rf {I : IM} : frR I I := fun _ _ _ _ => rfl
theorem frR.tr {I I' I'' : IM} (h : frR I I') (h' : frR I' I'') : frR I I'' := fun f k i hn => (h' f k i hn).trans (h f k i hn)
theorem frM.r {I I' : IM} (h : frM I I') : frR I I' := fun f k i hn => h f k i (by unfold scr; omega)
theorem frR.up {I : IM} {f i : Nat} {v : Int} (h : f = 3 ∨ 48 ≤ f) : frR I (upI I f 0 i v) := fun f' k' i' hn => by rw [upI_o (fun e => by omega)]
theorem HoldsQ.m {Q : QT} {I : IM} (h : HoldsQ Q I) : HoldsM Q I := ⟨⟨fun f i hf => h.1 f i (by unfold perF; omega), h.2⟩, fun f i hf => h.1 f i (by unfold perF; omega), fun f i hf => h.1 f i (by unfold perF; omega), h.1 _ _ (by unfold perF; omega), h.1 _ _ (by unfold perF; omega)⟩
theorem HoldsQ.fr {Q : QT} {I I' : IM} (h : HoldsQ Q I) (hf : frM I I') : HoldsQ Q I' := by
  refine ⟨fun f i hp => ?_, fun i hi => ?_⟩
  · rw [hf f 0 i (by unfold scr; unfold perF at hp; omega)]; exact h.1 f i hp
  · rw [hf _ 0 i (by unfold scr; omega)]; exact h.2 i hi
theorem HoldsQ.up {Q : QT} {I : IM} {f i : Nat} {v : Int} (h : HoldsQ Q I) (hp : perF f i) (hn : ¬ f = 56 ∧ ¬ (f = 48 ∧ i = 2)) : HoldsQ (upQ Q f i v) (upI I f 0 i v) := by
  refine ⟨fun f' i' hp' => ?_, fun j hj => ?_⟩
  · by_cases e : f' = f
    · subst e
      rw [upI_c, upQ_c]
      split
      · rfl
      · exact h.1 f' i' hp'
    · rw [upQ_f e, upI_o (fun c => e c.1)]; exact h.1 f' i' hp'
  · have e1 : upQ Q f i v 56 = Q 56 := upQ_f (fun c => hn.1 c.symm)
    have e2 : nCh (upQ Q f i v) = nCh Q := by unfold nCh; rw [upQ_o (fun c => hn.2 ⟨c.1.symm, c.2.symm⟩)]
    rw [e2] at hj
    rw [upI_o (fun c => by unfold perF at hp; omega)]
    have e3 : srt (upQ Q f i v) j = srt Q j := by unfold srt; rw [e1, e2]
    rw [e3]
    exact h.2 j hj
def nLt (Q : QT) : Nat := (Q 48 3).toNat
/-- ranges of letters, and the day that it is -/
def WFl (Q : QT) : Prop := (0 ≤ Q 48 3 ∧ Q 48 3 ≤ 8) ∧ (0 ≤ Q 48 5 ∧ Q 48 5 ≤ 999) ∧ ∀ i, i < nLt Q → (0 ≤ Q 62 i ∧ Q 62 i < nPp Q) ∧ (0 ≤ Q 63 i ∧ Q 63 i < nCv Q) ∧ (0 ≤ Q 67 i ∧ Q 67 i < 8) ∧ (0 ≤ Q 68 i ∧ Q 68 i ≤ 1990) ∧ Q 70 i = bI 8 (fun j => tb (Q 70 i) (j : Int)) ∧ ((Q 66 i = 1 ∧ 0 ≤ Q 69 i ∧ Q 69 i < nPp Q) ∨ ((Q 66 i = 0 ∨ Q 66 i = 2) ∧ Q 69 i = -1))
/-- a letter of the reference as a row -/
def letL (Q : QT) (i : Nat) : Nat → Int := fun j => if j = 1 then Q 62 i else if j = 2 then Q 64 i else if j = 4 then Q 65 i else if j = 5 then Q 66 i else if j = 6 then Q 67 i else if j = 7 then Q 68 i else if j = 8 then Q 69 i else if j = 9 then Q 70 i else 0
theorem letL_WL {Q : QT} (h : WFl Q) {i : Nat} (hi : i < nLt Q) : WL Q (letL Q i) := by
  obtain ⟨a1, a2, a3, a4, a5, a6⟩ := h.2.2 i hi
  exact ⟨a1, a3, a5, ⟨a4.1, by show Q 68 i ≤ 2000; omega⟩, ⟨by show (0 : Int) ≤ 0; omega, a4.1⟩⟩
def stQ (Q : QT) (i : Nat) : Int × Int := stpL Q (Q 63 i).toNat (letL Q i)
def stepQ (Q : QT) (i : Nat) : QT := if (stQ Q i).1 = 1 then upQ (upQ Q 66 i 1) 69 i (stQ Q i).2 else if (stQ Q i).1 = 2 then upQ Q 66 i 2 else upQ (upQ (upQ Q 68 i (Q 48 5 + rd Q (Q 67 i) (stQ Q i).2)) 67 i (stQ Q i).2) 70 i (aOr (Q 70 i) (aShl 1 (stQ Q i).2))
def dayF (Q : QT) : Nat → QT
  | 0 => Q
  | k + 1 => if dayF Q k 66 k = 0 ∧ dayF Q k 68 k = dayF Q k 48 5 then stepQ (dayF Q k) k else dayF Q k
def dayQ (Q : QT) : QT := upQ (dayF Q (nLt Q)) 48 5 (Q 48 5 + 1)
def daysF (Q : QT) : Nat → QT
  | 0 => Q
  | n + 1 => dayQ (daysF Q n)
/-- only letters' rows are other -/
def eqT (Q Q' : QT) : Prop := ∀ f, ¬ (f = 66 ∨ f = 67 ∨ f = 68 ∨ f = 69 ∨ f = 70) → Q' f = Q f
theorem eqT.rf {Q : QT} : eqT Q Q := fun _ _ => rfl
theorem eqT.tr {Q Q' Q'' : QT} (h : eqT Q Q') (h' : eqT Q' Q'') : eqT Q Q'' := fun f hf => (h' f hf).trans (h f hf)
theorem eqT.c {Q Q' : QT} (h : eqT Q Q') : eqC Q Q' := ⟨by rw [h _ (by omega)], by rw [h _ (by omega)], h _ (by omega), h _ (by omega), h _ (by omega), h _ (by omega), h _ (by omega), h _ (by omega), h _ (by omega)⟩
theorem eqT.v {Q Q' : QT} (h : eqT Q Q') : eqV Q Q' := ⟨by rw [h _ (by omega)], h _ (by omega), h _ (by omega), h _ (by omega), h _ (by omega), h _ (by omega)⟩
theorem eqT.r {Q Q' : QT} (h : eqT Q Q') : eqR Q Q' := ⟨by rw [h _ (by omega)], h _ (by omega), h _ (by omega), h _ (by omega)⟩
theorem eqT.q {Q Q' : QT} (h : eqT Q Q') (w : WFQ Q) : WFQ Q' := WFQ_q h.c h.v h.r (h _ (by omega)) w
theorem stepQ_T {Q : QT} {i : Nat} : eqT Q (stepQ Q i) := fun f hf => by
  unfold stepQ
  split
  · rw [upQ_f (by omega), upQ_f (by omega)]
  · split
    · rw [upQ_f (by omega)]
    · rw [upQ_f (by omega), upQ_f (by omega), upQ_f (by omega)]
theorem dayF_T {Q : QT} : ∀ k, eqT Q (dayF Q k) := by
  intro k
  induction k with
  | zero => exact eqT.rf
  | succ k ih =>
    unfold dayF
    split
    · exact ih.tr stepQ_T
    · exact ih
theorem stepQ_o {Q : QT} {i f j : Nat} (h : j ≠ i) : stepQ Q i f j = Q f j := by
  unfold stepQ
  split
  · rw [upQ_o (fun c => h c.2), upQ_o (fun c => h c.2)]
  · split
    · rw [upQ_o (fun c => h c.2)]
    · rw [upQ_o (fun c => h c.2), upQ_o (fun c => h c.2), upQ_o (fun c => h c.2)]
theorem stQ_or {Q : QT} (hq : WFQ Q) (h : WFl Q) {i : Nat} (hi : i < nLt Q) : ((stQ Q i).1 = 1 ∧ ∃ v : Nat, v < nPp Q ∧ (stQ Q i).2 = (v : Int)) ∨ ((stQ Q i).1 = 2 ∧ (stQ Q i).2 = -1) ∨ ((stQ Q i).1 = 0 ∧ ∃ v : Nat, v < 8 ∧ (stQ Q i).2 = (v : Int) ∧ 1 ≤ rd Q (Q 67 i) v) := stpL_or hq (letL_WL h hi)
theorem was_or {b : Int} {v : Nat} (h : b = bI 8 (fun j => tb b (j : Int))) (hv : v < 8) : aOr b (aShl 1 (v : Int)) = bI 8 (fun j => tb (aOr b (aShl 1 (v : Int))) (j : Int)) := by
  rw [h, bI_one (n := 8) (s := v) (by omega) hv, bI_or (by omega)]
  refine bI_ext fun i hi => ?_
  rw [tb_bI (by omega)]
  simp [hi]
theorem stepQ_WFl {Q : QT} (hq : WFQ Q) (h : WFl Q) {i : Nat} (hi : i < nLt Q) (hs : Q 66 i = 0) : WFl (stepQ Q i) := by
  have hT := stepQ_T (Q := Q) (i := i)
  have es : stepQ Q i 48 = Q 48 := hT _ (by omega)
  have en : nLt (stepQ Q i) = nLt Q := by unfold nLt; rw [es]
  have ep : nPp (stepQ Q i) = nPp Q := nPp_q hT.c
  have ec : nCv (stepQ Q i) = nCv Q := nCv_q hT.v
  refine ⟨by rw [es]; exact h.1, by rw [es]; exact h.2.1, fun j hj => ?_⟩
  rw [en] at hj
  rw [ep, ec]
  by_cases e : j = i
  · subst e
    obtain ⟨a1, a2, a3, a4, a5, a6⟩ := h.2.2 j hj
    have hnow := h.2.1
    have e1 : stepQ Q j 62 = Q 62 := hT _ (by omega)
    have e2 : stepQ Q j 63 = Q 63 := hT _ (by omega)
    rw [e1, e2]
    refine ⟨a1, a2, ?_⟩
    unfold stepQ
    rcases stQ_or hq h hi with ⟨s1, v, s2, s3⟩ | ⟨s1, s2⟩ | ⟨s1, v, s2, s3, s4⟩
    · rw [if_pos s1, upQ_f (by omega), upQ_f (by omega), upQ_f (by omega), upQ_f (by omega), upQ_f (by omega), upQ_f (by omega), upQ_f (show 66 ≠ 69 by omega), upQ_s, upQ_s]
      exact ⟨a3, a4, a5, .inl ⟨rfl, by omega⟩⟩
    · rw [if_neg (by omega), if_pos s1, upQ_f (by omega), upQ_f (by omega), upQ_f (by omega), upQ_f (show 69 ≠ 66 by omega), upQ_s]
      exact ⟨a3, a4, a5, .inr ⟨.inr rfl, by omega⟩⟩
    · have hr := rd_in hq.2.1 (Q 67 j) (v : Int)
      rw [if_neg (by omega), if_neg (by omega), s3]
      rw [upQ_f (show 67 ≠ 70 by omega), upQ_s, upQ_f (show 68 ≠ 70 by omega), upQ_f (show 68 ≠ 67 by omega), upQ_s, upQ_s, upQ_f (show 66 ≠ 70 by omega), upQ_f (show 66 ≠ 67 by omega), upQ_f (show 66 ≠ 68 by omega), upQ_f (show 69 ≠ 70 by omega), upQ_f (show 69 ≠ 67 by omega), upQ_f (show 69 ≠ 68 by omega)]
      exact ⟨by omega, by omega, was_or a5 s2, a6⟩
  · rw [stepQ_o e, stepQ_o e, stepQ_o e, stepQ_o e, stepQ_o e, stepQ_o e, stepQ_o e]
    exact h.2.2 j hj
theorem dayF_W {Q : QT} (hq : WFQ Q) (h : WFl Q) : ∀ k, k ≤ nLt Q → WFl (dayF Q k) := by
  intro k
  induction k with
  | zero => intro _; exact h
  | succ k ih =>
    intro hk
    unfold dayF
    split
    · rename_i c
      refine stepQ_WFl ((dayF_T k).q hq) (ih (by omega)) ?_ c.1
      have : nLt (dayF Q k) = nLt Q := by unfold nLt; rw [dayF_T k _ (by omega)]
      omega
    · exact ih (by omega)
