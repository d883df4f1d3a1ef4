/-! what hangs on which rows of Q -/
def eqC (Q Q' : QT) : Prop := Q' 48 0 = Q 48 0 ∧ Q' 48 2 = Q 48 2 ∧ Q' 49 = Q 49 ∧ Q' 56 = Q 56 ∧ Q' 57 = Q 57 ∧ Q' 58 = Q 58 ∧ Q' 59 = Q 59 ∧ Q' 60 = Q 60 ∧ Q' 61 = Q 61
def eqR (Q Q' : QT) : Prop := Q' 48 1 = Q 48 1 ∧ Q' 53 = Q 53 ∧ Q' 54 = Q 54 ∧ Q' 55 = Q 55
def eqV (Q Q' : QT) : Prop := Q' 3 33 = Q 3 33 ∧ Q' 77 = Q 77 ∧ Q' 78 = Q 78 ∧ Q' 79 = Q 79 ∧ Q' 83 = Q 83 ∧ Q' 84 = Q 84
section CG
variable {Q Q' : QT}
theorem eqC.rf : eqC Q Q := ⟨rfl, rfl, rfl, rfl, rfl, rfl, rfl, rfl, rfl⟩
theorem eqR.rf : eqR Q Q := ⟨rfl, rfl, rfl, rfl⟩
theorem eqV.rf : eqV Q Q := ⟨rfl, rfl, rfl, rfl, rfl, rfl⟩
theorem nPp_q (h : eqC Q Q') : nPp Q' = nPp Q := by unfold nPp; rw [h.1]
theorem nCh_q (h : eqC Q Q') : nCh Q' = nCh Q := by unfold nCh; rw [h.2.1]
theorem srt_q (h : eqC Q Q') : srt Q' = srt Q := by funext i; unfold srt; rw [h.2.2.2.1, nCh_q h]
theorem mkF_q (h : eqC Q Q') : mkF Q' = mkF Q := by
  funext n
  induction n with
  | zero => rfl
  | succ n ih => funext p m; unfold mkF; rw [srt_q h, h.2.2.2.2.1, h.2.2.2.2.2.1, h.2.2.2.2.2.2.1, h.2.2.2.2.2.2.2.2, ih]
theorem tiF_q (h : eqC Q Q') : tiF Q' = tiF Q := by
  funext n
  induction n with
  | zero => rfl
  | succ n ih => funext p t q; unfold tiF; rw [srt_q h, h.2.2.2.2.1, h.2.2.2.2.2.1, h.2.2.2.2.2.2.1, h.2.2.2.2.2.2.2.1, h.2.2.2.2.2.2.2.2, ih]
theorem plF_q (h : eqC Q Q') : plF Q' = plF Q := by
  funext n
  induction n with
  | zero => funext p; unfold plF; rw [h.2.2.1]
  | succ n ih => funext p; unfold plF; rw [srt_q h, h.2.2.2.2.1, h.2.2.2.2.2.1, h.2.2.2.2.2.2.1, ih]
theorem dn_q (h : eqC Q Q') : dn Q' = dn Q := by funext x; unfold dn; rw [srt_q h, h.2.2.2.1, nCh_q h]
theorem pk_q (h : eqC Q Q') : pk Q' = pk Q := by funext j; unfold pk; rw [h.2.2.2.1, h.2.2.2.2.1, h.2.2.2.2.2.1, h.2.2.2.2.2.2.1, h.2.2.2.2.2.2.2.1, h.2.2.2.2.2.2.2.2]
theorem WFc_q (h : eqC Q Q') (w : WFc Q) : WFc Q' := by
  unfold WFc at *
  rw [nCh_q h, h.1, h.2.1, h.2.2.1, h.2.2.2.1, h.2.2.2.2.1, h.2.2.2.2.2.1, h.2.2.2.2.2.2.1, h.2.2.2.2.2.2.2.1, h.2.2.2.2.2.2.2.2]
  exact w
theorem ClsC_q {I : IM} (h : eqC Q Q') (w : ClsC Q I) : ClsC Q' I := by
  unfold ClsC at *
  rw [h.1, h.2.1, h.2.2.1, nCh_q h, pk_q h, srt_q h]
  exact w
theorem Snap_q {I : IM} {k n : Nat} (h : eqC Q Q') (w : Snap Q I k n) : Snap Q' I k n := by
  unfold Snap at *
  rw [mkF_q h, tiF_q h, plF_q h, nPp_q h]
  exact w
theorem PastOK_q {M : Mem} (h : eqC Q Q') (w : PastOK Q M) : PastOK Q' M := by
  refine ⟨?_, w.2.1, w.2.2.1, w.2.2.2.1, w.2.2.2.2.1, fun n hn => Snap_q h (w.2.2.2.2.2 n hn)⟩
  rw [nCh_q h]; exact w.1
/-- a cover's rows are the same -/
def eqK0 (Q Q' : QT) (c : Nat) : Prop := Q' 79 c = Q 79 c ∧ ∀ k, k < ln Q c → kd Q' c k = kd Q c k ∧ nm Q' c k = nm Q c k
def eqK (Q Q' : QT) (c : Nat) : Prop := eqK0 Q Q' c ∧ Q' 83 c = Q 83 c ∧ Q' 84 c = Q 84 c
theorem eqV.k (h : eqV Q Q') (c : Nat) : eqK Q Q' c := ⟨⟨by rw [h.2.2.2.1], fun k _ => ⟨by unfold kd; rw [h.2.1], by unfold nm; rw [h.2.2.1]⟩⟩, by rw [h.2.2.2.2.1], by rw [h.2.2.2.2.2]⟩
theorem ln_q {c : Nat} (h : eqK0 Q Q' c) : ln Q' c = ln Q c := by unfold ln; rw [h.1]
theorem ht_q {c : Nat} (h : eqK0 Q Q' c) : ∀ k, k ≤ ln Q c → ht Q' c k = ht Q c k := by
  intro k
  induction k with
  | zero => intro _; rfl
  | succ k ih => intro hk; unfold ht; rw [(h.2 k (by omega)).1, ih (by omega)]
theorem ev_q {n s c : Nat} {seen : Nat → Bool} (hc : eqC Q Q') (h : eqK0 Q Q' c) : ∀ k, k ≤ ln Q c → ev Q' n s seen c k = ev Q n s seen c k := by
  intro k
  induction k with
  | zero => intro _; rfl
  | succ k ih =>
    intro hk
    funext i
    unfold ev
    have et : tg Q' c k = tg Q c k := by unfold tg; rw [ht_q h (k + 1) hk]
    rw [et, ih (by omega), (h.2 k (by omega)).1, (h.2 k (by omega)).2]
    unfold vl
    rw [mkF_q hc, tiF_q hc, plF_q hc, nPp_q hc]
theorem evS_q {n s c : Nat} {seen : Nat → Bool} (hc : eqC Q Q') (h : eqK0 Q Q' c) : evS Q' n s seen c = evS Q n s seen c := by unfold evS; rw [ln_q h, ev_q hc h _ (Nat.le_refl _)]
theorem fitV_q {n s c : Nat} {seen : Nat → Bool} (hc : eqC Q Q') (h : eqK Q Q' c) : fitV Q' n s seen c = fitV Q n s seen c := by unfold fitV; rw [evS_q hc h.1, h.2.1]
theorem fitS_q {n s c : Nat} {seen : Nat → Bool} (hc : eqC Q Q') (h : eqK Q Q' c) : fitS Q' n s seen c = fitS Q n s seen c := by unfold fitS; rw [evS_q hc h.1, h.2.1]
theorem WFv_q {c : Nat} (h : eqK0 Q Q' c) (w : WFv Q c) : WFv Q' c := by
  refine ⟨by rw [h.1]; exact w.1, fun k hk => ?_, ?_⟩
  · rw [ln_q h] at hk
    rw [(h.2 k hk).1, (h.2 k hk).2, ht_q h k (by omega)]
    exact w.2.1 k hk
  · rw [ln_q h, ht_q h _ (Nat.le_refl _)]; exact w.2.2
theorem CovC_q {M : Mem} {k1 c : Nat} (h : eqK0 Q Q' c) (w : CovC Q M k1 c) : CovC Q' M k1 c := by
  refine ⟨by rw [ln_q h]; exact w.1, fun k hk => ?_⟩
  rw [ln_q h] at hk
  rw [(h.2 k hk).1, (h.2 k hk).2]
  exact w.2 k hk
theorem nCv_q (h : eqV Q Q') : nCv Q' = nCv Q := by unfold nCv; rw [h.1]
theorem WFV_q (h : eqV Q Q') (w : WFV Q) : WFV Q' := by
  refine ⟨by rw [h.1]; exact w.1, fun c hc => WFv_q (h.k c).1 (w.2 c (by rw [nCv_q h] at hc; exact hc))⟩
theorem FitC_q {I : IM} {nc : Nat} (hc : eqC Q Q') (h : eqV Q Q') (w : FitC Q nc I) : FitC Q' nc I := by
  refine ⟨w.1, fun j cv s n seen hj hcv hs hn e => ?_⟩
  rw [evS_q hc (h.k cv).1]
  exact w.2 j cv s n seen hj hcv hs (by rw [nCh_q hc] at hn; exact hn) e
theorem CovsC_q {M : Mem} (h : eqV Q Q') (w : CovsC Q M) : CovsC Q' M := by
  refine ⟨by rw [h.1]; exact w.1, by rw [nCv_q h]; exact w.2.1, fun c hc => ?_⟩
  rw [nCv_q h] at hc
  obtain ⟨a1, a2, a3, a4, a5⟩ := w.2.2 c hc
  exact ⟨a1, CovC_q (h.k c).1 a2, a3, by rw [h.2.2.2.2.1]; exact a4, by rw [h.2.2.2.2.2]; exact a5⟩
theorem RelA_q {M : Mem} (hc : eqC Q Q') (h : eqV Q Q') (hk : KnC Q' M.1) (w : RelA Q M) : RelA Q' M := ⟨w.1, ClsC_q hc w.2.1, PastOK_q hc w.2.2.1, by rw [nCv_q h]; exact FitC_q hc h w.2.2.2.1, CovsC_q h w.2.2.2.2.1, hk⟩
theorem nRd_q (h : eqR Q Q') : nRd Q' = nRd Q := by unfold nRd; rw [h.1]
theorem rkF_q (h : eqR Q Q') : rkF Q' = rkF Q := by
  funext a b n
  induction n with
  | zero => rfl
  | succ n ih => unfold rkF; rw [ih, h.2.1, h.2.2.1]
theorem ro_q (h : eqR Q Q') : ro Q' = ro Q := by funext a b; unfold ro; rw [rkF_q h, nRd_q h]
theorem rd_q (h : eqR Q Q') : rd Q' = rd Q := by funext a b; unfold rd; rw [ro_q h, h.2.2.2]
theorem Dk_q (h : eqR Q Q') : Dk Q' = Dk Q := by
  funext k
  induction k with
  | zero => funext a b; unfold Dk; rw [rd_q h]
  | succ k ih => funext a b; unfold Dk; rw [ih]
theorem dist_q (h : eqR Q Q') : dist Q' = dist Q := by funext a b; unfold dist; rw [Dk_q h]
theorem nx_q (h : eqR Q Q') : nx Q' = nx Q := by funext a b; unfold nx; rw [rd_q h, dist_q h]
theorem WFr_q (h : eqR Q Q') (w : WFr Q) : WFr Q' := by
  unfold WFr at *
  rw [nRd_q h, ro_q h, h.1, h.2.1, h.2.2.1, h.2.2.2]
  exact w
theorem WaysC_q {I : IM} (h : eqR Q Q') (w : WaysC Q I) : WaysC Q' I := by
  unfold WaysC LenC at *
  rw [dist_q h, nx_q h]
  exact w
theorem RoadsC_q {I : IM} {n : Nat} (h : eqR Q Q') (w : RoadsC Q I n) : RoadsC Q' I n := by
  unfold RoadsC at *
  rw [rd_q h]
  exact w
theorem RelB_q {M : Mem} (hc : eqC Q Q') (h : eqV Q Q') (hr : eqR Q Q') (hk : Q' 50 = Q 50) (w : RelB Q M) : RelB Q' M := ⟨RelA_q hc h (fun r hr => by rw [hk]; exact w.1.2.2.2.2.2 r hr) w.1, WaysC_q hr w.2.1, RoadsC_q hr w.2.2⟩
theorem WFQ_q (hc : eqC Q Q') (h : eqV Q Q') (hr : eqR Q Q') (hk : Q' 50 = Q 50) (w : WFQ Q) : WFQ Q' := by
  refine ⟨WFc_q hc w.1, WFr_q hr w.2.1, ?_, ?_, WFV_q h w.2.2.2.2⟩
  · have := w.2.2.1; unfold WFk at *; rw [hk]; exact this
  · have := w.2.2.2.1; unfold WFp at *; rw [hk, nPp_q hc]; exact this
end CG
