/-! frames of the class while it answers -/
def scC (f k i : Nat) : Prop := f = 14 ∨ f = 29 ∨ f = 30 ∨ f = 31 ∨ f = 32 ∨ (f = 6 ∧ i = 2) ∨ f = 23 ∨ f = 24 ∨ f = 25 ∨ (f = 8 ∧ i = 3) ∨ (f = 9 ∧ 4 ≤ i) ∨ f = 20 ∨ (f = 5 ∧ k = 8) ∨ f = 40 ∨ f = 41 ∨ f = 42 ∨ f = 43 ∨ f = 44 ∨ f = 11 ∨ f = 26 ∨ f = 27 ∨ f = 18 ∨ f = 19
def scR (f k i : Nat) : Prop := f = 14 ∨ f = 28 ∨ f = 29 ∨ f = 30 ∨ f = 31 ∨ f = 32 ∨ (f = 5 ∧ k = 8 ∧ i = 0)
def frB (M M' : Mem) : Prop := (∀ f k i, ¬ scC f k i → M'.1 f k i = M.1 f k i) ∧ (∀ f k i, ¬ scR f k i → M'.2.1 f k i = M.2.1 f k i) ∧ (∀ f, ¬ (f = 14 ∨ f = 29 ∨ f = 30 ∨ f = 31 ∨ f = 32) → cCnt M'.2.2 f = cCnt M.2.2 f) ∧ CLe M.2.2 M'.2.2 ∧ cNc M'.2.2 + 5 * cCnt M.2.2 14 = cNc M.2.2 + 5 * cCnt M'.2.2 14 ∧ cNs M'.2.2 + 107 * cCnt M.2.2 14 = cNs M.2.2 + 107 * cCnt M'.2.2 14
theorem frB.rf {M : Mem} : frB M M := ⟨fun _ _ _ _ => rfl, fun _ _ _ _ => rfl, fun _ _ => rfl, CLe.rf _, rfl, rfl⟩
theorem frB.tr {M M' M'' : Mem} (h : frB M M') (h' : frB M' M'') : frB M M'' := ⟨fun f k i hn => (h'.1 f k i hn).trans (h.1 f k i hn), fun f k i hn => (h'.2.1 f k i hn).trans (h.2.1 f k i hn), fun f hn => (h'.2.2.1 f hn).trans (h.2.2.1 f hn), h.2.2.2.1.tr h'.2.2.2.1, by have a := h.2.2.2.2.1; have b := h'.2.2.2.2.1; omega, by have a := h.2.2.2.2.2; have b := h'.2.2.2.2.2; omega⟩
theorem frA.b {M M' : Mem} (h : frA M M') : frB M M' := ⟨fun f k i hn => h.1 f k i (by unfold scC at hn; omega), fun f k i hn => h.2.1 f k i (by unfold scR at hn; omega), h.2.2⟩
theorem frB.I {M : Mem} {I' : IM} (h : ∀ f k i, ¬ scC f k i → I' f k i = M.1 f k i) : frB M (I', M.2.1, M.2.2) := ⟨h, fun _ _ _ _ => rfl, fun _ _ => rfl, CLe.rf _, rfl, rfl⟩
theorem frB.up {M : Mem} {f k i : Nat} {v : Int} (h : scC f k i) : frB M (upI M.1 f k i v, M.2.1, M.2.2) := frB.I fun f' k' i' hn => by
  by_cases e : f' = f ∧ k' = k
  · obtain ⟨rfl, rfl⟩ := e
    rw [upI_c, if_neg (fun (e : i' = i) => hn (by rw [e]; exact h))]
  · rw [upI_o e]
theorem frB.se {M : Mem} {f k : Nat} {g : Nat → Int} (h : ∀ i, scC f k i) : frB M (seI M.1 f k g, M.2.1, M.2.2) := frB.I fun f' k' i' hn => by
  by_cases e : f' = f ∧ k' = k
  · obtain ⟨rfl, rfl⟩ := e
    exact absurd (h i') hn
  · rw [seI_o e]
/-- frames by what may be other -/
def frG (S : Nat → Nat → Nat → Prop) (M M' : Mem) : Prop := (∀ f k i, ¬ S f k i → M'.1 f k i = M.1 f k i) ∧ (∀ f k i, ¬ (f = 14 ∨ f = 28 ∨ f = 29 ∨ f = 30 ∨ f = 31 ∨ f = 32) → M'.2.1 f k i = M.2.1 f k i) ∧ (∀ f, ¬ (f = 14 ∨ f = 29 ∨ f = 30 ∨ f = 31 ∨ f = 32) → cCnt M'.2.2 f = cCnt M.2.2 f) ∧ CLe M.2.2 M'.2.2 ∧ cNc M'.2.2 + 5 * cCnt M.2.2 14 = cNc M.2.2 + 5 * cCnt M'.2.2 14 ∧ cNs M'.2.2 + 107 * cCnt M.2.2 14 = cNs M.2.2 + 107 * cCnt M'.2.2 14
def scA (f _k i : Nat) : Prop := f = 14 ∨ f = 29 ∨ f = 30 ∨ f = 31 ∨ f = 32 ∨ (f = 6 ∧ i = 2) ∨ f = 23 ∨ f = 24 ∨ f = 25 ∨ (f = 8 ∧ i = 3)
def scK (f k i : Nat) : Prop := scA f k i ∨ (f = 9 ∧ 4 ≤ i ∧ i ≤ 9)
def scL (k1 f k i : Nat) : Prop := scK f k i ∨ (f = 5 ∧ k = k1)
theorem frG.rf {S : Nat → Nat → Nat → Prop} {M : Mem} : frG S M M := ⟨fun _ _ _ _ => rfl, fun _ _ _ _ => rfl, fun _ _ => rfl, CLe.rf _, rfl, rfl⟩
theorem frG.tr {S : Nat → Nat → Nat → Prop} {M M' M'' : Mem} (h : frG S M M') (h' : frG S M' M'') : frG S M M'' := ⟨fun f k i hn => (h'.1 f k i hn).trans (h.1 f k i hn), fun f k i hn => (h'.2.1 f k i hn).trans (h.2.1 f k i hn), fun f hn => (h'.2.2.1 f hn).trans (h.2.2.1 f hn), h.2.2.2.1.tr h'.2.2.2.1, by have a := h.2.2.2.2.1; have b := h'.2.2.2.2.1; omega, by have a := h.2.2.2.2.2; have b := h'.2.2.2.2.2; omega⟩
theorem frG.mo {S S' : Nat → Nat → Nat → Prop} {M M' : Mem} (h : frG S M M') (hs : ∀ f k i, S f k i → S' f k i) : frG S' M M' := ⟨fun f k i hn => h.1 f k i (fun c => hn (hs f k i c)), h.2⟩
theorem frG.b {S : Nat → Nat → Nat → Prop} {M M' : Mem} (h : frG S M M') (hs : ∀ f k i, S f k i → scC f k i) : frB M M' := ⟨fun f k i hn => h.1 f k i (fun c => hn (hs f k i c)), fun f k i hn => h.2.1 f k i (by unfold scR at hn; omega), h.2.2⟩
theorem frG.I {S : Nat → Nat → Nat → Prop} {M : Mem} {I' : IM} (h : ∀ f k i, ¬ S f k i → I' f k i = M.1 f k i) : frG S M (I', M.2.1, M.2.2) := ⟨h, fun _ _ _ _ => rfl, fun _ _ => rfl, CLe.rf _, rfl, rfl⟩
theorem frA.k {M M' : Mem} (h : frA M M') : frG scK M M' := ⟨fun f k i hn => h.1 f k i (by unfold scK scA at hn; omega), h.2⟩
theorem scK.c {f k i : Nat} (h : scK f k i) : scC f k i := by unfold scK scA at h; unfold scC; omega
theorem scK.l {k1 f k i : Nat} (h : scK f k i) : scL k1 f k i := .inl h
theorem scL.c {f k i : Nat} (h : scL 8 f k i) : scC f k i := by unfold scL scK scA at h; unfold scC; omega
/-- what RelA reads -/
def relF (f i : Nat) : Prop := (f = 2 ∧ i = 10) ∨ (f = 4 ∧ (i = 0 ∨ i = 4)) ∨ f = 6 ∨ f = 8 ∨ f = 13 ∨ f = 14 ∨ f = 24 ∨ f = 25 ∨ f = 29 ∨ f = 30 ∨ f = 31 ∨ f = 32 ∨ f = 33 ∨ f = 35 ∨ f = 36 ∨ f = 47
theorem RelA.oth {Q : QT} {M M' : Mem} (h : RelA Q M) (hI : ∀ f k i, relF f i → M'.1 f k i = M.1 f k i) (hR : ∀ f k i, (f = 28 ∨ f = 15 ∨ shp f i = true) → M'.2.1 f k i = M.2.1 f k i) (hc : ∀ f, (f = 14 ∨ f = 29 ∨ f = 30 ∨ f = 31 ∨ f = 32 ∨ f = 13 ∨ f = 47) → cCnt M'.2.2 f = cCnt M.2.2 f) (hl : CLe M.2.2 M'.2.2) : RelA Q M' := by
  obtain ⟨hS, hC, hP, hF, hCv, hK⟩ := h
  have hSn : ∀ n, Snap Q M.1 n n → Snap Q M'.1 n n := fun n h => by
    refine ⟨fun m hm => ?_, fun t p ht hp => ?_, fun p hp => ?_, fun a ha => ?_⟩
    · rw [hI _ _ _ (by unfold relF; omega)]; exact h.1 m hm
    · rw [hI _ _ _ (by unfold relF; omega)]; exact h.2.1 t p ht hp
    · rw [hI _ _ _ (by unfold relF; omega)]; exact h.2.2.1 p hp
    · rw [hI _ _ _ (by unfold relF; omega)]; exact h.2.2.2 a ha
  refine ⟨hS.congr (fun f k i e => hR f k i (.inr (.inr e))), ⟨?_, ?_, fun p hp => ?_, fun i hi => ?_⟩, ?_, ⟨fun c j hj => ?_, fun j cv s n seen hj hc hs hn e => ?_⟩, ?_, fun r hr => ?_⟩
  · rw [hI _ _ _ (by unfold relF; omega)]; exact hC.1
  · rw [hI _ _ _ (by unfold relF; omega)]; exact hC.2.1
  · rw [hI _ _ _ (by unfold relF; omega)]; exact hC.2.2.1 p hp
  · rw [hI _ _ _ (by unfold relF; omega)]; exact hC.2.2.2 i hi
  · obtain ⟨p1, p2, ⟨p3, p4, p5, p6⟩, p7, p8, p9⟩ := hP
    have e2 := hI 6 0 2 (by unfold relF; omega)
    have c1 := hc 14 (by omega)
    have c2 := hc 29 (by omega)
    have c3 := hc 30 (by omega)
    have c4 := hc 31 (by omega)
    have c5 := hc 32 (by omega)
    refine ⟨by rw [e2, c1]; exact p1, by rw [c1]; exact p2, by rw [c1, c2, c3, c4, c5]; exact ⟨p3, p4, p5, p6⟩, fun i hi => by rw [hR _ _ _ (.inl rfl), c1]; exact p7 i hi, fun n hn => ?_, fun n hn => hSn n (p9 n (by rw [e2] at hn; exact hn))⟩
    rw [hI _ _ _ (by unfold relF; omega)]; exact p8 n (by rw [c1] at hn; exact hn)
  · rw [hI _ _ _ (by unfold relF; omega)] at c ⊢; exact hF.1 c j hj
  · rw [hI _ _ _ (by unfold relF; omega)] at e ⊢; exact hF.2 j cv s n seen hj hc hs hn e
  · obtain ⟨h1, ⟨h2, h2'⟩, h3⟩ := hCv
    refine ⟨by rw [hI _ _ _ (by unfold relF; omega)]; exact h1, ⟨by rw [hc _ (by omega)]; exact h2, by rw [hc _ (by omega)]; exact h2'⟩, fun c hcc => ?_⟩
    obtain ⟨a1, ⟨a2, a2'⟩, a3, a4, a5⟩ := h3 c hcc
    refine ⟨by rw [hR _ _ _ (.inr (.inl rfl))]; exact a1, ⟨?_, fun k hk => by rw [hI _ _ _ (by unfold relF; omega)]; exact a2' k hk⟩, by rw [hI _ _ _ (by unfold relF; omega)]; exact a3, by rw [hI _ _ _ (by unfold relF; omega)]; exact a4, by rw [hI _ _ _ (by unfold relF; omega)]; exact a5⟩
    rw [← a2]
    exact hl.2.2.2.2 47 c (by omega)
  · rw [hI _ _ _ (by unfold relF; omega)]; exact hK r hr
theorem RelA.I {Q : QT} {M : Mem} {I' : IM} (h : RelA Q M) (hI : ∀ f k i, relF f i → I' f k i = M.1 f k i) : RelA Q (I', M.2.1, M.2.2) := h.oth hI (fun _ _ _ _ => rfl) (fun _ _ => rfl) (CLe.rf _)
theorem RelA.up {Q : QT} {M : Mem} {f k i : Nat} {v : Int} (h : RelA Q M) (hn : ¬ relF f i) : RelA Q (upI M.1 f k i v, M.2.1, M.2.2) := h.I fun f' k' i' hr => by
  by_cases e : f' = f ∧ k' = k
  · obtain ⟨rfl, rfl⟩ := e
    rw [upI_c, if_neg (fun (e : i' = i) => hn (by rw [← e]; exact hr))]
  · rw [upI_o e]
section FB
variable {l : Launch} {G : Gt} {d : Nat} {Q : QT} {M : Mem}
theorem fit_at2 {n cv k : Nat} {s : Nat} {seen : Nat → Bool} (hR : RelA Q M) (hw : WFc Q) (hV : WFV Q) (hcv : cv < nCv Q) (hs : s < 12) (hkn : k = n) (hk : (n : Int) ≤ M.1 6 0 2) : ∃ I', Cl l G (d + 1) mX3_fit [vR (some (8, 0)), vR (some (13, cv)), vI (s : Int), vR (some (14, k)), vI (bI 12 seen)] M (some (vI (fitV Q n s seen cv))) (I', M.2.1, M.2.2) ∧ RelA Q (I', M.2.1, M.2.2) ∧ frF M.1 I' := by
  subst hkn
  obtain ⟨hS, hC, hP, hF, hCv, hK⟩ := hR
  have hP1 := hP.1
  obtain ⟨a1, a2, a3, a4, a5⟩ := hCv.2.2 cv hcv
  have hnc : nCv Q ≤ 8 := by have := hV.1; unfold nCv; omega
  obtain ⟨I', h1, h2, h3⟩ := KX3_fit (l := l) (G := G) (d := d) (n := k) (k1 := cv) (k3 := k) (s := s) (seen := seen) hS hw (by omega) hnc hcv a2 (hP.2.2.2.2.2 k hk) (hV.2 cv hcv) hs a3 a4 (hP.2.2.2.2.1 k (by omega)) hF
  exact ⟨_, h1, RelA.frF ⟨hS, hC, hP, hF, hCv, hK⟩ h2 h3, h3⟩
/-- who is seen, as the snapshot tells it -/
theorem seen_at {n k : Nat} {r : Nat} (hw : WFc Q) (hk : WFk Q) (hn : n ≤ nCh Q) (hK : KnC Q M.1) (hL : Snap Q M.1 k n) (hr : r < nPp Q) : aOr (aOr (aShl 1 (r : Int)) (M.1 36 0 r)) (M.1 32 k (plF Q n r).toNat) = bI 12 (snF Q n r) := by
  have h12 := nPp_le hw
  have hp := plF_in hw n r hn (by omega)
  have e2 := hK r (by omega)
  rw [hL.2.2.2 (plF Q n r).toNat (by omega), e2, hk r (by omega), bI_one (n := 12) (s := r) (by omega) (by omega), bI_or (by omega), bI_or (by omega)]
  refine bI_ext fun i hi => ?_
  unfold snF
  rw [if_neg (show ¬ (r : Int) = -1 by omega), Int.toNat_natCast, show (((plF Q n r).toNat : Nat) : Int) = plF Q n r by omega]
end FB
