theorem Snap.copy {Q : QT} {I : IM} {k1 k0 n : Nat} (h : Snap Q I k1 n) (hne : k1 ≠ k0) (h12 : nPp Q ≤ 12) : Snap Q (cpI (cpI (cpI (cpI I 29 k1 29 k0 0 0 10) 30 k1 30 k0 0 0 72) 31 k1 31 k0 0 0 12) 32 k1 32 k0 0 0 8) k0 n ∧ sameS k0 I (cpI (cpI (cpI (cpI I 29 k1 29 k0 0 0 10) 30 k1 30 k0 0 0 72) 31 k1 31 k0 0 0 12) 32 k1 32 k0 0 0 8) := by
  refine ⟨⟨fun m hm => ?_, fun t p ht hp => ?_, fun p hp => ?_, fun a ha => ?_⟩, ((((sameS.se (by omega)).tr (sameS.se (by omega))).tr (sameS.se (by omega))).tr (sameS.se (by omega)))⟩
  · rw [cpI_f rfl, cpI_f rfl, cpI_f rfl, cp_row hm]; exact h.1 m hm
  · rw [cpI_f rfl, cpI_f rfl, cp_row (by omega), cpI_f rfl]; exact h.2.1 t p ht hp
  · rw [cpI_f rfl, cp_row (by omega), cpI_f rfl, cpI_f rfl]; exact h.2.2.1 p hp
  · rw [cp_row ha, cpI_f rfl, cpI_f rfl, cpI_f rfl]; exact h.2.2.2 a ha
section FO
variable {l : Launch} {G : Gt} {d : Nat}
theorem follow_106 {Q : QT} {M : Mem} {k0 k1 n : Nat} {x2 : Int} (hne : k1 ≠ k0) (hS : Sh M.2.1) (hw : WFc Q) (hn : n < nCh Q) (hL : Snap Q M.1 k0 n) :
    ∃ I', Ex l G (d + 1) mX7_follow 106 [some (vR (some (14, k0))), some (vR (some (14, k1))), some (vI x2), some (vI (Q 57 (srt Q n))), some (vI (Q 58 (srt Q n))), some (vI (Q 59 (srt Q n))), some (vI (if Q 57 (srt Q n) = 1 then Q 60 (srt Q n) else 0)), some (vI (if Q 61 (srt Q n) = 1 then 1 else 0)), none] [] M none (I', M.2.1, M.2.2) ∧ sameS k0 M.1 I' ∧ Snap Q I' k0 (n + 1) := by
  have hj := srt_lt hn
  have wf := hw.2.2.2 (srt Q n) hj
  have h12 := nPp_le hw
  have hpp := nPp_eq hw
  have hp12 := hw.1
  obtain ⟨hd1, hk1, hwho, hwhat, h0, h1, h2, his⟩ := wf
  obtain ⟨w, ew⟩ := Int.eq_ofNat_of_zero_le hwho.1
  obtain ⟨a, ea⟩ := Int.eq_ofNat_of_zero_le hwhat
  have hw12 : w < 12 := by omega
  have ebit : ∀ x k : Int, (if (if Q 61 (srt Q n) = 1 then (1 : Int) else 0) = 0 then aAnd x (aXor (aShl 1 k) (-1)) else aOr x (aShl 1 k)) = wbit (Q 61 (srt Q n)) x k := by
    intro x k
    unfold wbit
    by_cases e : Q 61 (srt Q n) = 1 <;> simp [e]
  by_cases c0 : Q 57 (srt Q n) = 0
  · have ha10 : a < 10 := by have := h0 c0; omega
    refine ⟨upI M.1 29 k0 a (wbit (Q 61 (srt Q n)) (M.1 29 k0 a) w), xX7_follow_106 hne hS ?_, sameS.up (by omega), ?_⟩
    · refine ⟨fun c => absurd c0 c, fun _ => ?_⟩
      simp only [ew, ea, Int.toNat_natCast, ebit]
      exact ⟨⟨fun _ => ⟨by omega, by omega⟩, fun _ => ⟨by omega, by omega⟩⟩, by omega, by trivial, by trivial⟩
    · refine ⟨fun m hm => ?_, fun t p ht hp => ?_, fun p hp => ?_, fun b hb => ?_⟩
      · by_cases e : m = a
        · subst e
          rw [upI_c, if_pos rfl, hL.1 m hm, wbit_bI (by omega) hw12]
          refine bI_ext fun i hi => ?_
          simp only [mkF, c0, ew, ea, true_and]
          by_cases e2 : i = w
          · subst e2; simp
          · simp [e2, show ¬ ((w : Int) = i) by omega]
        · rw [upI_c, if_neg e, hL.1 m hm]
          refine bI_ext fun i hi => ?_
          have hne : ¬ (Q 57 (srt Q n) = 0 ∧ Q 58 (srt Q n) = i ∧ Q 59 (srt Q n) = m) := by rintro ⟨-, -, h⟩; omega
          simp only [mkF, if_neg hne]
      · rw [upI_f rfl, hL.2.1 t p ht hp]
        refine bI_ext fun i hi => ?_
        have hne : ¬ (Q 57 (srt Q n) = 1 ∧ Q 58 (srt Q n) = p ∧ Q 59 (srt Q n) = t ∧ Q 60 (srt Q n) = i) := by rintro ⟨h, -⟩; omega
        simp only [tiF, if_neg hne]
      · rw [upI_f rfl, hL.2.2.1 p hp]
        have hne : ¬ ((¬ Q 57 (srt Q n) = 0 ∧ ¬ Q 57 (srt Q n) = 1) ∧ Q 58 (srt Q n) = p) := by rintro ⟨h, -⟩; exact h.1 c0
        simp only [plF, if_neg hne]
      · rw [upI_f rfl, hL.2.2.2 b hb]
        refine bI_ext fun i hi => ?_
        have hne : ¬ ((¬ Q 57 (srt Q n) = 0 ∧ ¬ Q 57 (srt Q n) = 1) ∧ Q 58 (srt Q n) = i) := by rintro ⟨h, -⟩; exact h.1 c0
        simp only [plF, if_neg hne]
  · by_cases c1 : Q 57 (srt Q n) = 1
    · obtain ⟨ho1, ho2, ho3⟩ := h1 c1
      obtain ⟨b, eb⟩ := Int.eq_ofNat_of_zero_le ho2
      have hb12 : b < 12 := by omega
      refine ⟨upI M.1 30 k0 (12 * a + w) (wbit (Q 61 (srt Q n)) (M.1 30 k0 (12 * a + w)) b), xX7_follow_106 hne hS ?_, sameS.up (by omega), ?_⟩
      · refine ⟨fun _ => ⟨fun c => absurd c1 c, fun _ => ?_⟩, fun c => absurd c c0⟩
        have e1 : ((a : Int) * 12 + (w : Int)).toNat = 12 * a + w := by omega
        simp only [ew, ea, eb, c1, if_true, e1, ebit]
        exact ⟨⟨by unfold InR; omega, by unfold InR; omega⟩, ⟨fun _ => ⟨by omega, by omega⟩, fun _ => ⟨by omega, by omega⟩⟩, by omega, by trivial, by trivial⟩
      · refine ⟨fun m hm => ?_, fun t p ht hp => ?_, fun p hp => ?_, fun b' hb' => ?_⟩
        · rw [upI_f rfl, hL.1 m hm]
          refine bI_ext fun i hi => ?_
          have hne : ¬ (Q 57 (srt Q n) = 0 ∧ Q 58 (srt Q n) = i ∧ Q 59 (srt Q n) = m) := by rintro ⟨h, -⟩; exact c0 h
          simp only [mkF, if_neg hne]
        · by_cases e : p = w ∧ t = a
          · obtain ⟨rfl, rfl⟩ := e
            rw [upI_c, if_pos rfl, hL.2.1 t p ht hp, wbit_bI (by omega) hb12]
            refine bI_ext fun i hi => ?_
            simp only [tiF, c1, ew, ea, eb, true_and]
            by_cases e2 : i = b
            · subst e2; simp
            · simp [e2, show ¬ ((b : Int) = i) by omega]
          · rw [upI_c, if_neg (by omega), hL.2.1 t p ht hp]
            refine bI_ext fun i hi => ?_
            have hne : ¬ (Q 57 (srt Q n) = 1 ∧ Q 58 (srt Q n) = p ∧ Q 59 (srt Q n) = t ∧ Q 60 (srt Q n) = i) := by rintro ⟨-, h, h', -⟩; omega
            simp only [tiF, if_neg hne]
        · rw [upI_f rfl, hL.2.2.1 p hp]
          have hne : ¬ ((¬ Q 57 (srt Q n) = 0 ∧ ¬ Q 57 (srt Q n) = 1) ∧ Q 58 (srt Q n) = p) := by rintro ⟨h, -⟩; exact h.2 c1
          simp only [plF, if_neg hne]
        · rw [upI_f rfl, hL.2.2.2 b' hb']
          refine bI_ext fun i hi => ?_
          have hne : ¬ ((¬ Q 57 (srt Q n) = 0 ∧ ¬ Q 57 (srt Q n) = 1) ∧ Q 58 (srt Q n) = i) := by rintro ⟨h, -⟩; exact h.2 c1
          simp only [plF, if_neg hne]
    · have ha8 : a < 8 := by have := h2 (by omega); omega
      have hwp : w < nPp Q := by omega
      have epl := hL.2.2.1 w hwp
      have hpl := plF_in hw n w (by omega) hw12
      obtain ⟨b, eb⟩ := Int.eq_ofNat_of_zero_le hpl.1
      have hb8 : b < 8 := by omega
      have hye : ∀ p : Nat, ((¬ Q 57 (srt Q n) = 0 ∧ ¬ Q 57 (srt Q n) = 1) ∧ Q 58 (srt Q n) = (p : Int)) ↔ p = w := fun p => ⟨fun h => by have := h.2; omega, fun h => ⟨⟨c0, c1⟩, by omega⟩⟩
      have hpl1 : ∀ p : Nat, plF Q (n + 1) p = if p = w then (a : Int) else plF Q n p := by
        intro p
        by_cases e : p = w
        · rw [if_pos e]; simp only [plF, if_pos ((hye p).mpr e), ea]
        · rw [if_neg e]; simp only [plF, if_neg (fun h => e ((hye p).mp h))]
      refine ⟨upI (upI (upI M.1 32 k0 b (aAnd (M.1 32 k0 b) (aXor (aShl 1 w) (-1)))) 31 k0 w a) 32 k0 a (aOr (upI M.1 32 k0 b (aAnd (M.1 32 k0 b) (aXor (aShl 1 w) (-1))) 32 k0 a) (aShl 1 w)), xX7_follow_106 hne hS ?_, ((sameS.up (by omega)).tr (sameS.up (by omega))).tr (sameS.up (by omega)), ?_⟩
      · refine ⟨fun _ => ⟨fun _ => ?_, fun c => absurd c c1⟩, fun c => absurd c c0⟩
        simp only [ew, ea, Int.toNat_natCast, epl, eb]
        exact ⟨⟨by omega, by omega, by omega, by omega⟩, by trivial, by trivial⟩
      · refine ⟨fun m hm => ?_, fun t p ht hp => ?_, fun p hp => ?_, fun b' hb' => ?_⟩
        · rw [upI_f rfl, upI_f rfl, upI_f rfl, hL.1 m hm]
          refine bI_ext fun i hi => ?_
          have hne : ¬ (Q 57 (srt Q n) = 0 ∧ Q 58 (srt Q n) = i ∧ Q 59 (srt Q n) = m) := by rintro ⟨h, -⟩; exact c0 h
          simp only [mkF, if_neg hne]
        · rw [upI_f rfl, upI_f rfl, upI_f rfl, hL.2.1 t p ht hp]
          refine bI_ext fun i hi => ?_
          have hne : ¬ (Q 57 (srt Q n) = 1 ∧ Q 58 (srt Q n) = p ∧ Q 59 (srt Q n) = t ∧ Q 60 (srt Q n) = i) := by rintro ⟨h, -⟩; exact c1 h
          simp only [tiF, if_neg hne]
        · rw [upI_f rfl, upI_c, upI_f rfl, hpl1, hL.2.2.1 p hp]
        · have hval : ∀ a' : Nat, a' < 8 → upI M.1 32 k0 b (aAnd (M.1 32 k0 b) (aXor (aShl 1 w) (-1))) 32 k0 a' = bI 12 (fun p => decide (p ≠ w ∧ p < nPp Q ∧ plF Q n p = a')) := by
            intro a' ha'
            rw [upI_c]
            by_cases e : a' = b
            · subst e
              rw [if_pos rfl, hL.2.2.2 a' ha']
              refine bI_of (by omega) (aAnd_in _ _) fun i hi => ?_
              rw [tb_and, tb_bI (by omega), tb_not _ hi, tb_one_shl (by omega) (by omega)]
              by_cases e2 : i = w
              · subst e2; simp
              · have e3 : ¬ ((i : Int) = w) := by omega
                simp [e2, e3]
            · rw [if_neg e, hL.2.2.2 a' ha']
              refine bI_ext fun i hi => ?_
              by_cases e2 : i = w
              · subst e2
                have : ¬ (plF Q n i = (a' : Int)) := by omega
                simp [this]
              · simp [e2]
          rw [upI_c]
          by_cases e : b' = a
          · subst e
            rw [if_pos rfl, hval b' hb']
            refine bI_of (by omega) (aOr_in _ _) fun i hi => ?_
            rw [tb_or, tb_bI (by omega), tb_one_shl (by omega) (by omega), hpl1]
            by_cases e2 : i = w
            · subst e2; simp [hwp, hw12]
            · have e3 : ¬ ((i : Int) = w) := by omega
              simp [e2, e3]
          · rw [if_neg e, upI_f rfl, hval b' hb']
            refine bI_ext fun i hi => ?_
            rw [hpl1]
            by_cases e2 : i = w
            · subst e2
              have : ¬ ((a : Int) = (b' : Int)) := by omega
              simp [this]
            · simp [e2]
theorem KX7_follow {Q : QT} {M : Mem} {k0 k1 n : Nat} (hne : k1 ≠ k0) (hS : Sh M.2.1) (hw : WFc Q) (hn : n < nCh Q) (hL : Snap Q M.1 k1 n) :
    ∃ I', Cl l G (d + 1) mX7_follow [vR (some (14, k0)), vR (some (14, k1)), vI (pk Q (srt Q n))] M none (I', M.2.1, M.2.2) ∧ sameS k0 M.1 I' ∧ Snap Q I' k0 (n + 1) := by
  obtain ⟨e1, e2, e3, e4, e5, e6⟩ := pkQ_in hw (srt_lt hn)
  obtain ⟨hc1, hc2⟩ := hL.copy hne (nPp_le hw)
  obtain ⟨I2, hx, hs2, hL2⟩ := follow_106 (l := l) (G := G) (d := d) (M := (cpI (cpI (cpI (cpI M.1 29 k1 29 k0 0 0 10) 30 k1 30 k0 0 0 72) 31 k1 31 k0 0 0 12) 32 k1 32 k0 0 0 8, M.2.1, M.2.2)) (x2 := pk Q (srt Q n)) hne hS hw hn hc1
  refine ⟨I2, xX7_follow_0 hne hS ?_, hc2.tr hs2, hL2⟩
  rw [e2, e3, e4, e5, e6]
  exact hx
end FO
