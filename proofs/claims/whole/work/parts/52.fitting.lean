theorem seI_fam {I : IM} {f k : Nat} {g : Nat → Int} {f' : Nat} (h : f' ≠ f) : seI I f k g f' = I f' := by
  unfold seI
  rw [if_neg h]
theorem HoldsC.st {Q : QT} {I : IM} {F : Nat → Int} (h : HoldsC Q I) : HoldsC Q (seI I 82 0 F) := by
  refine ⟨fun f i hf => ?_, fun i hi => ?_⟩
  · rw [seI_fam (by omega)]; exact h.1 f i hf
  · rw [seI_fam (by omega)]; exact h.2 i hi
theorem HoldsV.st {Q : QT} {I : IM} {F : Nat → Int} (h : HoldsV Q I) : HoldsV Q (seI I 82 0 F) := fun f i hf => by
  rw [seI_fam (by omega)]; exact h f i hf
theorem Laid.st {Q : QT} {I : IM} {F : Nat → Int} {row n : Nat} (h : Laid Q I row n) : Laid Q (seI I 82 0 F) row n := by
  refine ⟨fun p hp => ?_, fun p t hp ht => ?_, fun p hp => ?_⟩
  · rw [seI_fam (by omega)]; exact h.1 p hp
  · rw [seI_fam (by omega)]; exact h.2.1 p t hp ht
  · rw [seI_fam (by omega)]; exact h.2.2 p hp
section FI
variable {l : Launch} {G : Gt} {d : Nat} {Q : QT} {M : Mem}
theorem fit_33 {n cv s row : Nat} {r : Int} {seen : Nat → Bool} (hS : Sh M.2.1) (hw : WFc Q) (hn : n ≤ nCh Q) (hH : HoldsC Q M.1) (hV : HoldsV Q M.1) (hL : Laid Q M.1 row n) (hr : row < 2) (hc : cv < 8) (hv : WFv Q cv) (hs : s < 12) : ∀ F, evI Q n s seen cv 0 F → ∃ F', Ex l G (d + 2) mX12_fitting 33 [some (vR (some (3, 0))), some (vI (cv : Int)), some (vI (s : Int)), some (vI r), some (vI (row : Int)), some (vI (bI 12 seen)), some (vI 0), some (vI (400 * (cv : Int))), none] [] (seI M.1 82 0 F, M.2.1, M.2.2) (some (vI (fitV Q n s seen cv))) (seI M.1 82 0 F', M.2.1, M.2.2) := by
  have hln : Q 79 cv = (ln Q cv : Int) := by have := hv.1; unfold ln; omega
  have h400 := hv.1
  have key : (fun k : Nat => ∀ F, evI Q n s seen cv k F → ∃ F', Ex l G (d + 2) mX12_fitting 33 [some (vR (some (3, 0))), some (vI (cv : Int)), some (vI (s : Int)), some (vI r), some (vI (row : Int)), some (vI (bI 12 seen)), some (vI (ht Q cv k : Int)), some (vI (400 * (cv : Int) + (k : Int))), none] [] (seI M.1 82 0 F, M.2.1, M.2.2) (some (vI (fitV Q n s seen cv))) (seI M.1 82 0 F', M.2.1, M.2.2)) 0 := by
    refine loopUp (P := fun k : Nat => ∀ F, evI Q n s seen cv k F → ∃ F', Ex l G (d + 2) mX12_fitting 33 [some (vR (some (3, 0))), some (vI (cv : Int)), some (vI (s : Int)), some (vI r), some (vI (row : Int)), some (vI (bI 12 seen)), some (vI (ht Q cv k : Int)), some (vI (400 * (cv : Int) + (k : Int))), none] [] (seI M.1 82 0 F, M.2.1, M.2.2) (some (vI (fitV Q n s seen cv))) (seI M.1 82 0 F', M.2.1, M.2.2)) 0 (ln Q cv) (Nat.zero_le _) ?_ ?_
    · intro k _ hk ih F hF
      have hVs := hV.st (F := F)
      have hHs := hH.st (F := F)
      have hLs := hL.st (F := F)
      have hkk := ht_le Q cv k
      have ei : (400 * (cv : Int) + (k : Int)).toNat = 400 * cv + k := by omega
      have q0 : seI M.1 82 0 F 79 0 cv = (ln Q cv : Int) := (hVs 79 cv (by omega)).trans hln
      have q1 : seI M.1 82 0 F 77 0 (400 * cv + k) = kd Q cv k := hVs 77 (400 * cv + k) (by omega)
      have q2 : seI M.1 82 0 F 78 0 (400 * cv + k) = nm Q cv k := hVs 78 (400 * cv + k) (by omega)
      have hts : ht Q cv (k + 1) = if kd Q cv k = 0 ∨ kd Q cv k = 1 ∨ kd Q cv k = 2 then ht Q cv k + 1 else if kd Q cv k = 3 ∨ kd Q cv k = 4 then ht Q cv k else ht Q cv k - 1 := rfl
      obtain ⟨w0, w1, w2, w3, w4, w5⟩ := hv.2.1 k hk
      have next : ∀ (t : Nat) (v h' : Int), t = tg Q cv k → v = bI 12 (vl Q n s seen (kd Q cv k) (nm Q cv k) (ev Q n s seen cv k (tg Q cv k)) (ev Q n s seen cv k (tg Q cv k + 1))) → h' = (ht Q cv (k + 1) : Int) → ∃ F', Ex l G (d + 2) mX12_fitting 33 [some (vR (some (3, 0))), some (vI (cv : Int)), some (vI (s : Int)), some (vI r), some (vI (row : Int)), some (vI (bI 12 seen)), some (vI h'), some (vI (400 * (cv : Int) + (k : Int) + 1)), none] [] (upI (seI M.1 82 0 F) 82 0 t v, M.2.1, M.2.2) (some (vI (fitV Q n s seen cv))) (seI M.1 82 0 F', M.2.1, M.2.2) := by
        intro t v h' e1 e2 e3
        subst e3
        rw [upI_seI]
        obtain ⟨F', h⟩ := ih _ (evI_step hF e1 e2)
        refine ⟨F', ?_⟩
        rw [show 400 * (cv : Int) + ((k + 1 : Nat) : Int) = 400 * (cv : Int) + (k : Int) + 1 by omega] at h
        exact h
      have ob : InR (400 * (cv : Int)) ∧ (0 ≤ (cv : Int) ∧ (cv : Int) < 8) ∧ InR (400 * (cv : Int) + seI M.1 82 0 F 79 0 ((cv : Int).toNat)) := by
        rw [Int.toNat_natCast, q0]
        unfold InR
        omega
      have hlt : ¬ (400 * (cv : Int) + seI M.1 82 0 F 79 0 ((cv : Int).toNat) ≤ 400 * (cv : Int) + (k : Int)) := by
        rw [Int.toNat_natCast, q0]; omega
      have hi1 : InR (400 * (cv : Int) + (k : Int) + 1) := by unfold InR; omega
      have hcase : kd Q cv k = 0 ∨ kd Q cv k = 1 ∨ kd Q cv k = 2 ∨ kd Q cv k = 3 ∨ kd Q cv k = 4 ∨ kd Q cv k = 5 ∨ kd Q cv k = 6 := by omega
      rcases hcase with c | c | c | c | c | c | c
      · have hts' : ht Q cv (k + 1) = ht Q cv k + 1 := by rw [hts, if_pos (.inl c)]
        have htg : tg Q cv k = ht Q cv k := by unfold tg; omega
        have hm := w1 c
        have em : nm Q cv k = ((nm Q cv k).toNat : Int) := by omega
        obtain ⟨F', h⟩ := next (ht Q cv k) (aAnd (bI 12 (fun p => mkF Q n p (nm Q cv k).toNat)) (bI 12 seen)) ((ht Q cv k : Int) + 1) htg.symm (by
          rw [bI_and (by omega), c]
          exact bI_ext fun i _ => by simp [vl]) (by omega)
        refine ⟨F', xX12_fitting_33 hS ⟨ob, fun c2 => absurd c2 hlt, fun _ => ⟨by omega, ?_⟩⟩⟩
        dsimp only
        rw [ei, q1, q2, c]
        refine ⟨fun c2 => absurd c2 (by omega), fun _ => ⟨bI 12 (fun p => mkF Q n p (nm Q cv k).toNat), (seI M.1 82 0 F, M.2.1, M.2.2), ?_, ⟨by omega, by unfold InR; omega, hi1⟩, ?_⟩, fun c2 => absurd c2 (by omega), fun c2 => absurd c2 (by omega), fun c2 => absurd c2 (by omega), fun c2 => absurd c2 (by omega), fun c2 => absurd c2 (by omega)⟩
        · have h3 := KX12_markedSet (l := l) (G := G) (d := d) (M := (seI M.1 82 0 F, M.2.1, M.2.2)) (m := (nm Q cv k).toNat) hS hw hn hHs hLs hr (by omega)
          rw [← em] at h3
          exact h3
        · rw [Int.toNat_natCast]; exact h
      · have hts' : ht Q cv (k + 1) = ht Q cv k + 1 := by rw [hts, if_pos (.inr (.inl c))]
        have htg : tg Q cv k = ht Q cv k := by unfold tg; omega
        have hm := w2 c
        have em : nm Q cv k = ((nm Q cv k).toNat : Int) := by omega
        obtain ⟨F', h⟩ := next (ht Q cv k) (aAnd (bI 12 (fun p => decide (p < nPp Q ∧ plF Q n p = nm Q cv k))) (bI 12 seen)) ((ht Q cv k : Int) + 1) htg.symm (by
          rw [bI_and (by omega), c]
          exact bI_ext fun i _ => by simp [vl]) (by omega)
        refine ⟨F', xX12_fitting_33 hS ⟨ob, fun c2 => absurd c2 hlt, fun _ => ⟨by omega, ?_⟩⟩⟩
        dsimp only
        rw [ei, q1, q2, c]
        refine ⟨fun c2 => absurd c2 (by omega), fun c2 => absurd c2 (by omega), fun _ => ⟨bI 12 (fun p => decide (p < nPp Q ∧ plF Q n p = nm Q cv k)), (seI M.1 82 0 F, M.2.1, M.2.2), ?_, ⟨by omega, by unfold InR; omega, hi1⟩, ?_⟩, fun c2 => absurd c2 (by omega), fun c2 => absurd c2 (by omega), fun c2 => absurd c2 (by omega), fun c2 => absurd c2 (by omega)⟩
        · have h3 := KX12_standing (l := l) (G := G) (d := d + 1) (M := (seI M.1 82 0 F, M.2.1, M.2.2)) (a := (nm Q cv k).toNat) hS hw hHs hLs hr
          rw [← em] at h3
          exact h3
        · rw [Int.toNat_natCast]; exact h
      · have hts' : ht Q cv (k + 1) = ht Q cv k + 1 := by rw [hts, if_pos (.inr (.inr c))]
        have htg : tg Q cv k = ht Q cv k := by unfold tg; omega
        obtain ⟨F', h⟩ := next (ht Q cv k) (aAnd (aShl 1 (s : Int)) (bI 12 seen)) ((ht Q cv k : Int) + 1) htg.symm (by
          rw [bI_one (n := 12) (by omega) hs, bI_and (by omega), c]
          exact bI_ext fun i _ => by simp [vl]) (by omega)
        refine ⟨F', xX12_fitting_33 hS ⟨ob, fun c2 => absurd c2 hlt, fun _ => ⟨by omega, ?_⟩⟩⟩
        dsimp only
        rw [ei, q1, q2, c]
        refine ⟨fun c2 => absurd c2 (by omega), fun c2 => absurd c2 (by omega), fun c2 => absurd c2 (by omega), fun _ => ⟨⟨by omega, by omega, by unfold InR; omega, hi1⟩, ?_⟩, fun c2 => absurd c2 (by omega), fun c2 => absurd c2 (by omega), fun c2 => absurd c2 (by omega)⟩
        rw [Int.toNat_natCast]; exact h
      · have hts' : ht Q cv (k + 1) = ht Q cv k := by rw [hts, if_neg (show ¬ (kd Q cv k = 0 ∨ kd Q cv k = 1 ∨ kd Q cv k = 2) by omega), if_pos (.inl c)]
        have h1 := w4 (by omega)
        have htg : tg Q cv k = ht Q cv k - 1 := by unfold tg; omega
        have et : ((ht Q cv k : Int) - 1).toNat = ht Q cv k - 1 := by omega
        have hA := hF (ht Q cv k - 1) (by omega)
        obtain ⟨F', h⟩ := next (ht Q cv k - 1) (aAnd (bI 12 seen) (aXor (F (ht Q cv k - 1)) (-1))) (ht Q cv k : Int) htg.symm (by
          rw [hA, bI_diff (by omega), c, htg]
          exact bI_ext fun i _ => by simp [vl]) (by omega)
        refine ⟨F', xX12_fitting_33 hS ⟨ob, fun c2 => absurd c2 hlt, fun _ => ⟨by omega, ?_⟩⟩⟩
        dsimp only
        rw [ei, q1, q2, c]
        refine ⟨fun c2 => absurd c2 (by omega), fun c2 => absurd c2 (by omega), fun c2 => absurd c2 (by omega), fun c2 => absurd c2 (by omega), fun _ => ⟨⟨by unfold InR; omega, by omega, hi1⟩, ?_⟩, fun c2 => absurd c2 (by omega), fun c2 => absurd c2 (by omega)⟩
        rw [et, seI_s]; exact h
      · have hts' : ht Q cv (k + 1) = ht Q cv k := by rw [hts, if_neg (show ¬ (kd Q cv k = 0 ∨ kd Q cv k = 1 ∨ kd Q cv k = 2) by omega), if_pos (.inr c)]
        have h1 := w4 (by omega)
        have hm := w3 c
        have em : nm Q cv k = ((nm Q cv k).toNat : Int) := by omega
        have htg : tg Q cv k = ht Q cv k - 1 := by unfold tg; omega
        have et : ((ht Q cv k : Int) - 1).toNat = ht Q cv k - 1 := by omega
        have hA := hF (ht Q cv k - 1) (by omega)
        obtain ⟨F', h⟩ := next (ht Q cv k - 1) (aAnd (bI 12 (fun p => decide (p < nPp Q ∧ ¬ aAnd (bI 12 (fun q => tiF Q n p (nm Q cv k).toNat q)) (F (ht Q cv k - 1)) = 0))) (bI 12 seen)) (ht Q cv k : Int) htg.symm (by
          rw [hA, bI_and (by omega), c, htg]
          exact bI_ext fun i _ => by simp [vl]) (by omega)
        refine ⟨F', xX12_fitting_33 hS ⟨ob, fun c2 => absurd c2 hlt, fun _ => ⟨by omega, ?_⟩⟩⟩
        dsimp only
        rw [ei, q1, q2, c]
        refine ⟨fun c2 => absurd c2 (by omega), fun c2 => absurd c2 (by omega), fun c2 => absurd c2 (by omega), fun c2 => absurd c2 (by omega), fun c2 => absurd c2 (by omega), fun _ => ⟨⟨by unfold InR; omega, by omega⟩, bI 12 (fun p => decide (p < nPp Q ∧ ¬ aAnd (bI 12 (fun q => tiF Q n p (nm Q cv k).toNat q)) (F (ht Q cv k - 1)) = 0)), (seI M.1 82 0 F, M.2.1, M.2.2), ?_, ⟨by omega, hi1⟩, ?_⟩, fun c2 => absurd c2 (by omega)⟩
        · have h3 := KX12_tiedSet (l := l) (G := G) (d := d + 1) (M := (seI M.1 82 0 F, M.2.1, M.2.2)) (t := (nm Q cv k).toNat) (to := F (ht Q cv k - 1)) hS hw hn hHs hLs hr (by omega)
          rw [← em] at h3
          rw [et, seI_s]
          exact h3
        · rw [et]; exact h
      · have h2 := w5 (by omega)
        have hts' : ht Q cv (k + 1) = ht Q cv k - 1 := by rw [hts, if_neg (show ¬ (kd Q cv k = 0 ∨ kd Q cv k = 1 ∨ kd Q cv k = 2) by omega), if_neg (show ¬ (kd Q cv k = 3 ∨ kd Q cv k = 4) by omega)]
        have htg : tg Q cv k = ht Q cv k - 2 := by unfold tg; omega
        have et : ((ht Q cv k : Int) + (-1) - 1).toNat = ht Q cv k - 2 := by omega
        have et2 : ((ht Q cv k : Int) + (-1)).toNat = ht Q cv k - 2 + 1 := by omega
        have hA := hF (ht Q cv k - 2) (by omega)
        have hB := hF (ht Q cv k - 2 + 1) (by omega)
        obtain ⟨F', h⟩ := next (ht Q cv k - 2) (aAnd (F (ht Q cv k - 2)) (F (ht Q cv k - 2 + 1))) ((ht Q cv k : Int) + (-1)) htg.symm (by
          rw [hA, hB, bI_and (by omega), c, htg]
          exact bI_ext fun i _ => by simp [vl]) (by omega)
        refine ⟨F', xX12_fitting_33 hS ⟨ob, fun c2 => absurd c2 hlt, fun _ => ⟨by omega, ?_⟩⟩⟩
        dsimp only
        rw [ei, q1, q2, c]
        refine ⟨fun c2 => absurd c2 (by omega), fun c2 => absurd c2 (by omega), fun c2 => absurd c2 (by omega), fun c2 => absurd c2 (by omega), fun c2 => absurd c2 (by omega), fun c2 => absurd c2 (by omega), fun _ => ⟨⟨by unfold InR; omega, by unfold InR; omega, by omega, by omega, hi1⟩, ?_⟩⟩
        rw [et, et2, seI_s]; exact h
      · have h2 := w5 (by omega)
        have hts' : ht Q cv (k + 1) = ht Q cv k - 1 := by rw [hts, if_neg (show ¬ (kd Q cv k = 0 ∨ kd Q cv k = 1 ∨ kd Q cv k = 2) by omega), if_neg (show ¬ (kd Q cv k = 3 ∨ kd Q cv k = 4) by omega)]
        have htg : tg Q cv k = ht Q cv k - 2 := by unfold tg; omega
        have et : ((ht Q cv k : Int) + (-1) - 1).toNat = ht Q cv k - 2 := by omega
        have et2 : ((ht Q cv k : Int) + (-1)).toNat = ht Q cv k - 2 + 1 := by omega
        have hA := hF (ht Q cv k - 2) (by omega)
        have hB := hF (ht Q cv k - 2 + 1) (by omega)
        obtain ⟨F', h⟩ := next (ht Q cv k - 2) (aOr (F (ht Q cv k - 2)) (F (ht Q cv k - 2 + 1))) ((ht Q cv k : Int) + (-1)) htg.symm (by
          rw [hA, hB, bI_or (by omega), c, htg]
          exact bI_ext fun i _ => by simp [vl]) (by omega)
        refine ⟨F', xX12_fitting_33 hS ⟨ob, fun c2 => absurd c2 hlt, fun _ => ⟨by omega, ?_⟩⟩⟩
        dsimp only
        rw [ei, q1, q2, c]
        refine ⟨fun _ => ⟨⟨by unfold InR; omega, by unfold InR; omega, by omega, by omega, hi1⟩, ?_⟩, fun c2 => absurd c2 (by omega), fun c2 => absurd c2 (by omega), fun c2 => absurd c2 (by omega), fun c2 => absurd c2 (by omega), fun c2 => absurd c2 (by omega), fun c2 => absurd c2 (by omega)⟩
        rw [et, et2, seI_s]; exact h
    · intro F hF
      have hVs := hV.st (F := F)
      have q0 : seI M.1 82 0 F 79 0 cv = (ln Q cv : Int) := (hVs 79 cv (by omega)).trans hln
      have q3 : seI M.1 82 0 F 83 0 cv = Q 83 cv := hVs 83 cv (by omega)
      have h1 := hv.2.2
      have hz : F 0 = bI 12 (evS Q n s seen cv) := hF 0 (by omega)
      refine ⟨F, xX12_fitting_33 hS ⟨?_, fun _ => ⟨by omega, ?_⟩, fun c2 => absurd ?_ c2⟩⟩
      · dsimp only
        rw [Int.toNat_natCast, q0]
        unfold InR
        omega
      · dsimp only
        rw [Int.toNat_natCast, q3, seI_s, hz]
        unfold fitV
        refine ⟨fun c => ⟨by rw [if_pos c], rfl⟩, fun c => ⟨_, _, KX12_bits (by omega), ?_, rfl⟩⟩
        rw [if_neg c]
      · dsimp only
        rw [Int.toNat_natCast, q0]
        exact Int.le_refl _
  intro F hF
  obtain ⟨F', h⟩ := key F hF
  refine ⟨F', ?_⟩
  rw [show 400 * (cv : Int) + ((0 : Nat) : Int) = 400 * (cv : Int) by omega] at h
  exact h
end FI
