set_option maxRecDepth 4000 in
theorem xX12_fits_0 {l : Launch} {G : Gt} {d : Nat} {M M' : Mem} {r : Option Vl} {x1 : Int} {x2 : Int} {x3 : Int} {x4 : Int} {x5 : Int} (hS : Sh M.2.1) (h : 
    (InR ((M.1 3 0 33) - 1)) ∧ ((¬ (0 ≤ x1 ∧ x1 < (M.1 3 0 33)) → r = some (vI (-2)) ∧ M' = M) ∧ (0 ≤ x1 ∧ x1 < (M.1 3 0 33) → (InR ((M.1 48 0 0) - 1)) ∧ ((¬ (0 ≤ x2 ∧ x2 < (M.1 48 0 0)) → r = some (vI (-2)) ∧ M' = M) ∧ (0 ≤ x2 ∧ x2 < (M.1 48 0 0) → (¬ (0 ≤ x3 ∧ x3 ≤ 999) → r = some (vI (-2)) ∧ M' = M) ∧ (0 ≤ x3 ∧ x3 ≤ 999 → (¬ (0 ≤ x4 ∧ x4 ≤ 999) → r = some (vI (-2)) ∧ M' = M) ∧ (0 ≤ x4 ∧ x4 ≤ 999 → (x5 = (-1) → ∃ (M_3 : Mem), Cl l G (d + 1) mX12_lays [vR (some (3, 0)), vI 0, vI x3] M none M_3 ∧ (∃ (M_5 : Mem), Cl l G (d + 1) mX12_lays [vR (some (3, 0)), vI 1, vI x4] M_3 none M_5 ∧ (∃ (r_9 : Int) (M_7 : Mem), Cl l G (d + 1) mX12_fitting [vR (some (3, 0)), vI x1, vI x2, vI x5] M_5 (some (vI r_9)) M_7 ∧ r = some (vI r_9) ∧ M' = M_7))) ∧ (¬ (x5 = (-1)) → (InR ((M.1 48 0 0) - 1)) ∧ ((0 ≤ x5 ∧ x5 < (M.1 48 0 0) → ∃ (M_11 : Mem), Cl l G (d + 1) mX12_lays [vR (some (3, 0)), vI 0, vI x3] M none M_11 ∧ (∃ (M_13 : Mem), Cl l G (d + 1) mX12_lays [vR (some (3, 0)), vI 1, vI x4] M_11 none M_13 ∧ (∃ (r_17 : Int) (M_15 : Mem), Cl l G (d + 1) mX12_fitting [vR (some (3, 0)), vI x1, vI x2, vI x5] M_13 (some (vI r_17)) M_15 ∧ r = some (vI r_17) ∧ M' = M_15))) ∧ (¬ (0 ≤ x5 ∧ x5 < (M.1 48 0 0)) → r = some (vI (-2)) ∧ M' = M)))))))))) : Cl l G (d + 2) mX12_fits [vR (some (3, 0)), vI x1, vI x2, vI x3, vI x4, vI x5] M r M' := by
  show Ex l G (d + 2) mX12_fits 0 [some (vR (some (3, 0))), some (vI x1), some (vI x2), some (vI x3), some (vI x4), some (vI x5)] [] M r M'
  obtain ⟨o_1, h⟩ := h
  refine r_aload_n 1 dX12_fits_0 rfl rfl ?_
  refine r_iload_n 2 dX12_fits_1 rfl rfl ?_
  refine v_1 (ci := 12) (C := (RX12, TX12, 68)) [vI x1] [] 5 dX12_fits_2 rfl rfl rfl rfl rfl mo_X12_isCover ml_12_331 rfl rfl (KX12_isCover o_1) ?_
  refine r_if_eq 8 46 dX12_fits_5 rfl rfl (fun c => ?_) (fun c => ?_)
  · have h := h.1 (b2_0.mp c)
    refine r_bipush 48 dX12_fits_46 rfl rfl ?_
    exact r_iret dX12_fits_48 rfl (.inl rfl) h.1 h.2
  · have h := h.2 (b2_1.mp c)
    obtain ⟨o_2, h⟩ := h
    refine r_aload_n 9 dX12_fits_8 rfl rfl ?_
    refine r_iload_n 10 dX12_fits_9 rfl rfl ?_
    refine v_1 (ci := 12) (C := (RX12, TX12, 68)) [vI x2] [] 13 dX12_fits_10 rfl rfl rfl rfl rfl mo_X12_isPerson ml_12_175 rfl rfl (KX12_isPerson hS o_2) ?_
    refine r_if_eq 16 46 dX12_fits_13 rfl rfl (fun c => ?_) (fun c => ?_)
    · have h := h.1 (b2_0.mp c)
      refine r_bipush 48 dX12_fits_46 rfl rfl ?_
      exact r_iret dX12_fits_48 rfl (.inl rfl) h.1 h.2
    · have h := h.2 (b2_1.mp c)
      refine r_iload_n 17 dX12_fits_16 rfl rfl ?_
      refine c_1 [vI x3] [] 20 dX12_fits_17 rfl rfl mo_X12_isDay ml_12_170 rfl rfl (KX12_isDay) ?_
      refine r_if_eq 23 46 dX12_fits_20 rfl rfl (fun c => ?_) (fun c => ?_)
      · have h := h.1 (b2_0.mp c)
        refine r_bipush 48 dX12_fits_46 rfl rfl ?_
        exact r_iret dX12_fits_48 rfl (.inl rfl) h.1 h.2
      · have h := h.2 (b2_1.mp c)
        refine r_iload 25 dX12_fits_23 rfl rfl ?_
        refine c_1 [vI x4] [] 28 dX12_fits_25 rfl rfl mo_X12_isDay ml_12_170 rfl rfl (KX12_isDay) ?_
        refine r_if_eq 31 46 dX12_fits_28 rfl rfl (fun c => ?_) (fun c => ?_)
        · have h := h.1 (b2_0.mp c)
          refine r_bipush 48 dX12_fits_46 rfl rfl ?_
          exact r_iret dX12_fits_48 rfl (.inl rfl) h.1 h.2
        · have h := h.2 (b2_1.mp c)
          refine r_iload 33 dX12_fits_31 rfl rfl ?_
          refine r_iconst 34 dX12_fits_33 rfl (InR_of rfl) ?_
          refine r_icmp_eq 37 49 dX12_fits_34 rfl rfl (fun c => ?_) (fun c => ?_)
          · have h := h.1 (c)
            refine r_aload_n 50 dX12_fits_49 rfl rfl ?_
            refine r_iconst 51 dX12_fits_50 rfl (InR_of rfl) ?_
            refine r_iload_n 52 dX12_fits_51 rfl rfl ?_
            obtain ⟨M_3, hc_4, h⟩ := h
            refine v_0 (ci := 12) (C := (RX12, TX12, 68)) [vI 0, vI x3] [] 55 dX12_fits_52 rfl rfl rfl rfl rfl mo_X12_lays ml_12_198 rfl rfl hc_4 ?_
            refine r_aload_n 56 dX12_fits_55 rfl rfl ?_
            refine r_iconst 57 dX12_fits_56 rfl (InR_of rfl) ?_
            refine r_iload 59 dX12_fits_57 rfl rfl ?_
            obtain ⟨M_5, hc_6, h⟩ := h
            refine v_0 (ci := 12) (C := (RX12, TX12, 68)) [vI 1, vI x4] [] 62 dX12_fits_59 rfl rfl rfl rfl rfl mo_X12_lays ml_12_198 rfl rfl hc_6 ?_
            refine r_aload_n 63 dX12_fits_62 rfl rfl ?_
            refine r_iload_n 64 dX12_fits_63 rfl rfl ?_
            refine r_iload_n 65 dX12_fits_64 rfl rfl ?_
            refine r_iload 67 dX12_fits_65 rfl rfl ?_
            obtain ⟨r_9, M_7, hc_8, h⟩ := h
            refine v_1 (ci := 12) (C := (RX12, TX12, 68)) [vI x1, vI x2, vI x5] [] 70 dX12_fits_67 rfl rfl rfl rfl rfl mo_X12_fitting ml_12_334 rfl rfl hc_8 ?_
            exact r_iret dX12_fits_70 rfl (.inl rfl) h.1 h.2
          · have h := h.2 (c)
            obtain ⟨o_10, h⟩ := h
            refine r_aload_n 38 dX12_fits_37 rfl rfl ?_
            refine r_iload 40 dX12_fits_38 rfl rfl ?_
            refine v_1 (ci := 12) (C := (RX12, TX12, 68)) [vI x5] [] 43 dX12_fits_40 rfl rfl rfl rfl rfl mo_X12_isPerson ml_12_175 rfl rfl (KX12_isPerson hS o_10) ?_
            refine r_if_ne 46 49 dX12_fits_43 rfl rfl (fun c => ?_) (fun c => ?_)
            · have h := h.1 (b2_1.mp c)
              refine r_aload_n 50 dX12_fits_49 rfl rfl ?_
              refine r_iconst 51 dX12_fits_50 rfl (InR_of rfl) ?_
              refine r_iload_n 52 dX12_fits_51 rfl rfl ?_
              obtain ⟨M_11, hc_12, h⟩ := h
              refine v_0 (ci := 12) (C := (RX12, TX12, 68)) [vI 0, vI x3] [] 55 dX12_fits_52 rfl rfl rfl rfl rfl mo_X12_lays ml_12_198 rfl rfl hc_12 ?_
              refine r_aload_n 56 dX12_fits_55 rfl rfl ?_
              refine r_iconst 57 dX12_fits_56 rfl (InR_of rfl) ?_
              refine r_iload 59 dX12_fits_57 rfl rfl ?_
              obtain ⟨M_13, hc_14, h⟩ := h
              refine v_0 (ci := 12) (C := (RX12, TX12, 68)) [vI 1, vI x4] [] 62 dX12_fits_59 rfl rfl rfl rfl rfl mo_X12_lays ml_12_198 rfl rfl hc_14 ?_
              refine r_aload_n 63 dX12_fits_62 rfl rfl ?_
              refine r_iload_n 64 dX12_fits_63 rfl rfl ?_
              refine r_iload_n 65 dX12_fits_64 rfl rfl ?_
              refine r_iload 67 dX12_fits_65 rfl rfl ?_
              obtain ⟨r_17, M_15, hc_16, h⟩ := h
              refine v_1 (ci := 12) (C := (RX12, TX12, 68)) [vI x1, vI x2, vI x5] [] 70 dX12_fits_67 rfl rfl rfl rfl rfl mo_X12_fitting ml_12_334 rfl rfl hc_16 ?_
              exact r_iret dX12_fits_70 rfl (.inl rfl) h.1 h.2
            · have h := h.2 (b2_0.mp (Decidable.not_not.mp c))
              refine r_bipush 48 dX12_fits_46 rfl rfl ?_
              exact r_iret dX12_fits_48 rfl (.inl rfl) h.1 h.2

/-- what the reference may write while it answers -/
def scr (f i : Nat) : Prop := f = 71 ∨ f = 72 ∨ f = 73 ∨ f = 75 ∨ f = 82 ∨ f = 85 ∨ f = 86 ∨ f = 87 ∨ f = 88 ∨ f = 89 ∨ f = 80 ∨ f = 81 ∨ (f = 3 ∧ ¬ i = 29 ∧ ¬ i = 33 ∧ ¬ i = 0)
def frM (I I' : IM) : Prop := ∀ f k i, ¬ (scr f i ∧ k = 0) → I' f k i = I f k i
theorem frM.rf {I : IM} : frM I I := fun _ _ _ _ => rfl
theorem frM.tr {I I' I'' : IM} (h : frM I I') (h' : frM I' I'') : frM I I'' := fun f k i hn => (h' f k i hn).trans (h f k i hn)
theorem frM.se {I : IM} {f : Nat} {g : Nat → Int} (h : ∀ i, scr f i) : frM I (seI I f 0 g) := fun f' k i hn => by
  by_cases e : f' = f
  · subst e
    by_cases e2 : k = 0
    · exact absurd ⟨h i, e2⟩ hn
    · unfold seI; rw [if_pos rfl, if_neg e2]
  · rw [seI_fam e]
theorem frM.ll {I I' : IM} {row : Nat} (h : sameL row I I') : frM I I' := fun f k i hn => h f k i fun c => hn (by
  unfold scr
  omega)
theorem HoldsC.fr {Q : QT} {I I' : IM} (h : HoldsC Q I) (hf : frM I I') : HoldsC Q I' := by
  refine ⟨fun f i hh => ?_, fun i hi => ?_⟩
  · rw [hf f 0 i (by unfold scr; omega)]; exact h.1 f i hh
  · rw [hf 74 0 i (by unfold scr; omega)]; exact h.2 i hi
theorem HoldsV.fr {Q : QT} {I I' : IM} (h : HoldsV Q I) (hf : frM I I') : HoldsV Q I' := fun f i hh => by
  rw [hf f 0 i (by unfold scr; omega)]; exact h f i hh
theorem HoldsR.fr {Q : QT} {I I' : IM} (h : HoldsR Q I) (hf : frM I I') : HoldsR Q I' := fun f i hh => by
  rw [hf f 0 i (by unfold scr; omega)]; exact h f i hh
section FS
variable {l : Launch} {G : Gt} {d : Nat} {Q : QT} {M : Mem}
theorem KX12_fitting {n0 n1 cv s : Nat} {r : Int} (hS : Sh M.2.1) (hw : WFc Q) (hk : WFk Q) (h0 : n0 ≤ nCh Q) (h1 : n1 ≤ nCh Q) (hH : HoldsC Q M.1) (hV : HoldsV Q M.1) (hL0 : Laid Q M.1 0 n0) (hL1 : Laid Q M.1 1 n1) (hc : cv < 8) (hv : WFv Q cv) (hs : s < 12) (hr : r = -1 ∨ (0 ≤ r ∧ r < 12)) : ∃ F', Cl l G (d + 2) mX12_fitting [vR (some (3, 0)), vI (cv : Int), vI (s : Int), vI r] M (some (vI (fitV Q (if Q 84 cv = 0 then n0 else n1) s (snF Q n1 r) cv))) (seI M.1 82 0 F', M.2.1, M.2.2) := by
  have e := hV 84 cv (by omega)
  have hs1 := KX12_seenBy (l := l) (G := G) (d := d) hS hw hk h1 hH hV hL1 hr
  by_cases c : Q 84 cv = 0
  · obtain ⟨F', h⟩ := fit_33 (l := l) (G := G) (d := d) (r := r) (seen := snF Q n1 r) hS hw h0 hH hV hL0 (by omega) hc hv hs (M.1 82 0) (fun i hi => by unfold ht at hi; omega)
    rw [seI_self] at h
    refine ⟨F', xX12_fitting_0 hS ⟨by omega, _, M, hs1, by unfold InR; omega, ?_⟩⟩
    rw [Int.toNat_natCast, e, if_pos c, if_pos c]
    exact h
  · obtain ⟨F', h⟩ := fit_33 (l := l) (G := G) (d := d) (r := r) (seen := snF Q n1 r) hS hw h1 hH hV hL1 (by omega) hc hv hs (M.1 82 0) (fun i hi => by unfold ht at hi; omega)
    rw [seI_self] at h
    refine ⟨F', xX12_fitting_0 hS ⟨by omega, _, M, hs1, by unfold InR; omega, ?_⟩⟩
    rw [Int.toNat_natCast, e, if_neg c, if_neg c]
    exact h
def nCv (Q : QT) : Nat := (Q 3 33).toNat
def WFV (Q : QT) : Prop := (0 ≤ Q 3 33 ∧ Q 3 33 ≤ 8) ∧ ∀ c, c < nCv Q → WFv Q c
/-- the reference holds Q -/
def HoldsM (Q : QT) (I : IM) : Prop := HoldsC Q I ∧ HoldsV Q I ∧ HoldsR Q I ∧ I 3 0 33 = Q 3 33 ∧ I 3 0 29 = Q 3 29
theorem HoldsM.fr {Q : QT} {I I' : IM} (h : HoldsM Q I) (hf : frM I I') : HoldsM Q I' := ⟨h.1.fr hf, h.2.1.fr hf, h.2.2.1.fr hf, by rw [hf _ _ _ (by unfold scr; omega)]; exact h.2.2.2.1, by rw [hf _ _ _ (by unfold scr; omega)]; exact h.2.2.2.2⟩
def fitsV (Q : QT) (c s sent day r : Int) : Int := if (0 ≤ c ∧ c < nCv Q) ∧ (0 ≤ s ∧ s < nPp Q) ∧ (0 ≤ sent ∧ sent ≤ 999) ∧ (0 ≤ day ∧ day ≤ 999) ∧ (r = -1 ∨ (0 ≤ r ∧ r < nPp Q)) then fitV Q (if Q 84 c.toNat = 0 then dn Q sent else dn Q day) s.toNat (snF Q (dn Q day) r) c.toNat else -2
theorem dn_le (Q : QT) (x : Int) : dn Q x ≤ nCh Q := dnF_le (fun i => Q 56 (srt Q i)) x (nCh Q)
/-- two days laid, then a cover asked -/
theorem fits_go {c s : Nat} {sent day r : Int} (hS : Sh M.2.1) (hw : WFc Q) (hk : WFk Q) (hV : WFV Q) (hH : HoldsM Q M.1) (hc : c < nCv Q) (hs : s < nPp Q) (hr : r = -1 ∨ (0 ≤ r ∧ r < 12)) : ∃ I1 I2 I3, Cl l G (d + 2) mX12_lays [vR (some (3, 0)), vI 0, vI sent] M none (I1, M.2.1, M.2.2) ∧ Cl l G (d + 2) mX12_lays [vR (some (3, 0)), vI 1, vI day] (I1, M.2.1, M.2.2) none (I2, M.2.1, M.2.2) ∧ Cl l G (d + 2) mX12_fitting [vR (some (3, 0)), vI (c : Int), vI (s : Int), vI r] (I2, M.2.1, M.2.2) (some (vI (fitV Q (if Q 84 c = 0 then dn Q sent else dn Q day) s (snF Q (dn Q day) r) c))) (I3, M.2.1, M.2.2) ∧ frM M.1 I3 := by
  have h12 := nPp_le hw
  have hc8 : c < 8 := by have := hV.1; unfold nCv at hc; omega
  obtain ⟨I1, c1, s1, L1⟩ := KX12_lays (l := l) (G := G) (d := d) (row := 0) (x2 := sent) hS hw hH.1 (by omega)
  have hH1 := hH.fr (frM.ll s1)
  obtain ⟨I2, c2, s2, L2⟩ := KX12_lays (l := l) (G := G) (d := d) (M := (I1, M.2.1, M.2.2)) (row := 1) (x2 := day) hS hw hH1.1 (by omega)
  have hH2 := hH1.fr (frM.ll s2)
  have L1' := Laid.same (row' := 1) L1 (by omega) (by omega) (by omega) s2
  obtain ⟨F', c3⟩ := KX12_fitting (l := l) (G := G) (d := d) (M := (I2, M.2.1, M.2.2)) (cv := c) (s := s) (r := r) hS hw hk (dn_le Q sent) (dn_le Q day) hH2.1 hH2.2.1 L1' L2 hc8 (hV.2 c hc) (by omega) hr
  exact ⟨I1, I2, _, c1, c2, c3, ((frM.ll s1).tr (frM.ll s2)).tr (frM.se fun i => by unfold scr; omega)⟩
theorem KX12_fits {c s sent day r : Int} (hS : Sh M.2.1) (hw : WFc Q) (hk : WFk Q) (hV : WFV Q) (hH : HoldsM Q M.1) : ∃ I', Cl l G (d + 3) mX12_fits [vR (some (3, 0)), vI c, vI s, vI sent, vI day, vI r] M (some (vI (fitsV Q c s sent day r))) (I', M.2.1, M.2.2) ∧ frM M.1 I' := by
  have h12 := nPp_le hw
  have hpp := nPp_eq hw
  have e1 := hH.1.1 48 0 (by omega)
  have e2 : M.1 3 0 33 = (nCv Q : Int) := by rw [hH.2.2.2.1]; have := hV.1; unfold nCv; omega
  have hn8 : nCv Q ≤ 8 := by have := hV.1; unfold nCv; omega
  rw [hpp] at e1
  by_cases g : (0 ≤ c ∧ c < nCv Q) ∧ (0 ≤ s ∧ s < nPp Q) ∧ (0 ≤ sent ∧ sent ≤ 999) ∧ (0 ≤ day ∧ day ≤ 999) ∧ (r = -1 ∨ (0 ≤ r ∧ r < nPp Q))
  · obtain ⟨g1, g2, g3, g4, g5⟩ := g
    obtain ⟨I1, I2, I3, k1, k2, k3, hf⟩ := fits_go (l := l) (G := G) (d := d) (c := c.toNat) (s := s.toNat) (sent := sent) (day := day) (r := r) hS hw hk hV hH (by omega) (by omega) (by omega)
    rw [show ((c.toNat : Nat) : Int) = c by omega, show ((s.toNat : Nat) : Int) = s by omega] at k3
    have ev : fitsV Q c s sent day r = fitV Q (if Q 84 c.toNat = 0 then dn Q sent else dn Q day) s.toNat (snF Q (dn Q day) r) c.toNat := by unfold fitsV; rw [if_pos ⟨g1, g2, g3, g4, g5⟩]
    rw [ev]
    refine ⟨I3, xX12_fits_0 hS ?_, hf⟩
    rw [e1, e2]
    refine ⟨by unfold InR; omega, fun a => absurd g1 a, fun _ => ⟨by unfold InR; omega, fun a => absurd g2 a, fun _ => ⟨fun a => absurd g3 a, fun _ => ⟨fun a => absurd g4 a, fun _ => ⟨fun _ => ⟨_, k1, _, k2, _, _, k3, rfl, rfl⟩, fun a => ⟨by unfold InR; omega, fun _ => ⟨_, k1, _, k2, _, _, k3, rfl, rfl⟩, fun b => absurd (by omega) b⟩⟩⟩⟩⟩⟩
  · have ev : fitsV Q c s sent day r = -2 := by unfold fitsV; rw [if_neg g]
    rw [ev]
    refine ⟨M.1, xX12_fits_0 hS ?_, frM.rf⟩
    rw [e1, e2]
    refine ⟨by unfold InR; omega, fun _ => ⟨rfl, rfl⟩, fun g1 => ⟨by unfold InR; omega, fun _ => ⟨rfl, rfl⟩, fun g2 => ⟨fun _ => ⟨rfl, rfl⟩, fun g3 => ⟨fun _ => ⟨rfl, rfl⟩, fun g4 => ⟨fun g5 => absurd ⟨g1, g2, g3, g4, .inl g5⟩ g, fun a => ⟨by unfold InR; omega, fun g5 => absurd ⟨g1, g2, g3, g4, .inr g5⟩ g, fun _ => ⟨rfl, rfl⟩⟩⟩⟩⟩⟩⟩
end FS
