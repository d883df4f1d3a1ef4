theorem bI_false {n : Nat} : bI n (fun _ => false) = 0 := by
  unfold bI
  have : bset n (fun _ => false) = 0 := by
    induction n with
    | zero => rfl
    | succ n ih => unfold bset; rw [ih]; simp
  rw [this]; rfl
section LB
variable {l : Launch} {G : Gt} {d : Nat}
theorem lays_79 {Q : QT} {row : Nat} {x2 : Int} (hw : WFc Q) (hr : row < 2) : ∀ k, k ≤ dn Q x2 → ∀ M : Mem, Sh M.2.1 → HoldsC Q M.1 → Laid Q M.1 row k →
    ∃ I', Ex l G (d + 2) mX12_lays 79 [some (vR (some (3, 0))), some (vI (row : Int)), some (vI x2), some (vI (k : Int)), none] [] M none (I', M.2.1, M.2.2) ∧ sameL row M.1 I' ∧ Laid Q I' row (dn Q x2) := by
  intro k hk
  have hdn := dnF_le (fun i => Q 56 (srt Q i)) x2 (nCh Q)
  have h60 := nCh_le hw
  have hnc := nCh_eq hw
  refine loopUp (P := fun k => ∀ M : Mem, Sh M.2.1 → HoldsC Q M.1 → Laid Q M.1 row k → ∃ I', Ex l G (d + 2) mX12_lays 79 [some (vR (some (3, 0))), some (vI (row : Int)), some (vI x2), some (vI (k : Int)), none] [] M none (I', M.2.1, M.2.2) ∧ sameL row M.1 I' ∧ Laid Q I' row (dn Q x2)) k (dn Q x2) hk ?_ ?_
  · intro k _ hk ih M hS hH hL
    have hkn : k < nCh Q := Nat.lt_of_lt_of_le hk hdn
    have hs := srt_lt hkn
    have e1 := hH.1 48 2 (by omega)
    have e2 := hH.2 k hkn
    have e3 := hH.1 56 (srt Q k) (by omega)
    have hd := dnF_in (fun i => Q 56 (srt Q i)) x2 (nCh Q) k hk
    obtain ⟨I1, hc, hs1, hL1⟩ := KX12_makes (l := l) (G := G) (d := d) hS hw hH hr hkn hL
    obtain ⟨I2, hx, hs2, hL2⟩ := ih (I1, M.2.1, M.2.2) hS (hH.same hs1) hL1
    refine ⟨I2, xX12_lays_79 hS ⟨fun c => ?_, fun _ => ⟨⟨by omega, ?_⟩, fun c => ?_, fun _ => ⟨by omega, (I1, M.2.1, M.2.2), ?_, by unfold InR; omega, hx⟩⟩⟩, hs1.tr hs2, hL2⟩
    · rw [e1, hnc] at c; omega
    · simp only [Int.toNat_natCast]; rw [e2]; omega
    · simp only [Int.toNat_natCast] at c; rw [e2] at c; simp only [Int.toNat_natCast] at c; rw [e3] at c
      exact absurd c (by simpa using hd)
    · simp only [Int.toNat_natCast]; rw [e2]; exact hc
  · intro M hS hH hL
    have e1 := hH.1 48 2 (by omega)
    refine ⟨M.1, xX12_lays_79 hS ⟨fun _ => ⟨rfl, rfl⟩, fun c => ?_⟩, sameL.rf, hL⟩
    rw [e1, hnc] at c
    have hlt : dn Q x2 < nCh Q := by omega
    have hs := srt_lt hlt
    have e2 := hH.2 _ hlt
    have e3 := hH.1 56 (srt Q (dn Q x2)) (by omega)
    have ho := dnF_out (fun i => Q 56 (srt Q i)) x2 (nCh Q) hlt
    refine ⟨⟨by omega, ?_⟩, fun _ => ⟨rfl, rfl⟩, fun c2 => absurd ?_ c2⟩
    · simp only [Int.toNat_natCast]; rw [e2]; omega
    · simp only [Int.toNat_natCast]; rw [e2]; simp only [Int.toNat_natCast]; rw [e3]; exact ho
/-- the first p people are laid as at the start -/
def Laid0 (Q : QT) (I : IM) (row p : Nat) : Prop := ∀ p', p' < p → I 71 0 (12 * row + p') = 0 ∧ I 73 0 (12 * row + p') = Q 49 p' ∧ ∀ t, t < 6 → I 72 0 (6 * (12 * row + p') + t) = 0
theorem lays_40 {Q : QT} {row p : Nat} {x2 : Int} (hr : row < 2) (hp : p < 12)
    (K : ∀ M : Mem, Sh M.2.1 → HoldsC Q M.1 → Laid0 Q M.1 row (p + 1) → ∃ I', Ex l G (d + 2) mX12_lays 2 [some (vR (some (3, 0))), some (vI (row : Int)), some (vI x2), some (vI ((p : Int) + 1)), none] [] M none (I', M.2.1, M.2.2) ∧ sameL row M.1 I' ∧ Laid Q I' row (dn Q x2)) :
    ∀ t, t ≤ 6 → ∀ M : Mem, Sh M.2.1 → HoldsC Q M.1 → Laid0 Q M.1 row p → M.1 71 0 (12 * row + p) = 0 → M.1 73 0 (12 * row + p) = Q 49 p → (∀ t', t' < t → M.1 72 0 (6 * (12 * row + p) + t') = 0) →
    ∃ I', Ex l G (d + 2) mX12_lays 40 [some (vR (some (3, 0))), some (vI (row : Int)), some (vI x2), some (vI (p : Int)), some (vI (t : Int))] [] M none (I', M.2.1, M.2.2) ∧ sameL row M.1 I' ∧ Laid Q I' row (dn Q x2) := by
  intro t ht
  refine loopUp (P := fun t => ∀ M : Mem, Sh M.2.1 → HoldsC Q M.1 → Laid0 Q M.1 row p → M.1 71 0 (12 * row + p) = 0 → M.1 73 0 (12 * row + p) = Q 49 p → (∀ t', t' < t → M.1 72 0 (6 * (12 * row + p) + t') = 0) → ∃ I', Ex l G (d + 2) mX12_lays 40 [some (vR (some (3, 0))), some (vI (row : Int)), some (vI x2), some (vI (p : Int)), some (vI (t : Int))] [] M none (I', M.2.1, M.2.2) ∧ sameL row M.1 I' ∧ Laid Q I' row (dn Q x2)) t 6 ht ?_ ?_
  · intro t _ ht ih M hS hH h0 h1 h2 h3
    have hs1 : sameL row M.1 (upI M.1 72 0 (6 * (12 * row + p) + t) 0) := sameL.up (by omega)
    obtain ⟨I2, hx, hs2, hL2⟩ := ih (upI M.1 72 0 (6 * (12 * row + p) + t) 0, M.2.1, M.2.2) hS (hH.same hs1) (fun p' hp' => by
      obtain ⟨a, b, c⟩ := h0 p' hp'
      refine ⟨by dsimp only; rw [upI_f rfl]; exact a, by dsimp only; rw [upI_f rfl]; exact b, fun t' ht' => ?_⟩
      dsimp only
      rw [upI_c, if_neg (by omega)]; exact c t' ht') (by dsimp only; rw [upI_f rfl]; exact h1) (by dsimp only; rw [upI_f rfl]; exact h2) (fun t' ht' => by
      dsimp only
      rw [upI_c]
      split
      · rfl
      · exact h3 t' (by omega))
    have e1 : (6 * (12 * (row : Int) + (p : Int)) + (t : Int)).toNat = 6 * (12 * row + p) + t := by omega
    refine ⟨I2, xX12_lays_40 hS ⟨fun c => absurd c (by omega), fun _ => ⟨⟨by unfold InR; omega, by unfold InR; omega, by unfold InR; omega, by unfold InR; omega, by omega, by unfold InR; omega⟩, ?_⟩⟩, hs1.tr hs2, hL2⟩
    rw [e1]; exact hx
  · intro M hS hH h0 h1 h2 h3
    obtain ⟨I2, hx, hs2, hL2⟩ := K M hS hH (fun p' hp' => by
      by_cases e : p' = p
      · subst e; exact ⟨h1, h2, h3⟩
      · exact h0 p' (by omega))
    exact ⟨I2, xX12_lays_40 hS ⟨fun _ => ⟨by unfold InR; omega, hx⟩, fun c => absurd (show (6 : Int) ≤ ((6 : Nat) : Int) by omega) c⟩, hs2, hL2⟩
theorem KX12_lays {Q : QT} {M : Mem} {row : Nat} {x2 : Int} (hS : Sh M.2.1) (hw : WFc Q) (hH : HoldsC Q M.1) (hr : row < 2) :
    ∃ I', Cl l G (d + 2) mX12_lays [vR (some (3, 0)), vI (row : Int), vI x2] M none (I', M.2.1, M.2.2) ∧ sameL row M.1 I' ∧ Laid Q I' row (dn Q x2) := by
  have key := loopUp (P := fun p => ∀ M : Mem, Sh M.2.1 → HoldsC Q M.1 → Laid0 Q M.1 row p → ∃ I', Ex l G (d + 2) mX12_lays 2 [some (vR (some (3, 0))), some (vI (row : Int)), some (vI x2), some (vI (p : Int)), none] [] M none (I', M.2.1, M.2.2) ∧ sameL row M.1 I' ∧ Laid Q I' row (dn Q x2)) 0 12 (by omega) ?_ ?_
  · obtain ⟨I2, hx, hs2, hL2⟩ := key M hS hH (fun p' hp' => by omega)
    exact ⟨I2, xX12_lays_0 hx, hs2, hL2⟩
  · intro p _ hp ih M hS hH h0
    have eh := hH.1 49 p (by omega)
    have hs1 : sameL row M.1 (upI (upI M.1 71 0 (12 * row + p) 0) 73 0 (12 * row + p) (M.1 49 0 p)) := (sameL.up (by omega)).tr (sameL.up (by omega))
    obtain ⟨I2, hx, hs2, hL2⟩ := lays_40 (l := l) (G := G) (d := d) (Q := Q) (x2 := x2) hr hp (fun M hS hH h => ih M hS hH h) 0 (by omega) (upI (upI M.1 71 0 (12 * row + p) 0) 73 0 (12 * row + p) (M.1 49 0 p), M.2.1, M.2.2) hS (hH.same hs1) (fun p' hp' => by
      obtain ⟨a, b, c⟩ := h0 p' hp'
      refine ⟨?_, ?_, fun t' ht' => ?_⟩
      · dsimp only; rw [upI_f rfl, upI_c, if_neg (by omega)]; exact a
      · dsimp only; rw [upI_c, if_neg (by omega), upI_f rfl]; exact b
      · dsimp only; rw [upI_f rfl, upI_f rfl]; exact c t' ht') (by dsimp only; rw [upI_f rfl, upI_s]) (by dsimp only; rw [upI_s]; exact eh) (fun t' ht' => by omega)
    have e1 : (12 * (row : Int) + (p : Int)).toNat = 12 * row + p := by omega
    refine ⟨I2, xX12_lays_2 hS ⟨fun c => absurd c (by omega), fun _ => ⟨⟨by unfold InR; omega, by unfold InR; omega, by omega, by omega⟩, ?_⟩⟩, hs1.tr hs2, hL2⟩
    rw [e1]; exact hx
  · intro M hS hH h0
    have hL0 : Laid Q M.1 row 0 := ⟨fun p hp => (h0 p hp).1.trans bI_false.symm, fun p t hp ht => ((h0 p hp).2.2 t ht).trans bI_false.symm, fun p hp => (h0 p hp).2.1⟩
    obtain ⟨I2, hx, hs2, hL2⟩ := lays_79 (l := l) (G := G) (d := d) (x2 := x2) hw hr 0 (Nat.zero_le _) M hS hH hL0
    exact ⟨I2, xX12_lays_2 hS ⟨fun _ => hx, fun c => absurd (show (12 : Int) ≤ ((12 : Nat) : Int) by omega) c⟩, hs2, hL2⟩
end LB
