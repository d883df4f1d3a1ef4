/-! the reference lays a row -/
/-- only the row's places of the three rows are other -/
def sameL (row : Nat) (I I' : IM) : Prop := ∀ f k i, ¬ ((f = 71 ∧ k = 0 ∧ 12 * row ≤ i ∧ i < 12 * row + 12) ∨ (f = 72 ∧ k = 0 ∧ 72 * row ≤ i ∧ i < 72 * row + 72) ∨ (f = 73 ∧ k = 0 ∧ 12 * row ≤ i ∧ i < 12 * row + 12)) → I' f k i = I f k i
theorem sameL.rf {row : Nat} {I : IM} : sameL row I I := fun _ _ _ _ => rfl
theorem sameL.tr {row : Nat} {I I' I'' : IM} (h : sameL row I I') (h' : sameL row I' I'') : sameL row I I'' := fun f k i hn => (h' f k i hn).trans (h f k i hn)
theorem sameL.up {row f i : Nat} {I : IM} {v : Int} (h : (f = 71 ∧ 12 * row ≤ i ∧ i < 12 * row + 12) ∨ (f = 72 ∧ 72 * row ≤ i ∧ i < 72 * row + 72) ∨ (f = 73 ∧ 12 * row ≤ i ∧ i < 12 * row + 12)) : sameL row I (upI I f 0 i v) := by
  intro f' k' i' hn
  by_cases e : f' = f ∧ k' = 0
  · obtain ⟨rfl, rfl⟩ := e
    rw [upI_c, if_neg]
    rintro rfl
    exact hn (by omega)
  · rw [upI_o e]
theorem HoldsC.same {Q : QT} {row : Nat} {I I' : IM} (h : HoldsC Q I) (hs : sameL row I I') : HoldsC Q I' := by
  refine ⟨fun f i hf => ?_, fun i hi => ?_⟩
  · rw [hs f 0 i (by omega)]; exact h.1 f i hf
  · rw [hs _ 0 i (by omega)]; exact h.2 i hi
theorem Laid.same {Q : QT} {row row' n : Nat} {I I' : IM} (h : Laid Q I row n) (hr : row < 2) (hr' : row' < 2) (hne : row' ≠ row) (hs : sameL row' I I') : Laid Q I' row n := by
  refine ⟨fun p hp => ?_, fun p t hp ht => ?_, fun p hp => ?_⟩
  · rw [hs _ 0 _ (by omega)]; exact h.1 p hp
  · rw [hs _ 0 _ (by omega)]; exact h.2.1 p t hp ht
  · rw [hs _ 0 _ (by omega)]; exact h.2.2 p hp
section LA
variable {l : Launch} {G : Gt} {d : Nat}
theorem KX12_makes {Q : QT} {M : Mem} {row n : Nat} (hS : Sh M.2.1) (hw : WFc Q) (hH : HoldsC Q M.1) (hr : row < 2) (hn : n < nCh Q) (hL : Laid Q M.1 row n) :
    ∃ I', Cl l G (d + 1) mX12_makes [vR (some (3, 0)), vI (row : Int), vI (srt Q n : Int)] M none (I', M.2.1, M.2.2) ∧ sameL row M.1 I' ∧ Laid Q I' row (n + 1) := by
  have hj := srt_lt hn
  have h60 := nCh_le hw
  have wf := hw.2.2.2 (srt Q n) hj
  have hp12 := hw.1
  have eD := hH.1 57 (srt Q n) (by omega)
  have eW := hH.1 58 (srt Q n) (by omega)
  have eT := hH.1 59 (srt Q n) (by omega)
  have eO := hH.1 60 (srt Q n) (by omega)
  have eI := hH.1 61 (srt Q n) (by omega)
  obtain ⟨hd1, hk1, hwho, hwhat, h0, h1, h2, his⟩ := wf
  obtain ⟨w, ew⟩ := Int.eq_ofNat_of_zero_le hwho.1
  obtain ⟨a, ea⟩ := Int.eq_ofNat_of_zero_le hwhat
  have hw12 : w < 12 := by omega
  by_cases c0 : Q 57 (srt Q n) = 0
  · refine ⟨upI M.1 71 0 (12 * row + w) (wbit (Q 61 (srt Q n)) (M.1 71 0 (12 * row + w)) a), xX12_makes_0 hS ?_, sameL.up (by omega), ?_⟩
    · simp only [Int.toNat_natCast, eD, eW, eT, eO, eI, ew, ea]
      have e1 : (12 * (row : Int) + (w : Int)).toNat = 12 * row + w := by omega
      rw [e1]
      refine ⟨⟨by unfold InR; omega, by omega, by unfold InR; omega⟩, fun c => absurd c0 c, fun _ => ⟨⟨by omega, by omega, by have := h0 c0; omega⟩, by trivial, rfl⟩⟩
    · have ha10 : a < 10 := by have := h0 c0; omega
      refine ⟨fun p hp => ?_, fun p t hp ht => ?_, fun p hp => ?_⟩
      · by_cases e : p = w
        · subst e
          rw [upI_c, if_pos rfl, hL.1 p hp, wbit_bI (by omega) ha10]
          refine bI_ext fun i hi => ?_
          simp only [mkF, c0, ew, ea, true_and]
          by_cases e2 : i = a
          · subst e2; simp
          · simp [e2, show ¬ ((a : Int) = i) by omega]
        · rw [upI_c, if_neg (by omega), hL.1 p hp]
          refine bI_ext fun i hi => ?_
          have hne : ¬ (Q 57 (srt Q n) = 0 ∧ Q 58 (srt Q n) = p ∧ Q 59 (srt Q n) = i) := by rintro ⟨-, h, -⟩; omega
          simp only [mkF, if_neg hne]
      · rw [upI_f rfl, hL.2.1 p t hp ht]
        refine bI_ext fun i hi => ?_
        have hne : ¬ (Q 57 (srt Q n) = 1 ∧ Q 58 (srt Q n) = p ∧ Q 59 (srt Q n) = t ∧ Q 60 (srt Q n) = i) := by rintro ⟨h, -⟩; omega
        simp only [tiF, if_neg hne]
      · rw [upI_f rfl, hL.2.2 p hp]
        have hne : ¬ ((¬ Q 57 (srt Q n) = 0 ∧ ¬ Q 57 (srt Q n) = 1) ∧ Q 58 (srt Q n) = p) := by rintro ⟨h, -⟩; exact h.1 c0
        simp only [plF, if_neg hne]
  · by_cases c1 : Q 57 (srt Q n) = 1
    · obtain ⟨ho1, ho2, ho3⟩ := h1 c1
      obtain ⟨b, eb⟩ := Int.eq_ofNat_of_zero_le ho2
      have hb12 : b < 12 := by omega
      refine ⟨upI M.1 72 0 (6 * (12 * row + w) + a) (wbit (Q 61 (srt Q n)) (M.1 72 0 (6 * (12 * row + w) + a)) b), xX12_makes_0 hS ?_, sameL.up (by omega), ?_⟩
      · simp only [Int.toNat_natCast, eD, eW, eT, eO, eI, ew, ea, eb]
        have e1 : (6 * (12 * (row : Int) + (w : Int)) + (a : Int)).toNat = 6 * (12 * row + w) + a := by omega
        rw [e1]
        refine ⟨⟨by unfold InR; omega, by omega, by unfold InR; omega⟩, fun _ => ⟨by omega, fun c => absurd c1 c, fun _ => ⟨⟨by unfold InR; omega, by omega, by unfold InR; omega, by omega, by omega⟩, by trivial, rfl⟩⟩, fun c => absurd c c0⟩
      · refine ⟨fun p hp => ?_, fun p t hp ht => ?_, fun p hp => ?_⟩
        · rw [upI_f rfl, hL.1 p hp]
          refine bI_ext fun i hi => ?_
          have hne : ¬ (Q 57 (srt Q n) = 0 ∧ Q 58 (srt Q n) = p ∧ Q 59 (srt Q n) = i) := by rintro ⟨h, -⟩; exact c0 h
          simp only [mkF, if_neg hne]
        · by_cases e : p = w ∧ t = a
          · obtain ⟨rfl, rfl⟩ := e
            rw [upI_c, if_pos rfl, hL.2.1 p t hp ht, wbit_bI (by omega) hb12]
            refine bI_ext fun i hi => ?_
            simp only [tiF, c1, ew, ea, eb, true_and]
            by_cases e2 : i = b
            · subst e2; simp
            · simp [e2, show ¬ ((b : Int) = i) by omega]
          · rw [upI_c, if_neg (by omega), hL.2.1 p t hp ht]
            refine bI_ext fun i hi => ?_
            have hne : ¬ (Q 57 (srt Q n) = 1 ∧ Q 58 (srt Q n) = p ∧ Q 59 (srt Q n) = t ∧ Q 60 (srt Q n) = i) := by rintro ⟨-, h, h', -⟩; omega
            simp only [tiF, if_neg hne]
        · rw [upI_f rfl, hL.2.2 p hp]
          have hne : ¬ ((¬ Q 57 (srt Q n) = 0 ∧ ¬ Q 57 (srt Q n) = 1) ∧ Q 58 (srt Q n) = p) := by rintro ⟨h, -⟩; exact h.2 c1
          simp only [plF, if_neg hne]
    · refine ⟨upI M.1 73 0 (12 * row + w) a, xX12_makes_0 hS ?_, sameL.up (by omega), ?_⟩
      · simp only [Int.toNat_natCast, eD, eW, eT, eO, eI, ew, ea]
        have e1 : (12 * (row : Int) + (w : Int)).toNat = 12 * row + w := by omega
        rw [e1]
        refine ⟨⟨by unfold InR; omega, by omega, by unfold InR; omega⟩, fun _ => ⟨by omega, fun _ => ⟨⟨by omega, by omega⟩, by trivial, rfl⟩, fun c => absurd c c1⟩, fun c => absurd c c0⟩
      · refine ⟨fun p hp => ?_, fun p t hp ht => ?_, fun p hp => ?_⟩
        · rw [upI_f rfl, hL.1 p hp]
          refine bI_ext fun i hi => ?_
          have hne : ¬ (Q 57 (srt Q n) = 0 ∧ Q 58 (srt Q n) = p ∧ Q 59 (srt Q n) = i) := by rintro ⟨h, -⟩; exact c0 h
          simp only [mkF, if_neg hne]
        · rw [upI_f rfl, hL.2.1 p t hp ht]
          refine bI_ext fun i hi => ?_
          have hne : ¬ (Q 57 (srt Q n) = 1 ∧ Q 58 (srt Q n) = p ∧ Q 59 (srt Q n) = t ∧ Q 60 (srt Q n) = i) := by rintro ⟨h, -⟩; exact c1 h
          simp only [tiF, if_neg hne]
        · by_cases e : p = w
          · subst e
            rw [upI_c, if_pos rfl]
            have hye : (¬ Q 57 (srt Q n) = 0 ∧ ¬ Q 57 (srt Q n) = 1) ∧ Q 58 (srt Q n) = p := ⟨⟨c0, c1⟩, by omega⟩
            simp only [plF, if_pos hye, ea]
          · rw [upI_c, if_neg (by omega), hL.2.2 p hp]
            have hne : ¬ ((¬ Q 57 (srt Q n) = 0 ∧ ¬ Q 57 (srt Q n) = 1) ∧ Q 58 (srt Q n) = p) := by rintro ⟨-, h⟩; omega
            simp only [plF, if_neg hne]
end LA
