/-! image, back: the class, to the end -/
section IM
variable {l : Launch} {G : Gt} {d : Nat} {Q : QT} {M M' : Mem}
theorem img_fin {k j : Nat} (hR : RelC Q M) (hw : WFA Q) (hk : k < 4) (hj : 1 ≤ j) (FI : ∀ f j' i, ¬ (j' = j ∧ (f = 4 ∨ (33 ≤ f ∧ f ≤ 39))) → ¬ (f = 5 ∧ 1 + 8 * j ≤ j' ∧ j' < 1 + 8 * j + 8) → M'.1 f j' i = M.1 f j' i) (FR : ∀ f j' i, ¬ (j' = j ∧ (f = 4 ∨ (33 ≤ f ∧ f ≤ 39))) → ¬ (f = 5 ∧ 1 + 8 * j ≤ j' ∧ j' < 1 + 8 * j + 8) → ¬ (f = 17 ∧ j' = 0 ∧ i = k) → M'.2.1 f j' i = M.2.1 f j' i) (hS : Sh M'.2.1) (hl : CLe M.2.2 M'.2.2) (hc : ∀ f, ¬ (f = 4 ∨ (33 ≤ f ∧ f ≤ 39) ∨ f = 5) → cCnt M'.2.2 f = cCnt M.2.2 f) (hCn : CntC Q M') (hjc : j < cCnt M'.2.2 4) (him : M'.2.1 17 0 k = some (4, j)) (hSt : StI Q M' j) (hoj : ∀ k' j', k' < 4 → k' ≠ k → M.2.1 17 0 k' = some (4, j') → j' ≠ j) : RelC (imQ Q k) M' := by
  have hqc : eqC Q (imQ Q k) := ⟨by rw [imQ_f (by omega)], by rw [imQ_f (by omega)], imQ_f (by omega), imQ_f (by omega), imQ_f (by omega), imQ_f (by omega), imQ_f (by omega), imQ_f (by omega), imQ_f (by omega)⟩
  have hqv : eqV Q (imQ Q k) := ⟨by rw [imQ_f (by omega)], imQ_f (by omega), imQ_f (by omega), imQ_f (by omega), imQ_f (by omega), imQ_f (by omega)⟩
  have hqr : eqR Q (imQ Q k) := ⟨by rw [imQ_f (by omega)], imQ_f (by omega), imQ_f (by omega), imQ_f (by omega)⟩
  have hA : RelA Q M' := hR.1.1.oth3 (fun f k' i hr hn => FI f k' i (by unfold relF at hr; omega) (by unfold relF at hr; omega)) hS (fun f k' i hh => FR f k' i (by omega) (by omega) (by omega)) (fun f hh => hc f (by omega)) hl
  have hB : RelB Q M' := ⟨hA, ⟨fun x y hx hy => by rw [FI _ _ _ (by omega) (by omega)]; exact hR.1.2.1.1 x y hx hy, fun x y hx hy => by rw [FI _ _ _ (by omega) (by omega)]; exact hR.1.2.1.2 x y hx hy⟩, fun x y hx hy => by rw [FI _ _ _ (by omega) (by omega)]; exact hR.1.2.2 x y hx hy⟩
  have hS0 : StI Q M' 0 := hR.2.1.fr hw.l.n8 (fun i => FI _ _ _ (by omega) (by omega)) (fun f i hh => FI _ _ _ (by omega) (by omega)) (fun i => FR _ _ _ (by omega) (by omega) (by omega)) (fun i hi => ⟨fun x => FI _ _ _ (by omega) (by show ¬ (5 = 5 ∧ 1 + 8 * j ≤ i ∧ i < 1 + 8 * j + 8); omega), FR _ _ _ (by omega) (by show ¬ (5 = 5 ∧ 1 + 8 * j ≤ i ∧ i < 1 + 8 * j + 8); omega) (by omega)⟩)
  have oth : ∀ k', k' < 4 → k' ≠ k → M'.2.1 17 0 k' = M.2.1 17 0 k' := fun k' h1 h2 => FR _ _ _ (by omega) (by omega) (by omega)
  refine ⟨RelB_q hqc hqv hqr (imQ_f (by omega)) hB, StI_c hS0 (fun f h1 h2 => imQ_f (by omega)), hR.2.2.1.fr (by rw [imQ_f (by omega)]) (imQ_f (by omega)) (FI _ _ _ (by omega) (by omega)) (fun i => FI _ _ _ (by omega) (by omega)), ⟨fun k' hk' => ?_, fun k1 k2 j' h1 h2 e1 e2 => ?_⟩, hCn⟩
  · by_cases e : k' = k
    · subst e
      exact .inr ⟨by rw [imQ_md, if_pos rfl], j, hj, hjc, him, StI_c hSt (fun f h1 h2 => QB_im hw.2.2.2.1 h1 h2)⟩
    · rw [imQ_md, if_neg e, oth k' hk' e, QB_ot e]
      rcases hR.2.2.2.1.1 k' hk' with a | ⟨a1, j', a2, a3, a4, a5⟩
      · exact .inl a
      · have hne := hoj k' j' hk' e a4
        refine .inr ⟨a1, j', a2, Nat.lt_of_lt_of_le a3 (hl.2.2.1 _), a4, a5.fr (hw.im k' hk' a1) (fun i => FI _ _ _ (by omega) (by omega)) (fun f i hh => FI _ _ _ (by omega) (by omega)) (fun i => FR _ _ _ (by omega) (by omega) (by omega)) (fun i hi => ?_)⟩
        have el := lti_s (i := i) a2
        exact ⟨fun x => FI _ _ _ (by omega) (by omega), FR _ _ _ (by omega) (by omega) (by omega)⟩
  · by_cases c1 : k1 = k
    · by_cases c2 : k2 = k
      · omega
      · rw [c1, him] at e1
        rw [oth k2 h2 c2] at e2
        injection e1 with e1
        injection e1 with _ e1
        exact absurd e1.symm (hoj k2 j' h2 c2 e2)
    · by_cases c2 : k2 = k
      · rw [c2, him] at e2
        rw [oth k1 h1 c1] at e1
        injection e2 with e2
        injection e2 with _ e2
        exact absurd e2.symm (hoj k1 j' h1 c1 e1)
      · rw [oth k1 h1 c1] at e1
        rw [oth k2 h2 c2] at e2
        exact hR.2.2.2.1.2 k1 k2 j' h1 h2 e1 e2
theorem KX11_image {k : Int} (hR : RelC Q M) (hw : WFA Q) : ∃ M', Cl l G (d + 3) mX11_image [vR (some (2, 0)), vI k] M (some (vI (imageV Q k))) M' ∧ RelC (imageQ Q k) M' ∧ frK M M' := by
  have hS := hR.1.1.1
  have h8 := hw.l.n8
  have h60 := nCh_le hw.1.1
  unfold imageV imageQ
  by_cases g : 0 ≤ k ∧ k ≤ 3
  · rw [if_pos g, if_pos g]
    have hk : k.toNat < 4 := by omega
    rcases hR.2.2.2.1.1 k.toNat hk with ⟨a1, a2⟩ | ⟨a1, j, a2, a3, a4, a5⟩
    · -- a new one
      obtain ⟨cn1, cn2, cn3⟩ := hR.2.2.2.2
      obtain ⟨j, hj⟩ : ∃ j, cCnt M.2.2 4 = j := ⟨_, rfl⟩
      rw [hj] at cn1 cn2 cn3
      obtain ⟨M1, e1⟩ : ∃ M1, newM M 4 0 13 = M1 := ⟨_, rfl⟩
      obtain ⟨M7, x1, x2, x3, x4, x5, x6, x7, x8, x9, x10, x11, x12⟩ := KX8_init (l := l) (G := G) (d := d) (M := M1) (k0 := j) (lc := 1 + 8 * j) (R0 := M.2.1) (fun f hf => by rw [newM_c e1, if_neg (by omega)]; exact cn1 f (by omega)) (by rw [newM_c e1, if_neg (by omega)]; exact cn2) hS (fun f k' i _ hn => by
        by_cases ef : f = 4
        · exact newM_Rk e1 (by rw [hj]; omega)
        · exact newM_Rn e1 ef)
      have fI7 : ∀ f j' i, ¬ (j' = j ∧ (f = 4 ∨ (33 ≤ f ∧ f ≤ 39))) → ¬ (f = 5 ∧ 1 + 8 * j ≤ j' ∧ j' < 1 + 8 * j + 8) → M7.1 f j' i = M.1 f j' i := fun f j' i h1 h2 => by
        rw [x3 f j' i (by omega) h2]
        by_cases ef : f = 4
        · exact newM_Ik e1 (by rw [hj]; omega)
        · exact newM_In e1 ef
      have fR7 : ∀ f j' i, ¬ (j' = j ∧ (f = 4 ∨ (33 ≤ f ∧ f ≤ 39))) → ¬ (f = 5 ∧ 1 + 8 * j ≤ j' ∧ j' < 1 + 8 * j + 8) → M7.2.1 f j' i = M.2.1 f j' i := fun f j' i h1 h2 => by
        rw [x6 f j' i (by omega) h2]
        by_cases ef : f = 4
        · exact newM_Rk e1 (by rw [hj]; omega)
        · exact newM_Rn e1 ef
      have hS8 : Sh (upR M7.2.1 17 0 k.toNat (some (4, j))) := x2.congr fun f k' i hs => by
        have hne : ¬ f = 17 := by
          have h2 := shp_lt hs
          omega
        rw [upR_o (fun e => hne e.1)]
      have hll : CLe M.2.2 M7.2.2 := (show CLe M.2.2 M1.2.2 by subst e1; exact newC_le _ _ _ _).tr x12
      obtain ⟨M9, y1, y2, y3⟩ := KX8_copyFrom (l := l) (G := G) (d := d + 1) (M := (M7.1, upR M7.2.1 17 0 k.toNat (some (4, j)), M7.2.2)) (k0 := j) (k1 := 0) (by omega) hS8 (fun i hi => by dsimp only; rw [upR_o (by omega), lti_s (by omega)]; exact x7 i hi) (fun i hi => by dsimp only; rw [upR_o (by omega), fR7 _ _ _ (by omega) (by omega)]; exact hR.2.1.2.2.2.2.2.2.2.2.1 i hi)
      have hSt0 : StI Q (M7.1, upR M7.2.1 17 0 k.toNat (some (4, j)), M7.2.2) 0 := hR.2.1.fr (M' := (M7.1, upR M7.2.1 17 0 k.toNat (some (4, j)), M7.2.2)) h8 (fun i => fI7 4 0 i (by omega) (by omega)) (fun f i hh => fI7 f 0 i (by omega) (by omega)) (fun i => by dsimp only; rw [upR_o (by omega)]; exact fR7 _ _ _ (by omega) (by omega)) (fun i hi => ⟨fun x => fI7 5 i x (by omega) (by omega), by dsimp only; rw [upR_o (by omega)]; exact fR7 5 i 0 (by omega) (by omega)⟩)
      have hStj := hSt0.cp y3 (fun i hi => by dsimp only; rw [upR_o (by omega), lti_s (by omega)]; exact x7 i hi) h8 h60
      obtain ⟨c1, c2, c3, c4, _⟩ := y3
      dsimp only at c1 c2 c3 c4
      have nlt : ∀ f j', ¬ (f = 5 ∧ 1 + 8 * j ≤ j' ∧ j' < 1 + 8 * j + 8) → ¬ (f = 5 ∧ ∃ i', i' < 8 ∧ j' = lti j i') := fun f j' h1 ⟨e, i', hi', e2⟩ => by rw [lti_s (by omega)] at e2; omega
      have FI : ∀ f j' i, ¬ (j' = j ∧ (f = 4 ∨ (33 ≤ f ∧ f ≤ 39))) → ¬ (f = 5 ∧ 1 + 8 * j ≤ j' ∧ j' < 1 + 8 * j + 8) → M9.1 f j' i = M.1 f j' i := fun f j' i h1 h2 => by
        rw [c2 f j' i (by omega) (nlt f j' h2)]
        exact fI7 f j' i h1 h2
      have FR : ∀ f j' i, ¬ (j' = j ∧ (f = 4 ∨ (33 ≤ f ∧ f ≤ 39))) → ¬ (f = 5 ∧ 1 + 8 * j ≤ j' ∧ j' < 1 + 8 * j + 8) → ¬ (f = 17 ∧ j' = 0 ∧ i = k.toNat) → M9.2.1 f j' i = M.2.1 f j' i := fun f j' i h1 h2 h3 => by
        rw [c3 f j' i (nlt f j' h2)]
        by_cases e : f = 17 ∧ j' = 0
        · obtain ⟨rfl, rfl⟩ := e
          rw [upR_i (by omega)]
          exact fR7 _ _ _ h1 h2
        · rw [upR_o e]
          exact fR7 _ _ _ h1 h2
      have hc9 : ∀ f, cCnt M9.2.2 f = if f = 33 ∨ f = 34 ∨ f = 35 ∨ f = 36 ∨ f = 37 ∨ f = 38 ∨ f = 39 then j + 1 else if f = 5 then 1 + 8 * j + 8 else cCnt M1.2.2 f := fun f => by rw [c1]; exact x9 f
      have c94 : cCnt M9.2.2 4 = j + 1 := by rw [hc9, if_neg (by omega), if_neg (by omega), newM_c e1, if_pos rfl, hj]
      refine ⟨M9, xX11_image_0 hS ⟨fun c => by omega, fun _ => ⟨fun _ => ⟨by omega, fun n => absurd a2 n, fun _ M6 e6 => ?_⟩, fun c => by omega⟩⟩, img_fin hR hw hk (by omega) FI FR y2 (by rw [c1]; exact hll) (fun f hf => ?_) ⟨fun f hf => ?_, ?_, by omega⟩ (by omega) (by rw [c3 _ _ _ (by omega), upR_s]) hStj (fun k' j' h1 h2 h3 => ?_), ⟨fun f k' i hh => FI f k' i (by omega) (by omega), ⟨?_, ?_⟩, ?_, ?_⟩⟩
      · rw [e1] at e6
        subst e6
        rw [hj]
        exact ⟨M7, x1, x2, by omega, M9, y1, y2, by rw [c2 _ _ _ (by omega) (by omega), fI7 _ _ _ (by omega) (by omega)]; rw [hR.2.1.2.2.2.2.2.2.2.1.2], rfl⟩
      · rw [hc9, if_neg (by omega), if_neg (by omega), newM_c e1, if_neg (by omega)]
      · rw [c94, hc9, if_pos (by omega)]
      · rw [c94, hc9, if_neg (by omega), if_pos rfl]; omega
      · rcases hR.2.2.2.1.1 k' h1 with b | ⟨_, j2, b2, b3, b4, _⟩
        · rw [b.2] at h3; cases h3
        · rw [b4] at h3
          injection h3 with h3
          injection h3 with _ h3
          omega
      · rw [hc9, if_neg (by omega), if_neg (by omega), newM_c e1, if_neg (by omega)]
      · rw [hc9, if_neg (by omega), if_neg (by omega), newM_c e1, if_neg (by omega)]
      · rw [c1, x10, newM_nc e1]; omega
      · rw [c1, x11, newM_ns e1]; omega
    · -- one that is there
      have hn0 : ¬ M.2.1 17 0 k.toNat = none := by rw [a4]; simp
      obtain ⟨M9, y1, y2, y3⟩ := KX8_copyFrom (l := l) (G := G) (d := d + 1) (M := M) (k0 := j) (k1 := 0) (by omega) hS (fun i hi => a5.2.2.2.2.2.2.2.2.1 i hi) (fun i hi => hR.2.1.2.2.2.2.2.2.2.2.1 i hi)
      have hStj := hR.2.1.cp y3 (fun i hi => a5.2.2.2.2.2.2.2.2.1 i hi) h8 h60
      obtain ⟨c1, c2, c3, c4, _⟩ := y3
      have nlt : ∀ f j', ¬ (f = 5 ∧ 1 + 8 * j ≤ j' ∧ j' < 1 + 8 * j + 8) → ¬ (f = 5 ∧ ∃ i', i' < 8 ∧ j' = lti j i') := fun f j' h1 ⟨e, i', hi', e2⟩ => by rw [lti_s (by omega)] at e2; omega
      refine ⟨M9, xX11_image_0 hS ⟨fun c => by omega, fun _ => ⟨fun _ => ⟨by omega, fun _ => ⟨j, a4, M9, y1, y2, by rw [c2 _ _ _ (by omega) (by omega), hR.2.1.2.2.2.2.2.2.2.1.2], rfl⟩, fun n => absurd n hn0⟩, fun c => by omega⟩⟩, img_fin hR hw hk a2 (fun f j' i h1 h2 => c2 f j' i (by omega) (nlt f j' h2)) (fun f j' i h1 h2 h3 => c3 f j' i (nlt f j' h2)) y2 (by rw [c1]; exact CLe.rf _) (fun f hf => by rw [c1]) (by unfold CntC; rw [c1]; exact hR.2.2.2.2) (by rw [c1]; exact a3) (by rw [c3 _ _ _ (by omega)]; exact a4) hStj (fun k' j' h1 h2 h3 e => h2 (hR.2.2.2.1.2 k' k.toNat j h1 hk (by rw [← e]; exact h3) a4)), ⟨fun f k' i hh => c2 f k' i (by omega) (by omega), ⟨by rw [c1], by rw [c1]⟩, by rw [c1]; omega, by rw [c1]; omega⟩⟩
  · rw [if_neg g, if_neg g]
    exact ⟨M, xX11_image_0 hS ⟨fun _ => ⟨rfl, rfl⟩, fun c => ⟨fun c2 => absurd ⟨by omega, by omega⟩ g, fun _ => ⟨rfl, rfl⟩⟩⟩, hR, frK.rf⟩
theorem KX11_back {k : Int} (hR : RelC Q M) (hw : WFA Q) : ∃ M', Cl l G (d + 3) mX11_back [vR (some (2, 0)), vI k] M (some (vI (backV Q k))) M' ∧ RelC (backQ Q k) M' ∧ frK M M' := by
  have hS := hR.1.1.1
  have hW := backQ_W (k := k) hw
  unfold backV
  unfold backQ at hW ⊢
  by_cases g : (0 ≤ k ∧ k ≤ 3) ∧ ¬ Q 91 k.toNat = 0
  · rw [if_pos g] at hW
    rw [if_pos g, if_pos g]
    have hk : k.toNat < 4 := by omega
    rcases hR.2.2.2.1.1 k.toNat hk with ⟨a1, _⟩ | ⟨a1, j, a2, a3, a4, a5⟩
    · exact absurd a1 g.2
    have hn0 : ¬ M.2.1 17 0 k.toNat = none := by rw [a4]; simp
    obtain ⟨M1, y1, y2, y3⟩ := KX8_copyFrom (l := l) (G := G) (d := d + 1) (M := M) (k0 := 0) (k1 := j) (by omega) hS (fun i hi => hR.2.1.2.2.2.2.2.2.2.2.1 i hi) (fun i hi => a5.2.2.2.2.2.2.2.2.1 i hi)
    have h8 : nLt (QB Q k.toNat) ≤ 8 := hw.im _ hk a1
    have hiB : WFi (QB Q k.toNat) := by
      rcases hw.2.2.2.2.1 k.toNat hk with b | b
      · exact absurd b g.2
      · exact b.2
    have hSt1 : StI (bkQ Q k.toNat) M1 0 := StI_c (a5.cp y3 (fun i hi => hR.2.1.2.2.2.2.2.2.2.2.1 i hi) h8 (nCh_le hiB.1)) (fun f h1 h2 => bkQ_r h1 h2)
    obtain ⟨c1, c2, c3, c4, _⟩ := y3
    have nl : ∀ f j', ¬ (f = 5 ∧ j' < 8) → ¬ (f = 5 ∧ ∃ i', i' < 8 ∧ j' = lti 0 i') := fun f j' h1 ⟨e, i', hi', e2⟩ => h1 ⟨e, by have : j' = i' := e2; omega⟩
    have f1 : ∀ f j' i, ¬ (j' = 0 ∧ (f = 4 ∨ (33 ≤ f ∧ f ≤ 39))) → ¬ (f = 5 ∧ j' < 8) → M1.1 f j' i = M.1 f j' i := fun f j' i h1 h2 => c2 f j' i (by omega) (nl f j' h2)
    have r1 : ∀ f j' i, ¬ (f = 5 ∧ j' < 8) → M1.2.1 f j' i = M.2.1 f j' i := fun f j' i h2 => c3 f j' i (nl f j' h2)
    obtain ⟨I2, k1, k2, k3, k4, k5⟩ := KX11_forgetFacts (l := l) (G := G) (d := d) (M := M1) (x := -1) y2 (by intro c j' hj'; rw [f1 _ _ _ (by omega) (by omega)] at c ⊢; exact hR.1.1.2.2.2.1.1 c j' hj')
    have hRd1 : RoadsC (bkQ Q k.toNat) I2 0 := fun x y hx hy => by rw [k2 _ _ _ (by omega)]; exact hSt1.2.2.1 x y hx hy
    obtain ⟨I3, m1, m2, m3⟩ := KX10_measure (l := l) (G := G) (d := d + 1) (M := (I2, M1.2.1, M1.2.2)) (k := 0) hW.1.2.1 y2 hRd1
    dsimp only at m2
    have f3 : ∀ f j' i, ¬ (((f = 6 ∧ i = 2) ∨ f = 24 ∨ (f = 8 ∧ i = 3) ∨ f = 45 ∨ f = 46) ∧ j' = 0) → I3 f j' i = M1.1 f j' i := fun f j' i hn => by rw [m2 f j' i (by omega), k2 f j' i (by omega)]
    have el : I3 6 0 2 = -1 := by
      rw [m2 _ _ _ (by omega), k3, f1 _ _ _ (by omega) (by omega)]
      have := hR.1.1.2.2.1.1
      split <;> omega
    have hSt3 : StI (bkQ Q k.toNat) (I3, M1.2.1, M1.2.2) 0 := hSt1.fr (M' := (I3, M1.2.1, M1.2.2)) hW.l.n8 (fun i => f3 4 0 i (by omega)) (fun f i hh => f3 f 0 i (by omega)) (fun _ => rfl) (fun i hi => ⟨fun x => f3 5 _ x (by omega), rfl⟩)
    have hv : eqV Q (bkQ Q k.toNat) := ⟨by rw [bkQ_f (by omega)], bkQ_f (by omega), bkQ_f (by omega), bkQ_f (by omega), bkQ_f (by omega), bkQ_f (by omega)⟩
    have hm : eqM Q (bkQ Q k.toNat) := ⟨bkQ_f (by omega), by rw [bkQ_f (by omega)], bkQ_f (by omega)⟩
    have o3 : ∀ f j' i, ¬ (((f = 6 ∧ i = 2) ∨ f = 24 ∨ (f = 8 ∧ i = 3) ∨ f = 45 ∨ f = 46 ∨ f = 4 ∨ (33 ≤ f ∧ f ≤ 39)) ∧ j' = 0) → ¬ (f = 5 ∧ j' < 8) → I3 f j' i = M.1 f j' i := fun f j' i h1 h2 => (f3 f j' i (by omega)).trans (f1 f j' i (by omega) h2)
    have hA : RelA (bkQ Q k.toNat) (I3, M1.2.1, M1.2.2) := by
      refine ⟨y2, ⟨hSt3.1.1, hSt3.1.2.2.1, hSt3.2.1, hSt3.2.2.2.1⟩, ?_, FitC.no (by dsimp only; rw [m2 _ _ _ (by omega)]; exact k4) (fun j' hj' => by dsimp only; rw [m2 _ _ _ (by omega)]; exact k5 j' hj'), ?_, hSt3.2.2.2.2.1⟩
      · obtain ⟨p1, p2, p3, p4, p5, p6⟩ := hR.1.1.2.2.1
        rw [← c1] at p1 p2 p3 p4 p5
        refine ⟨⟨?_, ?_, ?_⟩, p2, p3, fun i hi => ?_, fun n hn' => ?_, fun n hn' => ?_⟩
        · dsimp only; rw [el]; omega
        · dsimp only; rw [el]; omega
        · dsimp only; rw [el]; omega
        · dsimp only; rw [r1 _ _ _ (by omega)]; exact p4 i hi
        · dsimp only; rw [o3 _ _ _ (by omega) (by omega)]; exact p5 n hn'
        · dsimp only at hn'; rw [el] at hn'; omega
      · obtain ⟨h1, ⟨h2, h2'⟩, h3⟩ := hR.1.1.2.2.2.2.1
        refine CovsC_q hv ⟨?_, ⟨?_, ?_⟩, fun c hc => ?_⟩
        · dsimp only; rw [o3 _ _ _ (by omega) (by omega)]; exact h1
        · dsimp only; rw [c1]; exact h2
        · dsimp only; rw [c1]; exact h2'
        · obtain ⟨b1, ⟨b2, b2'⟩, b3, b4, b5⟩ := h3 c hc
          refine ⟨?_, ⟨?_, fun k hk => ?_⟩, ?_, ?_, ?_⟩
          · dsimp only; rw [r1 _ _ _ (by omega)]; exact b1
          · dsimp only; rw [c1]; exact b2
          · dsimp only; rw [o3 _ _ _ (by omega) (by omega)]; exact b2' k hk
          · dsimp only; rw [o3 _ _ _ (by omega) (by omega)]; exact b3
          · dsimp only; rw [o3 _ _ _ (by omega) (by omega)]; exact b4
          · dsimp only; rw [o3 _ _ _ (by omega) (by omega)]; exact b5
    refine ⟨(I3, M1.2.1, M1.2.2), xX11_back_0 hS ⟨fun c => by omega, fun _ => ⟨fun _ => ⟨by omega, fun _ => ⟨j, a4, M1, y1, _, k1, y2, _, m1, y2, ?_, rfl⟩, fun n => absurd n hn0⟩, fun c => by omega⟩⟩, hR.one hw ⟨hA, m3, hSt3.2.2.1⟩ hSt3 (hR.2.2.1.fr (by rw [bkQ_f (by omega)]) (bkQ_f (by omega)) (by dsimp only; exact o3 2 0 12 (by omega) (by omega)) (fun i => by dsimp only; exact o3 16 0 i (by omega) (by omega))) hm (fun f k' i hh => o3 f k' i (by omega) (by omega)) (fun f k' i hh => r1 f k' i (by omega)) (fun f hh => by dsimp only; rw [c1]), ⟨fun f k' i hh => o3 f k' i (by omega) (by omega), ⟨by dsimp only; rw [c1], by dsimp only; rw [c1]⟩, by dsimp only; rw [c1]; omega, by dsimp only; rw [c1]; omega⟩⟩
    have e10 : I3 4 0 10 = bkQ Q k.toNat 48 5 := hSt3.2.2.2.2.2.2.2.1.2
    dsimp only
    rw [e10]
  · rw [if_neg g, if_neg g]
    refine ⟨M, xX11_back_0 hS ⟨fun _ => ⟨rfl, rfl⟩, fun c => ⟨fun c2 => ⟨by omega, fun n => ?_, fun _ => ⟨rfl, rfl⟩⟩, fun _ => ⟨rfl, rfl⟩⟩⟩, hR, frK.rf⟩
    exfalso
    rcases hR.2.2.2.1.1 k.toNat (by omega) with ⟨_, b⟩ | ⟨b, _⟩
    · exact n b
    · exact g ⟨by omega, by omega⟩
end IM
