/-! cover on the reference -/
section RW10
variable {l : Launch} {G : Gt} {d : Nat} {M : Mem} {r : Option Vl} {M' : Mem} {t : Tp} {n sl q p : Nat} {e dp ti cn x1 x2 : Int} {o s : List (Int × Int)} {I I' I'' : IM} {c c' : Cf}
theorem KX12_heads (hS : Sh M.2.1) (hStr : cCnt M.2.2 1 = 28) (hT : RTp t n M.1) (h32 : M.1 3 0 32 = (sl : Int)) (hsl : sl < 8) (h30 : M.1 3 0 30 = 0) : ∃ I', Cl l G (d + 5) mX12_heads [vR (some (3, 0))] M none (I', M.2.1, M.2.2) ∧ frHd sl M.1 I' ∧ HdS sl t n (hdR t n).1 (hdR t n).2.1 (hdR t n).2.2 I' ∧ (hdR t n).1 ≤ n := by
  have e32 : (M.1 3 0 32).toNat = sl := by omega
  have T1 : RTp t n (upI (upI M.1 83 0 sl 0) 84 0 sl 0) := (hT.up (by omega)).up (by omega)
  have A30 : (upI (upI M.1 83 0 sl 0) 84 0 sl 0) 3 0 30 = ((0 : Nat) : Int) := by rw [upI_ne (by omega), upI_ne (by omega)]; exact h30
  have kb := KX12_blanks (l := l) (G := G) (d := d + 4) (t := t) (n := n) _ (M := (upI (upI M.1 83 0 sl 0) 84 0 sl 0, M.2.1, M.2.2)) (p := 0) rfl hS T1 A30 (by omega)
  obtain ⟨I1, k1, k2, k3, k4⟩ := hd_26 (l := l) (G := G) (d := d) (sl := sl) (t := t) (n := n) 2 (M := (upI (upI (upI M.1 83 0 sl 0) 84 0 sl 0) 3 0 30 ((bl t n 0 : Nat) : Int), M.2.1, M.2.2)) (p := bl t n 0) (a := false) (b := false) (by decide) hS hStr ⟨T1.up (by omega), ⟨by dsimp only; rw [upI_ne (by omega), upI_ne (by omega), upI_ne (by omega)]; exact h32, hsl⟩, by dsimp only; rw [upI_s], by dsimp only; rw [upI_ne (by omega), upI_ne (by omega), upI_s]; rfl, by dsimp only; rw [upI_ne (by omega), upI_s]; rfl⟩ (rn_ge _ _ _ (by omega)).2 (rn_rn _ _ _ (by omega))
  refine ⟨I1, xX12_heads_0 hS ⟨by omega, _, by rw [e32]; exact kb, k1⟩, ?_, k3, k4⟩
  exact (((frHd.up (by omega)).tr (frHd.up (by omega))).tr (frHd.up (by omega))).tr k2
/-- faults are small -/
def okB (n : Nat) (c : Cf) : Prop := 0 ≤ cE c ∧ cE c ≤ 8 * (n : Int) + 40
theorem rn_max (f : Nat → Bool) (n p : Nat) : rn f n p ≤ n ∨ rn f n p = p := by
  by_cases h : p ≤ n
  · exact .inl (rn_ge f n p h).2
  · right
    unfold rn
    rw [show n - p = 0 by omega]
    rfl
theorem okB_step (h : okB n c) (hp : cP c ≤ n) : okB n (step t n c) := by
  have b2 : bl t n (cP c) ≤ n := (rn_ge _ _ _ hp).2
  have b3 := rn_max (fun i => decide (t i = 32)) n (bl t n (cP c) + 2)
  have b3 : bl t n (bl t n (cP c) + 2) ≤ n ∨ bl t n (bl t n (cP c) + 2) = bl t n (cP c) + 2 := b3
  have f0 : ∀ p k : Nat, p ≤ n + 2 → k ≤ 3 → okB n (flC c p k) := fun p k h1 h2 => by
    show 0 ≤ 1 + 8 * (p : Int) + k ∧ 1 + 8 * (p : Int) + k ≤ 8 * (n : Int) + 40
    omega
  have f1 : ∀ m p o k s, okB n (m, p, cE c, o, k, s) := fun _ _ _ _ _ => h
  unfold step
  split
  · unfold stA stA1 stA2 stA3 stA4
    repeat' split
    all_goals first | exact f0 _ _ (by omega) (by omega) | exact f1 _ _ _ _ _
  · split
    · unfold stC
      repeat' split
      all_goals exact f1 _ _ _ _ _
    · split
      · unfold stF
        repeat' split
        all_goals first | exact f0 _ _ (by omega) (by omega) | exact f1 _ _ _ _ _
      · exact h
theorem okB_run (hr : Rn t n c c') (hi : InvD n c) (h : okB n c) : okB n c' := by
  obtain ⟨k, rfl⟩ := hr
  induction k generalizing c with
  | zero => exact h
  | succ k ih =>
    refine ih (InvD_step hi) ?_
    by_cases he : cE c = 0
    · exact okB_step h (hi.1 he).1
    · have hm := hi.2 he
      rw [show step t n c = c by unfold step; rw [if_neg (by omega), if_neg (by omega), if_neg (by omega)]]
      exact h
/-- what the reading leaves -/
def FiR (sl : Nat) (t : Tp) (n : Nat) (c : Cf) (I : IM) : Prop := RTp t n I ∧ (I 3 0 32 = (sl : Int) ∧ sl < 8) ∧ I 3 0 31 = cE c ∧ (0 ≤ I 3 0 34 ∧ I 3 0 34 ≤ 400) ∧ (cE c = 0 → I 3 0 34 = ((cO c).length : Int) ∧ OutS sl I (cO c))
theorem cov_111 (hS : Sh M.2.1) (hi : InvD n c) (h : EnR sl t n c M.1) : ∃ (I' : IM) (c' : Cf), (∀ {r M'}, Ex l G (d + 6) mX12_cover 140 [some (vR (some (3, 0))), some (vI x1)] [] (I', M.2.1, M.2.2) r M' → Ex l G (d + 6) mX12_cover 111 [some (vR (some (3, 0))), some (vI x1)] [] M r M') ∧ frV sl M.1 I' ∧ Rn t n c c' ∧ cM c' = 3 ∧ FiR sl t n c' I' := by
  have hlen : ∀ (s : List (Int × Int)), (gvO 6 s).length + (gvS 6 s).length = s.length := by
    intro s
    induction s with
    | nil => rfl
    | cons x s ih =>
      unfold gvO gvS
      split
      · simp only [List.length_cons]; omega
      · simp
  rcases h with ⟨m2, e2, eb, hc⟩ | ⟨m3, e3, q1, o1, dp1, ti1, cn1, s1, g1, g2⟩
  · obtain ⟨i1, i2, -⟩ := hi.1 e2
    have hn := hc.1.2.1
    have hl := hlen (cS c)
    have st := step_2 (t := t) (n := n) m2
    rw [eb] at st
    obtain ⟨I1, k1, k2, k3⟩ := KX12_gives (l := l) (G := G) (d := d + 4) (most := 6) hS hc (by omega)
    have a31 : I1 3 0 31 = 0 := k2.2.2.2.1
    have a38 : I1 3 0 38 = ((gvS 6 (cS c)).length : Int) := k2.2.2.2.2.2.2.2.2.1
    have a34 : I1 3 0 34 = ((cO c ++ gvO 6 (cS c)).length : Int) := k2.2.2.2.2.1
    have a29 : I1 3 0 29 = (n : Int) := k2.1.1
    have hle : (cO c ++ gvO 6 (cS c)).length ≤ 400 := by rw [List.length_append]; omega
    by_cases e0 : gvS 6 (cS c) = []
    · refine ⟨I1, (3, n, cE c, cO c ++ gvO 6 (cS c), cC c, []), fun x => xX12_cover_111 ⟨_, k1, fun c => absurd a31 c, fun _ => ⟨fun _ => x, fun c' => by rw [e0] at a38; exact absurd (show I1 3 0 38 ≤ 0 by rw [a38]; decide) c'⟩⟩, k3, Rn.one (st.trans ?_), rfl, k2.1, k2.2.1, a31.trans e2.symm, by omega, fun _ => ⟨a34, k2.2.2.2.2.2.2.2.2.2.1⟩⟩
      unfold stF; rw [if_neg (by omega), if_pos (Nat.le_refl _), if_pos e0]
    · have h38 : ¬ I1 3 0 38 ≤ 0 := by
        rw [a38]
        cases hg : gvS 6 (cS c) with
        | nil => exact absurd hg e0
        | cons y s => simp only [List.length_cons]; omega
      obtain ⟨I2, j1, j2, j3⟩ := KX12_fails (l := l) (G := G) (d := d + 5) (M := (I1, M.2.1, M.2.2)) (x1 := 0) (x2 := (n : Int)) k2 (by omega) (by omega)
      rw [if_pos rfl] at j2
      refine ⟨I2, flC c n 0, fun x => xX12_cover_111 ⟨_, k1, fun c => absurd a31 c, fun _ => ⟨fun c => absurd c h38, fun _ => ⟨_, by dsimp only; rw [a29]; exact j1, x⟩⟩⟩, k3.tr j3, Rn.one (st.trans ?_), rfl, j2.1, j2.2.1, j2.2.2.2.1, by have := j2.2.2.2.2.1; omega, fun h => by have h' : 1 + 8 * (n : Int) + ((0 : Nat) : Int) = 0 := h; omega⟩
      unfold stF; rw [if_neg (by omega), if_pos (Nat.le_refl _), if_neg e0]
  · obtain ⟨I1, k1, k2, k3⟩ := KX12_gives (l := l) (G := G) (d := d + 4) (most := 6) hS g1 g2
    have hl := hlen s1
    have a31 : ¬ I1 3 0 31 = 0 := by rw [k2.2.2.2.1]; exact e3
    have hle : (o1 ++ gvO 6 s1).length ≤ 400 := by rw [List.length_append]; omega
    exact ⟨I1, c, fun x => xX12_cover_111 ⟨_, k1, fun _ => x, fun c => absurd c a31⟩, k3, Rn.rf, m3, k2.1, k2.2.1, k2.2.2.2.1, by have := k2.2.2.2.2.1; omega, fun h => absurd h e3⟩
def c0 (t : Tp) (n : Nat) : Cf := (0, (hdR t n).1, 0, [], 0, [])
theorem c0_inv (h : (hdR t n).1 ≤ n) : InvD n (c0 t n) := ⟨fun _ => ⟨h, Nat.zero_le _, fun k hk => (by cases hk), fun x hx => (by cases hx), rfl, ⟨Nat.zero_le _, Nat.zero_le _, Nat.zero_le _⟩, Nat.zero_le _, trivial, fun h => (by cases h)⟩, fun h => absurd rfl h⟩
/-- only what cover may write is other -/
def frC (sl : Nat) (I I' : IM) : Prop := ∀ f k i, ¬ (k = 0 ∧ ((f = 3 ∧ 29 ≤ i ∧ i ≤ 38) ∨ ((f = 77 ∨ f = 78) ∧ 400 * sl ≤ i ∧ i < 400 * sl + 400) ∨ ((f = 79 ∨ f = 83 ∨ f = 84) ∧ i = sl) ∨ f = 80 ∨ f = 81)) → I' f k i = I f k i
theorem frC.tr (h : frC sl I I') (h' : frC sl I' I'') : frC sl I I'' := fun f k i hn => (h' f k i hn).trans (h f k i hn)
theorem frV.cc (h : frV sl I I') : frC sl I I' := fun f k i hn => h f k i (by omega)
theorem frHd.cc (h : frHd sl I I') : frC sl I I' := fun f k i hn => h f k i (by omega)
theorem frC.up {f i : Nat} {v : Int} (h : (f = 3 ∧ 29 ≤ i ∧ i ≤ 38) ∨ (f = 79 ∧ i = sl)) : frC sl I (upI I f 0 i v) := fun f' k' i' hn => upI_ne (by omega)
theorem KX12_coverR (hS : Sh M.2.1) (hStr : cCnt M.2.2 1 = 28) (hT : RTp t n M.1) (h33 : M.1 3 0 33 = (sl : Int)) (hsl : sl < 8) : ∃ (I' : IM) (c' : Cf), Cl l G (d + 6) mX12_cover [vR (some (3, 0))] M (some (vI (if cE c' = 0 then (sl : Int) else -2 - cE c'))) (I', M.2.1, M.2.2) ∧ Rn t n (c0 t n) c' ∧ cM c' = 3 ∧ I' 3 0 29 = 0 ∧ I' 3 0 33 = (sl : Int) + (if cE c' = 0 then 1 else 0) ∧ (0 ≤ I' 79 0 sl ∧ I' 79 0 sl ≤ 400) ∧ (I' 83 0 sl = bZ (hdR t n).2.1 ∧ I' 84 0 sl = bZ (hdR t n).2.2) ∧ (cE c' = 0 → I' 79 0 sl = ((cO c').length : Int) ∧ OutS sl I' (cO c')) ∧ frC sl M.1 I' := by
  have hn := hT.2.1
  obtain ⟨J, hJ⟩ : ∃ J : IM, J = upI (upI (upI (upI (upI (upI (upI (upI M.1 3 0 32 (M.1 3 0 33)) 3 0 30 0) 3 0 31 0) 3 0 34 0) 3 0 35 0) 3 0 36 0) 3 0 37 0) 3 0 38 0 := ⟨_, rfl⟩
  have fJ : frC sl M.1 J := by
    rw [hJ]
    exact (((((((frC.up (by omega)).tr (frC.up (by omega))).tr (frC.up (by omega))).tr (frC.up (by omega))).tr (frC.up (by omega))).tr (frC.up (by omega))).tr (frC.up (by omega))).tr (frC.up (by omega))
  have TJ : RTp t n J := by rw [hJ]; exact (((((((hT.up (by omega)).up (by omega)).up (by omega)).up (by omega)).up (by omega)).up (by omega)).up (by omega)).up (by omega)
  have v32 : J 3 0 32 = (sl : Int) := by rw [hJ, upI_ne (by omega), upI_ne (by omega), upI_ne (by omega), upI_ne (by omega), upI_ne (by omega), upI_ne (by omega), upI_ne (by omega), upI_s]; exact h33
  have v30 : J 3 0 30 = 0 := by rw [hJ, upI_ne (by omega), upI_ne (by omega), upI_ne (by omega), upI_ne (by omega), upI_ne (by omega), upI_ne (by omega), upI_s]
  have v31 : J 3 0 31 = 0 := by rw [hJ, upI_ne (by omega), upI_ne (by omega), upI_ne (by omega), upI_ne (by omega), upI_ne (by omega), upI_s]
  have v34 : J 3 0 34 = 0 := by rw [hJ, upI_ne (by omega), upI_ne (by omega), upI_ne (by omega), upI_ne (by omega), upI_s]
  have v35 : J 3 0 35 = 0 := by rw [hJ, upI_ne (by omega), upI_ne (by omega), upI_ne (by omega), upI_s]
  have v36 : J 3 0 36 = 0 := by rw [hJ, upI_ne (by omega), upI_ne (by omega), upI_s]
  have v37 : J 3 0 37 = 0 := by rw [hJ, upI_ne (by omega), upI_s]
  have v38 : J 3 0 38 = 0 := by rw [hJ, upI_s]
  obtain ⟨I1, k1, k2, k3, k4⟩ := KX12_heads (l := l) (G := G) (d := d) (M := (J, M.2.1, M.2.2)) hS hStr TJ v32 hsl v30
  have R0 : Hc sl t n (hdR t n).1 (c0 t n) I1 := ⟨k3.1, k3.2.1, k3.2.2.1, by rw [k2 _ _ _ (by omega)]; exact v31, by rw [k2 _ _ _ (by omega)]; exact v34, by rw [k2 _ _ _ (by omega)]; exact v35, by rw [k2 _ _ _ (by omega)]; exact v36, by rw [k2 _ _ _ (by omega)]; exact v37, by rw [k2 _ _ _ (by omega)]; exact v38, fun k hk => (by cases hk), trivial⟩
  have hi0 := c0_inv k4
  obtain ⟨I2, y, c2, z1, z2, z3, z4⟩ := cov_71 (l := l) (G := G) (d := d) (sl := sl) _ (M := (I1, M.2.1, M.2.2)) (c := c0 t n) (q := (hdR t n).1) (x1 := 1) rfl hS hStr R0 k4 rfl hi0 rfl rfl
  obtain ⟨I3, c3, w1, w2, w3, w4, w5⟩ := cov_111 (l := l) (G := G) (d := d) (M := (I2, M.2.1, M.2.2)) (x1 := y) hS (InvD_run z3 hi0) z4
  obtain ⟨u1, u2, u3, u4, u5⟩ := w5
  have run := z3.tr w3
  have hB := okB_run run hi0 ⟨Int.le_refl _, by show (0 : Int) ≤ _; omega⟩
  have a31 : I1 3 0 31 = 0 := R0.2.2.2.1
  have e32 : (I3 3 0 32).toNat = sl := by have := u2.1; omega
  have a33 : I3 3 0 33 = (sl : Int) := by
    rw [w2 _ _ _ (by omega)]
    show I2 3 0 33 = _
    rw [z2 _ _ _ (by omega)]
    show I1 3 0 33 = _
    rw [k2 _ _ _ (by omega)]
    show J 3 0 33 = _
    rw [hJ, upI_ne (by omega), upI_ne (by omega), upI_ne (by omega), upI_ne (by omega), upI_ne (by omega), upI_ne (by omega), upI_ne (by omega), upI_ne (by omega)]; exact h33
  have aO : I3 83 0 sl = bZ (hdR t n).2.1 := by
    rw [w2 _ _ _ (by omega)]
    show I2 83 0 sl = _
    rw [z2 _ _ _ (by omega)]
    exact k3.2.2.2.1
  have aT : I3 84 0 sl = bZ (hdR t n).2.2 := by
    rw [w2 _ _ _ (by omega)]
    show I2 84 0 sl = _
    rw [z2 _ _ _ (by omega)]
    exact k3.2.2.2.2
  have hB1 := hB.1
  have hB2 := hB.2
  refine ⟨upI (upI (upI I3 3 0 29 0) 79 0 sl (I3 3 0 34)) 3 0 33 (I3 3 0 33 + (if I3 3 0 31 = 0 then 1 else 0 : Int)), c3, xX12_cover_0 ⟨fun _ => ⟨(I1, M.2.1, M.2.2), by rw [← hJ]; exact k1, xX12_cover_60 ⟨fun c => by omega, fun _ => ⟨fun c => absurd a31 c, fun _ => z1 (w1 (xX12_cover_140 hS ⟨by have := u2.1; have := u2.2; dsimp only; omega, ?_, ⟨fun _ => ?_, fun _ => ?_⟩, ?_, ?_⟩))⟩⟩⟩, fun c => by omega⟩, run, w4, ?_, ?_, ?_, ⟨?_, ?_⟩, fun h => ⟨?_, fun k hk => ?_⟩, ?_⟩
  · dsimp only; unfold InR; split <;> omega
  · dsimp only; unfold InR; split <;> omega
  · dsimp only; unfold InR; omega
  · have hh : (if cE c3 = 0 then (sl : Int) else -2 - cE c3) = (if I3 3 0 31 ≤ 0 then (I3 3 0 33 + if I3 3 0 31 = 0 then 1 else 0) - 1 else -2 - I3 3 0 31) := by
      rw [u3, a33]
      by_cases g : cE c3 = 0
      · rw [if_pos g, if_pos (by omega), if_pos g, show (sl : Int) + 1 - 1 = sl by omega]
      · rw [if_neg g, if_neg (by omega)]
    exact congrArg (fun z => some (vI z)) hh
  · rw [e32]
  · rw [upI_ne (by omega), upI_ne (by omega), upI_s]
  · rw [upI_s, a33, u3]
  · rw [upI_ne (by omega), upI_s]; exact u4
  · rw [upI_ne (by omega), upI_ne (by omega), upI_ne (by omega)]; exact aO
  · rw [upI_ne (by omega), upI_ne (by omega), upI_ne (by omega)]; exact aT
  · rw [upI_ne (by omega), upI_s]; exact (u5 h).1
  · rw [upI_ne (by omega), upI_ne (by omega), upI_ne (by omega), upI_ne (by omega), upI_ne (by omega), upI_ne (by omega)]; exact (u5 h).2 k hk
  · exact (((fJ.tr k2.cc).tr (z2.cc.tr w2.cc)).tr ((frC.up (by omega)).tr (frC.up (by omega)))).tr (frC.up (by omega))
end RW10
