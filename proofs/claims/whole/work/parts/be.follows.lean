/-! follows on the reference -/
section RW7
variable {l : Launch} {G : Gt} {d : Nat} {M : Mem} {r : Option Vl} {M' : Mem} {t : Tp} {n sl q p : Nat} {e dp ti cn x1 x2 : Int} {o s : List (Int × Int)} {I I' I'' : IM} {c c' : Cf}
theorem gv_top : ∀ {s : List (Int × Int)} {y : Int × Int} {s' : List (Int × Int)}, gvS 6 s = y :: s' → y.1 = 7 ∨ 6 < y.1 := by
  intro s
  induction s with
  | nil => intro y s' h; cases h
  | cons z s ih =>
    intro y s' h
    by_cases g : ¬ z.1 = 7 ∧ z.1 ≤ 6
    · rw [show gvS 6 (z :: s) = gvS 6 s by show (if _ then _ else _) = _; rw [if_pos g]] at h
      exact ih h
    · rw [show gvS 6 (z :: s) = z :: s by show (if _ then _ else _) = _; rw [if_neg g]] at h
      cases h; omega
theorem fol_4 : ∀ (k : Nat) {M : Mem} {c : Cf}, n - cP c = k → Sh M.2.1 → cCnt M.2.2 1 = 28 → Hc sl t n (bl t n (cP c)) c M.1 → InvD n c → cM c = 2 → cE c = 0 → ∃ I' b c', Ex l G (d + 5) mX12_follows 4 [some (vR (some (3, 0))), none] [] M (some (vI b)) (I', M.2.1, M.2.2) ∧ frV sl M.1 I' ∧ Rn t n c c' ∧ FoR sl t n (cP c) c' b I' := by
  intro k
  induction k using Nat.strongRecOn with
  | ind k ih =>
    intro M c hk hS hStr h hi hm he
    obtain ⟨i1, i2, i3, i4, i5, ⟨i6, i7, i8⟩, i9, i10, i11⟩ := hi.1 he
    obtain ⟨b1, b2⟩ := rn_ge (fun i => decide (t i = 32)) n (cP c) i1
    have b1 : cP c ≤ bl t n (cP c) := b1
    have b2 : bl t n (cP c) ≤ n := b2
    have hbb : bl t n (bl t n (cP c)) = bl t n (cP c) := rn_rn _ _ _ i1
    have hn := h.1.2.1
    have st := step_2 (t := t) (n := n) hm
    rw [hm, if_neg (show ¬ 2 = 0 by omega)] at i5
    obtain ⟨⟨a1, a2, a3, a4⟩, ⟨a5, a5'⟩, a6, a7⟩ := gv_sp (most := 6) i4 (i11 hm) i10 i3 i5
    obtain ⟨⟨f1, f2, f3, f4⟩, -, -, -⟩ := gv_sp (most := 5) i4 (i11 hm) i10 i3 i5
    generalize hpe : bl t n (cP c) = p at b1 b2 hbb st h
    have h29 := h.1.1
    have h30 : M.1 3 0 30 = (p : Int) := h.2.2.1
    have h31 : M.1 3 0 31 = 0 := h.2.2.2.1
    by_cases a0 : p < n ∧ t p = 93
    · have ht := h.1.2.2 p (by omega)
      have e93 : M.1 76 0 (M.1 3 0 30).toNat = 93 := by rw [h30, Int.toNat_natCast]; omega
      obtain ⟨I1, k1, k2, k3⟩ := KX12_gives (l := l) (G := G) (d := d + 3) (most := 6) hS h (by omega)
      have g38 : I1 3 0 38 = ((gvS 6 (cS c)).length : Int) := k2.2.2.2.2.2.2.2.2.1
      have g35 : I1 3 0 35 = (dpN (cS c) : Int) := k2.2.2.2.2.2.1
      have g30 : I1 3 0 30 = (p : Int) := k2.2.2.1
      cases e0 : gvS 6 (cS c) with
      | nil =>
        rw [e0] at k2 g38 a1
        have hl : (cO c ++ gvO 6 (cS c)).length + ([] : List (Int × Int)).length ≤ 400 := by rw [List.length_append]; simp only [List.length_nil] at a1 ⊢; omega
        obtain ⟨I2, j1, j2, j3⟩ := KX12_fails (l := l) (G := G) (d := d + 4) (M := (I1, M.2.1, M.2.2)) (x1 := 0) (x2 := (p : Int)) k2 (by omega) (by omega)
        rw [if_pos rfl] at j2
        have m31 : ¬ I2 3 0 31 = 0 := by rw [j2.2.2.2.1]; omega
        refine ⟨I2, 0, flC c p 0, xX12_follows_4 hS ⟨fun c => absurd h31 c, fun _ => ⟨fun c => by omega, fun _ => ⟨by omega, fun c => absurd e93 c, fun _ => ⟨_, k1, fun c => absurd g38 c, fun _ => ⟨_, by dsimp only; rw [g30]; exact j1, ?_⟩⟩⟩⟩⟩, k3.tr j3, Rn.one (st.trans ?_), .inr (.inr ⟨rfl, rfl, by show ¬ (1 + 8 * (p : Int) + ((0 : Nat) : Int)) = 0; omega, _, _, _, _, _, _, j2, hl⟩)⟩
        · exact xX12_follows_4 hS ⟨fun _ => xX12_follows_102 ⟨fun _ => ⟨rfl, rfl⟩, fun c => absurd c m31⟩, fun c => absurd c m31⟩
        · unfold stF; rw [if_pos a0, e0]
      | cons y s' =>
        rw [e0] at k2 g38 a1 a2 a3 a4 a5 a5'
        have hy := a2 y List.mem_cons_self
        have hy7 : y.1 = 7 := by have := gv_top e0; omega
        have d1 := dp_c y s'
        have d2 := ti_c y s'
        rw [if_pos (.inr hy7)] at d1
        rw [if_neg (by omega)] at d2
        simp only [List.length_cons] at a1 g38
        have q1 := k2.pop (v := I1 3 0 38 - 1) (by omega)
        have e35 : upI I1 3 0 38 (I1 3 0 38 - 1) 3 0 35 = I1 3 0 35 := upI_ne (by omega)
        have q2 := q1.md (i := 35) (v := I1 3 0 35 - 1) (q' := p) (e' := 0) (dp' := (dpN s' : Int)) (ti' := (tiN (cS c) : Int)) (cn' := (cC c : Int)) (by omega) rfl rfl (by rw [if_pos rfl]; omega) rfl rfl
        have q3 := q2.md (i := 30) (v := I1 3 0 30 + 1) (q' := p + 1) (e' := 0) (dp' := (dpN s' : Int)) (ti' := (tiN s' : Int)) (cn' := (cC c : Int)) (by omega) (by rw [if_pos rfl]; omega) rfl rfl (by rw [if_neg (by omega)]; omega) rfl
        have hl : (cO c ++ gvO 6 (cS c)).length + s'.length ≤ 400 := by rw [List.length_append]; omega
        obtain ⟨I2, j1, j2, j3⟩ := KX12_closes (l := l) (G := G) (d := d + 3) (M := (upI (upI (upI I1 3 0 38 (I1 3 0 38 - 1)) 3 0 35 (I1 3 0 35 - 1)) 3 0 30 (I1 3 0 30 + 1), M.2.1, M.2.2)) hS q3 hl
        obtain ⟨w1, w2, w3⟩ := Rg_bl (l := l) (G := G) (d := d + 4) (M := (I2, M.2.1, M.2.2)) hS j2 (by omega)
        have run : Rn t n c (2, p + 1, 0, (cO c ++ gvO 6 (cS c)) ++ clO s', cC c, clS s') := by
          refine Rn.tr (Rn.one (c' := (1, p + 1, 0, cO c ++ gvO 6 (cS c), cC c, s')) (st.trans ?_)) cl_run
          unfold stF; rw [if_pos a0, e0, he]
        obtain ⟨I3, b, c', v1, v2, v3, v4⟩ := ih (n - (p + 1)) (by omega) (M := (upI I2 3 0 30 ((bl t n (p + 1) : Nat) : Int), M.2.1, M.2.2)) (c := (2, p + 1, 0, (cO c ++ gvO 6 (cS c)) ++ clO s', cC c, clS s')) rfl hS hStr w2 (InvD_run run hi) rfl rfl
        refine ⟨I3, b, c', xX12_follows_4 hS ⟨fun c => absurd h31 c, fun _ => ⟨fun c => by omega, fun _ => ⟨by omega, fun c => absurd e93 c, fun _ => ⟨_, k1, fun _ => ⟨⟨by unfold InR; dsimp only; omega, by unfold InR; dsimp only; omega, by unfold InR; dsimp only; omega⟩, _, j1, _, w1, v1⟩, fun c => by dsimp only at c; omega⟩⟩⟩⟩, ?_, run.tr v3, v4.mono (by show cP c ≤ p + 1; omega)⟩
        exact (k3.tr (((frV.md (by omega)).tr (frV.md (by omega))).tr (frV.md (by omega)))).tr ((j3.tr w3).tr v2)
    · have to102 : ∀ {I' : IM} {b : Int}, Ex l G (d + 5) mX12_follows 102 [some (vR (some (3, 0))), none] [] M (some (vI b)) (I', M.2.1, M.2.2) → Ex l G (d + 5) mX12_follows 4 [some (vR (some (3, 0))), none] [] M (some (vI b)) (I', M.2.1, M.2.2) := fun x => xX12_follows_4 hS ⟨fun c => absurd h31 c, fun _ => ⟨fun _ => x, fun c => ⟨by omega, fun _ => x, fun c' => by
        have ht := h.1.2.2 p (by omega)
        rw [h30, Int.toNat_natCast] at c'
        exact absurd ⟨by omega, by omega⟩ a0⟩⟩⟩
      by_cases a8 : n ≤ p
      · have epn : p = n := by omega
        refine ⟨M.1, 0, c, to102 (xX12_follows_102 ⟨fun c => absurd h31 c, fun _ => ⟨fun c => by omega, fun _ => ⟨rfl, rfl⟩⟩⟩), frV.rf, Rn.rf, .inr (.inl ⟨rfl, hm, he, by rw [hpe]; exact epn, by rw [epn] at h; exact h⟩)⟩
      · have w0 := KX12_isWord (l := l) (G := G) (d := d) (j := 12) hS hStr (by omega) h.1 h30 b2
        have w1 := KX12_isWord (l := l) (G := G) (d := d) (j := 13) hS hStr (by omega) h.1 h30 b2
        have to122 : ∀ {I' : IM} {b : Int}, Ex l G (d + 5) mX12_follows 122 [some (vR (some (3, 0))), none] [] M (some (vI b)) (I', M.2.1, M.2.2) → Ex l G (d + 5) mX12_follows 4 [some (vR (some (3, 0))), none] [] M (some (vI b)) (I', M.2.1, M.2.2) := fun x => to102 (xX12_follows_102 ⟨fun c => absurd h31 c, fun _ => ⟨fun _ => x, fun c => by omega⟩⟩)
        by_cases a9 : isW t n 3 p = true
        · have hW : isW t n 12 p = true := a9
          rw [if_pos hW] at w0
          have hpn : p + 3 ≤ n := isW_n b2 a9
          obtain ⟨I1, k1, k2, k3⟩ := fol_155 (l := l) (G := G) (d := d + 3) (x1 := 1) hS (.inr rfl) h (by omega) (by rw [if_neg (by omega)]; omega)
          rw [if_neg (show ¬ (1 : Int) = 0 by omega), if_neg (show ¬ (1 : Int) = 0 by omega)] at k3
          refine ⟨I1, 1, (0, p + 3, 0, cO c ++ gvO 5 (cS c), cC c, (5, 0) :: gvS 5 (cS c)), to122 (xX12_follows_122 hStr ⟨1, M, w0, hStr, fun _ => k1, fun c => by omega⟩), k2, Rn.one (st.trans ?_), .inl ⟨rfl, rfl, rfl, ?_, by show cP c < p + 3; omega⟩⟩
          · unfold stF; rw [if_neg a0, if_neg a8, if_pos a9, he]
          · have e2 : ((tiN ((5, 0) :: gvS 5 (cS c)) : Nat) : Int) = (tiN (cS c) : Int) := by rw [ti_c, if_neg (by dsimp only; omega), f4]; omega
            have e1 : ((dpN ((5, 0) :: gvS 5 (cS c)) : Nat) : Int) = (dpN (cS c) : Int) := by rw [dp_c, if_neg (by dsimp only; omega), f3]; omega
            show Rg sl t n (p + 3) 0 (cO c ++ gvO 5 (cS c)) ((dpN ((5, 0) :: gvS 5 (cS c)) : Nat) : Int) ((tiN ((5, 0) :: gvS 5 (cS c)) : Nat) : Int) (cC c) ((5, 0) :: gvS 5 (cS c)) I1
            rw [e1, e2]; exact k3
        · have hW : ¬ isW t n 12 p = true := a9
          rw [if_neg hW] at w0
          by_cases a10 : isW t n 4 p = true
          · have hW2 : isW t n 13 p = true := a10
            rw [if_pos hW2] at w1
            have hpn : p + 2 ≤ n := isW_n b2 a10
            obtain ⟨I1, k1, k2, k3⟩ := fol_155 (l := l) (G := G) (d := d + 3) (x1 := 0) hS (.inl rfl) h (by omega) (by rw [if_pos rfl]; omega)
            rw [if_pos rfl, if_pos rfl] at k3
            refine ⟨I1, 1, (0, p + 2, 0, cO c ++ gvO 6 (cS c), cC c, (6, 0) :: gvS 6 (cS c)), to122 (xX12_follows_122 hStr ⟨0, M, w0, hStr, fun c => absurd rfl c, fun _ => ⟨1, M, w1, fun _ => k1, fun c => by omega⟩⟩), k2, Rn.one (st.trans ?_), .inl ⟨rfl, rfl, rfl, ?_, by show cP c < p + 2; omega⟩⟩
            · unfold stF; rw [if_neg a0, if_neg a8, if_neg a9, if_pos a10, he]
            · have e2 : ((tiN ((6, 0) :: gvS 6 (cS c)) : Nat) : Int) = (tiN (cS c) : Int) := by rw [ti_c, if_neg (by dsimp only; omega), a4]; omega
              have e1 : ((dpN ((6, 0) :: gvS 6 (cS c)) : Nat) : Int) = (dpN (cS c) : Int) := by rw [dp_c, if_neg (by dsimp only; omega), a3]; omega
              show Rg sl t n (p + 2) 0 (cO c ++ gvO 6 (cS c)) ((dpN ((6, 0) :: gvS 6 (cS c)) : Nat) : Int) ((tiN ((6, 0) :: gvS 6 (cS c)) : Nat) : Int) (cC c) ((6, 0) :: gvS 6 (cS c)) I1
              rw [e1, e2]; exact k3
          · have hW2 : ¬ isW t n 13 p = true := a10
            rw [if_neg hW2] at w1
            obtain ⟨I1, k1, k2, k3⟩ := KX12_fails (l := l) (G := G) (d := d + 4) (x1 := 0) (x2 := (p : Int)) h (by omega) (by omega)
            rw [if_pos rfl] at k2
            refine ⟨I1, 0, flC c p 0, to122 (xX12_follows_122 hStr ⟨0, M, w0, hStr, fun c => absurd rfl c, fun _ => ⟨0, M, w1, fun c => absurd rfl c, fun _ => ⟨_, by rw [h30]; exact k1, rfl, rfl⟩⟩⟩), k3, Rn.one (st.trans ?_), .inr (.inr ⟨rfl, rfl, by show ¬ (1 + 8 * (p : Int) + ((0 : Nat) : Int)) = 0; omega, _, _, _, _, _, _, k2, by omega⟩)⟩
            unfold stF; rw [if_neg a0, if_neg a8, if_neg a9, if_neg a10]
theorem KX12_follows (hS : Sh M.2.1) (hStr : cCnt M.2.2 1 = 28) (h : Hc sl t n (cP c) c M.1) (hi : InvD n c) (hm : cM c = 2) (he : cE c = 0) : ∃ I' b c', Cl l G (d + 5) mX12_follows [vR (some (3, 0))] M (some (vI b)) (I', M.2.1, M.2.2) ∧ frV sl M.1 I' ∧ Rn t n c c' ∧ FoR sl t n (cP c) c' b I' := by
  obtain ⟨w1, w2, w3⟩ := Rg_bl (l := l) (G := G) (d := d + 4) hS h (hi.1 he).1
  obtain ⟨I1, b, c', k1, k2, k3, k4⟩ := fol_4 (l := l) (G := G) (d := d) _ (M := (upI M.1 3 0 30 ((bl t n (cP c) : Nat) : Int), M.2.1, M.2.2)) rfl hS hStr w2 hi hm he
  exact ⟨I1, b, c', xX12_follows_0 ⟨_, w1, k1⟩, w3.tr k2, k3, k4⟩
end RW7
