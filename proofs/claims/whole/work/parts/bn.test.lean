/-! readTest on the class -/
section CW6
variable {l : Launch} {G : Gt} {d : Nat} {M : Mem} {r : Option Vl} {M' : Mem} {t : Tp} {n p : Nat} {I I' I'' : IM} {c c' : Cf} {S0 : List (Int × Int)} {dp ti : Nat}
/-- nothing, or a bracket -/
def tp7 (S : List (Int × Int)) : Prop := S = [] ∨ ∃ x s, S = x :: s ∧ x.1 = 7
theorem tp7.g {m : Int} (h : tp7 S0) : nk S0 ∧ gvS m S0 = S0 ∧ gvO m S0 = [] := by
  rcases h with rfl | ⟨x, s, rfl, hx⟩
  · exact ⟨trivial, rfl, rfl⟩
  · refine ⟨?_, ?_, ?_⟩
    · show ¬ (x.1 = 3 ∨ x.1 = 4); omega
    · show (if _ then _ else _) = _; rw [if_neg (fun h => h.1 hx)]
    · show (if _ then _ else _) = _; rw [if_neg (fun h => h.1 hx)]
theorem gv_wv {w v : List (Int × Int)} (h : tp7 S0) (hw : w = [] ∨ w = [(5, 0)]) (hv : v = [] ∨ v = [(6, 0)]) : gvO 6 (w ++ (v ++ S0)) = w ++ v ∧ gvS 6 (w ++ (v ++ S0)) = S0 := by
  obtain ⟨-, g1, g2⟩ := h.g (m := 6)
  have c5 : ∀ s : List (Int × Int), gvO 6 ((5, 0) :: s) = (5, 0) :: gvO 6 s ∧ gvS 6 ((5, 0) :: s) = gvS 6 s := fun s => by
    refine ⟨?_, ?_⟩
    · show (if ¬ (5 : Int) = 7 ∧ (5 : Int) ≤ 6 then ((5 : Int), (0 : Int)) :: gvO 6 s else []) = _
      rw [if_pos ⟨by omega, by omega⟩]
    · show (if ¬ (5 : Int) = 7 ∧ (5 : Int) ≤ 6 then gvS 6 s else (5, 0) :: s) = _
      rw [if_pos ⟨by omega, by omega⟩]
  have c6 : ∀ s : List (Int × Int), gvO 6 ((6, 0) :: s) = (6, 0) :: gvO 6 s ∧ gvS 6 ((6, 0) :: s) = gvS 6 s := fun s => by
    refine ⟨?_, ?_⟩
    · show (if ¬ (6 : Int) = 7 ∧ (6 : Int) ≤ 6 then ((6 : Int), (0 : Int)) :: gvO 6 s else []) = _
      rw [if_pos ⟨by omega, by omega⟩]
    · show (if ¬ (6 : Int) = 7 ∧ (6 : Int) ≤ 6 then gvS 6 s else (6, 0) :: s) = _
      rw [if_pos ⟨by omega, by omega⟩]
  rcases hw with rfl | rfl <;> rcases hv with rfl | rfl
  · exact ⟨g2, g1⟩
  · refine ⟨?_, ?_⟩
    · show gvO 6 ((6, 0) :: S0) = _; rw [(c6 _).1, g2]; rfl
    · show gvS 6 ((6, 0) :: S0) = _; rw [(c6 _).2, g1]
  · refine ⟨?_, ?_⟩
    · show gvO 6 ((5, 0) :: S0) = _; rw [(c5 _).1, g2]; rfl
    · show gvS 6 ((5, 0) :: S0) = _; rw [(c5 _).2, g1]
  · refine ⟨?_, ?_⟩
    · show gvO 6 ((5, 0) :: (6, 0) :: S0) = _; rw [(c5 _).1, (c6 _).1, g2]; rfl
    · show gvS 6 ((5, 0) :: (6, 0) :: S0) = _; rw [(c5 _).2, (c6 _).2, g1]
def TeR (t : Tp) (n p0 : Nat) (S0 : List (Int × Int)) (c' : Cf) (I : IM) : Prop := (cM c' = 2 ∧ cE c' = 0 ∧ p0 ≤ cP c' ∧ (¬ isW t n 3 (bl t n (cP c')) = true ∧ ¬ isW t n 4 (bl t n (cP c')) = true) ∧ ∃ w, gvO 6 (cS c') = w ∧ gvS 6 (cS c') = S0 ∧ Wm t n c' w I) ∨ FlC t n c' I
theorem te_8 (hF : RFact l G (d + 6) t n dp ti) (h7 : tp7 S0) (hdp : dpN S0 = dp) (hti : tiN S0 = ti) : ∀ (k : Nat) {M : Mem} {c : Cf} {w v : List (Int × Int)} {x3 : Nat}, n - cP c = k → Sh M.2.1 → M.2.1 12 0 0 = some (16, 0) → cCnt M.2.2 1 = 28 → InvD n c → cM c = 2 → cE c = 0 → (w = [] ∨ w = [(5, 0)]) → (v = [] ∨ v = [(6, 0)]) → cS c = w ++ (v ++ S0) → Wm t n c (w ++ v) M.1 → ¬ isW t n 3 (bl t n (cP c)) = true → x3 ≤ cP c → ∃ I' c', Ex l G (d + 8) mX2_readTest 8 [some (vR (some (12, 0))), some (vI (dp : Int)), some (vI (ti : Int)), some (vI (x3 : Int))] [] M none (I', M.2.1, M.2.2) ∧ frY M.1 I' ∧ Rn t n c c' ∧ TeR t n (cP c) S0 c' I' := by
  intro k
  induction k using Nat.strongRecOn with
  | ind k ih =>
    intro M c w v x3 hk hS hX hStr hi hm he hw hv hs hW h3 hx
    obtain ⟨st, sp, hc, hsp, hb⟩ := hW
    obtain ⟨i1, i2, -⟩ := hi.1 he
    have hn := hc.1.2.1
    obtain ⟨b1, b2⟩ := rn_ge (fun i => decide (t i = 32)) n (cP c) i1
    have b1 : cP c ≤ bl t n (cP c) := b1
    have b2 : bl t n (cP c) ≤ n := b2
    have h4 : M.1 12 0 4 = 0 := hc.2.2.2.1
    obtain ⟨I1, k1, k2, k3⟩ := look_g (l := l) (G := G) (d := d + 1) hX hStr hc hsp
    rw [hb] at k1 k2
    have hbb : bl t n (bl t n (cP c)) = bl t n (cP c) := rn_rn _ _ _ i1
    obtain ⟨gO, gS⟩ := gv_wv h7 hw hv
    rw [← hs] at gO gS
    by_cases a : isW t n 4 (bl t n (cP c)) = true
    · obtain ⟨l1, l2⟩ := lk_W (by omega) b2 a
      have l1 : lkS t n (bl t n (cP c)) = 27 := l1
      have l2 : lkE t n (bl t n (cP c)) = bl t n (cP c) + 2 := l2
      have hpn : bl t n (cP c) + 2 ≤ n := isW_n b2 a
      rw [l2] at k2
      have t111 : t (bl t n (cP c)) = 111 := by
        have := (isW_i.mp a).2 0 (by decide)
        rw [Nat.add_zero] at this
        rw [this]; decide +kernel
      have run3 : Rn t n c (0, bl t n (cP c) + 2, 0, cO c ++ (w ++ v), cC c, (6, 0) :: S0) := by
        refine Rn.one ((step_2 hm).trans ?_)
        unfold stF
        rw [if_neg (by omega), if_neg (by omega), if_neg h3, if_pos a, gO, gS, he]
      have hi3 := InvD_run run3 hi
      have n5 : ¬ (¬ (6 : Int) = 7 ∧ (6 : Int) ≤ 5) := by omega
      obtain ⟨I2, c4, j1, j2, j3, j4⟩ := KX2_readPart (l := l) (G := G) (d := d) (M := (I1, M.2.1, M.2.2)) (c := (0, bl t n (cP c) + 2, 0, cO c ++ (w ++ v), cC c, (6, 0) :: S0)) hF (by show ¬ ((6 : Int) = 3 ∨ (6 : Int) = 4); omega) (by show (if ¬ (6 : Int) = 7 ∧ (6 : Int) ≤ 5 then gvS 5 S0 else (6, 0) :: S0) = _; rw [if_neg n5]) (by show (if ¬ (6 : Int) = 7 ∧ (6 : Int) ≤ 5 then ((6 : Int), (0 : Int)) :: gvO 5 S0 else []) = _; rw [if_neg n5]) (by show dpN ((6, 0) :: S0) = dp; rw [dp_c, if_neg (by dsimp only; omega)]; omega) (by show tiN ((6, 0) :: S0) = ti; rw [ti_c, if_neg (by dsimp only; omega)]; omega) hS hX hStr hi3 rfl rfl ⟨_, _, by show Cg t n _ _ 0 (cC c) ((cO c ++ (w ++ v)) ++ []) I1; rw [List.append_nil]; exact k2, hpn, rfl⟩
      have run4 := run3.tr j3
      have hi4 := InvD_run run4 hi
      rcases j4 with ⟨m4, e4, p4, h34, w', hw', s4, st4, sp4, hc4, hsp4, hb4⟩ | fl
      · have s4 : cS c4 = w' ++ ((6, 0) :: S0) := s4
        have p4 : bl t n (cP c) + 2 + 1 ≤ cP c4 := p4
        obtain ⟨q1, q2, -⟩ := hi4.1 e4
        have hl4 : (cO c4 ++ w').length < 400 := by rw [s4] at q2; simp only [List.length_append, List.length_cons] at q2 ⊢; omega
        obtain ⟨I3, v1, v2, v3⟩ := KX2_put (l := l) (G := G) (d := d + 7) (M := (I2, M.2.1, M.2.2)) (x1 := 27) (x := (6, 0)) hS hc4 hl4 (by decide)
        rw [List.append_assoc] at v2
        obtain ⟨I4, c5, z1, z2, z3, z4⟩ := ih (n - cP c4) (by omega) (M := (I3, M.2.1, M.2.2)) (c := c4) (w := w') (v := [(6, 0)]) (x3 := x3 + 1) rfl hS hX hStr hi4 m4 e4 hw' (.inr rfl) s4 ⟨st4, sp4, v2, hsp4, hb4⟩ h34 (by omega)
        refine ⟨I4, c5, xX2_readTest_8 ⟨fun c => by omega, fun _ => ⟨fun c => absurd h4 c, fun _ => ⟨_, _, k1, fun _ => ⟨_, j1, _, v1, by unfold InR; omega, ?_⟩, fun c => absurd l1 c⟩⟩⟩, ((k3.tr j2).tr v3).tr z2, run4.tr z3, ?_⟩
        · rw [show (x3 : Int) + 1 = ((x3 + 1 : Nat) : Int) by omega]; exact z1
        · rcases z4 with ⟨y1, y2, y3, y4⟩ | y
          · exact .inl ⟨y1, y2, by omega, y4⟩
          · exact .inr y
      · obtain ⟨m4, e4, st4, sp4, fa4, o4, hc4⟩ := fl
        have pn := put_no (l := l) (G := G) (d := d + 7) (M := (I2, M.2.1, M.2.2)) (x1 := 27) hS hc4 e4
        have h44 : ¬ I2 12 0 4 = 0 := by rw [hc4.2.2.2.1]; exact e4
        exact ⟨I2, c4, xX2_readTest_8 ⟨fun c => by omega, fun _ => ⟨fun c => absurd h4 c, fun _ => ⟨_, _, k1, fun _ => ⟨_, j1, _, pn, by unfold InR; omega, xX2_readTest_8 ⟨fun _ => ⟨rfl, rfl⟩, fun _ => ⟨fun _ => ⟨rfl, rfl⟩, fun c => absurd c h44⟩⟩⟩, fun c => absurd l1 c⟩⟩⟩, k3.tr j2, run4, .inr ⟨m4, e4, st4, sp4, fa4, o4, hc4⟩⟩
    · have l1 : ¬ lkS t n (bl t n (cP c)) = 27 := fun h => a (lk_27 b2 h)
      obtain ⟨I2, v1, v2, v3⟩ := KX2_leave (l := l) (G := G) (d := d + 7) (M := (I1, M.2.1, M.2.2)) k2
      exact ⟨I2, c, xX2_readTest_8 ⟨fun c => by omega, fun _ => ⟨fun c => absurd h4 c, fun _ => ⟨_, _, k1, fun c => absurd c l1, fun _ => ⟨_, v1, rfl, rfl⟩⟩⟩⟩, k3.tr v3, Rn.rf, .inl ⟨hm, he, Nat.le_refl _, ⟨h3, a⟩, w ++ v, gO, gS, _, _, v2, b2, hbb⟩⟩
theorem KX2_readTest (hF : RFact l G (d + 6) t n dp ti) (h7 : tp7 (cS c)) (hdp : dpN (cS c) = dp) (hti : tiN (cS c) = ti) (hS : Sh M.2.1) (hX : M.2.1 12 0 0 = some (16, 0)) (hStr : cCnt M.2.2 1 = 28) (hi : InvD n c) (hm : cM c = 0) (he : cE c = 0) (hW : Wm t n c [] M.1) : ∃ I' c', Cl l G (d + 8) mX2_readTest [vR (some (12, 0)), vI (dp : Int), vI (ti : Int)] M none (I', M.2.1, M.2.2) ∧ frY M.1 I' ∧ Rn t n c c' ∧ TeR t n (cP c + 1) (cS c) c' I' := by
  obtain ⟨g1, g2, g3⟩ := h7.g (m := 5)
  obtain ⟨I1, c1, j1, j2, j3, j4⟩ := KX2_readPart (l := l) (G := G) (d := d) hF g1 g2 g3 hdp hti hS hX hStr hi hm he hW
  rcases j4 with ⟨m4, e4, p4, h34, w', hw', s4, hw4⟩ | fl
  · obtain ⟨I2, c2, k1, k2, k3, k4⟩ := te_8 (l := l) (G := G) (d := d) hF h7 hdp hti _ (M := (I1, M.2.1, M.2.2)) (c := c1) (w := w') (v := []) (x3 := 1) rfl hS hX hStr (InvD_run j3 hi) m4 e4 hw' (.inl rfl) s4 (by rw [List.append_nil]; exact hw4) h34 (by omega)
    refine ⟨I2, c2, xX2_readTest_0 ⟨_, j1, k1⟩, j2.tr k2, j3.tr k3, ?_⟩
    rcases k4 with ⟨y1, y2, y3, y4⟩ | y
    · exact .inl ⟨y1, y2, by omega, y4⟩
    · exact .inr y
  · have fl' := fl
    obtain ⟨m4, e4, st4, sp4, fa4, o4, hc4⟩ := fl
    have h44 : ¬ I1 12 0 4 = 0 := by rw [hc4.2.2.2.1]; exact e4
    exact ⟨I1, c1, xX2_readTest_0 ⟨_, j1, xX2_readTest_8 ⟨fun _ => ⟨rfl, rfl⟩, fun _ => ⟨fun _ => ⟨rfl, rfl⟩, fun c => absurd c h44⟩⟩⟩, j2, j3, .inr fl'⟩
end CW6
