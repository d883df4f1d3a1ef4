/-! read on the class: behind the words ahead -/
section CW9
variable {l : Launch} {G : Gt} {d : Nat} {M : Mem} {t : Tp} {n : Nat} {c : Cf}
theorem rd_tail (hS : Sh M.2.1) (hX : M.2.1 12 0 0 = some (16, 0)) (hStr : cCnt M.2.2 1 = 28) (hi : InvD n c) (hm : cM c = 0) (he : cE c = 0) (hs : cS c = []) (hW : Wm t n c [] M.1) : ∃ I' c', (∃ (M_3 : Mem), Cl l G (d + 69) mX2_readTest [vR (some (12, 0)), vI 0, vI 0] M none M_3 ∧ ((¬ ((M_3.1 12 0 4) = 0) → (some (vI (cE c')) : Option Vl) = some (vI (M_3.1 12 0 4)) ∧ ((I', M.2.1, M.2.2) : Mem) = M_3) ∧ ((M_3.1 12 0 4) = 0 → ∃ (r_7 : Int) (M_5 : Mem), Cl l G (d + 69) mX2_look [vR (some (12, 0))] M_3 (some (vI r_7)) M_5 ∧ (((M_5.1 12 0 1) ≤ (M_5.1 12 0 2) → (some (vI (cE c')) : Option Vl) = some (vI (M_5.1 12 0 4)) ∧ ((I', M.2.1, M.2.2) : Mem) = M_5) ∧ (¬ ((M_5.1 12 0 1) ≤ (M_5.1 12 0 2)) → ∃ (M_8 : Mem), Cl l G (d + 69) mX2_fail [vR (some (12, 0)), vI 0] M_5 none M_8 ∧ (some (vI (cE c')) : Option Vl) = some (vI (M_8.1 12 0 4)) ∧ ((I', M.2.1, M.2.2) : Mem) = M_8))))) ∧ frY M.1 I' ∧ Rn t n c c' ∧ cM c' = 3 ∧ ∃ st sp fa o, Cg t n st sp (cE c') fa o I' ∧ (cE c' = 0 → o = cO c') := by
  have hF : RFact l G (d + 61 + 6) t n 0 0 := by
    intro M c
    exact rfact (l := l) (G := G) (t := t) (n := n) 14 0 0 (by omega) (by omega) (by omega) d
  obtain ⟨I1, c1, j1, j2, j3, j4⟩ := KX2_readTest (l := l) (G := G) (d := d + 61) hF (.inl hs) (by rw [hs]; rfl) (by rw [hs]; rfl) hS hX hStr hi hm he hW
  have hi1 := InvD_run j3 hi
  rcases j4 with ⟨m4, e4, p4, ⟨n3, n4⟩, w, gO, gS, st4, sp4, hc4, hsp4, hb4⟩ | ⟨m4, e4, st4, sp4, fa4, o4, hc4⟩
  · obtain ⟨q1, q2, -⟩ := hi1.1 e4
    have hn := hc4.1.2.1
    obtain ⟨b1, b2⟩ := rn_ge (fun i => decide (t i = 32)) n (cP c1) q1
    have b2 : bl t n (cP c1) ≤ n := b2
    have h4 : I1 12 0 4 = 0 := hc4.2.2.2.1
    rw [hs] at gS
    obtain ⟨I2, k1, k2, k3⟩ := look_g (l := l) (G := G) (d := d + 63) (M := (I1, M.2.1, M.2.2)) hX hStr hc4 hsp4
    rw [hb4] at k1 k2
    have g1 := k2.1.1
    have g2 : I2 12 0 2 = ((bl t n (cP c1) : Nat) : Int) := k2.2.1
    have g4 : I2 12 0 4 = 0 := k2.2.2.2.1
    by_cases a : n ≤ bl t n (cP c1)
    · have run : Rn t n c1 (3, bl t n (cP c1), 0, cO c1 ++ w, cC c1, []) := by
        refine Rn.one ((step_2 m4).trans ?_)
        unfold stF
        rw [if_neg (by omega), if_pos a, if_pos gS, gO, e4]
      exact ⟨I2, (3, bl t n (cP c1), 0, cO c1 ++ w, cC c1, []), ⟨_, j1, fun c => absurd h4 c, fun _ => ⟨_, _, k1, fun _ => ⟨by show some (vI 0) = some (vI (I2 12 0 4)); rw [g4], rfl⟩, fun c => by dsimp only at c; omega⟩⟩, j2.tr k3, j3.tr run, rfl, _, _, _, _, k2, fun _ => rfl⟩
    · obtain ⟨I3, v1, v2, v3⟩ := KX2_fail (l := l) (G := G) (d := d + 69) (M := (I2, M.2.1, M.2.2)) (x1 := 0) k2 (by omega) (by omega)
      rw [if_pos rfl] at v2
      have g5 : I3 12 0 4 = 1 + 8 * ((bl t n (cP c1) : Nat) : Int) + 0 := v2.2.2.2.1
      have run : Rn t n c1 (flC c1 (bl t n (cP c1)) 0) := by
        refine Rn.one ((step_2 m4).trans ?_)
        unfold stF
        by_cases a2 : bl t n (cP c1) < n ∧ t (bl t n (cP c1)) = 93
        · rw [if_pos a2, gS]
        · rw [if_neg a2, if_neg a, if_neg n3, if_neg n4]
      exact ⟨I3, flC c1 (bl t n (cP c1)) 0, ⟨_, j1, fun c => absurd h4 c, fun _ => ⟨_, _, k1, fun c => by dsimp only at c; omega, fun _ => ⟨_, v1, by show some (vI (1 + 8 * ((bl t n (cP c1) : Nat) : Int) + ((0 : Nat) : Int))) = some (vI (I3 12 0 4)); rw [g5]; rfl, rfl⟩⟩⟩, (j2.tr k3).tr v3, j3.tr run, rfl, _, _, _, _, v2, fun h => by have h' : 1 + 8 * ((bl t n (cP c1) : Nat) : Int) + ((0 : Nat) : Int) = 0 := h; omega⟩
  · have g4 : I1 12 0 4 = cE c1 := hc4.2.2.2.1
    exact ⟨I1, c1, ⟨_, j1, fun _ => ⟨by show some (vI (cE c1)) = some (vI (I1 12 0 4)); rw [g4], rfl⟩, fun c => by dsimp only at c; omega⟩, j2, j3, m4, st4, sp4, fa4, o4, hc4, fun h => absurd h e4⟩
end CW9
