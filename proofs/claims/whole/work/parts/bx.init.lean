/-! the constructors of state, class and reference -/
def incN (cn : Nat → Nat) (f x : Nat) : Nat → Nat := fun f' => if f' = f then cn f' + x else cn f'
section BV
variable {l : Launch} {G : Gt} {d : Nat} {W U W' U' : Nat → Nat → Nat → Prop} {cn cn' : Nat → Nat} {nc ns nc' ns' : Nat} {M M1 M' : Mem}
theorem Bu.cc (h : Bu W U cn nc ns M) (hc : ∀ f, cn f = cn' f) (h1 : nc = nc') (h2 : ns = ns') : Bu W U cn' nc' ns' M := ⟨h.1, h.2.1, fun f => (h.2.2.1 f).trans (hc f), h.2.2.2.1.trans h1, h.2.2.2.2.trans h2⟩

theorem BX8_init (h : Bu W U cn nc ns M) (c33 : cn 33 = 0) (c34 : cn 34 = 0) (c35 : cn 35 = 0) (c36 : cn 36 = 0) (c37 : cn 37 = 0) (c38 : cn 38 = 0) (c39 : cn 39 = 0) (c5 : cn 5 = 0) : ∃ M', Cl l G (d + 2) mX8_init [vR (some (4, 0))] M none M' ∧ Bu W (fun f k i => U f k i ∧ ¬ (f = 4 ∧ k = 0 ∧ (i = 1 ∨ i = 3 ∨ i = 5 ∨ i = 6 ∨ i = 7 ∨ i = 9 ∨ i = 12))) (incN (inc (inc (inc (inc (inc (inc (inc cn 33) 34) 35) 36) 37) 38) 39) 5 8) (nc + 15) (ns + 289) M' := by
  obtain ⟨N1, e1⟩ : ∃ N, newM M 33 12 12 = N := ⟨_, rfl⟩
  have b1 := h.row e1 (c := 0) (by rw [c33]) (fun _ => rfl) (fun _ => rfl)
  have k33 : cCnt M.2.2 33 = 0 := by rw [h.2.2.1, c33]
  have u1 := b1.upR (f := 4) (k := 0) (i := 1) (v := some (33, cCnt M.2.2 33)) (by rw [k33]; rfl)
  obtain ⟨N2, e2⟩ : ∃ N, newM (N1.1, upR N1.2.1 4 0 1 (some (33, cCnt M.2.2 33)), N1.2.2) 34 64 64 = N := ⟨_, rfl⟩
  have b2 := u1.row e2 (c := 0) (by rw [inc_n (by decide), c34]) (fun _ => rfl) (fun _ => rfl)
  have k34 : cCnt N1.2.2 34 = 0 := by rw [b1.2.2.1, inc_n (by decide), c34]
  have u2 := b2.upR (f := 4) (k := 0) (i := 3) (v := some (34, cCnt N1.2.2 34)) (by rw [k34]; rfl)
  obtain ⟨N3, e3⟩ : ∃ N, newM (N2.1, upR N2.2.1 4 0 3 (some (34, cCnt N1.2.2 34)), N2.2.2) 35 60 60 = N := ⟨_, rfl⟩
  have b3 := u2.row e3 (c := 0) (by rw [inc_n (by decide), inc_n (by decide), c35]) (fun _ => rfl) (fun _ => rfl)
  have k35 : cCnt N2.2.2 35 = 0 := by rw [b2.2.2.1, inc_n (by decide), inc_n (by decide), c35]
  have u3 := b3.upR (f := 4) (k := 0) (i := 5) (v := some (35, cCnt N2.2.2 35)) (by rw [k35]; rfl)
  obtain ⟨N4, e4⟩ : ∃ N, newM (N3.1, upR N3.2.1 4 0 5 (some (35, cCnt N2.2.2 35)), N3.2.2) 36 12 12 = N := ⟨_, rfl⟩
  have b4 := u3.row e4 (c := 0) (by rw [inc_n (by decide), inc_n (by decide), inc_n (by decide), c36]) (fun _ => rfl) (fun _ => rfl)
  have k36 : cCnt N3.2.2 36 = 0 := by rw [b3.2.2.1, inc_n (by decide), inc_n (by decide), inc_n (by decide), c36]
  have u4 := b4.upR (f := 4) (k := 0) (i := 6) (v := some (36, cCnt N3.2.2 36)) (by rw [k36]; rfl)
  obtain ⟨N5, e5⟩ : ∃ N, newM (N4.1, upR N4.2.1 4 0 6 (some (36, cCnt N3.2.2 36)), N4.2.2) 37 17 17 = N := ⟨_, rfl⟩
  have b5 := u4.new e5 (c := 0) (by rw [inc_n (by decide), inc_n (by decide), inc_n (by decide), inc_n (by decide), c37]) (fun i => i < 17) (fun _ => False) (fun i hi => if_neg hi) (fun _ _ => rfl)
  have k37 : cCnt N4.2.2 37 = 0 := by rw [b4.2.2.1, inc_n (by decide), inc_n (by decide), inc_n (by decide), inc_n (by decide), c37]
  have u5 := b5.upR (f := 4) (k := 0) (i := 7) (v := some (37, cCnt N4.2.2 37)) (by rw [k37]; rfl)
  obtain ⟨N6, e6⟩ : ∃ N, newM (N5.1, upR N5.2.1 4 0 7 (some (37, cCnt N4.2.2 37)), N5.2.2) 38 8 8 = N := ⟨_, rfl⟩
  have b6 := u5.new e6 (c := 0) (by rw [inc_n (by decide), inc_n (by decide), inc_n (by decide), inc_n (by decide), inc_n (by decide), c38]) (fun _ => False) (fun i => i < 8) (fun _ _ => rfl) (fun i hi => if_neg hi)
  have k38 : cCnt N5.2.2 38 = 0 := by rw [b5.2.2.1, inc_n (by decide), inc_n (by decide), inc_n (by decide), inc_n (by decide), inc_n (by decide), c38]
  have u6 := b6.upR (f := 4) (k := 0) (i := 9) (v := some (38, cCnt N5.2.2 38)) (by rw [k38]; rfl)
  obtain ⟨N7, e7⟩ : ∃ N, newM (N6.1, upR N6.2.1 4 0 9 (some (38, cCnt N5.2.2 38)), N6.2.2) 39 20 20 = N := ⟨_, rfl⟩
  have b7 := u6.row e7 (c := 0) (by rw [inc_n (by decide), inc_n (by decide), inc_n (by decide), inc_n (by decide), inc_n (by decide), inc_n (by decide), c39]) (fun _ => rfl) (fun _ => rfl)
  have k39 : cCnt N6.2.2 39 = 0 := by rw [b6.2.2.1, inc_n (by decide), inc_n (by decide), inc_n (by decide), inc_n (by decide), inc_n (by decide), inc_n (by decide), c39]
  have u7 := b7.upR (f := 4) (k := 0) (i := 12) (v := some (39, cCnt N6.2.2 39)) (by rw [k39]; rfl)
  have f1 := u7.fl (f := 37) (k := 0) (n := 17) (v := 1)
  have key : ∀ n x : Nat, n + x = 8 → ∀ N : Mem, Bu W (fun f k i => (U f k i ∧ ¬ (f = 4 ∧ k = 0 ∧ (i = 1 ∨ i = 3 ∨ i = 5 ∨ i = 6 ∨ i = 7 ∨ i = 9 ∨ i = 12))) ∨ (f = 38 ∧ k = 0 ∧ x ≤ i ∧ i < 8)) (incN (inc (inc (inc (inc (inc (inc (inc cn 33) 34) 35) 36) 37) 38) 39) 5 x) (nc + 7 + x) (ns + 193 + 12 * x) N → ∃ M', Ex l G (d + 2) mX8_init 71 [some (vR (some (4, 0))), some (vI (x : Int))] [] N none M' ∧ Bu W (fun f k i => U f k i ∧ ¬ (f = 4 ∧ k = 0 ∧ (i = 1 ∨ i = 3 ∨ i = 5 ∨ i = 6 ∨ i = 7 ∨ i = 9 ∨ i = 12))) (incN (inc (inc (inc (inc (inc (inc (inc cn 33) 34) 35) 36) 37) 38) 39) 5 8) (nc + 15) (ns + 289) M' := by
    intro n
    induction n with
    | zero =>
      intro x hx N hb
      have ex : x = 8 := by omega
      subst ex
      refine ⟨N, xX8_initn_71 ⟨fun _ => ⟨rfl, rfl⟩, fun c => absurd (by omega) c⟩, (hb.mo (fun _ _ _ h => h) (fun f k i hw => ?_)).cc (fun _ => rfl) (by omega) (by omega)⟩
      rcases hw with hw | hw
      · exact hw
      · omega
    | succ n ih =>
      intro x hx N hb
      have hcl : incN (inc (inc (inc (inc (inc (inc (inc cn 33) 34) 35) 36) 37) 38) 39) 5 x 5 = x := by
        unfold incN
        rw [if_pos rfl, inc_n (by decide), inc_n (by decide), inc_n (by decide), inc_n (by decide), inc_n (by decide), inc_n (by decide), inc_n (by decide), c5]
        omega
      obtain ⟨N1, e1⟩ : ∃ N1, newM N 5 0 12 = N1 := ⟨_, rfl⟩
      have a1 := hb.new e1 (c := x) hcl (fun i => i = 8) (fun _ => False) (fun i hi => if_neg hi) (fun _ _ => rfl)
      have a2 := a1.upI (f := 5) (k := x) (i := 8) (v := -1) rfl
      have kx : cCnt N.2.2 5 = x := (hb.2.2.1 5).trans hcl
      have a3 := a2.upR (f := 38) (k := 0) (i := x) (v := some (5, x)) (by show _ = if x < 8 then some (5, x) else none; rw [if_pos (by omega)])
      have a4 := (a3.mo (W' := W) (U' := fun f k i => (U f k i ∧ ¬ (f = 4 ∧ k = 0 ∧ (i = 1 ∨ i = 3 ∨ i = 5 ∨ i = 6 ∨ i = 7 ∨ i = 9 ∨ i = 12))) ∨ (f = 38 ∧ k = 0 ∧ x + 1 ≤ i ∧ i < 8)) (fun f k i hw => by
        rcases hw with ⟨hw | hw, hn⟩
        · exact hw
        · exact absurd hw hn) (fun f k i hw => by
        rcases hw with ⟨(hw | hw) | hw, hn⟩
        · exact .inl hw
        · exact .inr (by omega)
        · exact hw.2.2.elim)).cc (cn' := incN (inc (inc (inc (inc (inc (inc (inc cn 33) 34) 35) 36) 37) 38) 39) 5 (x + 1)) (nc' := nc + 7 + (x + 1)) (ns' := ns + 193 + 12 * (x + 1)) (fun f => by
        unfold incN
        by_cases e : f = 5
        · subst e; rw [inc_s, if_pos rfl, if_pos rfl]; omega
        · rw [inc_n e, if_neg e, if_neg e]) (by omega) (by omega)
      obtain ⟨M', y1, y2⟩ := ih (x + 1) (by omega) _ a4
      refine ⟨M', xX8_initn_71 ⟨fun c => by omega, fun _ N2 e2 => ?_⟩, y2⟩
      rw [e1] at e2
      subst e2
      rw [kx, Int.toNat_natCast]
      refine ⟨_, xX5_init_0 ⟨rfl, rfl⟩, 0, ?_, ⟨by omega, by unfold InR; omega⟩, y1⟩
      rw [hb.2.1 4 0 9 (fun h => by omega)]
      rfl
  have f2 := (f1.mo (W' := W) (U' := fun f k i => (U f k i ∧ ¬ (f = 4 ∧ k = 0 ∧ (i = 1 ∨ i = 3 ∨ i = 5 ∨ i = 6 ∨ i = 7 ∨ i = 9 ∨ i = 12))) ∨ (f = 38 ∧ k = 0 ∧ 0 ≤ i ∧ i < 8)) (fun f k i hw => by
    rcases hw with ⟨hw, hn⟩ | ⟨rfl, rfl, h17, hv⟩
    · rcases hw with (hw | hw) | hw
      · exact hw
      · exact absurd hw hn
      · exact hw.2.2.elim
    · exact absurd (show (1 : Int) = if i < 17 then 1 else 0 by rw [if_pos h17]) hv) (fun f k i hw => by
    obtain ⟨⟨hw, hg⟩, hh⟩ := hw
    rcases hw with ⟨hw, he⟩ | hw
    · rcases hw with ⟨⟨⟨⟨hu, ha⟩, hb⟩, hc⟩, hd⟩ | hw
      · exact .inl ⟨hu, fun h4 => by omega⟩
      · exact hw.2.2.elim
    · exact .inr (by omega))).cc (cn' := incN (inc (inc (inc (inc (inc (inc (inc cn 33) 34) 35) 36) 37) 38) 39) 5 0) (nc' := nc + 7 + 0) (ns' := ns + 193 + 12 * 0) (fun f => by
      unfold incN
      split <;> rfl) (by omega) (by omega)
  obtain ⟨M', y1, y2⟩ := key 8 0 rfl _ f2
  refine ⟨M', xX8_initn_0 (fun Z1 g1 Z2 g2 Z3 g3 Z4 g4 Z5 g5 Z6 g6 Z7 g7 => ?_), y2⟩
  rw [e1] at g1; subst g1
  rw [e2] at g2; subst g2
  rw [e3] at g3; subst g3
  rw [e4] at g4; subst g4
  rw [e5] at g5; subst g5
  rw [e6] at g6; subst g6
  rw [e7] at g7; subst g7
  rw [k37]
  exact y1
end BV
/-- what stands before the first object of the two is made -/
def cnA : Nat → Nat := fun f => if f = 0 then 1 else if f = 1 then 28 else 0
theorem cnA_hi : ∀ f, 48 ≤ f → cnA f = 0 := fun f h => by unfold cnA; rw [if_neg (by omega), if_neg (by omega)]
theorem inc_hi {cn : Nat → Nat} {g : Nat} (hg : g < 48) (h : ∀ f, 48 ≤ f → cn f = 0) : ∀ f, 48 ≤ f → inc cn g f = 0 := fun f hf => by rw [inc_n (by omega)]; exact h f hf
theorem incN_hi {cn : Nat → Nat} {g x : Nat} (hg : g < 48) (h : ∀ f, 48 ≤ f → cn f = 0) : ∀ f, 48 ≤ f → incN cn g x f = 0 := fun f hf => by unfold incN; rw [if_neg (by omega)]; exact h f hf
section BW
variable {l : Launch} {G : Gt} {d : Nat} {M : Mem}
theorem BX11_init (h : Bu (fun f _ _ => f < 0) (fun f k i => f = 2 ∧ k = 0 ∧ (i ≤ 9 ∨ i = 11 ∨ 13 ≤ i ∧ i ≤ 15)) (inc cnA 2) 1 16 M) : ∃ M' cn nc ns, Cl l G (d + 3) mX11_init [vR (some (2, 0))] M none M' ∧ Bu (fun f _ _ => f < 0) (fun f _ _ => f < 0) cn nc ns M' ∧ (cn 0 = 1 ∧ cn 1 = 28 ∧ cn 3 = 0 ∧ cn 4 = 1 ∧ cn 5 = 9 ∧ cn 13 = 0 ∧ cn 14 = 0) ∧ (cn 29 = 0 ∧ cn 30 = 0 ∧ cn 31 = 0 ∧ cn 32 = 0 ∧ cn 47 = 0) ∧ (cn 33 = 1 ∧ cn 34 = 1 ∧ cn 35 = 1 ∧ cn 36 = 1 ∧ cn 37 = 1 ∧ cn 38 = 1 ∧ cn 39 = 1) ∧ (∀ f, 48 ≤ f → cn f = 0) ∧ nc ≤ 100 ∧ ns ≤ 10000 := by
  obtain ⟨N1, e1⟩ : ∃ N, newM M 4 0 13 = N := ⟨_, rfl⟩
  have k4 : cCnt M.2.2 4 = 0 := (h.2.2.1 4).trans (by decide +kernel)
  have a1 := h.new e1 (c := 0) (by decide +kernel) (fun i => i < 0) (fun i => (i = 1 ∨ i = 3 ∨ i = 5 ∨ i = 6 ∨ i = 7 ∨ i = 9 ∨ i = 12)) (fun _ _ => rfl) (pr_4)
  obtain ⟨C1, x1, p1⟩ := BX8_init (l := l) (G := G) (d := d) a1 (by decide +kernel) (by decide +kernel) (by decide +kernel) (by decide +kernel) (by decide +kernel) (by decide +kernel) (by decide +kernel) (by decide +kernel)
  have v1 := p1.upR (f := 2) (k := 0) (i := 0) (v := some (4, cCnt M.2.2 4)) (by rw [k4]; rfl)
  have u1 := v1.mo (W' := fun f _ _ => f < 0) (U' := fun f k i => f = 2 ∧ k = 0 ∧ (i ≤ 9 ∨ i = 11 ∨ 13 ≤ i ∧ i ≤ 15) ∧ 0 < i) (fun f k i hw => by omega) (fun f k i hw => by
    obtain ⟨⟨hw, n0⟩, nz⟩ := hw
    rcases hw with hw | ⟨rfl, rfl, hp⟩
    · clear n0; omega
    · exfalso; omega)
  obtain ⟨N2, e2⟩ : ∃ N, newM (C1.1, upR C1.2.1 2 0 0 (some (4, cCnt M.2.2 4)), C1.2.2) 6 0 3 = N := ⟨_, rfl⟩
  have k6 : cCnt C1.2.2 6 = 0 := (p1.2.2.1 6).trans (by decide +kernel)
  have a2 := u1.new e2 (c := 0) (by decide +kernel) (fun i => i = 2) (fun i => (i ≤ 1)) (fun i hi => if_neg hi) (pr_6)
  obtain ⟨C2, x2, p2⟩ := BX6_init (l := l) (G := G) (d := d + 1) a2 (by decide +kernel)
  have v2 := p2.upR (f := 2) (k := 0) (i := 1) (v := some (6, cCnt C1.2.2 6)) (by rw [k6]; rfl)
  have u2 := v2.mo (W' := fun f _ _ => f < 0) (U' := fun f k i => f = 2 ∧ k = 0 ∧ (i ≤ 9 ∨ i = 11 ∨ 13 ≤ i ∧ i ≤ 15) ∧ 1 < i) (fun f k i hw => by omega) (fun f k i hw => by
    obtain ⟨⟨⟨hw, n0⟩, n1⟩, nz⟩ := hw
    rcases hw with hw | ⟨rfl, rfl, hp⟩
    · clear n0 n1; omega
    · exfalso; omega)
  obtain ⟨N3, e3⟩ : ∃ N, newM (C2.1, upR C2.2.1 2 0 1 (some (6, cCnt C1.2.2 6)), C2.2.2) 7 0 2 = N := ⟨_, rfl⟩
  have k7 : cCnt C2.2.2 7 = 0 := (p2.2.2.1 7).trans (by decide +kernel)
  have a3 := u2.new e3 (c := 0) (by decide +kernel) (fun i => i < 0) (fun i => (i ≤ 1)) (fun _ _ => rfl) (pr_7)
  obtain ⟨C3, x3, p3⟩ := BX10_init (l := l) (G := G) (d := d + 1) a3 (by decide +kernel) (by decide +kernel) (fun f k i h => by omega) (fun f k i h => by omega)
  have v3 := p3.upR (f := 2) (k := 0) (i := 2) (v := some (7, cCnt C2.2.2 7)) (by rw [k7]; rfl)
  have u3 := v3.mo (W' := fun f _ _ => f < 0) (U' := fun f k i => f = 2 ∧ k = 0 ∧ (i ≤ 9 ∨ i = 11 ∨ 13 ≤ i ∧ i ≤ 15) ∧ 2 < i) (fun f k i hw => by omega) (fun f k i hw => by
    obtain ⟨⟨⟨hw, n0⟩, n1⟩, nz⟩ := hw
    rcases hw with hw | ⟨rfl, rfl, hp⟩
    · clear n0 n1; omega
    · exfalso; omega)
  obtain ⟨N4, e4⟩ : ∃ N, newM (C3.1, upR C3.2.1 2 0 2 (some (7, cCnt C2.2.2 7)), C3.2.2) 8 0 4 = N := ⟨_, rfl⟩
  have k8 : cCnt C3.2.2 8 = 0 := (p3.2.2.1 8).trans (by decide +kernel)
  have a4 := u3.new e4 (c := 0) (by decide +kernel) (fun i => i < 0) (fun i => (i ≤ 2)) (fun _ _ => rfl) (pr_8)
  obtain ⟨C4, x4, p4⟩ := BX3_init (l := l) (G := G) (d := d + 1) a4 (by decide +kernel) (by decide +kernel) (by decide +kernel)
  have v4 := p4.upR (f := 2) (k := 0) (i := 3) (v := some (8, cCnt C3.2.2 8)) (by rw [k8]; rfl)
  have u4 := v4.mo (W' := fun f _ _ => f < 0) (U' := fun f k i => f = 2 ∧ k = 0 ∧ (i ≤ 9 ∨ i = 11 ∨ 13 ≤ i ∧ i ≤ 15) ∧ 3 < i) (fun f k i hw => by omega) (fun f k i hw => by
    obtain ⟨⟨⟨⟨hw, n0⟩, n1⟩, n2⟩, nz⟩ := hw
    rcases hw with hw | ⟨rfl, rfl, hp⟩
    · clear n0 n1 n2; omega
    · exfalso; omega)
  obtain ⟨N5, e5⟩ : ∃ N, newM (C4.1, upR C4.2.1 2 0 3 (some (8, cCnt C3.2.2 8)), C4.2.2) 9 0 13 = N := ⟨_, rfl⟩
  have k9 : cCnt C4.2.2 9 = 0 := (p4.2.2.1 9).trans (by decide +kernel)
  have a5 := u4.new e5 (c := 0) (by decide +kernel) (fun i => i < 0) (fun i => (i ≤ 3 ∨ i = 12)) (fun _ _ => rfl) (pr_9)
  obtain ⟨C5, x5, p5⟩ := BX0_init (l := l) (G := G) (d := d + 1) a5 (by decide +kernel)
  have v5 := p5.upR (f := 2) (k := 0) (i := 4) (v := some (9, cCnt C4.2.2 9)) (by rw [k9]; rfl)
  have u5 := v5.mo (W' := fun f _ _ => f < 0) (U' := fun f k i => f = 2 ∧ k = 0 ∧ (i ≤ 9 ∨ i = 11 ∨ 13 ≤ i ∧ i ≤ 15) ∧ 4 < i) (fun f k i hw => by omega) (fun f k i hw => by
    obtain ⟨⟨⟨⟨⟨⟨hw, n0⟩, n1⟩, n2⟩, n3⟩, n4⟩, nz⟩ := hw
    rcases hw with hw | ⟨rfl, rfl, hp⟩
    · clear n0 n1 n2 n3 n4; omega
    · exfalso; omega)
  obtain ⟨N6, e6⟩ : ∃ N, newM (C5.1, upR C5.2.1 2 0 4 (some (9, cCnt C4.2.2 9)), C5.2.2) 10 0 5 = N := ⟨_, rfl⟩
  have k10 : cCnt C5.2.2 10 = 0 := (p5.2.2.1 10).trans (by decide +kernel)
  have a6 := u5.new e6 (c := 0) (by decide +kernel) (fun i => i < 0) (fun i => (i ≤ 4)) (fun _ _ => rfl) (pr_10)
  obtain ⟨C6, x6, p6⟩ := BX9_init (l := l) (G := G) (d := d + 1) a6 (by decide +kernel) (by decide +kernel) (by decide +kernel) (by decide +kernel) (by decide +kernel)
  have v6 := p6.upR (f := 2) (k := 0) (i := 5) (v := some (10, cCnt C5.2.2 10)) (by rw [k10]; rfl)
  have u6 := v6.mo (W' := fun f _ _ => f < 0) (U' := fun f k i => f = 2 ∧ k = 0 ∧ (i ≤ 9 ∨ i = 11 ∨ 13 ≤ i ∧ i ≤ 15) ∧ 5 < i) (fun f k i hw => by omega) (fun f k i hw => by
    obtain ⟨⟨⟨⟨⟨⟨hw, n0⟩, n1⟩, n2⟩, n3⟩, n4⟩, nz⟩ := hw
    rcases hw with hw | ⟨rfl, rfl, hp⟩
    · clear n0 n1 n2 n3 n4; omega
    · exfalso; omega)
  obtain ⟨N7, e7⟩ : ∃ N, newM (C6.1, upR C6.2.1 2 0 5 (some (10, cCnt C5.2.2 10)), C6.2.2) 11 0 8 = N := ⟨_, rfl⟩
  have k11 : cCnt C6.2.2 11 = 0 := (p6.2.2.1 11).trans (by decide +kernel)
  have a7 := u6.new e7 (c := 0) (by decide +kernel) (fun i => i < 0) (fun i => (i = 0 ∨ i = 2)) (fun _ _ => rfl) (pr_11)
  obtain ⟨C7, x7, p7⟩ := BX4_init (l := l) (G := G) (d := d + 1) a7 (by decide +kernel) (by decide +kernel)
  have v7 := p7.upR (f := 2) (k := 0) (i := 6) (v := some (11, cCnt C6.2.2 11)) (by rw [k11]; rfl)
  have u7 := v7.mo (W' := fun f _ _ => f < 0) (U' := fun f k i => f = 2 ∧ k = 0 ∧ (i ≤ 9 ∨ i = 11 ∨ 13 ≤ i ∧ i ≤ 15) ∧ 6 < i) (fun f k i hw => by omega) (fun f k i hw => by
    obtain ⟨⟨⟨hw, n0⟩, n1⟩, nz⟩ := hw
    rcases hw with hw | ⟨rfl, rfl, hp⟩
    · clear n0 n1; omega
    · exfalso; omega)
  obtain ⟨N8, e8⟩ : ∃ N, newM (C7.1, upR C7.2.1 2 0 6 (some (11, cCnt C6.2.2 11)), C7.2.2) 12 0 10 = N := ⟨_, rfl⟩
  have k12 : cCnt C7.2.2 12 = 0 := (p7.2.2.1 12).trans (by decide +kernel)
  have a8 := u7.new e8 (c := 0) (by decide +kernel) (fun i => i < 0) (fun i => (i = 0 ∨ i = 8)) (fun _ _ => rfl) (pr_12)
  obtain ⟨C8, x8, p8⟩ := BX2_init (l := l) (G := G) (d := d + 1) a8 (by decide +kernel) (by decide +kernel)
  have v8 := p8.upR (f := 2) (k := 0) (i := 7) (v := some (12, cCnt C7.2.2 12)) (by rw [k12]; rfl)
  have u8 := v8.mo (W' := fun f _ _ => f < 0) (U' := fun f k i => f = 2 ∧ k = 0 ∧ (i ≤ 9 ∨ i = 11 ∨ 13 ≤ i ∧ i ≤ 15) ∧ 7 < i) (fun f k i hw => by omega) (fun f k i hw => by
    obtain ⟨⟨⟨hw, n0⟩, n1⟩, nz⟩ := hw
    rcases hw with hw | ⟨rfl, rfl, hp⟩
    · clear n0 n1; omega
    · exfalso; omega)
  obtain ⟨N9, e9⟩ : ∃ N, newM (C8.1, upR C8.2.1 2 0 7 (some (12, cCnt C7.2.2 12)), C8.2.2) 5 0 12 = N := ⟨_, rfl⟩
  have k5 : cCnt C8.2.2 5 = 8 := (p8.2.2.1 5).trans (by decide +kernel)
  have a9 := u8.new e9 (c := 8) (by decide +kernel) (fun i => i = 8) (fun i => i < 0) (fun i hi => if_neg hi) (fun _ _ => rfl)
  have p9 := a9.upI (f := 5) (k := 8) (i := 8) (v := -1) rfl
  have x9 : Cl l G (d + 2) mX5_init [vR (some (5, 8))] N9 none _ := xX5_init_0 ⟨rfl, rfl⟩
  obtain ⟨C9, hC9⟩ : ∃ C, (upI N9.1 5 8 8 (-1), N9.2.1, N9.2.2) = C := ⟨_, rfl⟩
  rw [hC9] at p9 x9
  have v9 := p9.upR (f := 2) (k := 0) (i := 8) (v := some (5, cCnt C8.2.2 5)) (by rw [k5]; rfl)
  have u9 := v9.mo (W' := fun f _ _ => f < 0) (U' := fun f k i => f = 2 ∧ k = 0 ∧ (i ≤ 9 ∨ i = 11 ∨ 13 ≤ i ∧ i ≤ 15) ∧ 8 < i) (fun f k i hw => by omega) (fun f k i hw => by
    obtain ⟨hw, nz⟩ := hw
    rcases hw with hw | ⟨rfl, rfl, hp⟩
    · omega
    · exfalso; omega)
  obtain ⟨N10, e10⟩ : ∃ N, newM (C9.1, upR C9.2.1 2 0 8 (some (5, cCnt C8.2.2 5)), C9.2.2) 15 8 8 = N := ⟨_, rfl⟩
  have k15 : cCnt C9.2.2 15 = 0 := (p9.2.2.1 15).trans (by decide +kernel)
  have a10 := u9.row e10 (c := 0) (by decide +kernel) (fun _ => rfl) (fun _ => rfl)
  have u10 := (a10.upR (f := 2) (k := 0) (i := 9) (v := some (15, cCnt C9.2.2 15)) (by rw [k15]; rfl)).mo (W' := fun f _ _ => f < 0) (U' := fun f k i => f = 2 ∧ k = 0 ∧ (i ≤ 9 ∨ i = 11 ∨ 13 ≤ i ∧ i ≤ 15) ∧ 9 < i) (fun f k i hw => by omega) (fun f k i hw => by omega)
  obtain ⟨N11, e11⟩ : ∃ N, newM (N10.1, upR N10.2.1 2 0 9 (some (15, cCnt C9.2.2 15)), N10.2.2) 16 400 400 = N := ⟨_, rfl⟩
  have k16 : cCnt N10.2.2 16 = 0 := (a10.2.2.1 16).trans (by decide +kernel)
  have a11 := u10.row e11 (c := 0) (by decide +kernel) (fun _ => rfl) (fun _ => rfl)
  have u11 := (a11.upR (f := 2) (k := 0) (i := 11) (v := some (16, cCnt N10.2.2 16)) (by rw [k16]; rfl)).mo (W' := fun f _ _ => f < 0) (U' := fun f k i => f = 2 ∧ k = 0 ∧ (i ≤ 9 ∨ i = 11 ∨ 13 ≤ i ∧ i ≤ 15) ∧ 11 < i) (fun f k i hw => by omega) (fun f k i hw => by omega)
  obtain ⟨N12, e12⟩ : ∃ N, newM (N11.1, upR N11.2.1 2 0 11 (some (16, cCnt N10.2.2 16)), N11.2.2) 17 4 4 = N := ⟨_, rfl⟩
  have k17 : cCnt N11.2.2 17 = 0 := (a11.2.2.1 17).trans (by decide +kernel)
  have a12 := u11.row e12 (c := 0) (by decide +kernel) (fun _ => rfl) (fun _ => rfl)
  have u12 := (a12.upR (f := 2) (k := 0) (i := 13) (v := some (17, cCnt N11.2.2 17)) (by rw [k17]; rfl)).mo (W' := fun f _ _ => f < 0) (U' := fun f k i => f = 2 ∧ k = 0 ∧ (i ≤ 9 ∨ i = 11 ∨ 13 ≤ i ∧ i ≤ 15) ∧ 13 < i) (fun f k i hw => by omega) (fun f k i hw => by omega)
  obtain ⟨N13, e13⟩ : ∃ N, newM (N12.1, upR N12.2.1 2 0 13 (some (17, cCnt N11.2.2 17)), N12.2.2) 18 8 8 = N := ⟨_, rfl⟩
  have k18 : cCnt N12.2.2 18 = 0 := (a12.2.2.1 18).trans (by decide +kernel)
  have a13 := u12.row e13 (c := 0) (by decide +kernel) (fun _ => rfl) (fun _ => rfl)
  have u13 := (a13.upR (f := 2) (k := 0) (i := 14) (v := some (18, cCnt N12.2.2 18)) (by rw [k18]; rfl)).mo (W' := fun f _ _ => f < 0) (U' := fun f k i => f = 2 ∧ k = 0 ∧ (i ≤ 9 ∨ i = 11 ∨ 13 ≤ i ∧ i ≤ 15) ∧ 14 < i) (fun f k i hw => by omega) (fun f k i hw => by omega)
  obtain ⟨N14, e14⟩ : ∃ N, newM (N13.1, upR N13.2.1 2 0 14 (some (18, cCnt N12.2.2 18)), N13.2.2) 19 12 12 = N := ⟨_, rfl⟩
  have k19 : cCnt N13.2.2 19 = 0 := (a13.2.2.1 19).trans (by decide +kernel)
  have a14 := u13.row e14 (c := 0) (by decide +kernel) (fun _ => rfl) (fun _ => rfl)
  have u14 := (a14.upR (f := 2) (k := 0) (i := 15) (v := some (19, cCnt N13.2.2 19)) (by rw [k19]; rfl)).mo (W' := fun f _ _ => f < 0) (U' := fun f _ _ => f < 0) (fun f k i hw => by omega) (fun f k i hw => by omega)
  refine ⟨_, _, _, _, xX11_init_0 ?_, u14, ⟨by decide +kernel, by decide +kernel, by decide +kernel, by decide +kernel, by decide +kernel, by decide +kernel, by decide +kernel⟩, ⟨by decide +kernel, by decide +kernel, by decide +kernel, by decide +kernel, by decide +kernel⟩, ⟨by decide +kernel, by decide +kernel, by decide +kernel, by decide +kernel, by decide +kernel, by decide +kernel, by decide +kernel⟩, ?_, by decide +kernel, by decide +kernel⟩
  · intro Z1 g1
    rw [e1] at g1; subst g1
    refine ⟨C1, by rw [k4]; exact x1, ?_⟩
    intro Z2 g2
    rw [e2] at g2; subst g2
    refine ⟨C2, by rw [k6, k4]; exact x2, ?_⟩
    intro Z3 g3
    rw [e3] at g3; subst g3
    refine ⟨C3, by rw [k7]; exact x3, ?_⟩
    intro Z4 g4
    rw [e4] at g4; subst g4
    refine ⟨C4, by rw [k8]; exact x4, ?_⟩
    intro Z5 g5
    rw [e5] at g5; subst g5
    refine ⟨0, p4.2.1 2 0 0 (fun h => by omega), 0, p4.2.1 2 0 1 (fun h => by omega), 0, p4.2.1 2 0 2 (fun h => by omega), C5, by rw [k9, k8]; exact x5, ?_⟩
    intro Z6 g6
    rw [e6] at g6; subst g6
    refine ⟨C6, by rw [k10]; exact x6, ?_⟩
    intro Z7 g7
    rw [e7] at g7; subst g7
    refine ⟨C7, by rw [k11]; exact x7, ?_⟩
    intro Z8 g8
    rw [e8] at g8; subst g8
    refine ⟨C8, by rw [k12]; exact x8, ?_⟩
    intro Z9 g9
    rw [e9] at g9; subst g9
    refine ⟨C9, by rw [k5]; exact x9, ?_⟩
    intro Z10 g10 Z11 g11 Z12 g12 Z13 g13 Z14 g14
    rw [e10] at g10; subst g10
    rw [e11] at g11; subst g11
    rw [e12] at g12; subst g12
    rw [e13] at g13; subst g13
    rw [e14] at g14; subst g14
    exact ⟨rfl, rfl⟩
  · repeat (first | refine inc_hi (by decide) ?_ | refine incN_hi (by decide) ?_)
    exact cnA_hi
end BW
