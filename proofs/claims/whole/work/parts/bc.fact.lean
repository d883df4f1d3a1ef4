/-! A FACT on the reference: fact -/
section RW5
variable {l : Launch} {G : Gt} {d : Nat} {M : Mem} {r : Option Vl} {M' : Mem} {t : Tp} {n sl q p : Nat} {e dp ti cn x1 x2 : Int} {o s : List (Int × Int)} {I I' I'' : IM} {c c' : Cf}
/-- a fault was met: what else stands there does not count -/
def Fl (sl : Nat) (t : Tp) (n : Nat) (e : Int) (I : IM) : Prop := ∃ q o dp ti cn s, Rg sl t n q e o dp ti cn s I ∧ o.length + s.length ≤ 400
def Hc (sl : Nat) (t : Tp) (n p : Nat) (c : Cf) (I : IM) : Prop := Rg sl t n p 0 (cO c) (dpN (cS c)) (tiN (cS c)) (cC c) (cS c) I
def FaR (sl : Nat) (t : Tp) (n : Nat) (c : Cf) (b : Int) (I : IM) : Prop := (cE c = 0 ∧ ((cM c = 1 ∧ b = 1) ∨ (cM c = 0 ∧ b = 0)) ∧ Hc sl t n (cP c) c I) ∨ (¬ cE c = 0 ∧ cM c = 3 ∧ ∃ q o dp ti cn s, Rg sl t n q (cE c) o dp ti cn s I ∧ o.length + s.length ≤ 400 ∧ (b = 0 → q ≤ n))
theorem FaR.fl {p code : Nat} {b : Int} (h : Rg sl t n q (1 + 8 * (p : Int) + code) o dp ti cn s I) (hl : o.length + s.length ≤ 400) (hb : b = 0 → q ≤ n) : FaR sl t n (flC c p code) b I := .inr ⟨by show ¬ (1 + 8 * (p : Int) + code) = 0; omega, rfl, _, _, _, _, _, _, h, hl, hb⟩
theorem fact_49 (hS : Sh M.2.1) (h : Rg sl t n p 0 o dp ti cn s M.1) (hs : o.length + s.length ≤ p) (hp : p + (if x1 = 0 then 3 else 1) ≤ n) (hd : 0 ≤ dp ∧ dp ≤ 10) : ∃ I', Ex l G (d + 1) mX12_fact 49 [some (vR (some (3, 0))), some (vI x1), none] [] M (some (vI 0)) (I', M.2.1, M.2.2) ∧ Rg sl t n (p + (if x1 = 0 then 3 else 1)) (if dp = 10 then 1 + 8 * (p : Int) + (2 : Nat) else 0) o (dp + 1) ti cn ((if x1 = 0 then 3 else 7, 0) :: s) I' ∧ frV sl M.1 I' := by
  have hn := h.1.2.1
  have h67 : ∀ {M : Mem} {e : Int}, Sh M.2.1 → Rg sl t n p e o dp ti cn s M.1 → ∃ I', Ex l G (d + 1) mX12_fact 67 [some (vR (some (3, 0))), some (vI x1), none] [] M (some (vI 0)) (I', M.2.1, M.2.2) ∧ Rg sl t n (p + (if x1 = 0 then 3 else 1)) e o (dp + 1) ti cn ((if x1 = 0 then 3 else 7, 0) :: s) I' ∧ frV sl M.1 I' := by
    intro M e hS h
    have h35 : M.1 3 0 35 = dp := h.2.2.2.2.2.1
    have g1 : Rg sl t n p e o (dp + 1) ti cn s (upI M.1 3 0 35 (M.1 3 0 35 + 1)) := h.md (by omega) rfl rfl (by rw [if_pos rfl, h35]) rfl rfl
    obtain ⟨I1, k1, k2, k3⟩ := KX12_opens (l := l) (G := G) (d := d) (M := (upI M.1 3 0 35 (M.1 3 0 35 + 1), M.2.1, M.2.2)) (x1 := (if x1 = 0 then 3 else 7 : Int)) (x2 := 0) hS g1 (by omega)
    have h30 : I1 3 0 30 = (p : Int) := k2.2.2.1
    refine ⟨upI I1 3 0 30 (I1 3 0 30 + (if x1 = 0 then 3 else 1 : Int)), xX12_fact_67 ⟨by unfold InR; omega, _, k1, ?_, rfl, rfl⟩, k2.md (by omega) ?_ rfl rfl rfl rfl, ((frV.md (by omega)).tr k3).tr (frV.md (by omega))⟩
    · dsimp only; unfold InR; split <;> omega
    · rw [if_pos rfl, h30]; split <;> omega
  have h35 : M.1 3 0 35 = dp := h.2.2.2.2.2.1
  have h30 : M.1 3 0 30 = (p : Int) := h.2.2.1
  by_cases c0 : dp = 10
  · obtain ⟨I1, k1, k2, k3⟩ := KX12_fails (l := l) (G := G) (d := d) (x1 := 2) (x2 := (p : Int)) h (by omega) (by split at hp <;> omega)
    obtain ⟨I2, j1, j2, j3⟩ := h67 (M := (I1, M.2.1, M.2.2)) hS k2
    refine ⟨I2, xX12_fact_49 ⟨fun c => absurd (h35.trans c0) c, fun _ => ⟨_, by rw [h30]; exact k1, j1⟩⟩, ?_, k3.tr j3⟩
    rw [if_pos c0]; rw [if_pos rfl] at j2; exact j2
  · obtain ⟨I2, j1, j2, j3⟩ := h67 hS h
    refine ⟨I2, xX12_fact_49 ⟨fun _ => j1, fun c => absurd (h35.symm.trans c) c0⟩, ?_, j3⟩
    rw [if_neg c0]; exact j2
theorem fact_269 (hS : Sh M.2.1) (hStr : cCnt M.2.2 1 = 28) (h : Hc sl t n p c M.1) (hp : p ≤ n) (hl : (cO c).length + (cS c).length ≤ p) (he : cE c = 0) (hc : cC c ≤ 30) : ∃ I', Ex l G (d + 5) mX12_fact 269 [some (vR (some (3, 0))), some (vI x1), some (vI x2)] [] M (some (vI 1)) (I', M.2.1, M.2.2) ∧ frV sl M.1 I' ∧ FaR sl t n (stA4 t n c p) 1 I' := by
  have hn := h.1.2.1
  have h30 : M.1 3 0 30 = (p : Int) := h.2.2.1
  have w0 := KX12_isWord (l := l) (G := G) (d := d) (j := 11) hS hStr (by omega) h.1 h30 hp
  by_cases c0 : isW t n 0 p = true
  · have hW : isW t n 11 p = true := c0
    rw [if_pos hW] at w0
    have hpn : p + 2 ≤ n := isW_n hp c0
    obtain ⟨I1, k1, k2, k3⟩ := KX12_counts (l := l) (G := G) (d := d + 3) h (by omega) (by omega)
    have h31 := k2.2.2.2.1
    have eS : stA4 t n c p = (if cC c = 30 then flC c p 3 else
    if dg t n (bl t n (p + 2)) = bl t n (p + 2) then flC c (bl t n (p + 2)) 0
    else if bl t n (p + 2) + 1 < dg t n (bl t n (p + 2)) ∨ 56 ≤ t (bl t n (p + 2)) then flC c (bl t n (p + 2)) 1
    else (1, dg t n (bl t n (p + 2)), cE c, cO c ++ [(1, t (bl t n (p + 2)) - 48)], cC c + 1, cS c)) := by unfold stA4; rw [if_pos c0]
    by_cases c1 : cC c = 30
    · rw [if_pos ⟨rfl, by omega⟩] at k2 h31
      refine ⟨I1, xX12_fact_269 hStr ⟨1, M, w0, fun c => by omega, fun _ => ⟨_, k1, fun _ => xX12_fact_306 ⟨rfl, rfl⟩, fun c => by dsimp only at c; omega⟩⟩, k3, ?_⟩
      rw [eS, if_pos c1]
      exact FaR.fl (code := 3) k2 (by omega) (fun _ => by omega)
    · rw [if_neg (by omega)] at k2 h31
      obtain ⟨I2, j1, j2, j3⟩ := KX12_atPlace (l := l) (G := G) (d := d + 3) (M := (I1, M.2.1, M.2.2)) hS k2 hpn (by omega)
      refine ⟨I2, xX12_fact_269 hStr ⟨1, M, w0, fun c => by omega, fun _ => ⟨_, k1, fun c => absurd h31 c, fun _ => ⟨_, j1, xX12_fact_306 ⟨rfl, rfl⟩⟩⟩⟩, k3.tr j3, ?_⟩
      rw [eS, if_neg c1]
      by_cases c2 : dg t n (bl t n (p + 2)) = bl t n (p + 2)
      · rw [if_pos c2]; rw [if_pos c2] at j2
        exact FaR.fl (code := 0) j2 (by simp; omega) (fun _ => by omega)
      · rw [if_neg c2]; rw [if_neg c2, if_neg c2] at j2
        by_cases c3 : bl t n (p + 2) + 1 < dg t n (bl t n (p + 2)) ∨ 56 ≤ t (bl t n (p + 2))
        · rw [if_pos c3]; rw [if_pos c3] at j2
          exact FaR.fl (code := 1) j2 (by simp; omega) (fun _ => by omega)
        · rw [if_neg c3]; rw [if_neg c3] at j2
          exact .inl ⟨he, .inl ⟨rfl, rfl⟩, by unfold Hc; rw [show ((((1, dg t n (bl t n (p + 2)), cE c, cO c ++ [(1, t (bl t n (p + 2)) - 48)], cC c + 1, cS c) : Cf).2.2.2.2.1 : Nat) : Int) = (cC c : Int) + 1 by show ((cC c + 1 : Nat) : Int) = _; omega]; exact j2⟩
  · have hW : ¬ isW t n 11 p = true := c0
    rw [if_neg hW] at w0
    obtain ⟨I1, k1, k2, k3⟩ := KX12_fails (l := l) (G := G) (d := d + 4) (x1 := 0) (x2 := (p : Int)) h (by omega) (by omega)
    refine ⟨I1, xX12_fact_269 hStr ⟨0, M, w0, fun _ => ⟨_, by rw [h30]; exact k1, xX12_fact_306 ⟨rfl, rfl⟩⟩, fun c => absurd rfl c⟩, k3, ?_⟩
    rw [show stA4 t n c p = flC c p 0 by unfold stA4; rw [if_neg c0]]
    rw [if_pos rfl] at k2
    exact FaR.fl (code := 0) k2 (by omega) (fun _ => by omega)
theorem fact_236 (hS : Sh M.2.1) (hStr : cCnt M.2.2 1 = 28) (h : Hc sl t n p c M.1) (hp : p ≤ n) (hl : (cO c).length + (cS c).length ≤ p) (he : cE c = 0) (hc : cC c ≤ 30) : ∃ I', Ex l G (d + 5) mX12_fact 236 [some (vR (some (3, 0))), some (vI x1), some (vI x2)] [] M (some (vI 1)) (I', M.2.1, M.2.2) ∧ frV sl M.1 I' ∧ FaR sl t n (stA3 t n c p) 1 I' := by
  have hn := h.1.2.1
  have h30 : M.1 3 0 30 = (p : Int) := h.2.2.1
  have w0 := KX12_isWord (l := l) (G := G) (d := d) (j := 10) hS hStr (by omega) h.1 h30 hp
  by_cases c0 : isW t n 1 p = true
  · have hW : isW t n 10 p = true := c0
    rw [if_pos hW] at w0
    have hpn : p + 2 ≤ n := isW_n hp c0
    obtain ⟨I1, k1, k2, k3⟩ := KX12_counts (l := l) (G := G) (d := d + 3) h (by omega) (by omega)
    obtain ⟨I2, j1, j2, j3, -⟩ := KX12_emits (l := l) (G := G) (d := d + 4) (M := (I1, M.2.1, M.2.2)) (x1 := 2) (x2 := 0) hS k2 (by omega)
    have a30 : I2 3 0 30 = (p : Int) := j2.2.2.1
    have j4 := j2.md (i := 30) (v := I2 3 0 30 + 2) (q' := p + 2) (by omega) (by rw [if_pos rfl]; omega) rfl rfl rfl rfl
    refine ⟨_, xX12_fact_236 hStr ⟨1, M, w0, fun c => by omega, fun _ => ⟨_, k1, _, j1, by unfold InR; dsimp only; omega, xX12_fact_306 ⟨rfl, rfl⟩⟩⟩, (k3.tr j3).tr (frV.md (by omega)), ?_⟩
    rw [show stA3 t n c p = (if cC c = 30 then flC c p 3 else (1, p + 2, cE c, cO c ++ [(2, 0)], cC c + 1, cS c)) by unfold stA3; rw [if_pos c0]]
    by_cases c1 : cC c = 30
    · rw [if_pos c1]; rw [if_neg (by omega), if_pos ⟨rfl, by omega⟩] at j4
      exact FaR.fl (code := 3) j4 (by simp; omega) (fun _ => by omega)
    · rw [if_neg c1]; rw [if_neg (by omega), if_neg (by omega)] at j4
      exact .inl ⟨he, .inl ⟨rfl, rfl⟩, j4⟩
  · have hW : ¬ isW t n 10 p = true := c0
    rw [if_neg hW] at w0
    obtain ⟨I1, k1, k2, k3⟩ := fact_269 (l := l) (G := G) (d := d) (x1 := x1) (x2 := x2) hS hStr h hp hl he hc
    refine ⟨I1, xX12_fact_236 hStr ⟨0, M, w0, fun _ => k1, fun c => absurd rfl c⟩, k2, ?_⟩
    rw [show stA3 t n c p = stA4 t n c p by unfold stA3; rw [if_neg c0]]
    exact k3
theorem fact_196 (hS : Sh M.2.1) (hStr : cCnt M.2.2 1 = 28) (h : Hc sl t n p c M.1) (hp : p ≤ n) (hl : (cO c).length + (cS c).length ≤ p) (he : cE c = 0) (hc : cC c ≤ 30) (hx : x2 = (if we t n p = p + 1 then t p else 0)) : ∃ I', Ex l G (d + 5) mX12_fact 196 [some (vR (some (3, 0))), some (vI x1), some (vI x2)] [] M (some (vI 1)) (I', M.2.1, M.2.2) ∧ frV sl M.1 I' ∧ FaR sl t n (stA2 t n c p) 1 I' := by
  have hn := h.1.2.1
  by_cases c0 : we t n p = p + 1 ∧ t p ≤ 106
  · obtain ⟨a1, a2, a3⟩ := we_1 hp c0.1
    rw [if_pos c0.1] at hx
    subst hx
    obtain ⟨I1, k1, k2, k3⟩ := KX12_counts (l := l) (G := G) (d := d + 3) h (by omega) (by omega)
    obtain ⟨I2, j1, j2, j3, -⟩ := KX12_emits (l := l) (G := G) (d := d + 4) (M := (I1, M.2.1, M.2.2)) (x1 := 0) (x2 := t p - 97) hS k2 (by omega)
    have a30 : I2 3 0 30 = (p : Int) := j2.2.2.1
    have j4 := j2.md (i := 30) (v := I2 3 0 30 + 1) (q' := p + 1) (by omega) (by rw [if_pos rfl]; omega) rfl rfl rfl rfl
    refine ⟨_, xX12_fact_196 ⟨fun c => absurd ⟨a2, c0.2⟩ c, fun _ => ⟨_, k1, by unfold InR; omega, _, j1, by unfold InR; dsimp only; omega, xX12_fact_306 ⟨rfl, rfl⟩⟩⟩, (k3.tr j3).tr (frV.md (by omega)), ?_⟩
    rw [show stA2 t n c p = (if cC c = 30 then flC c p 3 else (1, p + 1, cE c, cO c ++ [(0, t p - 97)], cC c + 1, cS c)) by unfold stA2; rw [if_pos c0]]
    by_cases c1 : cC c = 30
    · rw [if_pos c1]; rw [if_neg (by omega), if_pos ⟨rfl, by omega⟩] at j4
      exact FaR.fl (code := 3) j4 (by simp; omega) (fun _ => by omega)
    · rw [if_neg c1]; rw [if_neg (by omega), if_neg (by omega)] at j4
      exact .inl ⟨he, .inl ⟨rfl, rfl⟩, j4⟩
  · obtain ⟨I1, k1, k2, k3⟩ := fact_236 (l := l) (G := G) (d := d) (x1 := x1) (x2 := x2) hS hStr h hp hl he hc
    refine ⟨I1, xX12_fact_196 ⟨fun _ => k1, fun c => ?_⟩, k2, ?_⟩
    · by_cases c2 : we t n p = p + 1
      · rw [if_pos c2] at hx
        exact absurd ⟨c2, by omega⟩ c0
      · rw [if_neg c2] at hx; omega
    · rw [show stA2 t n c p = stA3 t n c p by unfold stA2; rw [if_neg c0]]
      exact k3
theorem fact_134 (hS : Sh M.2.1) (hStr : cCnt M.2.2 1 = 28) (h : Hc sl t n p c M.1) (hp : p ≤ n) (hl : (cO c).length + (cS c).length ≤ p) (hm : cM c = 0) (he : cE c = 0) (hc : cC c ≤ 30) (hti : tiN (cS c) ≤ 4) (hx : x2 = (if we t n p = p + 1 then t p else 0)) : ∃ I' b, Ex l G (d + 5) mX12_fact 134 [some (vR (some (3, 0))), some (vI x1), some (vI x2)] [] M (some (vI b)) (I', M.2.1, M.2.2) ∧ frV sl M.1 I' ∧ FaR sl t n (stA1 t n c p) b I' := by
  have hn := h.1.2.1
  have h36 : M.1 3 0 36 = (tiN (cS c) : Int) := h.2.2.2.2.2.2.1
  have h30 : M.1 3 0 30 = (p : Int) := h.2.2.1
  by_cases c0 : we t n p = p + 1 ∧ 117 ≤ t p
  · obtain ⟨a1, a2, a3⟩ := we_1 hp c0.1
    rw [if_pos c0.1] at hx
    subst hx
    have go : ∀ {M : Mem} {e : Int}, Sh M.2.1 → Rg sl t n p e (cO c) (dpN (cS c)) (tiN (cS c)) (cC c) (cS c) M.1 → ∃ I', (InR (M.1 3 0 36 + 1)) ∧ (∃ (M_3 : Mem), Cl l G (d + 4) mX12_opens [vR (some (3, 0)), vI 4, vI (t p - 117)] ((upI M.1 3 0 36 (M.1 3 0 36 + 1)), M.2.1, M.2.2) none M_3 ∧ (InR (M_3.1 3 0 30 + 1)) ∧ (some (vI 0) : Option Vl) = some (vI 0) ∧ ((I', M.2.1, M.2.2) : Mem) = ((upI M_3.1 3 0 30 (M_3.1 3 0 30 + 1)), M_3.2.1, M_3.2.2)) ∧ frV sl M.1 I' ∧ Rg sl t n (p + 1) e (cO c) (dpN (cS c)) ((tiN (cS c) : Int) + 1) (cC c) ((4, t p - 117) :: cS c) I' := by
      intro M e hS h
      have h36 : M.1 3 0 36 = (tiN (cS c) : Int) := h.2.2.2.2.2.2.1
      have g1 : Rg sl t n p e (cO c) (dpN (cS c)) ((tiN (cS c) : Int) + 1) (cC c) (cS c) (upI M.1 3 0 36 (M.1 3 0 36 + 1)) := h.md (by omega) rfl rfl rfl (by rw [if_pos rfl, h36]) rfl
      obtain ⟨I1, k1, k2, k3⟩ := KX12_opens (l := l) (G := G) (d := d + 4) (M := (upI M.1 3 0 36 (M.1 3 0 36 + 1), M.2.1, M.2.2)) (x1 := 4) (x2 := t p - 117) hS g1 (by omega)
      have a30 : I1 3 0 30 = (p : Int) := k2.2.2.1
      exact ⟨upI I1 3 0 30 (I1 3 0 30 + 1), by unfold InR; omega, ⟨(I1, M.2.1, M.2.2), k1, by unfold InR; dsimp only; omega, rfl, rfl⟩, ((frV.md (by omega)).tr k3).tr (frV.md (by omega)), k2.md (by omega) (by rw [if_pos rfl]; omega) rfl rfl rfl rfl⟩
    rw [show stA1 t n c p = (if tiN (cS c) = 4 then flC c p 2 else (cM c, p + 1, cE c, cO c, cC c, (4, t p - 117) :: cS c)) by unfold stA1; rw [if_pos c0]]
    by_cases c1 : tiN (cS c) = 4
    · obtain ⟨I1, k1, k2, k3⟩ := KX12_fails (l := l) (G := G) (d := d + 4) (x1 := 2) (x2 := (p : Int)) h (by omega) (by omega)
      obtain ⟨I2, j0, j1, j2, j3⟩ := go (M := (I1, M.2.1, M.2.2)) hS k2
      refine ⟨I2, 0, xX12_fact_134 ⟨fun c => absurd ⟨c0.2, a3⟩ c, fun _ => ⟨fun c => absurd (h36.trans (by omega)) c, fun _ => ⟨_, by rw [h30]; exact k1, ⟨j0, by unfold InR; omega⟩, j1⟩⟩⟩, k3.tr j2, ?_⟩
      rw [if_pos c1]; rw [if_pos rfl] at j3
      exact FaR.fl (code := 2) j3 (by simp; omega) (fun _ => by omega)
    · obtain ⟨I2, j0, j1, j2, j3⟩ := go hS h
      refine ⟨I2, 0, xX12_fact_134 ⟨fun c => absurd ⟨c0.2, a3⟩ c, fun _ => ⟨fun _ => ⟨⟨j0, by unfold InR; omega⟩, j1⟩, fun c => absurd (h36.symm.trans c) (by omega)⟩⟩, j2, ?_⟩
      rw [if_neg c1]
      refine .inl ⟨he, .inr ⟨hm, rfl⟩, ?_⟩
      have e2 : ((tiN ((4, t p - 117) :: cS c) : Nat) : Int) = (tiN (cS c) : Int) + 1 := by rw [ti_c, if_pos rfl]; omega
      have e1 : ((dpN ((4, t p - 117) :: cS c) : Nat) : Int) = (dpN (cS c) : Int) := by rw [dp_c, if_neg (by dsimp only; omega)]; omega
      show Rg sl t n (p + 1) 0 (cO c) ((dpN ((4, t p - 117) :: cS c) : Nat) : Int) ((tiN ((4, t p - 117) :: cS c) : Nat) : Int) (cC c) ((4, t p - 117) :: cS c) I2
      rw [e1, e2]; exact j3
  · obtain ⟨I1, k1, k2, k3⟩ := fact_196 (l := l) (G := G) (d := d) (x1 := x1) (x2 := x2) hS hStr h hp hl he hc hx
    refine ⟨I1, 1, xX12_fact_134 ⟨fun _ => k1, fun c => ?_⟩, k2, ?_⟩
    · by_cases c2 : we t n p = p + 1
      · rw [if_pos c2] at hx
        exact absurd ⟨c2, by omega⟩ c0
      · rw [if_neg c2] at hx; omega
    · rw [show stA1 t n c p = stA2 t n c p by unfold stA1; rw [if_neg c0]]
      exact k3
end RW5
