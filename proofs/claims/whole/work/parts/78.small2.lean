/-! knows, told, end -/
theorem bI_xor {n : Nat} (h : n ≤ 31) (p q : Nat → Bool) : aXor (bI n p) (bI n q) = bI n (fun i => p i ^^ q i) := by
  refine bI_of h (aXor_in _ _) fun i hi => ?_
  rw [tb_xor, tb_bI h, tb_bI h]
  cases decide (i < n) <;> simp
section S2
variable {l : Launch} {G : Gt} {d : Nat} {Q Q' : QT} {M M' : Mem}
theorem WFl.eq (h : WFl Q) (hp : nPp Q' = nPp Q) (hv : nCv Q' = nCv Q) (h3 : Q' 48 3 = Q 48 3) (h5 : Q' 48 5 = Q 48 5) (hf : ∀ f, 62 ≤ f → f ≤ 70 → Q' f = Q f) : WFl Q' := by
  unfold WFl nLt at *
  rw [hp, hv, h3, h5, hf 62 (by omega) (by omega), hf 63 (by omega) (by omega), hf 67 (by omega) (by omega), hf 68 (by omega) (by omega), hf 70 (by omega) (by omega), hf 66 (by omega) (by omega), hf 69 (by omega) (by omega)]
  exact h
theorem WFA.mk2 (h : WFA Q) (hi : WFi Q') (hv : WFV Q') (hT : (0 ≤ Q' 3 29 ∧ Q' 3 29 ≤ 400) ∧ ∀ i, -128 ≤ Q' 76 i ∧ Q' 76 i ≤ 127) (hz : WFz Q') (hM : eqM Q Q') (ho : Q' 83 = Q 83 ∧ Q' 84 = Q 84) : WFA Q' := ⟨hi, hv, hT, hz, fun k hk => by rw [hM.2.2, QB_eq hM]; exact h.2.2.2.2.1 k hk, by rw [ho.1, ho.2]; exact h.2.2.2.2.2⟩
/-! knows -/
def knowsG (Q : QT) (a b is : Int) : Prop := (0 ≤ a ∧ a < nPp Q) ∧ (0 ≤ b ∧ b < nPp Q) ∧ ¬ a = b ∧ ¬ (if tb (Q 50 a.toNat) b = true then 1 else 0 : Int) = is
def knowsV (Q : QT) (a b is : Int) : Int := if (0 ≤ a ∧ a < nPp Q) ∧ (0 ≤ b ∧ b < nPp Q) ∧ ¬ a = b ∧ ¬ (if tb (Q 50 a.toNat) b = true then 1 else 0 : Int) = is then 1 else 0
def knowsQ (Q : QT) (a b is : Int) : QT := if (0 ≤ a ∧ a < nPp Q) ∧ (0 ≤ b ∧ b < nPp Q) ∧ ¬ a = b ∧ ¬ (if tb (Q 50 a.toNat) b = true then 1 else 0 : Int) = is then upQ Q 50 a.toNat (aXor (Q 50 a.toNat) (aShl 1 b)) else Q
/-- who is known is turned: ranges stay -/
theorem kn_turn {a b : Nat} (h : WFi Q) (ha : a < nPp Q) (hb : b < nPp Q) : WFi (upQ Q 50 a (aXor (Q 50 a) (aShl 1 (b : Int)))) := by
  obtain ⟨hc, hv, hrr, hO⟩ := eqD.up (Q := Q) (f := 50) (i := a) (v := aXor (Q 50 a) (aShl 1 (b : Int))) (by omega)
  have h12 := nPp_le h.1
  have e : aXor (Q 50 a) (aShl 1 (b : Int)) = bI 12 (fun p => tb (Q 50 a) (p : Int) ^^ decide (p = b)) := by
    conv => lhs; rw [h.2.2.1 a (by omega)]
    rw [bI_one (n := 12) (s := b) (by omega) (by omega), bI_xor (by omega)]
  refine ⟨WFc_q hc h.1, WFr_q hrr h.2.1, fun r hr => ?_, fun r p hr hp ht => ?_, h.2.2.2.2.1.eq (nPp_q hc) (nCv_q hv) (by rw [upQ_f (by omega)]) (by rw [upQ_f (by omega)]) (fun f h1 h2 => upQ_f (by omega)), fun r h1 h2 => ?_, ?_, ?_⟩
  · by_cases c : r = a
    · subst c
      rw [upQ_s, e]
      refine bI_ext fun i hi => ?_
      rw [tb_bI (by omega)]
      simp [hi]
    · rw [upQ_i c]; exact h.2.2.1 r hr
  · rw [nPp_q hc]
    by_cases c : r = a
    · subst c
      rw [upQ_s, e, tb_bI (by omega)] at ht
      by_cases cb : p = b
      · omega
      · refine h.2.2.2.1 r p hr hp ?_
        simp [hp, cb] at ht
        exact ht
    · rw [upQ_i c] at ht; exact h.2.2.2.1 r p hr hp ht
  · rw [nPp_q hc] at h1
    rw [upQ_i (by omega)]; exact h.2.2.2.2.2.1 r h1 h2
  · rw [upQ_f (by omega)]; exact h.2.2.2.2.2.2.1
  · rw [upQ_f (by omega), upQ_f (by omega)]; exact h.2.2.2.2.2.2.2
theorem knowsQ_W {a b is : Int} (h : WFA Q) : WFA (knowsQ Q a b is) := by
  unfold knowsQ
  by_cases g : (0 ≤ a ∧ a < nPp Q) ∧ (0 ≤ b ∧ b < nPp Q) ∧ ¬ a = b ∧ ¬ (if tb (Q 50 a.toNat) b = true then 1 else 0 : Int) = is
  · rw [if_pos g]
    obtain ⟨hc, hv, hr, hO⟩ := eqD.up (Q := Q) (f := 50) (i := a.toNat) (v := aXor (Q 50 a.toNat) (aShl 1 b)) (by omega)
    have h12 := nPp_le h.1.1
    have w := kn_turn (a := a.toNat) (b := b.toNat) h.1 (by omega) (by omega)
    rw [show ((b.toNat : Nat) : Int) = b by omega] at w
    refine h.mk2 w (WFV_q hv h.2.1) (by rw [upQ_f (by omega), upQ_f (by omega)]; exact h.2.2.1) (h.2.2.2.1.up (fun _ _ => by unfold lenF; rw [if_neg (by omega), if_pos (by omega)]; omega)) (eqM.of hO) hv.2.2.2.2
  · rw [if_neg g]; exact h
theorem KX12_knows {a b is : Int} (hS : Sh M.2.1) (hw : WFA Q) (hH : HoldsQ Q M.1) : ∃ I', Cl l G (d + 2) mX12_knows [vR (some (3, 0)), vI a, vI b, vI is] M (some (vI (knowsV Q a b is))) (I', M.2.1, M.2.2) ∧ HoldsQ (knowsQ Q a b is) I' ∧ frR M.1 I' := by
  have h12 := nPp_le hw.1.1
  have e1 := mppl_eq hw.1.1 hH.m
  unfold knowsV knowsQ
  by_cases g : (0 ≤ a ∧ a < nPp Q) ∧ (0 ≤ b ∧ b < nPp Q) ∧ ¬ a = b ∧ ¬ (if tb (Q 50 a.toNat) b = true then 1 else 0 : Int) = is
  · have e2 := hH.1 50 a.toNat (by unfold perF; omega)
    have hk : 0 ≤ Q 50 a.toNat := by rw [hw.1.2.2.1 a.toNat (by omega)]; exact bI_nn
    rw [if_pos g, if_pos g]
    refine ⟨upI M.1 50 0 a.toNat (aXor (Q 50 a.toNat) (aShl 1 b)), xX12_knows_0 hS ?_, hH.up (by unfold perF; omega) (by omega), frR.up (by omega)⟩
    rw [e1, e2]
    exact ⟨by unfold InR; omega, fun c => absurd g.1 c, fun _ => ⟨by unfold InR; omega, fun c => absurd g.2.1 c, fun _ => ⟨fun c => absurd c g.2.2.1, fun _ => ⟨by omega, fun _ => ⟨by omega, rfl, rfl⟩, fun c => absurd c g.2.2.2⟩⟩⟩⟩
  · rw [if_neg g, if_neg g]
    refine ⟨M.1, xX12_knows_0 hS ?_, hH, frR.rf⟩
    rw [e1]
    refine ⟨by unfold InR; omega, fun _ => ⟨rfl, rfl⟩, fun c1 => ⟨by unfold InR; omega, fun _ => ⟨rfl, rfl⟩, fun c2 => ⟨fun _ => ⟨rfl, rfl⟩, fun c3 => ?_⟩⟩⟩
    have e2 := hH.1 50 a.toNat (by unfold perF; omega)
    have hk : 0 ≤ Q 50 a.toNat := by rw [hw.1.2.2.1 a.toNat (by omega)]; exact bI_nn
    rw [e2]
    exact ⟨by omega, fun c => absurd ⟨c1, c2, c3, c⟩ g, fun _ => ⟨rfl, rfl⟩⟩
theorem KX11_knows {a b is : Int} (hR : RelC Q M) (hw : WFA Q) : ∃ M', Cl l G (d + 2) mX11_knows [vR (some (2, 0)), vI a, vI b, vI is] M (some (vI (knowsV Q a b is))) M' ∧ RelC (knowsQ Q a b is) M' ∧ frK M M' := by
  have h12 := nPp_le hw.1.1
  have e1 := cppl_eq hw.1.1 hR.1.1
  unfold knowsV knowsQ
  by_cases g : (0 ≤ a ∧ a < nPp Q) ∧ (0 ≤ b ∧ b < nPp Q) ∧ ¬ a = b ∧ ¬ (if tb (Q 50 a.toNat) b = true then 1 else 0 : Int) = is
  · have e2 : M.1 36 0 a.toNat = Q 50 a.toNat := hR.2.1.2.2.2.2.1 _ (by omega)
    have hk : 0 ≤ Q 50 a.toNat := by rw [hw.1.2.2.1 a.toNat (by omega)]; exact bI_nn
    rw [if_pos g, if_pos g]
    refine ⟨(upI M.1 36 0 a.toNat (aXor (Q 50 a.toNat) (aShl 1 b)), M.2.1, M.2.2), xX11_knows_0 hR.1.1.1 ?_, hR.up hw (by omega), frK.up (by omega)⟩
    rw [e1, e2]
    exact ⟨fun c => absurd ⟨g.1, g.2.1, g.2.2.1⟩ c, fun _ => ⟨by omega, fun _ => ⟨by omega, rfl, rfl⟩, fun c => absurd c g.2.2.2⟩⟩
  · rw [if_neg g, if_neg g]
    refine ⟨M, xX11_knows_0 hR.1.1.1 ?_, hR, frK.rf⟩
    rw [e1]
    refine ⟨fun _ => ⟨rfl, rfl⟩, fun c1 => ?_⟩
    have e2 : M.1 36 0 a.toNat = Q 50 a.toNat := hR.2.1.2.2.2.2.1 _ (by omega)
    have hk : 0 ≤ Q 50 a.toNat := by rw [hw.1.2.2.1 a.toNat (by omega)]; exact bI_nn
    rw [e2]
    exact ⟨by omega, fun c => absurd ⟨c1.1, c1.2.1, c1.2.2, c⟩ g, fun _ => ⟨rfl, rfl⟩⟩
/-! scalars of the state at hand -/
theorem StI.sc {f i : Nat} {v : Int} (h : StI Q M 0) (hf : (f = 11 ∧ i = 4) ∨ (f = 10 ∧ i = 5)) : StI (upQ Q 48 i v) (upI M.1 4 0 f v, M.2.1, M.2.2) 0 := by
  obtain ⟨hc, hv, hr, hO⟩ := eqD.up (Q := Q) (f := 48) (i := i) (v := v) (by omega)
  obtain ⟨⟨a1, a2, a3, a4⟩, a5, a6, a7, a8, a9, a10, a11⟩ := h
  have o : ∀ f' i', ¬ f' = 4 → upI M.1 4 0 f v f' 0 i' = M.1 f' 0 i' := fun f' i' hn => by rw [upI_o (fun e => hn e.1)]
  refine ⟨⟨?_, ?_, ?_, ?_⟩, fun j hj => ?_, fun x y hx hy => ?_, fun j hj => ?_, fun j hj => ?_, fun j hj => ?_, fun j hj => ?_, ⟨?_, ?_⟩, a11.2.1, fun j hj => ?_⟩
  · dsimp only; rw [upI_i (by omega), upQ_i (by omega)]; exact a1
  · dsimp only; rw [upI_i (by omega), upQ_i (by omega)]; exact a2
  · dsimp only; rw [upI_i (by omega), upQ_i (by omega)]; exact a3
  · dsimp only; rw [upI_c, upQ_c]
    by_cases e : f = 11
    · rw [if_pos (by omega), if_pos (by omega)]
    · rw [if_neg (by omega), if_neg (by omega)]; exact a4
  · dsimp only; rw [o _ _ (by omega), upQ_f (by omega)]; exact a5 j hj
  · dsimp only; rw [o _ _ (by omega), rd_q hr]; exact a6 x y hx hy
  · dsimp only; rw [o _ _ (by omega), pk_q hc, srt_q hc]; exact a7 j (by rw [nCh_q hc] at hj; exact hj)
  · dsimp only; rw [o _ _ (by omega), upQ_f (by omega)]; exact a8 j hj
  · dsimp only; rw [o _ _ (by omega), upQ_f (by omega)]; exact a9 j hj
  · dsimp only; rw [o _ _ (by omega), upQ_f (by omega)]; exact a10 j hj
  · dsimp only; rw [upI_i (by omega), upQ_i (by omega)]; exact a11.1.1
  · dsimp only; rw [upI_c, upQ_c]
    by_cases e : f = 10
    · rw [if_pos (by omega), if_pos (by omega)]
    · rw [if_neg (by omega), if_neg (by omega)]; exact a11.1.2
  · have en : nLt (upQ Q 48 i v) = nLt Q := by unfold nLt; rw [upQ_i (by omega)]
    rw [en] at hj
    dsimp only
    rw [upI_o (by omega), upQ_f (by omega)]
    unfold LtC
    rw [upQ_f (by omega), upQ_f (by omega), upQ_f (by omega), upQ_f (by omega), upQ_f (by omega), upQ_f (by omega), upQ_f (by omega), upQ_f (by omega)]
    exact a11.2.2 j hj
theorem RelC.sc {f i : Nat} {v : Int} (h : RelC Q M) (hw : WFA Q) (hf : (f = 11 ∧ i = 4) ∨ (f = 10 ∧ i = 5)) : RelC (upQ Q 48 i v) (upI M.1 4 0 f v, M.2.1, M.2.2) := by
  obtain ⟨hc, hv, hr, hO⟩ := eqD.up (Q := Q) (f := 48) (i := i) (v := v) (by omega)
  have o : ∀ f' k' i', ¬ (f' = 4 ∧ k' = 0) → upI M.1 4 0 f v f' k' i' = M.1 f' k' i' := fun f' k' i' hn => by rw [upI_o hn]
  refine h.one hw ?_ (h.2.1.sc hf) (h.2.2.1.fr (by rw [hO _ (by omega)]) (hO _ (by omega)) (o 2 0 12 (by omega)) (fun i => o 16 0 i (by omega))) (eqM.of hO) (fun f' k' i' hh => o f' k' i' (by omega)) (fun _ _ _ _ => rfl) (fun _ _ => rfl)
  refine RelB_q hc hv hr (upQ_f (by omega)) ⟨h.1.1.up (by unfold relF; omega), ⟨fun x y hx hy => ?_, fun x y hx hy => ?_⟩, fun x y hx hy => ?_⟩
  · dsimp only; rw [o _ _ _ (by omega)]; exact h.1.2.1.1 x y hx hy
  · dsimp only; rw [o _ _ _ (by omega)]; exact h.1.2.1.2 x y hx hy
  · dsimp only; rw [o _ _ _ (by omega)]; exact h.1.2.2 x y hx hy
/-! told -/
def toldV (Q : QT) (x : Int) : Int := if x = -1 then 0 else if (0 ≤ x ∧ x < 8) ∧ ¬ Q 48 4 = 20 then Q 48 4 + 1 else -2
def toldQ (Q : QT) (x : Int) : QT := if x = -1 then upQ Q 48 4 0 else if (0 ≤ x ∧ x < 8) ∧ ¬ Q 48 4 = 20 then upQ (upQ Q 52 (Q 48 4).toNat x) 48 4 (Q 48 4 + 1) else Q
theorem WFA.sc4 {v : Int} (h : WFA Q) (hv : 0 ≤ v ∧ v ≤ 20) : WFA (upQ Q 48 4 v) := by
  obtain ⟨hc, hv', hr, hO⟩ := eqD.up (Q := Q) (f := 48) (i := 4) (v := v) (by omega)
  have q := WFQ_q hc hv' hr (upQ_f (by omega)) h.q
  refine h.mk2 ⟨q.1, q.2.1, q.2.2.1, q.2.2.2.1, h.l.eq (nPp_q hc) (nCv_q hv') (upQ_i (by omega)) (upQ_i (by omega)) (fun f h1 h2 => upQ_f (by omega)), by rw [nPp_q hc, upQ_f (by omega)]; exact h.1.2.2.2.2.2.1, by rw [upQ_f (by omega)]; exact h.1.2.2.2.2.2.2.1, by rw [upQ_s, upQ_f (by omega)]; exact ⟨hv, h.1.2.2.2.2.2.2.2.2⟩⟩ q.2.2.2.2 (by rw [upQ_f (by omega), upQ_f (by omega)]; exact h.2.2.1) (h.2.2.2.1.up (fun _ _ => by unfold lenF; rw [if_pos rfl]; omega)) (eqM.of hO) hv'.2.2.2.2
theorem WFA.way {i : Nat} {v : Int} (h : WFA Q) (hi : i < 20) (hv : 0 ≤ v ∧ v < 8) : WFA (upQ Q 52 i v) := by
  obtain ⟨hc, hv', hr, hO⟩ := eqD.up (Q := Q) (f := 52) (i := i) (v := v) (by omega)
  have q := WFQ_q hc hv' hr (upQ_f (by omega)) h.q
  refine h.mk2 ⟨q.1, q.2.1, q.2.2.1, q.2.2.2.1, h.l.eq (nPp_q hc) (nCv_q hv') (by rw [upQ_f (by omega)]) (by rw [upQ_f (by omega)]) (fun f h1 h2 => upQ_f (by omega)), by rw [nPp_q hc, upQ_f (by omega)]; exact h.1.2.2.2.2.2.1, by rw [upQ_f (by omega)]; exact h.1.2.2.2.2.2.2.1, ⟨by rw [upQ_f (by omega)]; exact h.1.2.2.2.2.2.2.2.1, fun j hj => ?_⟩⟩ q.2.2.2.2 (by rw [upQ_f (by omega), upQ_f (by omega)]; exact h.2.2.1) (h.2.2.2.1.up (fun _ _ => by unfold lenF; rw [if_neg (by omega), if_neg (by omega), if_neg (by omega), if_pos rfl]; omega)) (eqM.of hO) hv'.2.2.2.2
  rw [upQ_c]
  split
  · exact hv
  · exact h.1.2.2.2.2.2.2.2.2 j hj
theorem toldQ_W {x : Int} (h : WFA Q) : WFA (toldQ Q x) := by
  have h4 := h.1.2.2.2.2.2.2.2.1
  unfold toldQ
  split
  · exact h.sc4 (by omega)
  · split
    · rename_i g
      refine (h.way (i := (Q 48 4).toNat) (v := x) (by omega) (by omega)).sc4 (by omega)
    · exact h
theorem KX12_told {x : Int} (hS : Sh M.2.1) (hw : WFA Q) (hH : HoldsQ Q M.1) : ∃ I', Cl l G (d + 2) mX12_told [vR (some (3, 0)), vI x] M (some (vI (toldV Q x))) (I', M.2.1, M.2.2) ∧ HoldsQ (toldQ Q x) I' ∧ frR M.1 I' := by
  have h4 := hw.1.2.2.2.2.2.2.2.1
  have e4 := hH.1 48 4 (by unfold perF; omega)
  unfold toldV toldQ
  by_cases g1 : x = -1
  · rw [if_pos g1, if_pos g1]
    exact ⟨_, xX12_told_0 hS ⟨fun c => absurd g1 c, fun _ => ⟨rfl, rfl⟩⟩, hH.up (by unfold perF; omega) (by omega), frR.up (by omega)⟩
  · rw [if_neg g1, if_neg g1]
    by_cases g : (0 ≤ x ∧ x < 8) ∧ ¬ Q 48 4 = 20
    · rw [if_pos g, if_pos g]
      refine ⟨upI (upI M.1 52 0 (Q 48 4).toNat x) 48 0 4 (Q 48 4 + 1), xX12_told_0 hS ?_, (hH.up (by unfold perF; omega) (by omega)).up (by unfold perF; omega) (by omega), (frR.up (by omega)).tr (frR.up (by omega))⟩
      rw [e4]
      exact ⟨fun _ => ⟨fun c => absurd g.1 c, fun _ => ⟨fun _ => ⟨⟨by omega, by unfold InR; omega⟩, rfl, rfl⟩, fun c => absurd c g.2⟩⟩, fun c => absurd c g1⟩
    · rw [if_neg g, if_neg g]
      refine ⟨M.1, xX12_told_0 hS ?_, hH, frR.rf⟩
      rw [e4]
      exact ⟨fun _ => ⟨fun _ => ⟨rfl, rfl⟩, fun c => ⟨fun c2 => absurd ⟨c, c2⟩ g, fun _ => ⟨rfl, rfl⟩⟩⟩, fun c => absurd c g1⟩
theorem KX11_told {x : Int} (hR : RelC Q M) (hw : WFA Q) : ∃ M', Cl l G (d + 1) mX11_told [vR (some (2, 0)), vI x] M (some (vI (toldV Q x))) M' ∧ RelC (toldQ Q x) M' ∧ frK M M' := by
  have h4 := hw.1.2.2.2.2.2.2.2.1
  have e4 : M.1 4 0 11 = Q 48 4 := hR.2.1.1.2.2.2
  unfold toldV toldQ
  by_cases g1 : x = -1
  · rw [if_pos g1, if_pos g1]
    exact ⟨_, xX11_told_0 hR.1.1.1 ⟨fun c => absurd g1 c, fun _ => ⟨rfl, rfl⟩⟩, hR.sc hw (by omega), frK.up (by omega)⟩
  · rw [if_neg g1, if_neg g1]
    by_cases g : (0 ≤ x ∧ x < 8) ∧ ¬ Q 48 4 = 20
    · rw [if_pos g, if_pos g]
      have w1 := hw.way (i := (Q 48 4).toNat) (v := x) (by omega) (by omega)
      have r1 := hR.up (f := 39) (fq := 52) (i := (Q 48 4).toNat) (v := x) hw (by omega)
      have r2 := r1.sc (f := 11) (i := 4) (v := Q 48 4 + 1) w1 (by omega)
      refine ⟨(upI (upI M.1 39 0 (Q 48 4).toNat x) 4 0 11 (Q 48 4 + 1), M.2.1, M.2.2), xX11_told_0 hR.1.1.1 ?_, r2, ?_⟩
      · rw [e4]
        exact ⟨fun _ => ⟨fun c => absurd g.1 c, fun _ => ⟨fun _ => ⟨⟨by omega, by unfold InR; omega⟩, rfl, rfl⟩, fun c => absurd (by omega) c⟩⟩, fun c => absurd c g1⟩
      · exact ⟨fun f k i hh => by dsimp only; rw [upI_o (fun e => by omega), upI_o (fun e => by omega)], ⟨rfl, rfl⟩, Nat.le_add_right _ _, Nat.le_add_right _ _⟩
    · rw [if_neg g, if_neg g]
      refine ⟨M, xX11_told_0 hR.1.1.1 ?_, hR, frK.rf⟩
      rw [e4]
      exact ⟨fun _ => ⟨fun _ => ⟨rfl, rfl⟩, fun c => ⟨fun c2 => absurd ⟨c, by omega⟩ g, fun _ => ⟨rfl, rfl⟩⟩⟩, fun c => absurd c g1⟩
end S2
