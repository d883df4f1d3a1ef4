/-! cheapest: the reference, to the end -/
def jC (w q : Nat) : Nat := if q ≤ w then q else q - 1
def qW (w j : Nat) : Nat := if j < w then j else j + 1
theorem jC_q {w q : Nat} (h : ¬ q = w) : qW w (jC w q) = q := by
  unfold qW jC
  by_cases c : q ≤ w
  · rw [if_pos c, if_pos (by omega)]
  · rw [if_neg c, if_neg (by omega)]; omega
theorem qW_ne {w j : Nat} : ¬ qW w j = w := by unfold qW; split <;> omega
theorem qW_lt {w j P : Nat} (hw : w < P) (hj : j < P - 1) : qW w j < P := by unfold qW; split <;> omega
theorem jC_lt {w q P : Nat} (hw : w < P) (hq : q < P) (h : ¬ q = w) : jC w q < P - 1 := by unfold jC; split <;> omega
theorem jC_s {w q : Nat} (h : ¬ q = w) : jC w (q + 1) = jC w q + 1 := by
  unfold jC
  by_cases c : q ≤ w
  · rw [if_pos c]; split <;> omega
  · rw [if_neg c, if_neg (by omega)]; omega
theorem jC_w {w : Nat} : jC w (w + 1) = jC w w := by unfold jC; rw [if_pos (Nat.le_refl _), if_neg (by omega)]; omega
theorem jC_0 {w : Nat} : jC w 0 = 0 := by unfold jC; rw [if_pos (by omega)]
theorem jC_P {w P : Nat} (h : w < P) : jC w P = P - 1 := by unfold jC; rw [if_neg (by omega)]
theorem ix_d {o i j : Nat} (hj : j < o) : (o * i + j) / o = i ∧ (o * i + j) % o = j := by
  refine ⟨?_, ?_⟩
  · rw [Nat.mul_add_div (by omega), Nat.div_eq_of_lt hj]; omega
  · rw [Nat.mul_add_mod, Nat.mod_eq_of_lt hj]
def uhF (Q : QT) (s w : Nat) (fr : Int) (n : Nat) (h : Nat) : Nat → Bool := uF Q s w fr n (fr + ((h / (nPp Q - 1) : Nat) : Int)) (qW w (h % (nPp Q - 1)))
theorem a16 : bI 16 (fun _ => true) = 65535 := by
  have h : ∀ i : Fin 16, Nat.testBit 65535 i.val = true := by decide
  have e := kf_b (n := 16) (k := 65535) (by omega) (by omega)
  refine (bI_ext fun i hi => ?_).trans e.symm
  exact (h ⟨i, hi⟩).symm
section CR2
variable {l : Launch} {G : Gt} {d : Nat} {Q : QT} {M : Mem}
theorem uhF_at {s w n i q : Nat} {fr : Int} (hw : w < nPp Q) (hq : q < nPp Q) (h : ¬ q = w) : uhF Q s w fr n ((nPp Q - 1) * i + jC w q) = uF Q s w fr n (fr + (i : Int)) q := by
  obtain ⟨e1, e2⟩ := ix_d (i := i) (jC_lt hw hq h)
  unfold uhF
  rw [e1, e2, jC_q h]
theorem ch_hit {s w : Nat} {fr to : Int} (hw : w < nPp Q) (h2 : 2 ≤ nPp Q) (hft : fr ≤ to) (P : (Nat → Bool) → Prop) : (∀ (d : Int) (q : Nat), (fr ≤ d ∧ d ≤ to) → q < nPp Q → ¬ q = w → P (uF Q s w fr (dyN fr to) d q)) ↔ ∀ h, h < (nPp Q - 1) * dyN fr to → P (uhF Q s w fr (dyN fr to) h) := by
  have eN : (dyN fr to : Int) = to - fr + 1 := by unfold dyN; omega
  constructor
  · intro a h hh
    have h1 : h / (nPp Q - 1) < dyN fr to := Nat.div_lt_of_lt_mul hh
    have h3 : h % (nPp Q - 1) < nPp Q - 1 := Nat.mod_lt _ (by omega)
    have h0 : 0 ≤ ((h / (nPp Q - 1) : Nat) : Int) := Int.natCast_nonneg _
    have h4 : ((h / (nPp Q - 1) : Nat) : Int) < (dyN fr to : Int) := Int.ofNat_lt.mpr h1
    have hr : fr ≤ fr + ((h / (nPp Q - 1) : Nat) : Int) ∧ fr + ((h / (nPp Q - 1) : Nat) : Int) ≤ to := by
      generalize ((h / (nPp Q - 1) : Nat) : Int) = z at h0 h4 ⊢
      omega
    exact a _ _ hr (qW_lt hw h3) qW_ne
  · intro a d q hd hq hne
    have h1 : (d - fr).toNat < dyN fr to := by omega
    have h2 : (nPp Q - 1) * (d - fr).toNat + jC w q < (nPp Q - 1) * dyN fr to := by
      have := jC_lt hw hq hne
      have h4 : (nPp Q - 1) * ((d - fr).toNat + 1) ≤ (nPp Q - 1) * dyN fr to := Nat.mul_le_mul_left _ h1
      rw [Nat.mul_succ] at h4
      omega
    have := a _ h2
    rw [uhF_at hw hq hne, show fr + (((d - fr).toNat : Nat) : Int) = d by omega] at this
    exact this
/-- holdings are laid day by day -/
theorem ch_159 {s w : Nat} {fr to x5 x7 x8 : Int} {i N : Nat} {x6f mayf : Nat → Bool} (hS : Sh M.2.1) (hwf : WFc Q) (hs : s < 12) (hw : w < nPp Q) (hi : i ≤ 30) (hd : 0 ≤ fr ∧ fr ≤ 999) (hH : HoldsC Q M.1) (hL : Laid Q M.1 1 (dn Q (fr + (i : Int)))) (e6 : x6f = alF Q s w fr N) (em : mayf = mayF Q s w fr N) : ∀ n q : Nat, n + q = nPp Q → ∀ I, (∀ f k i, ¬ (f = 88 ∧ k = 0) → I f k i = M.1 f k i) → (∀ h, h < (nPp Q - 1) * i + jC w q → I 88 0 h = bI 16 (uhF Q s w fr N h)) → ∃ I', (∀ f k i, ¬ (f = 88 ∧ k = 0) → I' f k i = M.1 f k i) ∧ (∀ h, h < (nPp Q - 1) * (i + 1) → I' 88 0 h = bI 16 (uhF Q s w fr N h)) ∧ ∀ res M', Ex l G (d + 3) mX12_cheapest 142 [some (vR (some (3, 0))), some (vI (s : Int)), some (vI (w : Int)), some (vI fr), some (vI to), some (vI x5), some (vI (bI 16 x6f)), some (vI x7), some (vI x8), some (vI (bI 16 mayf)), some (vI (((nPp Q - 1) * (i + 1) : Nat) : Int)), some (vI (fr + (i : Int) + 1)), none, none] [] (I', M.2.1, M.2.2) res M' → Ex l G (d + 3) mX12_cheapest 159 [some (vR (some (3, 0))), some (vI (s : Int)), some (vI (w : Int)), some (vI fr), some (vI to), some (vI x5), some (vI (bI 16 x6f)), some (vI x7), some (vI x8), some (vI (bI 16 mayf)), some (vI (((nPp Q - 1) * i + jC w q : Nat) : Int)), some (vI (fr + (i : Int))), some (vI (q : Int)), none] [] (I, M.2.1, M.2.2) res M' := by
  have h12 := nPp_le hwf
  have hb : (nPp Q - 1) * i ≤ 11 * 30 := Nat.mul_le_mul (by omega) hi
  intro n
  induction n with
  | zero =>
    intro q hq I hf hh
    have eq : q = nPp Q := by omega
    subst eq
    have e1 : I 48 0 0 = (nPp Q : Int) := by rw [hf _ _ _ (by omega)]; exact (hH.1 48 0 (by omega)).trans (nPp_eq hwf)
    rw [jC_P hw] at hh ⊢
    have es : (nPp Q - 1) * (i + 1) = (nPp Q - 1) * i + (nPp Q - 1) := Nat.mul_succ _ _
    refine ⟨I, hf, fun h h' => hh h (by omega), fun res M' hx => xX12_cheapest_159 hS ⟨fun _ => ⟨by unfold InR; omega, ?_⟩, fun c => absurd (show I 48 0 0 ≤ (nPp Q : Int) by omega) c⟩⟩
    rw [es] at hx
    exact hx
  | succ n ih =>
    intro q hq I hf hh
    have e1 : I 48 0 0 = (nPp Q : Int) := by rw [hf _ _ _ (by omega)]; exact (hH.1 48 0 (by omega)).trans (nPp_eq hwf)
    have hle : ¬ (I 48 0 0 ≤ (q : Int)) := by omega
    by_cases cw : q = w
    · obtain ⟨I', y1, y2, y3⟩ := ih (q + 1) (by omega) I hf (fun h h' => hh h (by rw [cw, jC_w] at h'; rw [cw]; exact h'))
      refine ⟨I', y1, y2, fun res M' hx => xX12_cheapest_159 hS ⟨fun c => absurd c hle, fun _ => ⟨fun _ => ⟨by unfold InR; omega, ?_⟩, fun c => absurd (by omega) c⟩⟩⟩
      have := y3 res M' hx
      rw [show jC w (q + 1) = jC w q by rw [cw, jC_w]] at this
      exact this
    · have sI : Laid Q I 1 (dn Q (fr + (i : Int))) := by
        obtain ⟨q1, q2, q3⟩ := hL
        exact ⟨fun p hp => by rw [hf _ _ _ (by omega)]; exact q1 p hp, fun p t hp ht => by rw [hf _ _ _ (by omega)]; exact q2 p t hp ht, fun p hp => by rw [hf _ _ _ (by omega)]; exact q3 p hp⟩
      have kw := KX12_wordsOf (l := l) (G := G) (d := d + 1) (M := (I, M.2.1, M.2.2)) (q := q) (s := s) hS sI (by omega) hs
      have hj := jC_lt hw (show q < nPp Q by omega) cw
      have eu : aAnd (bI 16 mayf) (aXor (bI 16 (wdF Q (dn Q (fr + (i : Int))) q s)) (bI 16 x6f)) = bI 16 (uhF Q s w fr N ((nPp Q - 1) * i + jC w q)) := by
        rw [uhF_at hw (by omega) cw, bI_xor (by omega), bI_and (by omega), e6, em]
        rfl
      obtain ⟨I', y1, y2, y3⟩ := ih (q + 1) (by omega) (upI I 88 0 ((nPp Q - 1) * i + jC w q) (bI 16 (uhF Q s w fr N ((nPp Q - 1) * i + jC w q)))) (fun f k i hn => by rw [upI_o hn]; exact hf f k i hn) (fun h h' => by
        rw [jC_s cw] at h'
        by_cases e : h = (nPp Q - 1) * i + jC w q
        · rw [e, upI_s]
        · rw [upI_i e]; exact hh h (by omega))
      refine ⟨I', y1, y2, fun res M' hx => xX12_cheapest_159 hS ⟨fun c => absurd c hle, fun _ => ⟨fun c => absurd (show q = w by omega) cw, fun _ => ⟨_, _, kw, ⟨by omega, by unfold InR; omega, by unfold InR; omega⟩, ?_⟩⟩⟩⟩
      have := y3 res M' hx
      rw [jC_s cw] at this
      rw [Int.toNat_natCast, eu]
      exact this
theorem KX12_cheapest {s p fr to what : Int} (hS : Sh M.2.1) (hw : WFA Q) (hH : HoldsQ Q M.1) : ∃ I', Cl l G (d + 4) mX12_cheapest [vR (some (3, 0)), vI s, vI p, vI fr, vI to, vI what] M (some (vI (cheV Q s p fr to what))) (I', M.2.1, M.2.2) ∧ frM M.1 I' := by
  have hq := hw.q
  have h12 := nPp_le hq.1
  have e1 := mppl_eq hq.1 hH.m
  by_cases g : chG Q s p fr to what
  · have gg := g
    obtain ⟨g1, g2, g3, g4, g5, g6, g7⟩ := gg
    have eN : (dyN fr to : Int) = to - fr + 1 := by unfold dyN; omega
    have es : ((s.toNat : Nat) : Int) = s := by omega
    have ep : ((p.toNat : Nat) : Int) = p := by omega
    have hwp : p.toNat < nPp Q := by omega
    have h2 : 2 ≤ nPp Q := by omega
    have i30 : dyN fr to ≤ 31 := by omega
    have hWq : ∀ I, frM M.1 I → ∀ k, k < 17 → I 51 0 k = Q 51 k ∧ 0 ≤ Q 51 k ∧ Q 51 k ≤ 99 := fun I hf k hk => ⟨(hH.fr hf).1 _ _ (by unfold perF; omega), hw.1.2.2.2.2.2.2.1 k hk⟩
    have hitF : ∀ g, HitS (FC Q s.toNat p.toNat fr to (dyN fr to)) g ↔ ∀ h, h < (nPp Q - 1) * dyN fr to → hitU (uhF Q s.toNat p.toNat fr (dyN fr to) h) g := fun g => by
      rw [← ch_hit hwp h2 g6.1 (fun u => hitU u g)]
      exact ⟨fun h d q a b c => h _ ⟨d, q, a, b, c, rfl⟩, fun h u ⟨d, q, a, b, c, e⟩ => by rw [e]; exact h d q a b c⟩
    have eW : (fun k => Q 51 k + (if (fun k => !evF Q s.toNat p.toNat fr (dyN fr to) k) k = true then Q 51 16 else 0)) = wP Q s.toNat p.toNat fr (dyN fr to) := rfl
    have n341 : (nPp Q - 1) * dyN fr to ≤ 11 * 31 := Nat.mul_le_mul (by omega) i30
    -- the search for an empty one
    have l224 : ∀ I, frM M.1 I → (∀ h, h < (nPp Q - 1) * dyN fr to → I 88 0 h = bI 16 (uhF Q s.toNat p.toNat fr (dyN fr to) h)) → ∀ n k : Nat, n + k = (nPp Q - 1) * dyN fr to → (∀ h, h < k → ∃ j, j < 16 ∧ uhF Q s.toNat p.toNat fr (dyN fr to) h j = true) → ∃ v, Ex l G (d + 4) mX12_cheapest 224 [some (vR (some (3, 0))), some (vI s), some (vI p), some (vI fr), some (vI to), some (vI what), some (vI (bI 16 (alF Q s.toNat p.toNat fr (dyN fr to)))), some (vI (bI 16 (evF Q s.toNat p.toNat fr (dyN fr to)))), some (vI (bI 16 (fun k => !evF Q s.toNat p.toNat fr (dyN fr to) k))), some (vI (bI 16 (mayF Q s.toNat p.toNat fr (dyN fr to)))), some (vI (((nPp Q - 1) * dyN fr to : Nat) : Int)), some (vI ((nPp Q - 1 : Nat) : Int)), some (vI (k : Int)), none] [] (I, M.2.1, M.2.2) (some (vI v)) (I, M.2.1, M.2.2) ∧ CheP Q s p fr to what v := by
      intro I hf hh n
      induction n with
      | zero =>
        intro k hk hno
        have hne : ∀ h, h < (nPp Q - 1) * dyN fr to → ∃ j, j < 16 ∧ uhF Q s.toNat p.toNat fr (dyN fr to) h j = true := fun h h' => hno h (by omega)
        obtain ⟨v, y1, f, y2, y3⟩ := ch_303 (l := l) (G := G) (d := d + 1) (M := (I, M.2.1, M.2.2)) (n := (nPp Q - 1) * dyN fr to) (uh := uhF Q s.toNat p.toNat fr (dyN fr to)) (F := FC Q s.toNat p.toNat fr to (dyN fr to)) (may := mayF Q s.toNat p.toNat fr (dyN fr to)) (nf := fun k => !evF Q s.toNat p.toNat fr (dyN fr to) k) (W := Q 51) (x1 := s) (x2 := p) (x3 := fr) (x4 := to) (x5 := what) (x6 := bI 16 (alF Q s.toNat p.toNat fr (dyN fr to))) (x7 := bI 16 (evF Q s.toNat p.toNat fr (dyN fr to))) (x11 := ((nPp Q - 1 : Nat) : Int)) hS (by omega) hh (hWq I hf) hitF (fun h _ k _ e => by
          unfold uhF uF at e
          exact (Bool.and_eq_true _ _ ▸ e).1) hne g7 65536 0 rfl (-1) (.inl ⟨rfl, fun j hj => by omega⟩)
        rw [eW] at y2 y3
        refine ⟨v, xX12_cheapest_224 hS ⟨fun _ => y1, fun c => absurd (by omega) c⟩, fun _ => .inr ⟨(ch_hit hwp h2 g6.1 (fun u => ∃ k, k < 16 ∧ u k = true)).mpr hne, fun c => ?_, fun c => ⟨f, y2, ?_⟩⟩, fun n => absurd g n⟩
        · rw [y3, if_neg (by omega), if_neg (by omega), if_neg (by omega)]
        · rw [y3]
          by_cases c0 : what = 0
          · rw [if_pos c0, if_pos c0]
          · by_cases c1 : what = 1
            · rw [if_neg c0, if_neg c0, if_pos c1, if_pos c1]
            · rw [if_neg c0, if_neg c0, if_neg c1, if_neg c1, if_pos (by omega)]
      | succ n ih =>
        intro k hk hno
        have ek : I 88 0 (k : Int).toNat = bI 16 (uhF Q s.toNat p.toNat fr (dyN fr to) k) := by rw [Int.toNat_natCast]; exact hh k (by omega)
        by_cases cz : bI 16 (uhF Q s.toNat p.toNat fr (dyN fr to) k) = 0
        · have hz := (bI_zero_iff (n := 16) (by omega) _).mp cz
          have hkd : k / (nPp Q - 1) < dyN fr to := Nat.div_lt_of_lt_mul (by omega)
          have hkm : k % (nPp Q - 1) < nPp Q - 1 := Nat.mod_lt _ (by omega)
          have dm := Nat.div_add_mod k (nPp Q - 1)
          have em : ((k : Int) % ((nPp Q - 1 : Nat) : Int)) = ((k % (nPp Q - 1) : Nat) : Int) := rfl
          have ed : ((k : Int) / ((nPp Q - 1 : Nat) : Int)) = ((k / (nPp Q - 1) : Nat) : Int) := rfl
          have hZ : FZ Q s.toNat p.toNat fr to (dyN fr to) (fr + ((k / (nPp Q - 1) : Nat) : Int)) (qW p.toNat (k % (nPp Q - 1))) := by
            have h0 : 0 ≤ ((k / (nPp Q - 1) : Nat) : Int) := Int.natCast_nonneg _
            have h4 : ((k / (nPp Q - 1) : Nat) : Int) < (dyN fr to : Int) := Int.ofNat_lt.mpr hkd
            have hr : fr ≤ fr + ((k / (nPp Q - 1) : Nat) : Int) ∧ fr + ((k / (nPp Q - 1) : Nat) : Int) ≤ to := by
              clear dm
              generalize ((k / (nPp Q - 1) : Nat) : Int) = z at h0 h4 ⊢
              omega
            refine ⟨⟨hr, qW_lt hwp hkm, qW_ne, hz⟩, fun d' q' hd' hq' hne' hlt => ?_⟩
            have hj := jC_lt hwp hq' hne'
            have hidx : (nPp Q - 1) * (d' - fr).toNat + jC p.toNat q' < k := by
              by_cases c : (d' - fr).toNat < k / (nPp Q - 1)
              · have h4 : (nPp Q - 1) * ((d' - fr).toNat + 1) ≤ (nPp Q - 1) * (k / (nPp Q - 1)) := Nat.mul_le_mul_left _ c
                rw [Nat.mul_succ] at h4
                omega
              · have e4 : (d' - fr).toNat = k / (nPp Q - 1) := by omega
                have hq2 : q' < qW p.toNat (k % (nPp Q - 1)) := by omega
                have : jC p.toNat q' < k % (nPp Q - 1) := by
                  unfold jC; unfold qW at hq2
                  split <;> split at hq2 <;> omega
                rw [e4]
                omega
            have := hno _ hidx
            rw [uhF_at hwp hq' hne', show fr + (((d' - fr).toNat : Nat) : Int) = d' by omega] at this
            exact this
          refine ⟨(if what = 3 then fr + ((k / (nPp Q - 1) : Nat) : Int) else if what = 4 then (qW p.toNat (k % (nPp Q - 1)) : Int) else -2), xX12_cheapest_224 hS ?_, fun _ => .inl ⟨_, _, hZ, rfl⟩, fun n => absurd g n⟩
          dsimp only
          rw [ek, em, ed]
          have hin : InR (fr + ((k / (nPp Q - 1) : Nat) : Int)) := by
            have h0 : 0 ≤ ((k / (nPp Q - 1) : Nat) : Int) := Int.natCast_nonneg _
            have h4 : ((k / (nPp Q - 1) : Nat) : Int) < (dyN fr to : Int) := Int.ofNat_lt.mpr hkd
            clear dm em ed
            generalize ((k / (nPp Q - 1) : Nat) : Int) = z at h0 h4 ⊢
            unfold InR
            omega
          refine ⟨fun c => by omega, fun _ => ⟨by omega, fun c => absurd cz c, fun _ => ⟨⟨by omega, by omega⟩, fun _ => ⟨fun _ _ => by unfold InR; omega, fun _ => ⟨⟨by omega, by omega⟩, hin⟩⟩, ?_, rfl⟩⟩⟩
          by_cases c3 : what = 3
          · rw [if_pos c3, if_pos (show 3 ≤ what by omega), if_pos c3]
          · rw [if_neg c3]
            by_cases c4 : what = 4
            · rw [if_pos c4, if_pos (show 3 ≤ what by omega), if_neg c3]
              congr 2
              unfold qW
              by_cases c5 : k % (nPp Q - 1) < p.toNat
              · rw [if_pos c5, if_neg (by omega)]
              · rw [if_neg c5, if_pos (by omega)]; omega
            · rw [if_neg c4, if_neg (show ¬ 3 ≤ what by omega)]
        · obtain ⟨v, y1, y2⟩ := ih (k + 1) (by omega) (fun h h' => by
            by_cases e : h = k
            · rw [e]
              by_cases ex : ∃ j, j < 16 ∧ uhF Q s.toNat p.toNat fr (dyN fr to) k j = true
              · exact ex
              · refine absurd ((bI_zero_iff (n := 16) (by omega) _).mpr fun j hj => ?_) cz
                cases e2 : uhF Q s.toNat p.toNat fr (dyN fr to) k j with
                | false => rfl
                | true => exact absurd ⟨j, hj, e2⟩ ex
            · exact hno h (by omega))
          refine ⟨v, xX12_cheapest_224 hS ?_, y2⟩
          dsimp only
          rw [ek]
          exact ⟨fun c => by omega, fun _ => ⟨by omega, fun _ => ⟨by unfold InR; omega, y1⟩, fun c => absurd c cz⟩⟩
    -- the holdings
    have l142 : ∀ n i : Nat, n + i = dyN fr to → ∀ I, frM M.1 I → (∀ h, h < (nPp Q - 1) * i → I 88 0 h = bI 16 (uhF Q s.toNat p.toNat fr (dyN fr to) h)) → ∃ v I', Ex l G (d + 4) mX12_cheapest 142 [some (vR (some (3, 0))), some (vI s), some (vI p), some (vI fr), some (vI to), some (vI what), some (vI (bI 16 (alF Q s.toNat p.toNat fr (dyN fr to)))), some (vI (bI 16 (evF Q s.toNat p.toNat fr (dyN fr to)))), some (vI (bI 16 (fun k => !evF Q s.toNat p.toNat fr (dyN fr to) k))), some (vI (bI 16 (mayF Q s.toNat p.toNat fr (dyN fr to)))), some (vI (((nPp Q - 1) * i : Nat) : Int)), some (vI (fr + (i : Int))), none, none] [] (I, M.2.1, M.2.2) (some (vI v)) (I', M.2.1, M.2.2) ∧ frM M.1 I' ∧ CheP Q s p fr to what v := by
      intro n
      induction n with
      | zero =>
        intro i hi I hf hh
        have ei : i = dyN fr to := by omega
        subst ei
        have e1I : I 48 0 0 = (nPp Q : Int) := mppl_eq (M := (I, M.2.1, M.2.2)) hq.1 (hH.m.fr hf)
        obtain ⟨v, y1, y2⟩ := l224 I hf hh ((nPp Q - 1) * dyN fr to) 0 (by omega) (fun h h' => by omega)
        refine ⟨v, I, xX12_cheapest_142 hS ?_, hf, y2⟩
        dsimp only
        rw [e1I, show (nPp Q : Int) - 1 = ((nPp Q - 1 : Nat) : Int) by omega]
        exact ⟨fun _ => ⟨by unfold InR; omega, y1⟩, fun c => absurd (by omega) c⟩
      | succ n ih =>
        intro i hi I hf hh
        obtain ⟨I1, c1, s1, L1⟩ := KX12_lays (l := l) (G := G) (d := d + 1) (M := (I, M.2.1, M.2.2)) (row := 1) (x2 := fr + (i : Int)) hS hq.1 (hH.m.fr hf).1 (by omega)
        obtain ⟨I2, k1, k2, k3⟩ := ch_159 (l := l) (G := G) (d := d + 1) (M := (I1, M.2.1, M.2.2)) (s := s.toNat) (w := p.toNat) (fr := fr) (to := to) (x5 := what) (x7 := bI 16 (evF Q s.toNat p.toNat fr (dyN fr to))) (x8 := bI 16 (fun k => !evF Q s.toNat p.toNat fr (dyN fr to) k)) (i := i) (N := dyN fr to) hS hq.1 (by omega) hwp (by omega) g4 ((hH.m.fr hf).fr (frM.ll s1)).1 L1 rfl rfl (nPp Q) 0 (by omega) I1 (fun _ _ _ _ => rfl) (fun h h' => by rw [jC_0] at h'; rw [s1 _ _ _ (by omega)]; exact hh h (by omega))
        dsimp only at k1
        rw [es, ep, jC_0] at k3
        have f2 : frM I1 I2 := fun f k i hn => k1 f k i (fun e => hn ⟨by unfold scr; omega, e.2⟩)
        obtain ⟨v, I', y1, y2⟩ := ih (i + 1) (by omega) I2 ((hf.tr (frM.ll s1)).tr f2) k2
        have y1' := k3 _ _ (by rw [show fr + (i : Int) + 1 = fr + ((i + 1 : Nat) : Int) by omega]; exact y1)
        rw [Nat.add_zero] at y1'
        exact ⟨v, I', xX12_cheapest_142 hS ⟨fun c => by omega, fun _ => ⟨_, c1, y1'⟩⟩, y2⟩
    -- always and ever
    have l77 : ∀ n i : Nat, n + i = dyN fr to → ∀ I, frM M.1 I → ∃ v I', Ex l G (d + 4) mX12_cheapest 77 [some (vR (some (3, 0))), some (vI s), some (vI p), some (vI fr), some (vI to), some (vI what), some (vI (bI 16 (alF Q s.toNat p.toNat fr i))), some (vI (bI 16 (evF Q s.toNat p.toNat fr i))), some (vI (fr + (i : Int))), none, none, none, none, none] [] (I, M.2.1, M.2.2) (some (vI v)) (I', M.2.1, M.2.2) ∧ frM M.1 I' ∧ CheP Q s p fr to what v := by
      intro n
      induction n with
      | zero =>
        intro i hi I hf
        have ei : i = dyN fr to := by omega
        subst ei
        obtain ⟨v, I', y1, y2⟩ := l142 (dyN fr to) 0 (by omega) I hf (fun h h' => by omega)
        have e65 : (65535 : Int) = bI 16 (fun _ => true) := a16.symm
        have en : aAnd 65535 (aXor (bI 16 (evF Q s.toNat p.toNat fr (dyN fr to))) (-1)) = bI 16 (fun k => !evF Q s.toNat p.toNat fr (dyN fr to) k) := by
          rw [e65, bI_diff (by omega)]
          exact bI_ext fun i _ => by simp
        refine ⟨v, I', xX12_cheapest_77 ⟨fun _ => ?_, fun c => absurd (by omega) c⟩, y2⟩
        rw [en, bI_or (by omega)]
        rw [Nat.mul_zero, show fr + ((0 : Nat) : Int) = fr by omega] at y1
        exact y1
      | succ n ih =>
        intro i hi I hf
        obtain ⟨I1, c1, s1, L1⟩ := KX12_lays (l := l) (G := G) (d := d + 1) (M := (I, M.2.1, M.2.2)) (row := 1) (x2 := fr + (i : Int)) hS hq.1 (hH.m.fr hf).1 (by omega)
        have kw := KX12_wordsOf (l := l) (G := G) (d := d + 2) (M := (I1, M.2.1, M.2.2)) (q := p.toNat) (s := s.toNat) hS L1 (by omega) (by omega)
        rw [es, ep] at kw
        obtain ⟨v, I', y1, y2⟩ := ih (i + 1) (by omega) I1 (hf.tr (frM.ll s1))
        refine ⟨v, I', xX12_cheapest_77 ⟨fun c => by omega, fun _ => ⟨_, c1, _, _, kw, _, _, kw, by unfold InR; omega, ?_⟩⟩, y2⟩
        rw [bI_and (by omega), bI_or (by omega), show fr + (i : Int) + 1 = fr + ((i + 1 : Nat) : Int) by omega]
        exact y1
    obtain ⟨v, I', y1, y2, y3⟩ := l77 (dyN fr to) 0 (by omega) M.1 frM.rf
    rw [cheV_eq y3]
    have e65 : bI 16 (alF Q s.toNat p.toNat fr 0) = (65535 : Int) := (bI_ext fun _ _ => rfl).trans a16
    have e0 : bI 16 (evF Q s.toNat p.toNat fr 0) = (0 : Int) := (bI_ext (q := fun _ => false) fun _ _ => rfl).trans bI_false
    rw [e65, e0, show fr + ((0 : Nat) : Int) = fr by omega] at y1
    refine ⟨I', xX12_cheapest_0 hS ?_, y2⟩
    rw [e1]
    exact ⟨by unfold InR; omega, fun a => absurd g1 a, fun _ => ⟨by unfold InR; omega, fun a => absurd g2 a, fun _ => ⟨fun a => absurd a g3, fun _ => ⟨fun a => absurd g4 a, fun _ => ⟨fun a => absurd g5 a, fun _ => ⟨by unfold InR; omega, fun a => absurd (by omega) a, fun _ => ⟨fun _ => y1, fun a => absurd g7 a⟩⟩⟩⟩⟩⟩⟩
  · rw [cheV_eq (v := -1) ⟨fun n => absurd n g, fun _ => rfl⟩]
    refine ⟨M.1, xX12_cheapest_0 hS ?_, frM.rf⟩
    rw [e1]
    exact ⟨by unfold InR; omega, fun _ => ⟨rfl, rfl⟩, fun g1 => ⟨by unfold InR; omega, fun _ => ⟨rfl, rfl⟩, fun g2 => ⟨fun _ => ⟨rfl, rfl⟩, fun g3 => ⟨fun _ => ⟨rfl, rfl⟩, fun g4 => ⟨fun _ => ⟨rfl, rfl⟩, fun g5 => ⟨by unfold InR; omega, fun _ => ⟨rfl, rfl⟩, fun g6 => ⟨fun g7 => absurd ⟨g1, g2, g3, g4, g5, by omega, g7⟩ g, fun _ => ⟨rfl, rfl⟩⟩⟩⟩⟩⟩⟩⟩
end CR2
