/-! the reference's roads -/
set_option maxRecDepth 4000 in
theorem xX12_roadOf_0 {l : Launch} {G : Gt} {d : Nat} {M M' : Mem} {r : Option Vl} {x1 : Int} {x2 : Int} (h : 
    Ex l G d mX12_roadOf 2 [some (vR (some (3, 0))), some (vI x1), some (vI x2), some (vI 0)] [] M r M') : Cl l G d mX12_roadOf [vR (some (3, 0)), vI x1, vI x2] M r M' := by
  show Ex l G d mX12_roadOf 0 [some (vR (some (3, 0))), some (vI x1), some (vI x2), none] [] M r M'
  refine r_iconst 1 dX12_roadOf_0 rfl (InR_of rfl) ?_
  refine r_istore_n (ls' := [some (vR (some (3, 0))), some (vI x1), some (vI x2), some (vI 0)]) 2 dX12_roadOf_1 rfl rfl rfl rfl ?_
  exact h
set_option maxRecDepth 4000 in
theorem xX12_roadOf_2 {l : Launch} {G : Gt} {d : Nat} {M M' : Mem} {r : Option Vl} {x1 : Int} {x2 : Int} {x3 : Int} (hS : Sh M.2.1) (h : 
    ((M.1 48 0 1) ≤ x3 → r = some (vI (-1)) ∧ M' = M) ∧ (¬ ((M.1 48 0 1) ≤ x3) → ((0 ≤ x3 ∧ x3 < 16)) ∧ ((¬ ((M.1 53 0 x3.toNat) = x1) → ((0 ≤ x3 ∧ x3 < 16)) ∧ ((¬ ((M.1 53 0 x3.toNat) = x2) → (InR (x3 + 1)) ∧ Ex l G d mX12_roadOf 2 [some (vR (some (3, 0))), some (vI x1), some (vI x2), some (vI (x3 + 1))] [] M r M') ∧ ((M.1 53 0 x3.toNat) = x2 → ((0 ≤ x3 ∧ x3 < 16)) ∧ ((¬ ((M.1 54 0 x3.toNat) = x1) → (InR (x3 + 1)) ∧ Ex l G d mX12_roadOf 2 [some (vR (some (3, 0))), some (vI x1), some (vI x2), some (vI (x3 + 1))] [] M r M') ∧ ((M.1 54 0 x3.toNat) = x1 → r = some (vI x3) ∧ M' = M))))) ∧ ((M.1 53 0 x3.toNat) = x1 → ((0 ≤ x3 ∧ x3 < 16)) ∧ (((M.1 54 0 x3.toNat) = x2 → r = some (vI x3) ∧ M' = M) ∧ (¬ ((M.1 54 0 x3.toNat) = x2) → ((0 ≤ x3 ∧ x3 < 16)) ∧ ((¬ ((M.1 53 0 x3.toNat) = x2) → (InR (x3 + 1)) ∧ Ex l G d mX12_roadOf 2 [some (vR (some (3, 0))), some (vI x1), some (vI x2), some (vI (x3 + 1))] [] M r M') ∧ ((M.1 53 0 x3.toNat) = x2 → ((0 ≤ x3 ∧ x3 < 16)) ∧ ((¬ ((M.1 54 0 x3.toNat) = x1) → (InR (x3 + 1)) ∧ Ex l G d mX12_roadOf 2 [some (vR (some (3, 0))), some (vI x1), some (vI x2), some (vI (x3 + 1))] [] M r M') ∧ ((M.1 54 0 x3.toNat) = x1 → r = some (vI x3) ∧ M' = M)))))))))) : Ex l G d mX12_roadOf 2 [some (vR (some (3, 0))), some (vI x1), some (vI x2), some (vI x3)] [] M r M' := by
  refine r_iload_n 3 dX12_roadOf_2 rfl rfl ?_
  refine r_aload_n 4 dX12_roadOf_3 rfl rfl ?_
  refine g_R 7 dX12_roadOf_4 rfl rfl rfl fr_12_7 (sh_12_1 hS) ?_
  refine r_iconst 8 dX12_roadOf_7 rfl (InR_of rfl) ?_
  refine a_I 6 9 dX12_roadOf_8 rfl rfl rfl rfl ⟨by decide, by decide⟩ rfl ?_
  refine r_icmp_ge 12 60 dX12_roadOf_9 rfl rfl (fun c => ?_) (fun c => ?_)
  · have h := h.1 (c)
    refine r_iconst 61 dX12_roadOf_60 rfl (InR_of rfl) ?_
    exact r_iret dX12_roadOf_61 rfl (.inl rfl) h.1 h.2
  · have h := h.2 (c)
    obtain ⟨o_1, h⟩ := h
    refine r_aload_n 13 dX12_roadOf_12 rfl rfl ?_
    refine g_R 16 dX12_roadOf_13 rfl rfl rfl fr_12_25 (sh_12_6 hS) ?_
    refine r_iload_n 17 dX12_roadOf_16 rfl rfl ?_
    refine a_I 16 18 dX12_roadOf_17 rfl rfl rfl rfl o_1 rfl ?_
    refine r_iload_n 19 dX12_roadOf_18 rfl rfl ?_
    refine r_icmp_ne 22 32 dX12_roadOf_19 rfl rfl (fun c => ?_) (fun c => ?_)
    · have h := h.1 (c)
      obtain ⟨o_2, h⟩ := h
      refine r_aload_n 33 dX12_roadOf_32 rfl rfl ?_
      refine g_R 36 dX12_roadOf_33 rfl rfl rfl fr_12_25 (sh_12_6 hS) ?_
      refine r_iload_n 37 dX12_roadOf_36 rfl rfl ?_
      refine a_I 16 38 dX12_roadOf_37 rfl rfl rfl rfl o_2 rfl ?_
      refine r_iload_n 39 dX12_roadOf_38 rfl rfl ?_
      refine r_icmp_ne 42 54 dX12_roadOf_39 rfl rfl (fun c => ?_) (fun c => ?_)
      · have h := h.1 (c)
        obtain ⟨o_3, h⟩ := h
        refine r_iinc (ls' := [some (vR (some (3, 0))), some (vI x1), some (vI x2), some (vI (x3 + 1))]) 57 dX12_roadOf_54 rfl rfl rfl rfl o_3 rfl ?_
        refine r_goto 2 dX12_roadOf_57 rfl ?_
        exact h
      · have h := h.2 (Decidable.not_not.mp c)
        obtain ⟨o_4, h⟩ := h
        refine r_aload_n 43 dX12_roadOf_42 rfl rfl ?_
        refine g_R 46 dX12_roadOf_43 rfl rfl rfl fr_12_28 (sh_12_7 hS) ?_
        refine r_iload_n 47 dX12_roadOf_46 rfl rfl ?_
        refine a_I 16 48 dX12_roadOf_47 rfl rfl rfl rfl o_4 rfl ?_
        refine r_iload_n 49 dX12_roadOf_48 rfl rfl ?_
        refine r_icmp_ne 52 54 dX12_roadOf_49 rfl rfl (fun c => ?_) (fun c => ?_)
        · have h := h.1 (c)
          obtain ⟨o_5, h⟩ := h
          refine r_iinc (ls' := [some (vR (some (3, 0))), some (vI x1), some (vI x2), some (vI (x3 + 1))]) 57 dX12_roadOf_54 rfl rfl rfl rfl o_5 rfl ?_
          refine r_goto 2 dX12_roadOf_57 rfl ?_
          exact h
        · have h := h.2 (Decidable.not_not.mp c)
          refine r_iload_n 53 dX12_roadOf_52 rfl rfl ?_
          exact r_iret dX12_roadOf_53 rfl (.inl rfl) h.1 h.2
    · have h := h.2 (Decidable.not_not.mp c)
      obtain ⟨o_6, h⟩ := h
      refine r_aload_n 23 dX12_roadOf_22 rfl rfl ?_
      refine g_R 26 dX12_roadOf_23 rfl rfl rfl fr_12_28 (sh_12_7 hS) ?_
      refine r_iload_n 27 dX12_roadOf_26 rfl rfl ?_
      refine a_I 16 28 dX12_roadOf_27 rfl rfl rfl rfl o_6 rfl ?_
      refine r_iload_n 29 dX12_roadOf_28 rfl rfl ?_
      refine r_icmp_eq 32 52 dX12_roadOf_29 rfl rfl (fun c => ?_) (fun c => ?_)
      · have h := h.1 (c)
        refine r_iload_n 53 dX12_roadOf_52 rfl rfl ?_
        exact r_iret dX12_roadOf_53 rfl (.inl rfl) h.1 h.2
      · have h := h.2 (c)
        obtain ⟨o_7, h⟩ := h
        refine r_aload_n 33 dX12_roadOf_32 rfl rfl ?_
        refine g_R 36 dX12_roadOf_33 rfl rfl rfl fr_12_25 (sh_12_6 hS) ?_
        refine r_iload_n 37 dX12_roadOf_36 rfl rfl ?_
        refine a_I 16 38 dX12_roadOf_37 rfl rfl rfl rfl o_7 rfl ?_
        refine r_iload_n 39 dX12_roadOf_38 rfl rfl ?_
        refine r_icmp_ne 42 54 dX12_roadOf_39 rfl rfl (fun c => ?_) (fun c => ?_)
        · have h := h.1 (c)
          obtain ⟨o_8, h⟩ := h
          refine r_iinc (ls' := [some (vR (some (3, 0))), some (vI x1), some (vI x2), some (vI (x3 + 1))]) 57 dX12_roadOf_54 rfl rfl rfl rfl o_8 rfl ?_
          refine r_goto 2 dX12_roadOf_57 rfl ?_
          exact h
        · have h := h.2 (Decidable.not_not.mp c)
          obtain ⟨o_9, h⟩ := h
          refine r_aload_n 43 dX12_roadOf_42 rfl rfl ?_
          refine g_R 46 dX12_roadOf_43 rfl rfl rfl fr_12_28 (sh_12_7 hS) ?_
          refine r_iload_n 47 dX12_roadOf_46 rfl rfl ?_
          refine a_I 16 48 dX12_roadOf_47 rfl rfl rfl rfl o_9 rfl ?_
          refine r_iload_n 49 dX12_roadOf_48 rfl rfl ?_
          refine r_icmp_ne 52 54 dX12_roadOf_49 rfl rfl (fun c => ?_) (fun c => ?_)
          · have h := h.1 (c)
            obtain ⟨o_10, h⟩ := h
            refine r_iinc (ls' := [some (vR (some (3, 0))), some (vI x1), some (vI x2), some (vI (x3 + 1))]) 57 dX12_roadOf_54 rfl rfl rfl rfl o_10 rfl ?_
            refine r_goto 2 dX12_roadOf_57 rfl ?_
            exact h
          · have h := h.2 (Decidable.not_not.mp c)
            refine r_iload_n 53 dX12_roadOf_52 rfl rfl ?_
            exact r_iret dX12_roadOf_53 rfl (.inl rfl) h.1 h.2

def HoldsR (Q : QT) (I : IM) : Prop := ∀ f i, (f = 48 ∨ f = 53 ∨ f = 54 ∨ f = 55) → I f 0 i = Q f i
def roI (Q : QT) (a b : Int) : Int := match ro Q a b with
  | some k => (k : Int)
  | none => -1
theorem rkF_keep {Q : QT} {a b : Int} {k : Nat} : ∀ {n m : Nat}, rkF Q a b n = some k → n ≤ m → rkF Q a b m = some k := by
  intro n m h hm
  induction m with
  | zero => rw [show n = 0 by omega] at h; exact h
  | succ m ih =>
    by_cases e : n = m + 1
    · rw [← e]; exact h
    · unfold rkF
      rw [ih (by omega)]
theorem KX12_roadOf {l : Launch} {G : Gt} {d : Nat} {Q : QT} {M : Mem} {a b : Int} (hS : Sh M.2.1) (hw : WFr Q) (hH : HoldsR Q M.1) : Cl l G d mX12_roadOf [vR (some (3, 0)), vI a, vI b] M (some (vI (roI Q a b))) M := by
  have h16 := hw.1
  have hn : Q 48 1 = (nRd Q : Int) := by unfold nRd; omega
  have e1 := hH 48 1 (by omega)
  refine xX12_roadOf_0 ?_
  refine loopUp (P := fun k => rkF Q a b k = none → Ex l G d mX12_roadOf 2 [some (vR (some (3, 0))), some (vI a), some (vI b), some (vI (k : Int))] [] M (some (vI (roI Q a b))) M) 0 (nRd Q) (Nat.zero_le _) ?_ ?_ rfl
  · intro k _ hk ih hno
    have e3 := hH 53 k (by omega)
    have e4 := hH 54 k (by omega)
    have hyes : ((Q 53 k = a ∧ Q 54 k = b) ∨ (Q 53 k = b ∧ Q 54 k = a)) → roI Q a b = k := fun h => by
      have : rkF Q a b (k + 1) = some k := by unfold rkF; rw [hno]; dsimp only; rw [if_pos h]
      have := rkF_keep this (show k + 1 ≤ nRd Q by omega)
      unfold roI ro
      rw [this]
    have hnxt : ¬ ((Q 53 k = a ∧ Q 54 k = b) ∨ (Q 53 k = b ∧ Q 54 k = a)) → rkF Q a b (k + 1) = none := fun h => by
      unfold rkF; rw [hno]; dsimp only; rw [if_neg h]
    refine xX12_roadOf_2 hS ⟨fun c => ?_, fun _ => ⟨by omega, ?_⟩⟩
    · rw [e1, hn] at c; omega
    · simp only [Int.toNat_natCast, e3, e4]
      refine ⟨fun c1 => ⟨by omega, fun c2 => ⟨by unfold InR; omega, ih (hnxt (by omega))⟩, fun c2 => ⟨by omega, fun c3 => ⟨by unfold InR; omega, ih (hnxt (by omega))⟩, fun c3 => ⟨by rw [hyes (.inr ⟨c2, c3⟩)], by trivial⟩⟩⟩, fun c1 => ⟨by omega, fun c2 => ⟨by rw [hyes (.inl ⟨c1, c2⟩)], by trivial⟩, fun c2 => ⟨by omega, fun c3 => ⟨by unfold InR; omega, ih (hnxt (by omega))⟩, fun c3 => ⟨by omega, fun c4 => ⟨by unfold InR; omega, ih (hnxt (by omega))⟩, fun c4 => ⟨by rw [hyes (.inr ⟨c3, c4⟩)], by trivial⟩⟩⟩⟩⟩
  · intro hno
    refine xX12_roadOf_2 hS ⟨fun _ => ⟨?_, rfl⟩, fun c => absurd ?_ c⟩
    · unfold roI ro; rw [hno]
    · rw [e1, hn]; exact Int.le_refl _
/-! counting -/
def cnt (p : Nat → Bool) : Nat → Nat
  | 0 => 0
  | n + 1 => cnt p n + (if p n then 1 else 0)
theorem cnt_le (p : Nat → Bool) : ∀ n, cnt p n ≤ n := by
  intro n
  induction n with
  | zero => exact Nat.le_refl _
  | succ n ih => unfold cnt; split <;> omega
theorem cnt_mono {p q : Nat → Bool} : ∀ {n : Nat}, (∀ i, i < n → p i = true → q i = true) → cnt p n ≤ cnt q n := by
  intro n
  induction n with
  | zero => intros; exact Nat.le_refl _
  | succ n ih =>
    intro h
    have h1 := ih (fun i hi => h i (by omega))
    have h2 := h n (by omega)
    unfold cnt
    by_cases e : p n = true
    · rw [if_pos e, if_pos (h2 e)]; omega
    · rw [if_neg e]; omega
theorem cnt_lt {p q : Nat → Bool} : ∀ {n : Nat}, (∀ i, i < n → p i = true → q i = true) → ∀ {j : Nat}, j < n → q j = true → p j = false → cnt p n + 1 ≤ cnt q n := by
  intro n
  induction n with
  | zero => intro _ j hj; omega
  | succ n ih =>
    intro h j hj h1 h2
    unfold cnt
    by_cases e : j = n
    · subst e
      have := cnt_mono (n := j) (fun i hi => h i (by omega))
      rw [h2, h1]
      simp
      omega
    · have h3 := ih (fun i hi => h i (by omega)) (show j < n by omega) h1 h2
      have h4 := h n (by omega)
      by_cases e2 : p n = true
      · rw [if_pos e2, if_pos (h4 e2)]; omega
      · rw [if_neg e2]; omega
theorem cnt_full {p : Nat → Bool} {n : Nat} (h : n ≤ cnt p n) : ∀ i, i < n → p i = true := by
  intro i hi
  by_cases e : p i = true
  · exact e
  · exfalso
    have hall : cnt (fun _ => true) n = n := by
      clear h hi e
      induction n with
      | zero => rfl
      | succ n ih => unfold cnt; rw [ih]; rfl
    have := cnt_lt (p := p) (q := fun _ => true) (n := n) (fun _ _ _ => rfl) hi rfl (by simpa using e)
    omega
/-- a way is never longer than 63 days -/
theorem dist_63 {Q : QT} (h : WFr Q) {a : Nat} (ha : a < 8) : ∀ m : Nat, ∀ b, b < 8 → dist Q a b < 1000 → dist Q a b ≤ m → dist Q a b ≤ 9 * cnt (fun c => decide (dist Q a c < dist Q a b)) 8 := by
  intro m
  induction m with
  | zero =>
    intro b hb hlt hm
    have := Dk_nn h 8 a b
    unfold dist at *
    omega
  | succ m ih =>
    intro b hb hlt hm
    by_cases e : a = b
    · subst e
      have := (Dk_self h 8 a).1
      unfold dist at *
      omega
    · obtain ⟨c, hc, ⟨j, hj⟩, he⟩ := dist_pre h ha hb e hlt
      have hp := rd_pos h hj
      have h9 := (rd_in h c b).2
      have h1 := ih c hc (by omega) (by omega)
      have h2 := cnt_lt (p := fun x => decide (dist Q a x < dist Q a c)) (q := fun x => decide (dist Q a x < dist Q a b)) (n := 8) (fun i _ hi => by simp at hi ⊢; omega) hc (by simp; omega) (by simp)
      omega
theorem dist_le {Q : QT} (h : WFr Q) {a b : Nat} (ha : a < 8) (hb : b < 8) (hlt : dist Q a b < 1000) : dist Q a b ≤ 63 := by
  have h1 := dist_63 h ha 1000 b hb hlt (by omega)
  have h2 : cnt (fun c => decide (dist Q a c < dist Q a b)) 8 ≤ 7 := by
    by_cases e : 8 ≤ cnt (fun c => decide (dist Q a c < dist Q a b)) 8
    · have := cnt_full e b hb
      simp at this
    · omega
  omega
