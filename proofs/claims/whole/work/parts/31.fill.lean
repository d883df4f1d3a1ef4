/-! loops; rows of a cell as a whole; Arrays.fill -/
theorem loopUp {P : Nat → Prop} (a b : Nat) (hab : a ≤ b) (step : ∀ k, a ≤ k → k < b → P (k + 1) → P k) (fin : P b) : P a := by
  have h : ∀ j, j ≤ b - a → P (b - j) := by
    intro j
    induction j with
    | zero => intro _; exact fin
    | succ j ih =>
      intro hj
      have h1 := ih (by omega)
      refine step (b - (j + 1)) (by omega) (by omega) ?_
      rw [show b - (j + 1) + 1 = b - j by omega]
      exact h1
  have := h (b - a) (Nat.le_refl _)
  rwa [show b - (b - a) = a by omega] at this
theorem seI_self {I : IM} {f k : Nat} : seI I f k (I f k) = I := by
  funext f' k'
  by_cases e : f' = f ∧ k' = k
  · obtain ⟨rfl, rfl⟩ := e; rw [seI_s]
  · rw [seI_o e]
theorem upI_seI {I : IM} {f k i : Nat} {g : Nat → Int} {v : Int} : upI (seI I f k g) f k i v = seI I f k (fun j => if j = i then v else g j) := by
  funext f' k'
  by_cases e : f' = f ∧ k' = k
  · obtain ⟨rfl, rfl⟩ := e
    rw [seI_s]
    funext j
    rw [upI_c, seI_s]
  · rw [seI_o e, upI_o e, seI_o e]
theorem upI_eq {I : IM} {f k i : Nat} {v : Int} : upI I f k i v = seI I f k (fun j => if j = i then v else I f k j) := by
  have := upI_seI (I := I) (f := f) (k := k) (i := i) (g := I f k) (v := v)
  rwa [seI_self] at this
theorem seI_seI {I : IM} {f k : Nat} {g g' : Nat → Int} : seI (seI I f k g) f k g' = seI I f k g' := by
  funext f' k'
  by_cases e : f' = f ∧ k' = k
  · obtain ⟨rfl, rfl⟩ := e
    rw [seI_s, seI_s]
  · rw [seI_o e, seI_o e, seI_o e]
theorem seI_fs {I : IM} {f k : Nat} {g : Nat → Int} {i : Nat} : seI I f k g f k i = g i := by rw [seI_s]
theorem seI_k {I : IM} {f k : Nat} {g : Nat → Int} {f' k' i' : Nat} (h : k' ≠ k) : seI I f k g f' k' i' = I f' k' i' := by
  rw [seI_o (fun e => h e.2)]
set_option maxRecDepth 4000 in
theorem xJ7_fill_53178_0 {l : Launch} {G : Gt} {d : Nat} {M M' : Mem} {r : Option Vl} {f0 : Nat} {k0 : Nat} {x1 : Int} (hf_f0 : fK f0 = 1) (h2_f0 : 2 ≤ f0) (h : 
    (InR (aLen M.2.2 f0 k0 : Int)) ∧ Ex l G d mJ7_fill_53178 5 [some (vR (some (f0, k0))), some (vI x1), some (vI 0), some (vI (aLen M.2.2 f0 k0 : Int))] [] M r M') : Cl l G d mJ7_fill_53178 [vR (some (f0, k0)), vI x1] M r M' := by
  show Ex l G d mJ7_fill_53178 0 [some (vR (some (f0, k0))), some (vI x1), none, none] [] M r M'
  obtain ⟨o_1, h⟩ := h
  refine r_iconst 1 dJ7_fill_53178_0 rfl (InR_of rfl) ?_
  refine r_istore_n (ls' := [some (vR (some (f0, k0))), some (vI x1), some (vI 0), none]) 2 dJ7_fill_53178_1 rfl rfl rfl rfl ?_
  refine r_aload_n 3 dJ7_fill_53178_2 rfl rfl ?_
  refine r_alen (v := (aLen M.2.2 f0 k0 : Int)) 4 dJ7_fill_53178_3 rfl rfl (.inl hf_f0) rfl o_1 ?_
  refine r_istore_n (ls' := [some (vR (some (f0, k0))), some (vI x1), some (vI 0), some (vI (aLen M.2.2 f0 k0 : Int))]) 5 dJ7_fill_53178_4 rfl rfl rfl rfl ?_
  exact h
set_option maxRecDepth 4000 in
theorem xJ7_fill_53178_5 {l : Launch} {G : Gt} {d : Nat} {M M' : Mem} {r : Option Vl} {k0 : Nat} {x1 : Int} {x2 : Int} {x3 : Int} {f0 : Nat} (hf_f0 : fK f0 = 1) (h2_f0 : 2 ≤ f0) (h : 
    (x3 ≤ x2 → r = none ∧ M' = M) ∧ (¬ (x3 ≤ x2) → ((0 ≤ x2 ∧ x2 < (aLen M.2.2 f0 k0 : Int)) ∧ InR (x2 + 1)) ∧ Ex l G d mJ7_fill_53178 5 [some (vR (some (f0, k0))), some (vI x1), some (vI (x2 + 1)), some (vI x3)] [] ((upI M.1 f0 k0 x2.toNat x1), M.2.1, M.2.2) r M')) : Ex l G d mJ7_fill_53178 5 [some (vR (some (f0, k0))), some (vI x1), some (vI x2), some (vI x3)] [] M r M' := by
  refine r_iload_n 6 dJ7_fill_53178_5 rfl rfl ?_
  refine r_iload_n 7 dJ7_fill_53178_6 rfl rfl ?_
  refine r_icmp_ge 10 20 dJ7_fill_53178_7 rfl rfl (fun c => ?_) (fun c => ?_)
  · have h := h.1 (c)
    exact r_vret dJ7_fill_53178_20 rfl h.1 h.2
  · have h := h.2 (c)
    obtain ⟨⟨o_1, o_2⟩, h⟩ := h
    refine r_aload_n 11 dJ7_fill_53178_10 rfl rfl ?_
    refine r_iload_n 12 dJ7_fill_53178_11 rfl rfl ?_
    refine r_iload_n 13 dJ7_fill_53178_12 rfl rfl ?_
    refine s_I (aLen M.2.2 f0 k0 : Int) 14 dJ7_fill_53178_13 rfl rfl h2_f0 hf_f0 rfl o_1 ?_
    refine r_iinc (ls' := [some (vR (some (f0, k0))), some (vI x1), some (vI (x2 + 1)), some (vI x3)]) 17 dJ7_fill_53178_14 rfl rfl rfl rfl o_2 rfl ?_
    refine r_goto 5 dJ7_fill_53178_17 rfl ?_
    exact h

/-- the first n places of a row are v -/
def flI (I : IM) (f k n : Nat) (v : Int) : IM := seI I f k (fun i => if i < n then v else I f k i)
theorem KJ7_fill {l : Launch} {G : Gt} {d f k : Nat} {v : Int} {M : Mem} (hf : fK f = 1) (h2 : 2 ≤ f) (ho : aLen M.2.2 f k ≤ 100000) : Cl l G d mJ7_fill_53178 [vR (some (f, k)), vI v] M none (flI M.1 f k (aLen M.2.2 f k) v, M.2.1, M.2.2) := by
  refine xJ7_fill_53178_0 hf h2 ⟨by unfold InR; omega, ?_⟩
  have key : Ex l G d mJ7_fill_53178 5 [some (vR (some (f, k))), some (vI v), some (vI 0), some (vI (aLen M.2.2 f k : Int))] [] (flI M.1 f k 0 v, M.2.1, M.2.2) none (flI M.1 f k (aLen M.2.2 f k) v, M.2.1, M.2.2) := by
    refine loopUp (P := fun i => Ex l G d mJ7_fill_53178 5 [some (vR (some (f, k))), some (vI v), some (vI (i : Int)), some (vI (aLen M.2.2 f k : Int))] [] (flI M.1 f k i v, M.2.1, M.2.2) none (flI M.1 f k (aLen M.2.2 f k) v, M.2.1, M.2.2)) 0 (aLen M.2.2 f k) (Nat.zero_le _) ?_ ?_
    · intro i _ hi ih
      refine xJ7_fill_53178_5 hf h2 ⟨fun c => absurd c (by omega), fun _ => ⟨⟨by show 0 ≤ (i : Int) ∧ (i : Int) < (aLen M.2.2 f k : Int); omega, by unfold InR; omega⟩, ?_⟩⟩
      have e : upI (flI M.1 f k i v) f k (i : Int).toNat v = flI M.1 f k (i + 1) v := by
        unfold flI
        rw [upI_seI]
        congr 1
        funext j
        simp only [Int.toNat_natCast]
        by_cases h1 : j = i
        · subst h1; simp
        · by_cases h3 : j < i
          · simp [h1, h3, show j < i + 1 by omega]
          · simp [h1, h3, show ¬ j < i + 1 by omega]
      show Ex _ _ _ _ _ _ _ (upI (flI M.1 f k i v) f k (i : Int).toNat v, M.2.1, M.2.2) _ _
      rw [e]
      exact ih
    · exact xJ7_fill_53178_5 hf h2 ⟨fun _ => ⟨rfl, rfl⟩, fun c => absurd (Int.le_refl _) c⟩
  have e0 : flI M.1 f k 0 v = M.1 := by
    unfold flI
    simp only [Nat.not_lt_zero, if_false]
    exact seI_self
  rw [e0] at key
  exact key
theorem KJ7_fl {l : Launch} {G : Gt} {d f k n : Nat} {v : Int} {I : IM} {R : RM} {c : Ct} (hf : fK f = 1) (h2 : 2 ≤ f) (hn : aLen c f k = n) (ho : n ≤ 100000) : Cl l G d mJ7_fill_53178 [vR (some (f, k)), vI v] (I, R, c) none (flI I f k n v, R, c) := by
  subst hn
  exact KJ7_fill hf h2 ho
theorem flI_f {I : IM} {f k n : Nat} {v : Int} {f' k' i' : Nat} (h : Nat.beq f' f = false) : flI I f k n v f' k' i' = I f' k' i' := seI_f h
theorem flI_k {I : IM} {f k n : Nat} {v : Int} {f' k' i' : Nat} (h : k' ≠ k) : flI I f k n v f' k' i' = I f' k' i' := seI_k h
theorem flI_s {I : IM} {f k n : Nat} {v : Int} {i : Nat} : flI I f k n v f k i = if i < n then v else I f k i := seI_fs
