/-! A FACT on the reference: closes, atPlace, fact -/
section RW3
variable {l : Launch} {G : Gt} {d : Nat} {M : Mem} {r : Option Vl} {M' : Mem} {t : Tp} {n sl q : Nat} {e dp ti cn : Int} {o s : List (Int × Int)} {I I' I'' : IM}
/-- what is ahead of a fact comes out -/
def clO : List (Int × Int) → List (Int × Int)
  | [] => []
  | x :: s => if x.1 = 3 ∨ x.1 = 4 then x :: clO s else []
def clS : List (Int × Int) → List (Int × Int)
  | [] => []
  | x :: s => if x.1 = 3 ∨ x.1 = 4 then clS s else x :: s
theorem cl_run {p c : Nat} : ∀ {s o : List (Int × Int)}, Rn t n (1, p, e, o, c, s) (2, p, e, o ++ clO s, c, clS s) := by
  intro s
  induction s with
  | nil => intro o; exact Rn.one (by rw [show o ++ clO [] = o from List.append_nil o]; rfl)
  | cons x s ih =>
    intro o
    by_cases hx : x.1 = 3 ∨ x.1 = 4
    · rw [show clO (x :: s) = x :: clO s by show (if _ then _ else _) = _; rw [if_pos hx], show clS (x :: s) = clS s by show (if _ then _ else _) = _; rw [if_pos hx], List.append_cons]
      refine Rn.tr (Rn.one ((step_1 rfl).trans ?_)) ih
      show (if _ then _ else _) = _
      rw [if_pos hx]
    · rw [show clO (x :: s) = [] by show (if _ then _ else _) = _; rw [if_neg hx], show clS (x :: s) = x :: s by show (if _ then _ else _) = _; rw [if_neg hx], List.append_nil]
      refine Rn.one ((step_1 rfl).trans ?_)
      show (if _ then _ else _) = _
      rw [if_neg hx]
theorem dp_le : ∀ s : List (Int × Int), dpN s ≤ s.length := by
  intro s
  induction s with
  | nil => exact Nat.le_refl _
  | cons x s ih => rw [dp_c]; simp only [List.length_cons]; split <;> omega
theorem ti_le : ∀ s : List (Int × Int), tiN s ≤ s.length := by
  intro s
  induction s with
  | nil => exact Nat.le_refl _
  | cons x s ih => rw [ti_c]; simp only [List.length_cons]; split <;> omega
theorem KX12_closes : ∀ {s o : List (Int × Int)} {M : Mem}, Sh M.2.1 → Rg sl t n q e o (dpN s) (tiN s) cn s M.1 → o.length + s.length ≤ 400 → ∃ I', Cl l G (d + 1) mX12_closes [vR (some (3, 0))] M none (I', M.2.1, M.2.2) ∧ Rg sl t n q e (o ++ clO s) (dpN (clS s)) (tiN (clS s)) cn (clS s) I' ∧ frV sl M.1 I' := by
  intro s
  induction s with
  | nil =>
    intro o M hS h hl
    have h38 : M.1 3 0 38 = (0 : Int) := h.2.2.2.2.2.2.2.2.1
    refine ⟨M.1, xX12_closes_0 hS ⟨fun _ => ⟨rfl, rfl⟩, fun c => by omega⟩, ?_, frV.rf⟩
    rw [show o ++ clO [] = o from List.append_nil o]
    exact h
  | cons x s ih =>
    intro o M hS h hl
    have h38 : M.1 3 0 38 = ((s.length + 1 : Nat) : Int) := h.2.2.2.2.2.2.2.2.1
    have hop := h.2.2.2.2.2.2.2.2.2.2
    have hl' : o.length + (s.length + 1) ≤ 400 := hl
    have e0 : (M.1 3 0 38 - 1).toNat = s.length := by omega
    have ex := hop.1
    have ey := hop.2.1
    by_cases hx : x.1 = 3 ∨ x.1 = 4
    · obtain ⟨I1, k1, k2, k3, k4⟩ := KX12_emits (l := l) (G := G) (d := d) (M := (upI M.1 3 0 38 (M.1 3 0 38 - 1), M.2.1, M.2.2)) (x1 := x.1) (x2 := x.2) hS (h.pop (by omega)) (by omega)
      have a38 : I1 3 0 38 = (s.length : Int) := k2.2.2.2.2.2.2.2.2.1
      have a35 : I1 3 0 35 = ((dpN (x :: s) : Nat) : Int) := k2.2.2.2.2.2.1
      have a36 : I1 3 0 36 = ((tiN (x :: s) : Nat) : Int) := k2.2.2.2.2.2.2.1
      have a80 : I1 80 0 (I1 3 0 38).toNat = x.1 := by
        have k4' := k4 s.length
        dsimp only at k4'
        rw [a38, Int.toNat_natCast, k4', upI_ne (by omega)]; exact ex
      have hd := dp_c x s
      have ht := ti_c x s
      have hd2 : dpN (x :: s) ≤ s.length + 1 := dp_le (x :: s)
      have ht2 : tiN (x :: s) ≤ s.length + 1 := ti_le (x :: s)
      have hRg : Rg sl t n q e (o ++ [x]) (dpN s) (tiN s) cn s (upI (upI I1 3 0 35 (I1 3 0 35 - (if I1 80 0 (I1 3 0 38).toNat = 3 then 1 else 0 : Int))) 3 0 36 (I1 3 0 36 - (if I1 80 0 (I1 3 0 38).toNat = 4 then 1 else 0 : Int))) := by
        rw [a80]
        have k5 := k2.md (i := 35) (v := I1 3 0 35 - (if x.1 = 3 then 1 else 0 : Int)) (q' := q) (e' := e) (dp' := (dpN s : Int)) (ti' := (tiN (x :: s) : Int)) (cn' := cn) (by omega) rfl rfl (by
          rw [if_pos rfl, a35, hd]
          by_cases g : x.1 = 3
          · rw [if_pos g, if_pos (.inl g)]; omega
          · rw [if_neg g, if_neg (by omega)]; omega) rfl rfl
        have e36 : upI I1 3 0 35 (I1 3 0 35 - (if x.1 = 3 then 1 else 0 : Int)) 3 0 36 = I1 3 0 36 := upI_ne (by omega)
        have k6 := k5.md (i := 36) (v := I1 3 0 36 - (if x.1 = 4 then 1 else 0 : Int)) (q' := q) (e' := e) (dp' := (dpN s : Int)) (ti' := (tiN s : Int)) (cn' := cn) (by omega) rfl rfl rfl (by
          rw [if_pos rfl, a36, ht]
          by_cases g : x.1 = 4
          · rw [if_pos g, if_pos g]; omega
          · rw [if_neg g, if_neg g]; omega) rfl
        exact k6
      obtain ⟨I2, j1, j2, j3⟩ := ih (o := o ++ [x]) (M := (upI (upI I1 3 0 35 (I1 3 0 35 - (if I1 80 0 (I1 3 0 38).toNat = 3 then 1 else 0 : Int))) 3 0 36 (I1 3 0 36 - (if I1 80 0 (I1 3 0 38).toNat = 4 then 1 else 0 : Int)), M.2.1, M.2.2)) hS hRg (by simp; omega)
      have fin : ∃ (M_5 : Mem), Cl l G d mX12_emits [vR (some (3, 0)), vI (M.1 80 0 (M.1 3 0 38 - 1).toNat), vI (M.1 81 0 (M.1 3 0 38 - 1).toNat)] (upI M.1 3 0 38 (M.1 3 0 38 - 1), M.2.1, M.2.2) none M_5 ∧ Sh M_5.2.1 ∧ ((0 ≤ (M_5.1 3 0 38) ∧ (M_5.1 3 0 38) < 402)) ∧ (InR ((M_5.1 3 0 35) - (if (M_5.1 80 0 (M_5.1 3 0 38).toNat) = 3 then 1 else 0 : Int)) ∧ (0 ≤ (M_5.1 3 0 38) ∧ (M_5.1 3 0 38) < 402)) ∧ (InR ((M_5.1 3 0 36) - (if (M_5.1 80 0 (M_5.1 3 0 38).toNat) = 4 then 1 else 0 : Int))) ∧ Ex l G (d + 1) mX12_closes 0 [some (vR (some (3, 0)))] [] ((upI (upI M_5.1 3 0 35 ((M_5.1 3 0 35) - (if (M_5.1 80 0 (M_5.1 3 0 38).toNat) = 3 then 1 else 0 : Int))) 3 0 36 ((M_5.1 3 0 36) - (if (M_5.1 80 0 (M_5.1 3 0 38).toNat) = 4 then 1 else 0 : Int))), M_5.2.1, M_5.2.2) none (I2, M.2.1, M.2.2) := by
        refine ⟨(I1, M.2.1, M.2.2), by rw [e0, ex, ey]; exact k1, hS, ?_, ⟨?_, ?_⟩, ?_, j1⟩
        · dsimp only; omega
        · dsimp only; unfold InR; split <;> omega
        · dsimp only; omega
        · dsimp only; unfold InR; split <;> omega
      refine ⟨I2, xX12_closes_0 hS ⟨fun c => by omega, fun _ => ⟨⟨by unfold InR; omega, by omega⟩, fun _ => ⟨⟨by unfold InR; omega, by omega⟩, fin⟩, fun c3 => ⟨⟨by unfold InR; omega, by omega⟩, fun c4 => ?_, fun _ => ⟨⟨by unfold InR; omega, by omega⟩, fin⟩⟩⟩⟩, ?_, (((frV.md (by omega)).tr k3).tr ((frV.md (by omega)).tr (frV.md (by omega)))).tr j3⟩
      · rw [e0, ex] at c3 c4
        exact absurd hx (fun h => h.elim c3 c4)
      · rw [show clO (x :: s) = x :: clO s by show (if _ then _ else _) = _; rw [if_pos hx], show clS (x :: s) = clS s by show (if _ then _ else _) = _; rw [if_pos hx], List.append_cons]
        exact j2
    · refine ⟨M.1, xX12_closes_0 hS ⟨fun c => by omega, fun _ => ⟨⟨by unfold InR; omega, by omega⟩, fun c => absurd (.inl (by rw [e0, ex] at c; exact c)) hx, fun _ => ⟨⟨by unfold InR; omega, by omega⟩, fun _ => ⟨rfl, rfl⟩, fun c => absurd (.inr (by rw [e0, ex] at c; exact c)) hx⟩⟩⟩, ?_, frV.rf⟩
      rw [show clO (x :: s) = [] by show (if _ then _ else _) = _; rw [if_neg hx], show clS (x :: s) = x :: s by show (if _ then _ else _) = _; rw [if_neg hx], List.append_nil]
      exact h
end RW3
