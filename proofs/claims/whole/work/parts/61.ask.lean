/-! asking a cover at a place: the spec -/
def fitS (Q : QT) (n s : Nat) (seen : Nat → Bool) (cv : Nat) : Nat → Bool := fun p => decide (Q 83 cv = 0 ∨ (cnt (evS Q n s seen cv) 12 : Int) ≤ 1) && evS Q n s seen cv p
theorem fitV_S {Q : QT} {n s : Nat} {seen : Nat → Bool} {cv : Nat} : fitV Q n s seen cv = bI 12 (fitS Q n s seen cv) := by
  unfold fitV fitS
  by_cases c : Q 83 cv = 0
  · rw [if_pos c]
    exact bI_ext fun i _ => by simp [c]
  · rw [if_neg c]
    by_cases c2 : (cnt (evS Q n s seen cv) 12 : Int) ≤ 1
    · rw [if_pos c2]
      exact bI_ext fun i _ => by simp [c2]
    · rw [if_neg c2]
      exact ((bI_zero_iff (by omega) _).mpr fun i _ => by simp [c, c2]).symm
theorem ev_sub {Q : QT} {n s : Nat} {seen : Nat → Bool} {cv : Nat} : ∀ k i p, ev Q n s seen cv k i p = true → seen p = true := by
  intro k
  induction k with
  | zero => intro i p h; cases h
  | succ k ih =>
    intro i p h
    unfold ev at h
    by_cases e : i = tg Q cv k
    · rw [if_pos e] at h
      unfold vl at h
      by_cases c0 : kd Q cv k = 0
      · rw [if_pos c0] at h; exact (Bool.and_eq_true _ _ ▸ h).2
      · rw [if_neg c0] at h
        by_cases c1 : kd Q cv k = 1
        · rw [if_pos c1] at h; exact (Bool.and_eq_true _ _ ▸ h).2
        · rw [if_neg c1] at h
          by_cases c2 : kd Q cv k = 2
          · rw [if_pos c2] at h; exact (Bool.and_eq_true _ _ ▸ h).2
          · rw [if_neg c2] at h
            by_cases c3 : kd Q cv k = 3
            · rw [if_pos c3] at h; exact (Bool.and_eq_true _ _ ▸ h).1
            · rw [if_neg c3] at h
              by_cases c4 : kd Q cv k = 4
              · rw [if_pos c4] at h; exact (Bool.and_eq_true _ _ ▸ h).2
              · rw [if_neg c4] at h
                by_cases c5 : kd Q cv k = 5
                · rw [if_pos c5] at h; exact ih _ p (Bool.and_eq_true _ _ ▸ h).1
                · rw [if_neg c5] at h
                  rw [Bool.or_eq_true] at h
                  rcases h with h | h
                  · exact ih _ p h
                  · exact ih _ p h
    · rw [if_neg e] at h
      exact ih i p h
/-- whom one means who is asked; none: -1 -/
def mnt (Q : QT) (n n1 s cv r : Nat) : Int := if fitS Q n s (snF Q n1 r) cv r = true then (r : Int) else firstF (fitS Q n s (snF Q n1 r) cv) 12
/-- whether one tells: how (0 opened, 1 goes on), and whom or where to -/
def tellF (Q : QT) (n n1 s cv place r : Nat) : Option (Int × Int) :=
  if mnt Q n n1 s cv r = -1 then none
  else if plF Q n1 (mnt Q n n1 s cv r).toNat = place then some (0, mnt Q n n1 s cv r)
  else if nx Q place (plF Q n1 (mnt Q n n1 s cv r).toNat).toNat = -1 then none
  else some (1, nx Q place (plF Q n1 (mnt Q n n1 s cv r).toNat).toNat)
/-- the first, of those below k, who tells -/
def askF (Q : QT) (n n1 s cv place : Nat) : Nat → Option (Nat × Int × Int)
  | 0 => none
  | k + 1 => match askF Q n n1 s cv place k with
    | some x => some x
    | none => if plF Q n1 k = place then (tellF Q n n1 s cv place k).map (fun y => (k, y)) else none
