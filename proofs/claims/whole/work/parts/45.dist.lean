/-! HOW FAR: the days from place to place -/
def rkF (Q : QT) (a b : Int) : Nat → Option Nat
  | 0 => none
  | n + 1 => match rkF Q a b n with
    | some k => some k
    | none => if (Q 53 n = a ∧ Q 54 n = b) ∨ (Q 53 n = b ∧ Q 54 n = a) then some n else none
def nRd (Q : QT) : Nat := (Q 48 1).toNat
def ro (Q : QT) (a b : Int) : Option Nat := rkF Q a b (nRd Q)
def rd (Q : QT) (a b : Int) : Int := match ro Q a b with
  | some k => Q 55 k
  | none => 0
def WFr (Q : QT) : Prop := (0 ≤ Q 48 1 ∧ Q 48 1 ≤ 16) ∧ ∀ k, k < nRd Q → (0 ≤ Q 53 k ∧ Q 53 k < 8) ∧ (0 ≤ Q 54 k ∧ Q 54 k < 8) ∧ ¬ Q 53 k = Q 54 k ∧ (1 ≤ Q 55 k ∧ Q 55 k ≤ 9) ∧ ro Q (Q 53 k) (Q 54 k) = some k
theorem rkF_sym (Q : QT) (a b : Int) : ∀ n, rkF Q a b n = rkF Q b a n := by
  intro n
  induction n with
  | zero => rfl
  | succ n ih =>
    unfold rkF
    rw [ih]
    cases rkF Q b a n with
    | some k => rfl
    | none =>
      dsimp only
      by_cases h : (Q 53 n = a ∧ Q 54 n = b) ∨ (Q 53 n = b ∧ Q 54 n = a)
      · rw [if_pos h, if_pos (h.symm)]
      · rw [if_neg h, if_neg (fun h' => h h'.symm)]
theorem rkF_some {Q : QT} {a b : Int} : ∀ {n k : Nat}, rkF Q a b n = some k → k < n ∧ ((Q 53 k = a ∧ Q 54 k = b) ∨ (Q 53 k = b ∧ Q 54 k = a)) := by
  intro n
  induction n with
  | zero => intro k h; cases h
  | succ n ih =>
    intro k h
    unfold rkF at h
    cases e : rkF Q a b n with
    | some j =>
      rw [e] at h
      dsimp only at h
      obtain rfl := Option.some.inj h
      have := ih e
      exact ⟨by omega, this.2⟩
    | none =>
      rw [e] at h
      dsimp only at h
      split at h
      · obtain rfl := Option.some.inj h
        rename_i c
        exact ⟨by omega, c⟩
      · cases h
theorem ro_sym (Q : QT) (a b : Int) : ro Q a b = ro Q b a := rkF_sym Q a b _
theorem rd_sym (Q : QT) (a b : Int) : rd Q a b = rd Q b a := by unfold rd; rw [ro_sym]
theorem rd_in {Q : QT} (h : WFr Q) (a b : Int) : 0 ≤ rd Q a b ∧ rd Q a b ≤ 9 := by
  unfold rd
  cases e : ro Q a b with
  | none => dsimp only; omega
  | some k =>
    dsimp only
    have := (h.2 k (rkF_some e).1).2.2.2.1
    omega
theorem rd_pos {Q : QT} (h : WFr Q) {a b : Int} {k : Nat} (e : ro Q a b = some k) : 1 ≤ rd Q a b := by
  unfold rd
  rw [e]
  exact (h.2 k (rkF_some e).1).2.2.2.1.1
theorem rd_self {Q : QT} (h : WFr Q) (a : Int) : rd Q a a = 0 := by
  unfold rd
  cases e : ro Q a a with
  | none => rfl
  | some k =>
    have h1 := rkF_some e
    have h2 := (h.2 k h1.1).2.2.1
    omega
theorem rd_some {Q : QT} {a b : Int} (h : ¬ rd Q a b = 0) : ∃ k, ro Q a b = some k := by
  unfold rd at h
  cases e : ro Q a b with
  | none => rw [e] at h; exact absurd rfl h
  | some k => exact ⟨k, rfl⟩
/-- the fewest days, over places below k -/
def Dk (Q : QT) : Nat → Nat → Nat → Int
  | 0, a, b => if a = b then 0 else if rd Q a b = 0 then 1000 else rd Q a b
  | k + 1, a, b => if Dk Q k a k + Dk Q k k b < Dk Q k a b then Dk Q k a k + Dk Q k k b else Dk Q k a b
section DI
variable {Q : QT}
theorem Dk_self (h : WFr Q) : ∀ k a, Dk Q k a a = 0 ∧ ∀ b, (a ≠ b → 1 ≤ Dk Q k a b) ∧ Dk Q k a b ≤ 1000 := by
  intro k
  induction k with
  | zero =>
    intro a
    refine ⟨by simp [Dk], fun b => ⟨fun hne => ?_, ?_⟩⟩
    · have := rd_in h a b
      simp only [Dk, if_neg hne]
      split <;> omega
    · have := rd_in h a b
      unfold Dk
      split
      · omega
      · split <;> omega
  | succ k ih =>
    intro a
    have h1 := ih a
    have h2 := ih k
    have hk : 0 ≤ Dk Q k a k := by
      by_cases e : a = k
      · rw [e, h2.1]; omega
      · have := (h1.2 k).1 e; omega
    have hk2 : ∀ b, 0 ≤ Dk Q k k b := fun b => by
      by_cases e : k = b
      · rw [← e, h2.1]; omega
      · have := (h2.2 b).1 e; omega
    refine ⟨?_, fun b => ⟨fun hne => ?_, ?_⟩⟩
    · unfold Dk
      rw [h1.1, if_neg (by have := hk2 a; omega)]
    · unfold Dk
      split
      · by_cases e : a = k
        · have := (h2.2 b).1 (by omega); omega
        · have := (h1.2 k).1 e; have := hk2 b; omega
      · exact (h1.2 b).1 hne
    · have := (h1.2 b).2
      unfold Dk
      split <;> omega
theorem Dk_nn (h : WFr Q) (k a b : Nat) : 0 ≤ Dk Q k a b := by
  have := Dk_self h k a
  by_cases e : a = b
  · rw [← e, this.1]; omega
  · have := (this.2 b).1 e; omega
theorem Dk_sym (Q : QT) : ∀ k a b, Dk Q k a b = Dk Q k b a := by
  intro k
  induction k with
  | zero =>
    intro a b
    unfold Dk
    rw [rd_sym]
    by_cases e : a = b
    · rw [if_pos e, if_pos e.symm]
    · rw [if_neg e, if_neg (show ¬ b = a from fun h => e h.symm)]
  | succ k ih =>
    intro a b
    unfold Dk
    rw [ih a b, ih a k, ih k b, Int.add_comm]
theorem Dk_le (k a b : Nat) : Dk Q (k + 1) a b ≤ Dk Q k a b ∧ Dk Q (k + 1) a b ≤ Dk Q k a k + Dk Q k k b := by
  rw [show Dk Q (k + 1) a b = if Dk Q k a k + Dk Q k k b < Dk Q k a b then Dk Q k a k + Dk Q k k b else Dk Q k a b from rfl]
  split <;> omega
theorem Dk_or (k a b : Nat) : Dk Q (k + 1) a b = Dk Q k a b ∨ Dk Q (k + 1) a b = Dk Q k a k + Dk Q k k b := by
  rw [show Dk Q (k + 1) a b = if Dk Q k a k + Dk Q k k b < Dk Q k a b then Dk Q k a k + Dk Q k k b else Dk Q k a b from rfl]
  split
  · exact .inr rfl
  · exact .inl rfl
theorem Dk_row (h : WFr Q) (k a : Nat) : Dk Q (k + 1) a k = Dk Q k a k ∧ Dk Q (k + 1) k a = Dk Q k k a := by
  have h0 := (Dk_self h k k).1
  constructor
  · rcases Dk_or (Q := Q) k a k with e | e <;> rw [e] <;> omega
  · rcases Dk_or (Q := Q) k k a with e | e <;> rw [e] <;> omega
theorem Dk_tri (h : WFr Q) : ∀ k c, c < k → ∀ a b, Dk Q k a b ≤ Dk Q k a c + Dk Q k c b := by
  intro k
  induction k with
  | zero => intro c hc; omega
  | succ k ih =>
    intro c hc a b
    have l := Dk_le (Q := Q) k a b
    by_cases e : c = k
    · subst e
      rw [(Dk_row h c a).1, (Dk_row h c b).2]
      exact l.2
    · have hck : c < k := by omega
      have n1 := Dk_nn h k k c
      have n2 := Dk_nn h k c k
      have t1 := ih c hck a b
      have t2 := ih c hck k b
      have t3 := ih c hck a k
      rcases Dk_or (Q := Q) k a c with e1 | e1 <;> rcases Dk_or (Q := Q) k c b with e2 | e2 <;> rw [e1, e2] <;> omega
theorem Dk_mono (k j a b : Nat) (h : k ≤ j) : Dk Q j a b ≤ Dk Q k a b := by
  induction j with
  | zero => rw [show k = 0 by omega]; exact Int.le_refl _
  | succ j ih =>
    by_cases e : k = j + 1
    · rw [e]; exact Int.le_refl _
    · have := ih (by omega)
      have := (Dk_le (Q := Q) j a b).1
      omega
/-- how far -/
def dist (Q : QT) (a b : Nat) : Int := Dk Q 8 a b
theorem dist_tri (h : WFr Q) {a c b : Nat} (hc : c < 8) {k : Nat} (e : ro Q (c : Int) (b : Int) = some k) : dist Q a b ≤ dist Q a c + rd Q c b := by
  have h1 := Dk_tri h 8 c hc a b
  have h2 := Dk_mono (Q := Q) 0 8 c b (by omega)
  have hp := rd_pos h e
  have hne : c ≠ b := fun e2 => by
    subst e2
    have := rd_self h (c : Int)
    omega
  have h3 : Dk Q 0 c b = rd Q c b := by simp only [Dk, if_neg hne, if_neg (show ¬ rd Q c b = 0 by omega)]
  unfold dist
  omega
theorem Dk_pre (h : WFr Q) : ∀ k a b, k ≤ 8 → a < 8 → b < 8 → a ≠ b → Dk Q k a b < 1000 → ∃ c : Nat, c < 8 ∧ (∃ j, ro Q (c : Int) (b : Int) = some j) ∧ dist Q a c + rd Q c b ≤ Dk Q k a b := by
  intro k
  induction k with
  | zero =>
    intro a b _ ha hb hne hlt
    have e : Dk Q 0 a b = if rd Q a b = 0 then 1000 else rd Q a b := by simp only [Dk, if_neg hne]
    rw [e] at hlt ⊢
    by_cases c : rd Q a b = 0
    · rw [if_pos c] at hlt; omega
    · rw [if_neg c]
      refine ⟨a, ha, rd_some c, ?_⟩
      have := (Dk_self h 8 a).1
      unfold dist
      omega
  | succ k ih =>
    intro a b hk ha hb hne hlt
    rcases Dk_or (Q := Q) k a b with e | e
    · rw [e] at hlt ⊢
      exact ih a b (by omega) ha hb hne hlt
    · rw [e] at hlt ⊢
      have n1 := Dk_nn h k a k
      have n2 := Dk_nn h k k b
      by_cases ekb : k = b
      · subst ekb
        obtain ⟨c, h1, h2, h3⟩ := ih a k (by omega) ha hb hne (by omega)
        exact ⟨c, h1, h2, by omega⟩
      · obtain ⟨c, h1, h2, h3⟩ := ih k b (by omega) (by omega) hb ekb (by omega)
        refine ⟨c, h1, h2, ?_⟩
        have t := Dk_tri h 8 k (by omega) a c
        have m := Dk_mono (Q := Q) k 8 a k (by omega)
        unfold dist at *
        omega
theorem dist_pre (h : WFr Q) {a b : Nat} (ha : a < 8) (hb : b < 8) (hne : a ≠ b) (hlt : dist Q a b < 1000) : ∃ c : Nat, c < 8 ∧ (∃ j, ro Q (c : Int) (b : Int) = some j) ∧ dist Q a b = dist Q a c + rd Q c b := by
  obtain ⟨c, h1, ⟨j, h2⟩, h3⟩ := Dk_pre h 8 a b (Nat.le_refl _) ha hb hne hlt
  refine ⟨c, h1, ⟨j, h2⟩, ?_⟩
  have := dist_tri h (a := a) h1 h2
  unfold dist at *
  omega
end DI
