/-! needs: whom one knows matters only if he is asked -/
theorem aXor_self {x y : Int} (h : InR x) : aXor (aXor x y) y = x := by
  rw [← s32_u32 (aXor_in _ _), u32_xor, u32_xor, Nat.xor_assoc, Nat.xor_self, Nat.xor_zero, s32_u32 h]
theorem aXor_comm3 (x y z : Int) : aXor (aXor x y) z = aXor (aXor x z) y := by
  rw [← s32_u32 (aXor_in (aXor x y) z), ← s32_u32 (aXor_in (aXor x z) y), u32_xor, u32_xor, u32_xor, u32_xor, Nat.xor_assoc, Nat.xor_comm (u32 y), ← Nat.xor_assoc]
def tQ (Q : QT) (a : Nat) : QT := upQ Q 50 (a / 12) (aXor (Q 50 (a / 12)) (aShl 1 ((a % 12 : Nat) : Int)))
/-- only whom one knows is other -/
def eqN (Q Q' : QT) (r : Nat) : Prop := eqC Q Q' ∧ eqV Q Q' ∧ eqR Q Q' ∧ ∀ i, i ≠ r → Q' 50 i = Q 50 i
theorem tQ_n {Q : QT} {a : Nat} : eqN Q (tQ Q a) (a / 12) := by
  obtain ⟨hc, hv, hr, hO⟩ := eqD.up (Q := Q) (f := 50) (i := a / 12) (v := aXor (Q 50 (a / 12)) (aShl 1 ((a % 12 : Nat) : Int))) (by omega)
  exact ⟨hc, hv, hr, fun i hi => upQ_i hi⟩
section ND
variable {Q Q' : QT} {r : Nat}
theorem snF_n (h : eqN Q Q' r) {n k : Nat} (hk : k ≠ r) : snF Q' n (k : Int) = snF Q n (k : Int) := by
  funext p
  unfold snF
  rw [if_neg (show ¬ (k : Int) = -1 by omega), if_neg (show ¬ (k : Int) = -1 by omega), Int.toNat_natCast, h.2.2.2 k hk, nPp_q h.1, plF_q h.1]
theorem mnt_n (h : eqN Q Q' r) {n n1 s cv k : Nat} (hk : k ≠ r) : mnt Q' n n1 s cv k = mnt Q n n1 s cv k := by
  unfold mnt
  rw [snF_n h hk, fitS_q h.1 (h.2.1.k cv)]
theorem tellF_n (h : eqN Q Q' r) {n n1 s cv place k : Nat} (hk : k ≠ r) : tellF Q' n n1 s cv place k = tellF Q n n1 s cv place k := by
  unfold tellF
  rw [mnt_n h hk, plF_q h.1, nx_q h.2.2.1]
theorem askF_n (h : eqN Q Q' r) {n n1 s cv place : Nat} : ∀ k, k ≤ nPp Q → (∀ p, p < k → akd Q n n1 s cv place p = true → p ≠ r) → askF Q' n n1 s cv place k = askF Q n n1 s cv place k := by
  intro k
  induction k with
  | zero => intros; rfl
  | succ k ih =>
    intro hk ha
    have e := ih (by omega) (fun p hp => ha p (by omega))
    unfold askF
    rw [e, plF_q h.1]
    cases e2 : askF Q n n1 s cv place k with
    | some x => rfl
    | none =>
      dsimp only
      by_cases c : plF Q n1 k = place
      · rw [if_pos c, if_pos c, tellF_n h (ha k (by omega) (by unfold akd; exact decide_eq_true ⟨by omega, c, e2⟩))]
      · rw [if_neg c, if_neg c]
theorem ask1_n (h : eqN Q Q' r) {cv s place : Nat} {sent day : Int} (hr : akd1 Q cv s sent day place r = false) : ask1 Q' cv s sent day place = ask1 Q cv s sent day place ∧ akd1 Q' cv s sent day place = akd1 Q cv s sent day place := by
  have en : nD Q' cv sent day = nD Q cv sent day := by unfold nD; rw [dn_q h.1, (h.2.1.k cv).2.2]
  have hne : ∀ p, akd1 Q cv s sent day place p = true → p ≠ r := fun p hp e => by rw [e, hr] at hp; cases hp
  have key : ∀ k, k ≤ nPp Q → askF Q' (nD Q cv sent day) (dn Q day) s cv place k = askF Q (nD Q cv sent day) (dn Q day) s cv place k := fun k hk => askF_n h k hk (fun p _ hp => hne p hp)
  constructor
  · unfold ask1
    rw [en, dn_q h.1, nPp_q h.1]
    exact key _ (Nat.le_refl _)
  · funext p
    unfold akd1 akd
    rw [en, dn_q h.1, nPp_q h.1, plF_q h.1]
    by_cases c : p < nPp Q
    · rw [key p (by omega)]
    · rw [decide_eq_false (fun x => c x.1), decide_eq_false (fun x => c x.1)]
theorem unsF_q (h : eqR Q Q') (a : Nat) (w : Nat → Bool) : ∀ k, unsF Q' a w k = unsF Q a w k := by
  intro k
  induction k with
  | zero => rfl
  | succ k ih => unfold unsF; rw [ih, rd_q h]
theorem stpL_n (h : eqN Q Q' r) {cv : Nat} {L : Nat → Int} (hr : akL Q cv L r = false) : stpL Q' cv L = stpL Q cv L ∧ akL Q' cv L = akL Q cv L := by
  obtain ⟨e1, e2⟩ := ask1_n h hr
  refine ⟨?_, e2⟩
  unfold stpL stp
  rw [e1, unsF_q h.2.2.1]
theorem endL_11 {cv : Nat} (hr : r < 12) : ∀ n L, tb (L 11) (r : Int) = true → tb (endL Q cv n L 11) (r : Int) = true := by
  intro n
  induction n with
  | zero => intro L h; exact h
  | succ n ih =>
    intro L h
    have ha : tb (askL (stpL Q cv L) (bI 12 (akL Q cv L)) L 11) (r : Int) = true := by
      show tb (aOr (L 11) (bI 12 (akL Q cv L))) (r : Int) = true
      rw [tb_or, h]; rfl
    unfold endL
    split
    · exact ih _ ha
    · exact ha
/-- who is not asked on the way may know whom he will -/
theorem endL_n (h : eqN Q Q' r) (hr : r < 12) {cv : Nat} : ∀ n L, tb (endL Q cv n L 11) (r : Int) = false → endL Q' cv n L = endL Q cv n L := by
  intro n
  induction n with
  | zero => intros; rfl
  | succ n ih =>
    intro L hb
    have hask : akL Q cv L r = false := by
      cases e : akL Q cv L r with
      | false => rfl
      | true =>
        exfalso
        have ha : tb (askL (stpL Q cv L) (bI 12 (akL Q cv L)) L 11) (r : Int) = true := by
          show tb (aOr (L 11) (bI 12 (akL Q cv L))) (r : Int) = true
          rw [tb_or, tb_bI (by omega), e]; simp [hr]
        unfold endL at hb
        split at hb
        · rw [endL_11 hr n (goL Q (stpL Q cv L).2 (askL (stpL Q cv L) (bI 12 (akL Q cv L)) L)) ha] at hb; cases hb
        · rw [ha] at hb; cases hb
    obtain ⟨e1, e2⟩ := stpL_n h hask
    unfold endL at hb ⊢
    rw [e1, e2, rd_q h.2.2.1]
    by_cases c : (stpL Q cv L).1 = 0 ∧ L 7 + rd Q (L 6) (stpL Q cv L).2 ≤ 999
    · rw [if_pos c] at hb
      rw [if_pos c, if_pos c]
      have eg : ∀ to L', goL Q' to L' = goL Q to L' := fun to L' => by unfold goL; rw [rd_q h.2.2.1]
      rw [eg]
      exact ih _ hb
    · rw [if_neg c, if_neg c]
/-- who was asked on the way, as a set -/
theorem endL_11b {cv : Nat} : ∀ n L, (∃ p, L 11 = bI 12 p) → ∃ p, endL Q cv n L 11 = bI 12 p := by
  intro n
  induction n with
  | zero => intro L h; exact h
  | succ n ih =>
    intro L ⟨p, hp⟩
    have ha : ∃ p', askL (stpL Q cv L) (bI 12 (akL Q cv L)) L 11 = bI 12 p' := ⟨fun i => p i || akL Q cv L i, by
      show aOr (L 11) (bI 12 (akL Q cv L)) = _
      rw [hp, bI_or (by omega)]⟩
    unfold endL
    split
    · exact ih _ ha
    · exact ha
end ND
/-! what is found -/
def rgtP (Q : QT) (c s p pl day : Int) : Prop := endV Q c s pl day 5 = 1 ∧ endV Q c s pl day 8 = p
def strg (Q : QT) (a : Nat) : Prop := a / 12 < nPp Q ∧ a % 12 < nPp Q ∧ ¬ a / 12 = a % 12 ∧ ¬ tb (Q 50 (a / 12)) ((a % 12 : Nat) : Int) = true
/-- the first of all twos that helps alone -/
def nd1 (Q : QT) (P : QT → Prop) [DecidablePred P] : Nat → Nat → Option Nat
  | 0, _ => none
  | n + 1, a => if (a / 12 < nPp Q ∧ a % 12 < nPp Q ∧ ¬ a / 12 = a % 12 ∧ ¬ tb (Q 50 (a / 12)) ((a % 12 : Nat) : Int) = true) ∧ P (tQ Q a) then some a else nd1 Q P n (a + 1)
/-- the first b behind a that helps with it -/
def nd2 (Q : QT) (P : QT → Prop) [DecidablePred P] (a : Nat) : Nat → Nat → Option Nat
  | 0, _ => none
  | n + 1, b => if (b / 12 < nPp Q ∧ b % 12 < nPp Q ∧ ¬ b / 12 = b % 12 ∧ ¬ tb (Q 50 (b / 12)) ((b % 12 : Nat) : Int) = true) ∧ P (tQ (tQ Q a) b) then some b else nd2 Q P a n (b + 1)
def nd3 (Q : QT) (P : QT → Prop) [DecidablePred P] : Nat → Nat → Option (Nat × Nat)
  | 0, _ => none
  | n + 1, a => match (if (a / 12 < nPp Q ∧ a % 12 < nPp Q ∧ ¬ a / 12 = a % 12 ∧ ¬ tb (Q 50 (a / 12)) ((a % 12 : Nat) : Int) = true) then nd2 Q P a (143 - a) (a + 1) else none) with
    | some b => some (a, b)
    | none => nd3 Q P n (a + 1)
def ndB (x : Option (Nat × Nat)) : Int × Int × Int := match x with
  | some (a, b) => (2, (a : Int), (b : Int))
  | none => (-2, -2, -2)
def ndA (x : Option Nat) (y : Int × Int × Int) : Int × Int × Int := match x with
  | some a => (1, (a : Int), -2)
  | none => y
def ndV (Q : QT) (P : QT → Prop) [DecidablePred P] : Int × Int × Int := if P Q then (0, -2, -2) else ndA (nd1 Q P 144 0) (ndB (nd3 Q P 144 0))
