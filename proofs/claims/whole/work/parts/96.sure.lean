/-! sure: what may be chosen; right tables -/
def sT (Q : QT) (n n1 s cv r : Nat) (q : Nat) : Bool := if fitS Q n s (snF Q n1 r) cv r = true then decide (q = r) else fitS Q n s (snF Q n1 r) cv q
def hH (Q : QT) (n1 place : Nat) (st : Nat → Bool) (q : Nat) : Prop := st q = true ∧ plF Q n1 q = (place : Int)
def hG (Q : QT) (n1 place : Nat) (st : Nat → Bool) (q v : Nat) : Prop := st q = true ∧ ¬ plF Q n1 q = (place : Int) ∧ nx Q place (plF Q n1 q).toNat = (v : Int)
def anyS (Q : QT) (n1 place : Nat) (st : Nat → Bool) (k : Nat) : Prop := ∃ q, q < k ∧ (hH Q n1 place st q ∨ ∃ v, v < 8 ∧ hG Q n1 place st q v)
def fstR (Q : QT) (n n1 s cv place r : Nat) : Prop := r < nPp Q ∧ plF Q n1 r = (place : Int) ∧ anyS Q n1 place (sT Q n n1 s cv r) (nPp Q) ∧ ∀ r', r' < r → plF Q n1 r' = (place : Int) → ¬ anyS Q n1 place (sT Q n n1 s cv r') (nPp Q)
def opF (Q : QT) (n n1 s cv place p : Nat) : Prop := ∃ r, fstR Q n n1 s cv place r ∧ p < nPp Q ∧ hH Q n1 place (sT Q n n1 s cv r) p
def ntF (Q : QT) (n n1 s cv place v : Nat) : Prop := ∃ r, fstR Q n n1 s cv place r ∧ ∃ q, q < nPp Q ∧ hG Q n1 place (sT Q n n1 s cv r) q v
def dyA (day : Int) (a : Nat) : Int := if 999 < day + (a : Int) then 999 else day + (a : Int)
def opA (Q : QT) (cv s : Nat) (day : Int) (a place p : Nat) : Prop := opF Q (nD Q cv day (dyA day a)) (dn Q (dyA day a)) s cv place p
def ntA (Q : QT) (cv s : Nat) (day : Int) (a place v : Nat) : Prop := ntF Q (nD Q cv day (dyA day a)) (dn Q (dyA day a)) s cv place v
def gdS (Q : QT) (O N : Nat → Prop) (who : Int) (S : Nat → Nat → Int) (a p : Nat) : Prop := ((∃ q, q < nPp Q ∧ O q) ∨ ∃ v, v < 8 ∧ N v) ∧ (∀ q, q < nPp Q → O q → (q : Int) = who) ∧ ∀ v, v < 8 → N v → (a : Int) + rd Q (p : Int) (v : Int) ≤ 60 ∧ S (a + (rd Q (p : Int) (v : Int)).toNat) v = 1
def elT (Q : QT) (O N : Nat → Prop) (who : Int) (T : Nat → Nat → Int) (a p : Nat) (x : Int) : Prop := (x = (a : Int) ∧ ∃ q, q < nPp Q ∧ O q ∧ (q : Int) = who) ∨ ∃ v, v < 8 ∧ N v ∧ (a : Int) + rd Q (p : Int) (v : Int) ≤ 60 ∧ x = T (a + (rd Q (p : Int) (v : Int)).toNat) v ∧ 0 ≤ x
def miT (E : Int → Prop) (t : Int) : Prop := (t = -2 ∧ ∀ x, ¬ E x) ∨ (E t ∧ ∀ x, E x → t ≤ x)
def rgT (Q : QT) (cv s : Nat) (who day : Int) (S T : Nat → Nat → Int) (a p : Nat) : Prop := (S a p = 0 ∨ S a p = 1) ∧ (S a p = 1 ↔ gdS Q (opA Q cv s day a p) (ntA Q cv s day a p) who S a p) ∧ miT (elT Q (opA Q cv s day a p) (ntA Q cv s day a p) who T a p) (T a p)
def tabT (Q : QT) (cv s : Nat) (who day : Int) (X : Nat → Nat → Prop) (S T : Nat → Nat → Int) : Prop := ∀ a p, X a p → rgT Q cv s who day S T a p ∧ ∀ v, v < 8 → ntA Q cv s day a p v → (a : Int) + rd Q (p : Int) (v : Int) ≤ 60 → X (a + (rd Q (p : Int) (v : Int)).toNat) v
theorem nx_self {Q : QT} {a : Nat} : nx Q a a = -1 := by unfold nx; rw [if_pos (.inl rfl)]
theorem hG_rd {Q : QT} {n1 place : Nat} {st : Nat → Bool} {q v : Nat} (hw : WFr Q) (h : hG Q n1 place st q v) : v < 8 ∧ 1 ≤ rd Q (place : Int) (v : Int) := by
  rcases nx_or Q place (plF Q n1 q).toNat with e | ⟨u, h1, h2, h3⟩
  · have := h.2.2; omega
  · have hv : u = v := by have := h.2.2; omega
    subst hv
    have := rd_in hw (place : Int) (u : Int)
    exact ⟨h1, by omega⟩
theorem ntA_rd {Q : QT} {cv s : Nat} {day : Int} {a p v : Nat} (hw : WFr Q) (h : ntA Q cv s day a p v) : 1 ≤ rd Q (p : Int) (v : Int) := by
  obtain ⟨r, _, q, _, h⟩ := h
  exact (hG_rd hw h).2
theorem fstR_u {Q : QT} {n n1 s cv place r r' : Nat} (h : fstR Q n n1 s cv place r) (h' : fstR Q n n1 s cv place r') : r = r' := by
  by_cases c : r < r'
  · exact absurd h.2.2.1 (h'.2.2.2 r c h.2.1)
  · by_cases c' : r' < r
    · exact absurd h'.2.2.1 (h.2.2.2 r' c' h'.2.1)
    · omega
theorem miT_u {E E' : Int → Prop} {t t' : Int} (hE : ∀ x, E x ↔ E' x) (h : miT E t) (h' : miT E' t') : t = t' := by
  rcases h with ⟨a, b⟩ | ⟨a, b⟩
  · rcases h' with ⟨a', _⟩ | ⟨a', _⟩
    · omega
    · exact absurd ((hE _).mpr a') (b t')
  · rcases h' with ⟨_, b'⟩ | ⟨a', b'⟩
    · exact absurd ((hE _).mp a) (b' t)
    · have h1 := b t' ((hE _).mpr a')
      have h2 := b' t ((hE _).mp a)
      omega
theorem tab_u {Q : QT} {cv s : Nat} {who day : Int} {X X' : Nat → Nat → Prop} {S S' T T' : Nat → Nat → Int} (hw : WFr Q) (h : tabT Q cv s who day X S T) (h' : tabT Q cv s who day X' S' T') : ∀ m a p, 60 < a + m → X a p → X' a p → S a p = S' a p ∧ T a p = T' a p := by
  intro m
  induction m with
  | zero =>
    intro a p hm hx hx'
    obtain ⟨⟨a1, a2, a3⟩, _⟩ := h a p hx
    obtain ⟨⟨b1, b2, b3⟩, _⟩ := h' a p hx'
    have hno : ∀ v : Nat, ¬ ((a : Int) + rd Q (p : Int) (v : Int) ≤ 60) := fun v hv => by have := rd_in hw (p : Int) (v : Int); omega
    constructor
    · have e : gdS Q (opA Q cv s day a p) (ntA Q cv s day a p) who S a p ↔ gdS Q (opA Q cv s day a p) (ntA Q cv s day a p) who S' a p := by
        unfold gdS
        exact ⟨fun ⟨x, y, z⟩ => ⟨x, y, fun v hv hn => absurd (z v hv hn).1 (hno v)⟩, fun ⟨x, y, z⟩ => ⟨x, y, fun v hv hn => absurd (z v hv hn).1 (hno v)⟩⟩
      have e2 : S a p = 1 ↔ S' a p = 1 := a2.trans (e.trans b2.symm)
      omega
    · refine miT_u (fun x => ?_) a3 b3
      unfold elT
      exact ⟨fun y => y.elim .inl fun ⟨v, _, _, hv, _⟩ => absurd hv (hno v), fun y => y.elim .inl fun ⟨v, _, _, hv, _⟩ => absurd hv (hno v)⟩
  | succ m ih =>
    intro a p hm hx hx'
    obtain ⟨⟨a1, a2, a3⟩, a4⟩ := h a p hx
    obtain ⟨⟨b1, b2, b3⟩, b4⟩ := h' a p hx'
    have hI : ∀ v, v < 8 → ntA Q cv s day a p v → (a : Int) + rd Q (p : Int) (v : Int) ≤ 60 → S (a + (rd Q (p : Int) (v : Int)).toNat) v = S' (a + (rd Q (p : Int) (v : Int)).toNat) v ∧ T (a + (rd Q (p : Int) (v : Int)).toNat) v = T' (a + (rd Q (p : Int) (v : Int)).toNat) v := fun v hv hn hr => by
      have := ntA_rd hw hn
      exact ih _ v (by omega) (a4 v hv hn hr) (b4 v hv hn hr)
    constructor
    · have e : gdS Q (opA Q cv s day a p) (ntA Q cv s day a p) who S a p ↔ gdS Q (opA Q cv s day a p) (ntA Q cv s day a p) who S' a p := by
        unfold gdS
        exact ⟨fun ⟨x, y, z⟩ => ⟨x, y, fun v hv hn => ⟨(z v hv hn).1, by rw [← (hI v hv hn (z v hv hn).1).1]; exact (z v hv hn).2⟩⟩, fun ⟨x, y, z⟩ => ⟨x, y, fun v hv hn => ⟨(z v hv hn).1, by rw [(hI v hv hn (z v hv hn).1).1]; exact (z v hv hn).2⟩⟩⟩
      have e2 : S a p = 1 ↔ S' a p = 1 := a2.trans (e.trans b2.symm)
      omega
    · refine miT_u (fun x => ?_) a3 b3
      unfold elT
      exact ⟨fun y => y.elim .inl fun ⟨v, hv, hn, hr, hx, h0⟩ => .inr ⟨v, hv, hn, hr, by rw [← (hI v hv hn hr).2]; exact hx, h0⟩, fun y => y.elim .inl fun ⟨v, hv, hn, hr, hx, h0⟩ => .inr ⟨v, hv, hn, hr, by rw [(hI v hv hn hr).2]; exact hx, h0⟩⟩
def surG (Q : QT) (s c p pl day what : Int) : Prop := (0 ≤ s ∧ s < nPp Q) ∧ (0 ≤ c ∧ c < nCv Q) ∧ (0 ≤ p ∧ p < nPp Q) ∧ ¬ s = p ∧ (0 ≤ pl ∧ pl < 8) ∧ (0 ≤ day ∧ day ≤ 999) ∧ (0 ≤ what ∧ what ≤ 1)
def SurP (Q : QT) (s c p pl day what : Int) (v : Int) : Prop := (surG Q s c p pl day what → ∃ X S T, tabT Q c.toNat s.toNat p day X S T ∧ X 0 pl.toNat ∧ v = (if what = 0 then S 0 pl.toNat else T 0 pl.toNat)) ∧ (¬ surG Q s c p pl day what → v = -1)
noncomputable def surV (Q : QT) (s c p pl day what : Int) : Int := Classical.epsilon (SurP Q s c p pl day what)
theorem surV_eq {Q : QT} {s c p pl day what v : Int} (hw : WFr Q) (h : SurP Q s c p pl day what v) : surV Q s c p pl day what = v := by
  have h' : SurP Q s c p pl day what (surV Q s c p pl day what) := Classical.epsilon_spec ⟨v, h⟩
  by_cases g : surG Q s c p pl day what
  · obtain ⟨X, S, T, a1, a2, a3⟩ := h.1 g
    obtain ⟨X', S', T', b1, b2, b3⟩ := h'.1 g
    obtain ⟨e1, e2⟩ := tab_u hw a1 b1 61 0 pl.toNat (by omega) a2 b2
    rw [a3, b3, e1, e2]
  · rw [h.2 g, h'.2 g]
/-! the folding over all who may be chosen -/
section FQ
variable {Q : QT} {n1 place a : Nat} {st : Nat → Bool} {who : Int} {S T : Nat → Nat → Int}
def gdK (Q : QT) (n1 place a : Nat) (st : Nat → Bool) (who : Int) (S : Nat → Nat → Int) (k : Nat) : Prop := ∀ q, q < k → (hH Q n1 place st q → (q : Int) = who) ∧ ∀ v, v < 8 → hG Q n1 place st q v → (a : Int) + rd Q (place : Int) (v : Int) ≤ 60 ∧ S (a + (rd Q (place : Int) (v : Int)).toNat) v = 1
def elK (Q : QT) (n1 place a : Nat) (st : Nat → Bool) (who : Int) (T : Nat → Nat → Int) (k : Nat) (x : Int) : Prop := ∃ q, q < k ∧ ((hH Q n1 place st q ∧ (q : Int) = who ∧ x = (a : Int)) ∨ ∃ v, v < 8 ∧ hG Q n1 place st q v ∧ (a : Int) + rd Q (place : Int) (v : Int) ≤ 60 ∧ x = T (a + (rd Q (place : Int) (v : Int)).toNat) v ∧ 0 ≤ x)
def LkI (Q : QT) (n1 place a : Nat) (st : Nat → Bool) (who : Int) (S T : Nat → Nat → Int) (k : Nat) (any i86 i85 : Int) : Prop := ((any = 0 ∧ ¬ anyS Q n1 place st k) ∨ (any = 1 ∧ anyS Q n1 place st k)) ∧ (i86 = 0 ∨ i86 = 1) ∧ (i86 = 1 ↔ anyS Q n1 place st k ∧ gdK Q n1 place a st who S k) ∧ miT (elK Q n1 place a st who T k) i85
theorem anyS_s {k : Nat} : anyS Q n1 place st (k + 1) ↔ anyS Q n1 place st k ∨ (hH Q n1 place st k ∨ ∃ v, v < 8 ∧ hG Q n1 place st k v) := by
  constructor
  · rintro ⟨q, hq, h⟩
    by_cases e : q = k
    · subst e; exact .inr h
    · exact .inl ⟨q, by omega, h⟩
  · rintro (⟨q, hq, h⟩ | h)
    · exact ⟨q, by omega, h⟩
    · exact ⟨k, by omega, h⟩
theorem gdK_s {k : Nat} : gdK Q n1 place a st who S (k + 1) ↔ gdK Q n1 place a st who S k ∧ ((hH Q n1 place st k → (k : Int) = who) ∧ ∀ v, v < 8 → hG Q n1 place st k v → (a : Int) + rd Q (place : Int) (v : Int) ≤ 60 ∧ S (a + (rd Q (place : Int) (v : Int)).toNat) v = 1) := by
  constructor
  · exact fun h => ⟨fun q hq => h q (by omega), h k (by omega)⟩
  · rintro ⟨h1, h2⟩ q hq
    by_cases e : q = k
    · subst e; exact h2
    · exact h1 q (by omega)
theorem elK_s {k : Nat} {x : Int} : elK Q n1 place a st who T (k + 1) x ↔ elK Q n1 place a st who T k x ∨ ((hH Q n1 place st k ∧ (k : Int) = who ∧ x = (a : Int)) ∨ ∃ v, v < 8 ∧ hG Q n1 place st k v ∧ (a : Int) + rd Q (place : Int) (v : Int) ≤ 60 ∧ x = T (a + (rd Q (place : Int) (v : Int)).toNat) v ∧ 0 ≤ x) := by
  constructor
  · rintro ⟨q, hq, h⟩
    by_cases e : q = k
    · subst e; exact .inr h
    · exact .inl ⟨q, by omega, h⟩
  · rintro (⟨q, hq, h⟩ | h)
    · exact ⟨q, by omega, h⟩
    · exact ⟨k, by omega, h⟩
theorem elK_0 {k : Nat} {x : Int} (h : elK Q n1 place a st who T k x) : 0 ≤ x := by
  obtain ⟨q, _, h | ⟨v, _, _, _, _, h⟩⟩ := h
  · have := h.2.2; omega
  · exact h
theorem LkI.zero : LkI Q n1 place a st who S T 0 0 0 (-2) :=
  ⟨.inl ⟨rfl, fun ⟨q, hq, _⟩ => by omega⟩, .inl rfl, ⟨fun h => by omega, fun ⟨⟨q, hq, _⟩, _⟩ => by omega⟩, .inl ⟨rfl, fun x ⟨q, hq, _⟩ => by omega⟩⟩
theorem LkI.skip {k : Nat} {any i86 i85 : Int} (h : LkI Q n1 place a st who S T k any i86 i85) (h1 : ¬ hH Q n1 place st k) (h2 : ∀ v, v < 8 → ¬ hG Q n1 place st k v) : LkI Q n1 place a st who S T (k + 1) any i86 i85 := by
  have e1 : anyS Q n1 place st (k + 1) ↔ anyS Q n1 place st k := anyS_s.trans ⟨fun x => x.elim id fun y => y.elim (fun z => absurd z h1) fun ⟨v, hv, z⟩ => absurd z (h2 v hv), .inl⟩
  have e2 : gdK Q n1 place a st who S (k + 1) ↔ gdK Q n1 place a st who S k := gdK_s.trans ⟨fun x => x.1, fun x => ⟨x, fun y => absurd y h1, fun v hv y => absurd y (h2 v hv)⟩⟩
  have e3 : elK Q n1 place a st who T (k + 1) = elK Q n1 place a st who T k := funext fun x => propext (elK_s.trans ⟨fun y => y.elim id fun y => y.elim (fun z => absurd z.1 h1) fun ⟨v, hv, z, _⟩ => absurd z (h2 v hv), .inl⟩)
  unfold LkI
  rw [e1, e2, e3]
  exact h
theorem chs_step {any i86 i85 g x3 : Int} {A A' Gd Gd' gp : Prop} {E E' : Int → Prop} (hany : (any = 0 ∧ ¬ A) ∨ (any = 1 ∧ A)) (h86 : i86 = 0 ∨ i86 = 1) (hg1 : i86 = 1 ↔ A ∧ Gd) (hGd : ¬ A → Gd) (hm : miT E i85) (hE0 : ∀ x, E x → 0 ≤ x) (hgp : ¬ g = 0 ↔ gp) (hA' : A') (hG' : Gd' ↔ Gd ∧ gp) (hE' : ∀ x, E' x ↔ E x ∨ (x = x3 ∧ 0 ≤ x3)) :
    ((if (if any = 0 then 1 else i86 : Int) = 0 then 0 else (if g = 0 then 0 else 1 : Int) : Int) = 0 ∨ (if (if any = 0 then 1 else i86 : Int) = 0 then 0 else (if g = 0 then 0 else 1 : Int) : Int) = 1) ∧ ((if (if any = 0 then 1 else i86 : Int) = 0 then 0 else (if g = 0 then 0 else 1 : Int) : Int) = 1 ↔ A' ∧ Gd') ∧ miT E' (if x3 < 0 then i85 else (if i85 < 0 then x3 else (if i85 ≤ x3 then i85 else x3 : Int) : Int) : Int) := by
  refine ⟨by (repeat' split) <;> omega, ?_, ?_⟩
  · have key : Gd → ((if g = 0 then 0 else 1 : Int) = 1 ↔ A' ∧ Gd') := fun hd => by
      by_cases c : g = 0
      · rw [if_pos c]
        exact ⟨fun h => by omega, fun h => absurd ((hG'.mp h.2).2) (fun x => (hgp.mpr x) c)⟩
      · rw [if_neg c]
        exact ⟨fun _ => ⟨hA', hG'.mpr ⟨hd, hgp.mp c⟩⟩, fun _ => rfl⟩
    rcases hany with ⟨h1, h2⟩ | ⟨h1, h2⟩
    · rw [if_pos h1, if_neg (show ¬ (1 : Int) = 0 by omega)]
      exact key (hGd h2)
    · rw [if_neg (show ¬ any = 0 by omega)]
      rcases h86 with h | h
      · rw [if_pos h]
        exact ⟨fun x => by omega, fun x => by have := hg1.mpr ⟨h2, (hG'.mp x.2).1⟩; omega⟩
      · rw [if_neg (show ¬ i86 = 0 by omega)]
        exact key (hg1.mp h).2
  · by_cases c : x3 < 0
    · rw [if_pos c]
      have e : E' = E := funext fun x => propext ((hE' x).trans ⟨fun y => y.elim id fun z => by omega, .inl⟩)
      rw [e]
      exact hm
    · rw [if_neg c]
      have hx : E' x3 := (hE' x3).mpr (.inr ⟨rfl, by omega⟩)
      rcases hm with ⟨h1, h2⟩ | ⟨h1, h2⟩
      · rw [if_pos (show i85 < 0 by omega)]
        exact .inr ⟨hx, fun x h => ((hE' x).mp h).elim (fun y => absurd y (h2 x)) fun y => by omega⟩
      · have := hE0 _ h1
        rw [if_neg (show ¬ i85 < 0 by omega)]
        by_cases c2 : i85 ≤ x3
        · rw [if_pos c2]
          exact .inr ⟨(hE' _).mpr (.inl h1), fun x h => ((hE' x).mp h).elim (h2 x) fun y => by omega⟩
        · rw [if_neg c2]
          exact .inr ⟨hx, fun x h => ((hE' x).mp h).elim (fun y => by have := h2 x y; omega) fun y => by omega⟩
theorem gdK_no {k : Nat} (h : ¬ anyS Q n1 place st k) : gdK Q n1 place a st who S k := fun q hq => ⟨fun x => absurd ⟨q, hq, .inl x⟩ h, fun v hv x => absurd ⟨q, hq, .inr ⟨v, hv, x⟩⟩ h⟩
theorem LkI.here {k : Nat} {any i86 i85 : Int} (h : LkI Q n1 place a st who S T k any i86 i85) (h1 : hH Q n1 place st k) : LkI Q n1 place a st who S T (k + 1) 1 (if (if any = 0 then 1 else i86 : Int) = 0 then 0 else (if (if (k : Int) = who then 1 else 0 : Int) = 0 then 0 else 1 : Int) : Int) (if (if (k : Int) = who then (a : Int) else -2 : Int) < 0 then i85 else (if i85 < 0 then (if (k : Int) = who then (a : Int) else -2 : Int) else (if i85 ≤ (if (k : Int) = who then (a : Int) else -2 : Int) then i85 else (if (k : Int) = who then (a : Int) else -2 : Int) : Int) : Int) : Int) := by
  have hng : ∀ v, ¬ hG Q n1 place st k v := fun v x => x.2.1 h1.2
  have hA : anyS Q n1 place st (k + 1) := anyS_s.mpr (.inr (.inl h1))
  obtain ⟨b1, b2, b3⟩ := chs_step (gp := (k : Int) = who) (g := (if (k : Int) = who then 1 else 0 : Int)) (x3 := (if (k : Int) = who then (a : Int) else -2 : Int)) (A' := anyS Q n1 place st (k + 1)) (Gd' := gdK Q n1 place a st who S (k + 1)) (E' := elK Q n1 place a st who T (k + 1)) h.1 h.2.1 h.2.2.1 gdK_no h.2.2.2 (fun x => elK_0) (by split <;> simp [*]) hA (gdK_s.trans ⟨fun x => ⟨x.1, x.2.1 h1⟩, fun x => ⟨x.1, fun _ => x.2, fun v hv y => absurd y (hng v)⟩⟩) (fun x => elK_s.trans (by
    constructor
    · rintro (y | y | ⟨v, hv, y, _⟩)
      · exact .inl y
      · rw [if_pos y.2.1]; exact .inr ⟨y.2.2, by omega⟩
      · exact absurd y (hng v)
    · rintro (y | y)
      · exact .inl y
      · by_cases c : (k : Int) = who
        · rw [if_pos c] at y; exact .inr (.inl ⟨h1, c, y.1⟩)
        · rw [if_neg c] at y; omega))
  exact ⟨.inr ⟨rfl, hA⟩, b1, b2, b3⟩
theorem LkI.goes {k v : Nat} {any i86 i85 g x3 : Int} (h : LkI Q n1 place a st who S T k any i86 i85) (hv : v < 8) (h1 : hG Q n1 place st k v) (hg : ¬ g = 0 ↔ (a : Int) + rd Q (place : Int) (v : Int) ≤ 60 ∧ S (a + (rd Q (place : Int) (v : Int)).toNat) v = 1) (hx : x3 = if (a : Int) + rd Q (place : Int) (v : Int) ≤ 60 then T (a + (rd Q (place : Int) (v : Int)).toNat) v else -2) : LkI Q n1 place a st who S T (k + 1) 1 (if (if any = 0 then 1 else i86 : Int) = 0 then 0 else (if g = 0 then 0 else 1 : Int) : Int) (if x3 < 0 then i85 else (if i85 < 0 then x3 else (if i85 ≤ x3 then i85 else x3 : Int) : Int) : Int) := by
  have hnh : ¬ hH Q n1 place st k := fun x => h1.2.1 x.2
  have hu : ∀ u, hG Q n1 place st k u → u = v := fun u x => by have e1 := x.2.2; have e2 := h1.2.2; omega
  have hA : anyS Q n1 place st (k + 1) := anyS_s.mpr (.inr (.inr ⟨v, hv, h1⟩))
  obtain ⟨b1, b2, b3⟩ := chs_step (gp := (a : Int) + rd Q (place : Int) (v : Int) ≤ 60 ∧ S (a + (rd Q (place : Int) (v : Int)).toNat) v = 1) (g := g) (x3 := x3) (A' := anyS Q n1 place st (k + 1)) (Gd' := gdK Q n1 place a st who S (k + 1)) (E' := elK Q n1 place a st who T (k + 1)) h.1 h.2.1 h.2.2.1 gdK_no h.2.2.2 (fun x => elK_0) hg hA (gdK_s.trans ⟨fun x => ⟨x.1, x.2.2 v hv h1⟩, fun x => ⟨x.1, fun y => absurd y hnh, fun u hu' y => by rw [hu u y]; exact x.2⟩⟩) (fun x => elK_s.trans (by
    constructor
    · rintro (y | y | ⟨u, hu', y, y2, y3, y4⟩)
      · exact .inl y
      · exact absurd y.1 hnh
      · rw [hu u y] at y2 y3
        rw [hx, if_pos y2]
        exact .inr ⟨y3, by rw [← y3]; exact y4⟩
    · rintro (y | y)
      · exact .inl y
      · by_cases c : (a : Int) + rd Q (place : Int) (v : Int) ≤ 60
        · rw [hx, if_pos c] at y; exact .inr (.inr ⟨v, hv, h1, c, y.1, by rw [y.1]; exact y.2⟩)
        · rw [hx, if_neg c] at y; omega))
  exact ⟨.inr ⟨rfl, hA⟩, b1, b2, b3⟩
/-- all who may be chosen were looked at, for the first who tells -/
theorem LkI.rg {n s cv r : Nat} {any i86 i85 : Int} (hf : fstR Q n n1 s cv place r) (h : LkI Q n1 place a (sT Q n n1 s cv r) who S T (nPp Q) any i86 i85) : (i86 = 0 ∨ i86 = 1) ∧ (i86 = 1 ↔ gdS Q (opF Q n n1 s cv place) (ntF Q n n1 s cv place) who S a place) ∧ miT (elT Q (opF Q n n1 s cv place) (ntF Q n n1 s cv place) who T a place) i85 := by
  have eo : ∀ q, q < nPp Q → (opF Q n n1 s cv place q ↔ hH Q n1 place (sT Q n n1 s cv r) q) := fun q hq => ⟨fun ⟨r', h1, _, h2⟩ => by rw [fstR_u hf h1]; exact h2, fun x => ⟨r, hf, hq, x⟩⟩
  have et : ∀ v, ntF Q n n1 s cv place v ↔ ∃ q, q < nPp Q ∧ hG Q n1 place (sT Q n n1 s cv r) q v := fun v => ⟨fun ⟨r', h1, h2⟩ => by rw [fstR_u hf h1]; exact h2, fun x => ⟨r, hf, x⟩⟩
  refine ⟨h.2.1, h.2.2.1.trans ?_, ?_⟩
  · unfold gdS
    constructor
    · rintro ⟨_, y⟩
      obtain ⟨q, hq, z⟩ := hf.2.2.1
      refine ⟨z.elim (fun z => .inl ⟨q, hq, (eo q hq).mpr z⟩) (fun ⟨v, hv, z⟩ => .inr ⟨v, hv, (et v).mpr ⟨q, hq, z⟩⟩), fun q hq z => (y q hq).1 ((eo q hq).mp z), fun v hv z => ?_⟩
      obtain ⟨q, hq, z⟩ := (et v).mp z
      exact (y q hq).2 v hv z
    · rintro ⟨_, y, z⟩
      exact ⟨hf.2.2.1, fun q hq => ⟨fun w => y q hq ((eo q hq).mpr w), fun v hv w => z v hv ((et v).mpr ⟨q, hq, w⟩)⟩⟩
  · have e : elT Q (opF Q n n1 s cv place) (ntF Q n n1 s cv place) who T a place = elK Q n1 place a (sT Q n n1 s cv r) who T (nPp Q) := funext fun x => propext (by
      unfold elT elK
      constructor
      · rintro (⟨h1, q, hq, h2, h3⟩ | ⟨v, hv, h1, h2⟩)
        · exact ⟨q, hq, .inl ⟨(eo q hq).mp h2, h3, h1⟩⟩
        · obtain ⟨q, hq, z⟩ := (et v).mp h1
          exact ⟨q, hq, .inr ⟨v, hv, z, h2⟩⟩
      · rintro ⟨q, hq, ⟨h1, h2, h3⟩ | ⟨v, hv, h1, h2⟩⟩
        · exact .inl ⟨h3, q, hq, (eo q hq).mpr h1, h2⟩
        · exact .inr ⟨v, hv, (et v).mpr ⟨q, hq, h1⟩, h2⟩)
    rw [e]
    exact h.2.2.2
/-- nobody tells -/
theorem no_rg {n s cv : Nat} (hf : ∀ r, ¬ fstR Q n n1 s cv place r) : ((0 : Int) = 1 ↔ gdS Q (opF Q n n1 s cv place) (ntF Q n n1 s cv place) who S a place) ∧ miT (elT Q (opF Q n n1 s cv place) (ntF Q n n1 s cv place) who T a place) (-2) := by
  have eo : ∀ q, ¬ opF Q n n1 s cv place q := fun q ⟨r, h, _⟩ => hf r h
  have et : ∀ v, ¬ ntF Q n n1 s cv place v := fun q ⟨r, h, _⟩ => hf r h
  refine ⟨⟨fun h => by omega, fun ⟨h, _⟩ => h.elim (fun ⟨q, _, x⟩ => absurd x (eo q)) (fun ⟨v, _, x⟩ => absurd x (et v))⟩, .inl ⟨rfl, fun x h => ?_⟩⟩
  rcases h with ⟨_, q, _, h, _⟩ | ⟨v, _, h, _⟩
  · exact eo q h
  · exact et v h
end FQ
