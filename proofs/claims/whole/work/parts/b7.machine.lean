/-! THE READER'S MACHINE: a row of letters read into a row of signs -/
/-- where a run that begins at p ends -/
def rnE (f : Nat → Bool) (n : Nat) : Nat → Nat → Nat
  | 0, p => p
  | k + 1, p => if p < n ∧ f p = true then rnE f n k (p + 1) else p
def rn (f : Nat → Bool) (n p : Nat) : Nat := rnE f n (n - p) p
theorem rn_eq {f : Nat → Bool} {n p q : Nat} (h1 : p ≤ q) (h2 : q ≤ n) (h3 : ∀ i, p ≤ i → i < q → f i = true) (h4 : q = n ∨ f q = false) : rn f n p = q := by
  have key : ∀ k p, p + k = q → ∀ m, k ≤ m → (∀ i, p ≤ i → i < q → f i = true) → rnE f n m p = q := by
    intro k
    induction k with
    | zero =>
      intro p hp m _ _
      cases m with
      | zero => unfold rnE; omega
      | succ m =>
        unfold rnE
        rw [if_neg (fun g => h4.elim (fun h => by omega) (fun h => by have g2 := g.2; rw [show p = q by omega, h] at g2; cases g2))]
        omega
    | succ k ih =>
      intro p hp m hm ha
      cases m with
      | zero => omega
      | succ m =>
        unfold rnE
        rw [if_pos ⟨by omega, ha p (Nat.le_refl _) (by omega)⟩]
        exact ih (p + 1) (by omega) m (by omega) (fun i hi hi' => ha i (by omega) hi')
  exact key (q - p) p (by omega) (n - p) (by omega) h3
theorem rn_sp (f : Nat → Bool) (n p : Nat) (hp : p ≤ n) : p ≤ rn f n p ∧ rn f n p ≤ n ∧ (∀ i, p ≤ i → i < rn f n p → f i = true) ∧ (rn f n p = n ∨ f (rn f n p) = false) := by
  have key : ∀ k p, n - p = k → p ≤ n → ∃ q, p ≤ q ∧ q ≤ n ∧ (∀ i, p ≤ i → i < q → f i = true) ∧ (q = n ∨ f q = false) := by
    intro k
    induction k with
    | zero => intro p h1 h2; exact ⟨p, Nat.le_refl _, h2, fun i _ _ => by omega, .inl (by omega)⟩
    | succ k ih =>
      intro p h1 h2
      cases hf : f p with
      | false => exact ⟨p, Nat.le_refl _, h2, fun i _ _ => by omega, .inr hf⟩
      | true =>
        obtain ⟨q, a, b, c, e⟩ := ih (p + 1) (by omega) (by omega)
        refine ⟨q, by omega, b, fun i hi hi' => ?_, e⟩
        by_cases e2 : i = p
        · rw [e2]; exact hf
        · exact c i (by omega) hi'
  obtain ⟨q, a, b, c, e⟩ := key (n - p) p rfl hp
  rw [rn_eq a b c e]
  exact ⟨a, b, c, e⟩
theorem rn_rn (f : Nat → Bool) (n p : Nat) (hp : p ≤ n) : rn f n (rn f n p) = rn f n p := by
  obtain ⟨a, b, c, e⟩ := rn_sp f n p hp
  exact rn_eq (Nat.le_refl _) b (fun i h h' => by omega) e
theorem rn_mid {f : Nat → Bool} {n p q : Nat} (h1 : p ≤ q) (h2 : q ≤ n) (h3 : ∀ i, p ≤ i → i < q → f i = true) : rn f n p = rn f n q := by
  obtain ⟨a, b, c, e⟩ := rn_sp f n q h2
  refine rn_eq (by omega) b (fun i hi hi' => ?_) e
  by_cases g : i < q
  · exact h3 i hi g
  · exact c i (by omega) hi'
abbrev Tp : Type := Nat → Int
/-- behind the blanks; behind the small letters; behind the digits -/
def bl (t : Tp) (n p : Nat) : Nat := rn (fun i => decide (t i = 32)) n p
def we (t : Tp) (n p : Nat) : Nat := rn (fun i => decide (97 ≤ t i ∧ t i ≤ 122)) n p
def dg (t : Tp) (n p : Nat) : Nat := rn (fun i => decide (48 ≤ t i ∧ t i ≤ 57)) n p
/-- constant j stands at p as a word -/
def isW (t : Tp) (n j p : Nat) : Bool := decide (we t n p = p + sLn j ∧ ∀ k, k < sLn j → t (p + k) = sCh j k)
theorem isW_i {t : Tp} {n j p : Nat} : isW t n j p = true ↔ (we t n p = p + sLn j ∧ ∀ k, k < sLn j → t (p + k) = sCh j k) := decide_eq_true_iff
/-- mode (0 a fact is wanted, 1 one was read, 2 what is ahead of it is done, 3 the end), place, fault, signs, facts, what is open -/
abbrev Cf : Type := Nat × Nat × Int × List (Int × Int) × Nat × List (Int × Int)
abbrev cM (c : Cf) : Nat := c.1
abbrev cP (c : Cf) : Nat := c.2.1
abbrev cE (c : Cf) : Int := c.2.2.1
abbrev cO (c : Cf) : List (Int × Int) := c.2.2.2.1
abbrev cC (c : Cf) : Nat := c.2.2.2.2.1
abbrev cS (c : Cf) : List (Int × Int) := c.2.2.2.2.2
def dpN : List (Int × Int) → Nat
  | [] => 0
  | x :: s => (if x.1 = 3 ∨ x.1 = 7 then 1 else 0) + dpN s
def tiN : List (Int × Int) → Nat
  | [] => 0
  | x :: s => (if x.1 = 4 then 1 else 0) + tiN s
def bnN : List (Int × Int) → Nat
  | [] => 0
  | x :: s => (if x.1 = 5 ∨ x.1 = 6 then 1 else 0) + bnN s
/-- gives: signs that wait come out -/
def gvO (most : Int) : List (Int × Int) → List (Int × Int)
  | [] => []
  | x :: s => if ¬ x.1 = 7 ∧ x.1 ≤ most then (x.1, 0) :: gvO most s else []
def gvS (most : Int) : List (Int × Int) → List (Int × Int)
  | [] => []
  | x :: s => if ¬ x.1 = 7 ∧ x.1 ≤ most then gvS most s else x :: s
def flC (c : Cf) (p code : Nat) : Cf := (3, p, 1 + 8 * (p : Int) + code, cO c, cC c, cS c)
/-- a fact is wanted at p -/
def stA4 (t : Tp) (n : Nat) (c : Cf) (p : Nat) : Cf :=
  if isW t n 0 p then (if cC c = 30 then flC c p 3 else
    if dg t n (bl t n (p + 2)) = bl t n (p + 2) then flC c (bl t n (p + 2)) 0
    else if bl t n (p + 2) + 1 < dg t n (bl t n (p + 2)) ∨ 56 ≤ t (bl t n (p + 2)) then flC c (bl t n (p + 2)) 1
    else (1, dg t n (bl t n (p + 2)), cE c, cO c ++ [(1, t (bl t n (p + 2)) - 48)], cC c + 1, cS c))
  else flC c p 0
def stA3 (t : Tp) (n : Nat) (c : Cf) (p : Nat) : Cf := if isW t n 1 p then (if cC c = 30 then flC c p 3 else (1, p + 2, cE c, cO c ++ [(2, 0)], cC c + 1, cS c)) else stA4 t n c p
def stA2 (t : Tp) (n : Nat) (c : Cf) (p : Nat) : Cf := if we t n p = p + 1 ∧ t p ≤ 106 then (if cC c = 30 then flC c p 3 else (1, p + 1, cE c, cO c ++ [(0, t p - 97)], cC c + 1, cS c)) else stA3 t n c p
def stA1 (t : Tp) (n : Nat) (c : Cf) (p : Nat) : Cf := if we t n p = p + 1 ∧ 117 ≤ t p then (if tiN (cS c) = 4 then flC c p 2 else (cM c, p + 1, cE c, cO c, cC c, (4, t p - 117) :: cS c)) else stA2 t n c p
def stA (t : Tp) (n : Nat) (c : Cf) (p : Nat) : Cf :=
  if p < n ∧ t p = 91 then (if dpN (cS c) = 10 then flC c p 2 else (cM c, p + 1, cE c, cO c, cC c, (7, 0) :: cS c))
  else if isW t n 2 p then (if dpN (cS c) = 10 then flC c p 2 else (cM c, p + 3, cE c, cO c, cC c, (3, 0) :: cS c))
  else stA1 t n c p
def stC (c : Cf) : Cf := match cS c with
  | [] => (2, cP c, cE c, cO c, cC c, cS c)
  | x :: s => if x.1 = 3 ∨ x.1 = 4 then (cM c, cP c, cE c, cO c ++ [x], cC c, s) else (2, cP c, cE c, cO c, cC c, cS c)
def stF (t : Tp) (n : Nat) (c : Cf) (p : Nat) : Cf :=
  if p < n ∧ t p = 93 then (match gvS 6 (cS c) with
    | [] => flC c p 0
    | _ :: s => (1, p + 1, cE c, cO c ++ gvO 6 (cS c), cC c, s))
  else if n ≤ p then (if gvS 6 (cS c) = [] then (3, p, cE c, cO c ++ gvO 6 (cS c), cC c, []) else flC c p 0)
  else if isW t n 3 p then (0, p + 3, cE c, cO c ++ gvO 5 (cS c), cC c, (5, 0) :: gvS 5 (cS c))
  else if isW t n 4 p then (0, p + 2, cE c, cO c ++ gvO 6 (cS c), cC c, (6, 0) :: gvS 6 (cS c))
  else flC c p 0
def step (t : Tp) (n : Nat) (c : Cf) : Cf :=
  if cM c = 0 then stA t n c (bl t n (cP c)) else if cM c = 1 then stC c else if cM c = 2 then stF t n c (bl t n (cP c)) else c
theorem step_0 {t : Tp} {n : Nat} {c : Cf} (h : cM c = 0) : step t n c = stA t n c (bl t n (cP c)) := by unfold step; rw [if_pos h]
theorem step_1 {t : Tp} {n : Nat} {c : Cf} (h : cM c = 1) : step t n c = stC c := by unfold step; rw [if_neg (by omega), if_pos h]
theorem step_2 {t : Tp} {n : Nat} {c : Cf} (h : cM c = 2) : step t n c = stF t n c (bl t n (cP c)) := by unfold step; rw [if_neg (by omega), if_neg (by omega), if_pos h]
def itr (t : Tp) (n : Nat) : Nat → Cf → Cf
  | 0, c => c
  | k + 1, c => itr t n k (step t n c)
/-- the machine comes from c to c' -/
def Rn (t : Tp) (n : Nat) (c c' : Cf) : Prop := ∃ k, itr t n k c = c'
theorem Rn.rf {t : Tp} {n : Nat} {c : Cf} : Rn t n c c := ⟨0, rfl⟩
theorem itr_add (t : Tp) (n : Nat) : ∀ a b c, itr t n (a + b) c = itr t n b (itr t n a c) := by
  intro a
  induction a with
  | zero => intro b c; rw [Nat.zero_add]; rfl
  | succ a ih => intro b c; rw [show a + 1 + b = a + b + 1 by omega]; exact ih b _
theorem Rn.tr {t : Tp} {n : Nat} {a b c : Cf} (h : Rn t n a b) (h' : Rn t n b c) : Rn t n a c := by
  obtain ⟨k, rfl⟩ := h
  obtain ⟨m, rfl⟩ := h'
  exact ⟨k + m, itr_add t n k m a⟩
theorem Rn.one {t : Tp} {n : Nat} {c c' : Cf} (h : step t n c = c') : Rn t n c c' := ⟨1, h⟩
theorem itr_3 {t : Tp} {n : Nat} {c : Cf} (h : cM c = 3) : ∀ k, itr t n k c = c := by
  intro k
  induction k with
  | zero => rfl
  | succ k ih =>
    have : step t n c = c := by unfold step; rw [if_neg (by omega), if_neg (by omega), if_neg (by omega)]
    show itr t n k (step t n c) = c
    rw [this, ih]
theorem Rn.det {t : Tp} {n : Nat} {a b c : Cf} (h : Rn t n a b) (h' : Rn t n a c) (hb : cM b = 3) (hc : cM c = 3) : b = c := by
  obtain ⟨k, e1⟩ := h
  obtain ⟨m, e2⟩ := h'
  rcases Nat.le_total k m with g | g
  · rw [show m = k + (m - k) by omega, itr_add, e1, itr_3 hb] at e2; exact e2
  · rw [show k = m + (k - m) by omega, itr_add, e2, itr_3 hc] at e1; exact e1.symm
/-! heights and ranges of the row -/
def htL (l : List (Int × Int)) : Nat → Nat
  | 0 => 0
  | k + 1 => if (l.getD k (0, 0)).1 = 0 ∨ (l.getD k (0, 0)).1 = 1 ∨ (l.getD k (0, 0)).1 = 2 then htL l k + 1 else if (l.getD k (0, 0)).1 = 3 ∨ (l.getD k (0, 0)).1 = 4 then htL l k else htL l k - 1
/-- sign x may stand behind a row of height h -/
def okX (x : Int × Int) (h : Nat) : Prop := (0 ≤ x.1 ∧ x.1 ≤ 6) ∧ (x.1 = 0 → 0 ≤ x.2 ∧ x.2 < 10) ∧ (x.1 = 1 → 0 ≤ x.2 ∧ x.2 < 8) ∧ (x.1 = 4 → 0 ≤ x.2 ∧ x.2 < 6) ∧ (3 ≤ x.1 → 1 ≤ h) ∧ (5 ≤ x.1 → 2 ≤ h) ∧ (0 ≤ x.2 ∧ x.2 < 10)
def OkL (l : List (Int × Int)) : Prop := ∀ k, k < l.length → okX (l.getD k (0, 0)) (htL l k)
theorem htL_app (l : List (Int × Int)) (x : Int × Int) : ∀ k, k ≤ l.length → htL (l ++ [x]) k = htL l k := by
  intro k
  induction k with
  | zero => intro _; rfl
  | succ k ih =>
    intro hk
    unfold htL
    rw [ih (by omega)]
    have : (l ++ [x]).getD k (0, 0) = l.getD k (0, 0) := by
      rw [List.getD_eq_getElem?_getD, List.getD_eq_getElem?_getD, List.getElem?_append_left (by omega)]
    rw [this]
theorem getD_last (l : List (Int × Int)) (x : Int × Int) : (l ++ [x]).getD l.length (0, 0) = x := by
  rw [List.getD_eq_getElem?_getD, List.getElem?_append_right (Nat.le_refl _)]
  simp
theorem OkL.app {l : List (Int × Int)} {x : Int × Int} (h : OkL l) (hx : okX x (htL l l.length)) : OkL (l ++ [x]) := by
  intro k hk
  rw [List.length_append] at hk
  simp at hk
  rw [htL_app l x k (by omega)]
  by_cases e : k = l.length
  · subst e; rw [getD_last]; exact hx
  · have : (l ++ [x]).getD k (0, 0) = l.getD k (0, 0) := by
      rw [List.getD_eq_getElem?_getD, List.getD_eq_getElem?_getD, List.getElem?_append_left (by omega)]
    rw [this]; exact h k (by omega)
theorem htL_last (l : List (Int × Int)) (x : Int × Int) : htL (l ++ [x]) (l ++ [x]).length = if x.1 = 0 ∨ x.1 = 1 ∨ x.1 = 2 then htL l l.length + 1 else if x.1 = 3 ∨ x.1 = 4 then htL l l.length else htL l l.length - 1 := by
  rw [show (l ++ [x]).length = l.length + 1 by simp]
  show (if _ then _ else _) = _
  rw [getD_last, htL_app l x _ (Nat.le_refl _)]
def okS (s : List (Int × Int)) : Prop := ∀ x ∈ s, (3 ≤ x.1 ∧ x.1 ≤ 7) ∧ (0 ≤ x.2 ∧ x.2 < 6) ∧ (¬ x.1 = 4 → x.2 = 0)
/-- what holds of the machine while nothing is wrong -/
def InvC (n : Nat) (c : Cf) : Prop := cE c = 0 → cP c ≤ n ∧ (cO c).length + (cS c).length ≤ cP c ∧ OkL (cO c) ∧ okS (cS c) ∧ htL (cO c) (cO c).length = bnN (cS c) + (if cM c = 0 then 0 else 1) ∧ (dpN (cS c) ≤ 10 ∧ tiN (cS c) ≤ 4 ∧ cC c ≤ 30) ∧ cM c ≤ 3
