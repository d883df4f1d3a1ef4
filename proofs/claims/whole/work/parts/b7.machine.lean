/-! THE READER'S MACHINE: a row of letters read into a row of signs -/
/-- where a run that begins at p ends -/
def rnE (f : Nat → Bool) (n : Nat) : Nat → Nat → Nat
  | 0, p => p
  | k + 1, p => if p < n ∧ f p = true then rnE f n k (p + 1) else p
def rn (f : Nat → Bool) (n p : Nat) : Nat := rnE f n (n - p) p
theorem rn_eq {f : Nat → Bool} {n p q : Nat} (h1 : p ≤ q) (h2 : q ≤ n) (h3 : ∀ i, p ≤ i → i < q → f i = true) (h4 : q = n ∨ f q = false) : rn f n p = q := by
  have key : ∀ k p, p + k = q → ∀ m, k ≤ m → (∀ i, p ≤ i → i < q → f i = true) → rnE f n m p = q := by
    intro k
    induction k with
    | zero =>
      intro p hp m _ _
      cases m with
      | zero => unfold rnE; omega
      | succ m =>
        unfold rnE
        rw [if_neg (fun g => h4.elim (fun h => by omega) (fun h => by have g2 := g.2; rw [show p = q by omega, h] at g2; cases g2))]
        omega
    | succ k ih =>
      intro p hp m hm ha
      cases m with
      | zero => omega
      | succ m =>
        unfold rnE
        rw [if_pos ⟨by omega, ha p (Nat.le_refl _) (by omega)⟩]
        exact ih (p + 1) (by omega) m (by omega) (fun i hi hi' => ha i (by omega) hi')
  exact key (q - p) p (by omega) (n - p) (by omega) h3
theorem rn_sp (f : Nat → Bool) (n p : Nat) (hp : p ≤ n) : p ≤ rn f n p ∧ rn f n p ≤ n ∧ (∀ i, p ≤ i → i < rn f n p → f i = true) ∧ (rn f n p = n ∨ f (rn f n p) = false) := by
  have key : ∀ k p, n - p = k → p ≤ n → ∃ q, p ≤ q ∧ q ≤ n ∧ (∀ i, p ≤ i → i < q → f i = true) ∧ (q = n ∨ f q = false) := by
    intro k
    induction k with
    | zero => intro p h1 h2; exact ⟨p, Nat.le_refl _, h2, fun i _ _ => by omega, .inl (by omega)⟩
    | succ k ih =>
      intro p h1 h2
      cases hf : f p with
      | false => exact ⟨p, Nat.le_refl _, h2, fun i _ _ => by omega, .inr hf⟩
      | true =>
        obtain ⟨q, a, b, c, e⟩ := ih (p + 1) (by omega) (by omega)
        refine ⟨q, by omega, b, fun i hi hi' => ?_, e⟩
        by_cases e2 : i = p
        · rw [e2]; exact hf
        · exact c i (by omega) hi'
  obtain ⟨q, a, b, c, e⟩ := key (n - p) p rfl hp
  rw [rn_eq a b c e]
  exact ⟨a, b, c, e⟩
theorem rn_rn (f : Nat → Bool) (n p : Nat) (hp : p ≤ n) : rn f n (rn f n p) = rn f n p := by
  obtain ⟨a, b, c, e⟩ := rn_sp f n p hp
  exact rn_eq (Nat.le_refl _) b (fun i h h' => by omega) e
theorem rn_mid {f : Nat → Bool} {n p q : Nat} (h1 : p ≤ q) (h2 : q ≤ n) (h3 : ∀ i, p ≤ i → i < q → f i = true) : rn f n p = rn f n q := by
  obtain ⟨a, b, c, e⟩ := rn_sp f n q h2
  refine rn_eq (by omega) b (fun i hi hi' => ?_) e
  by_cases g : i < q
  · exact h3 i hi g
  · exact c i (by omega) hi'
abbrev Tp : Type := Nat → Int
/-- behind the blanks; behind the small letters; behind the digits -/
def bl (t : Tp) (n p : Nat) : Nat := rn (fun i => decide (t i = 32)) n p
def we (t : Tp) (n p : Nat) : Nat := rn (fun i => decide (97 ≤ t i ∧ t i ≤ 122)) n p
def dg (t : Tp) (n p : Nat) : Nat := rn (fun i => decide (48 ≤ t i ∧ t i ≤ 57)) n p
/-- constant j stands at p as a word -/
def isW (t : Tp) (n j p : Nat) : Bool := decide (we t n p = p + sLn j ∧ ∀ k, k < sLn j → t (p + k) = sCh j k)
theorem isW_i {t : Tp} {n j p : Nat} : isW t n j p = true ↔ (we t n p = p + sLn j ∧ ∀ k, k < sLn j → t (p + k) = sCh j k) := decide_eq_true_iff
/-- mode (0 a fact is wanted, 1 one was read, 2 what is ahead of it is done, 3 the end), place, fault, signs, facts, what is open -/
abbrev Cf : Type := Nat × Nat × Int × List (Int × Int) × Nat × List (Int × Int)
abbrev cM (c : Cf) : Nat := c.1
abbrev cP (c : Cf) : Nat := c.2.1
abbrev cE (c : Cf) : Int := c.2.2.1
abbrev cO (c : Cf) : List (Int × Int) := c.2.2.2.1
abbrev cC (c : Cf) : Nat := c.2.2.2.2.1
abbrev cS (c : Cf) : List (Int × Int) := c.2.2.2.2.2
def dpN : List (Int × Int) → Nat
  | [] => 0
  | x :: s => (if x.1 = 3 ∨ x.1 = 7 then 1 else 0) + dpN s
def tiN : List (Int × Int) → Nat
  | [] => 0
  | x :: s => (if x.1 = 4 then 1 else 0) + tiN s
def bnN : List (Int × Int) → Nat
  | [] => 0
  | x :: s => (if x.1 = 5 ∨ x.1 = 6 then 1 else 0) + bnN s
/-- gives: signs that wait come out -/
def gvO (most : Int) : List (Int × Int) → List (Int × Int)
  | [] => []
  | x :: s => if ¬ x.1 = 7 ∧ x.1 ≤ most then (x.1, 0) :: gvO most s else []
def gvS (most : Int) : List (Int × Int) → List (Int × Int)
  | [] => []
  | x :: s => if ¬ x.1 = 7 ∧ x.1 ≤ most then gvS most s else x :: s
def flC (c : Cf) (p code : Nat) : Cf := (3, p, 1 + 8 * (p : Int) + code, cO c, cC c, cS c)
/-- a fact is wanted at p -/
def stA4 (t : Tp) (n : Nat) (c : Cf) (p : Nat) : Cf :=
  if isW t n 0 p then (if cC c = 30 then flC c p 3 else
    if dg t n (bl t n (p + 2)) = bl t n (p + 2) then flC c (bl t n (p + 2)) 0
    else if bl t n (p + 2) + 1 < dg t n (bl t n (p + 2)) ∨ 56 ≤ t (bl t n (p + 2)) then flC c (bl t n (p + 2)) 1
    else (1, dg t n (bl t n (p + 2)), cE c, cO c ++ [(1, t (bl t n (p + 2)) - 48)], cC c + 1, cS c))
  else flC c p 0
def stA3 (t : Tp) (n : Nat) (c : Cf) (p : Nat) : Cf := if isW t n 1 p then (if cC c = 30 then flC c p 3 else (1, p + 2, cE c, cO c ++ [(2, 0)], cC c + 1, cS c)) else stA4 t n c p
def stA2 (t : Tp) (n : Nat) (c : Cf) (p : Nat) : Cf := if we t n p = p + 1 ∧ t p ≤ 106 then (if cC c = 30 then flC c p 3 else (1, p + 1, cE c, cO c ++ [(0, t p - 97)], cC c + 1, cS c)) else stA3 t n c p
def stA1 (t : Tp) (n : Nat) (c : Cf) (p : Nat) : Cf := if we t n p = p + 1 ∧ 117 ≤ t p then (if tiN (cS c) = 4 then flC c p 2 else (cM c, p + 1, cE c, cO c, cC c, (4, t p - 117) :: cS c)) else stA2 t n c p
def stA (t : Tp) (n : Nat) (c : Cf) (p : Nat) : Cf :=
  if p < n ∧ t p = 91 then (if dpN (cS c) = 10 then flC c p 2 else (cM c, p + 1, cE c, cO c, cC c, (7, 0) :: cS c))
  else if isW t n 2 p then (if dpN (cS c) = 10 then flC c p 2 else (cM c, p + 3, cE c, cO c, cC c, (3, 0) :: cS c))
  else stA1 t n c p
def stC (c : Cf) : Cf := match cS c with
  | [] => (2, cP c, cE c, cO c, cC c, cS c)
  | x :: s => if x.1 = 3 ∨ x.1 = 4 then (cM c, cP c, cE c, cO c ++ [x], cC c, s) else (2, cP c, cE c, cO c, cC c, cS c)
def stF (t : Tp) (n : Nat) (c : Cf) (p : Nat) : Cf :=
  if p < n ∧ t p = 93 then (match gvS 6 (cS c) with
    | [] => flC c p 0
    | _ :: s => (1, p + 1, cE c, cO c ++ gvO 6 (cS c), cC c, s))
  else if n ≤ p then (if gvS 6 (cS c) = [] then (3, p, cE c, cO c ++ gvO 6 (cS c), cC c, []) else flC c p 0)
  else if isW t n 3 p then (0, p + 3, cE c, cO c ++ gvO 5 (cS c), cC c, (5, 0) :: gvS 5 (cS c))
  else if isW t n 4 p then (0, p + 2, cE c, cO c ++ gvO 6 (cS c), cC c, (6, 0) :: gvS 6 (cS c))
  else flC c p 0
def step (t : Tp) (n : Nat) (c : Cf) : Cf :=
  if cM c = 0 then stA t n c (bl t n (cP c)) else if cM c = 1 then stC c else if cM c = 2 then stF t n c (bl t n (cP c)) else c
theorem step_0 {t : Tp} {n : Nat} {c : Cf} (h : cM c = 0) : step t n c = stA t n c (bl t n (cP c)) := by unfold step; rw [if_pos h]
theorem step_1 {t : Tp} {n : Nat} {c : Cf} (h : cM c = 1) : step t n c = stC c := by unfold step; rw [if_neg (by omega), if_pos h]
theorem step_2 {t : Tp} {n : Nat} {c : Cf} (h : cM c = 2) : step t n c = stF t n c (bl t n (cP c)) := by unfold step; rw [if_neg (by omega), if_neg (by omega), if_pos h]
def itr (t : Tp) (n : Nat) : Nat → Cf → Cf
  | 0, c => c
  | k + 1, c => itr t n k (step t n c)
/-- the machine comes from c to c' -/
def Rn (t : Tp) (n : Nat) (c c' : Cf) : Prop := ∃ k, itr t n k c = c'
theorem Rn.rf {t : Tp} {n : Nat} {c : Cf} : Rn t n c c := ⟨0, rfl⟩
theorem itr_add (t : Tp) (n : Nat) : ∀ a b c, itr t n (a + b) c = itr t n b (itr t n a c) := by
  intro a
  induction a with
  | zero => intro b c; rw [Nat.zero_add]; rfl
  | succ a ih => intro b c; rw [show a + 1 + b = a + b + 1 by omega]; exact ih b _
theorem Rn.tr {t : Tp} {n : Nat} {a b c : Cf} (h : Rn t n a b) (h' : Rn t n b c) : Rn t n a c := by
  obtain ⟨k, rfl⟩ := h
  obtain ⟨m, rfl⟩ := h'
  exact ⟨k + m, itr_add t n k m a⟩
theorem Rn.one {t : Tp} {n : Nat} {c c' : Cf} (h : step t n c = c') : Rn t n c c' := ⟨1, h⟩
theorem itr_3 {t : Tp} {n : Nat} {c : Cf} (h : cM c = 3) : ∀ k, itr t n k c = c := by
  intro k
  induction k with
  | zero => rfl
  | succ k ih =>
    have : step t n c = c := by unfold step; rw [if_neg (by omega), if_neg (by omega), if_neg (by omega)]
    show itr t n k (step t n c) = c
    rw [this, ih]
theorem Rn.det {t : Tp} {n : Nat} {a b c : Cf} (h : Rn t n a b) (h' : Rn t n a c) (hb : cM b = 3) (hc : cM c = 3) : b = c := by
  obtain ⟨k, e1⟩ := h
  obtain ⟨m, e2⟩ := h'
  rcases Nat.le_total k m with g | g
  · rw [show m = k + (m - k) by omega, itr_add, e1, itr_3 hb] at e2; exact e2
  · rw [show k = m + (k - m) by omega, itr_add, e2, itr_3 hc] at e1; exact e1.symm
/-! heights and ranges of the row -/
def htL (l : List (Int × Int)) : Nat → Nat
  | 0 => 0
  | k + 1 => if (l.getD k (0, 0)).1 = 0 ∨ (l.getD k (0, 0)).1 = 1 ∨ (l.getD k (0, 0)).1 = 2 then htL l k + 1 else if (l.getD k (0, 0)).1 = 3 ∨ (l.getD k (0, 0)).1 = 4 then htL l k else htL l k - 1
/-- sign x may stand behind a row of height h -/
def okX (x : Int × Int) (h : Nat) : Prop := (0 ≤ x.1 ∧ x.1 ≤ 6) ∧ (x.1 = 0 → 0 ≤ x.2 ∧ x.2 < 10) ∧ (x.1 = 1 → 0 ≤ x.2 ∧ x.2 < 8) ∧ (x.1 = 4 → 0 ≤ x.2 ∧ x.2 < 6) ∧ (3 ≤ x.1 → 1 ≤ h) ∧ (5 ≤ x.1 → 2 ≤ h) ∧ (0 ≤ x.2 ∧ x.2 < 10)
def OkL (l : List (Int × Int)) : Prop := ∀ k, k < l.length → okX (l.getD k (0, 0)) (htL l k)
theorem htL_app (l : List (Int × Int)) (x : Int × Int) : ∀ k, k ≤ l.length → htL (l ++ [x]) k = htL l k := by
  intro k
  induction k with
  | zero => intro _; rfl
  | succ k ih =>
    intro hk
    unfold htL
    rw [ih (by omega)]
    have : (l ++ [x]).getD k (0, 0) = l.getD k (0, 0) := by
      rw [List.getD_eq_getElem?_getD, List.getD_eq_getElem?_getD, List.getElem?_append_left (by omega)]
    rw [this]
theorem getD_last (l : List (Int × Int)) (x : Int × Int) : (l ++ [x]).getD l.length (0, 0) = x := by
  rw [List.getD_eq_getElem?_getD, List.getElem?_append_right (Nat.le_refl _)]
  simp
theorem OkL.app {l : List (Int × Int)} {x : Int × Int} (h : OkL l) (hx : okX x (htL l l.length)) : OkL (l ++ [x]) := by
  intro k hk
  rw [List.length_append] at hk
  simp at hk
  rw [htL_app l x k (by omega)]
  by_cases e : k = l.length
  · subst e; rw [getD_last]; exact hx
  · have : (l ++ [x]).getD k (0, 0) = l.getD k (0, 0) := by
      rw [List.getD_eq_getElem?_getD, List.getD_eq_getElem?_getD, List.getElem?_append_left (by omega)]
    rw [this]; exact h k (by omega)
theorem htL_last (l : List (Int × Int)) (x : Int × Int) : htL (l ++ [x]) (l ++ [x]).length = if x.1 = 0 ∨ x.1 = 1 ∨ x.1 = 2 then htL l l.length + 1 else if x.1 = 3 ∨ x.1 = 4 then htL l l.length else htL l l.length - 1 := by
  rw [show (l ++ [x]).length = l.length + 1 by simp]
  show (if _ then _ else _) = _
  rw [getD_last, htL_app l x _ (Nat.le_refl _)]
def okS (s : List (Int × Int)) : Prop := ∀ x ∈ s, (3 ≤ x.1 ∧ x.1 ≤ 7) ∧ (0 ≤ x.2 ∧ x.2 < 6) ∧ (¬ x.1 = 4 → x.2 = 0)
/-- nothing that stands ahead of a fact is on top -/
def nk : List (Int × Int) → Prop
  | [] => True
  | x :: _ => ¬ (x.1 = 3 ∨ x.1 = 4)
def adj : List (Int × Int) → Prop
  | [] => True
  | x :: s => ((x.1 = 5 ∨ x.1 = 6) → nk s) ∧ adj s
/-- what holds of the machine while nothing is wrong -/
def InvC (n : Nat) (c : Cf) : Prop := cE c = 0 → cP c ≤ n ∧ (cO c).length + (cS c).length ≤ cP c ∧ OkL (cO c) ∧ okS (cS c) ∧ htL (cO c) (cO c).length = bnN (cS c) + (if cM c = 0 then 0 else 1) ∧ (dpN (cS c) ≤ 10 ∧ tiN (cS c) ≤ 4 ∧ cC c ≤ 30) ∧ cM c ≤ 3 ∧ adj (cS c) ∧ (cM c = 2 → nk (cS c))
theorem gv_sp {most : Int} : ∀ {s o : List (Int × Int)}, okS s → nk s → adj s → OkL o → htL o o.length = bnN s + 1 → ((gvO most s).length + (gvS most s).length = s.length ∧ okS (gvS most s) ∧ dpN (gvS most s) = dpN s ∧ tiN (gvS most s) = tiN s) ∧ (nk (gvS most s) ∧ adj (gvS most s)) ∧ OkL (o ++ gvO most s) ∧ htL (o ++ gvO most s) (o ++ gvO most s).length = bnN (gvS most s) + 1 := by
  intro s
  induction s with
  | nil =>
    intro o h1 h2 h3 h4 h5
    rw [show o ++ gvO most [] = o from List.append_nil o]
    exact ⟨⟨rfl, h1, rfl, rfl⟩, ⟨h2, h3⟩, h4, h5⟩
  | cons x s ih =>
    intro o h1 h2 h3 h4 h5
    by_cases c : ¬ x.1 = 7 ∧ x.1 ≤ most
    · have e1 : gvO most (x :: s) = (x.1, 0) :: gvO most s := by show (if _ then _ else _) = _; rw [if_pos c]
      have e2 : gvS most (x :: s) = gvS most s := by show (if _ then _ else _) = _; rw [if_pos c]
      have hx := h1 x List.mem_cons_self
      have hx2 : ¬ (x.1 = 3 ∨ x.1 = 4) := h2
      have hx3 : x.1 = 5 ∨ x.1 = 6 := by omega
      have hb : bnN (x :: s) = 1 + bnN s := by show (if _ then _ else _) + _ = _; rw [if_pos hx3]
      have hd : dpN (x :: s) = dpN s := by show (if _ then _ else _) + _ = _; rw [if_neg (by omega)]; omega
      have ht : tiN (x :: s) = tiN s := by show (if _ then _ else _) + _ = _; rw [if_neg (by omega)]; omega
      have hl := htL_last o (x.1, 0)
      rw [if_neg (by dsimp only; omega), if_neg (by dsimp only; omega), h5, hb] at hl
      have hk := h4.app (x := (x.1, 0)) (by
        refine ⟨⟨by dsimp only; omega, by dsimp only; omega⟩, fun h => ?_, fun h => ?_, fun h => ?_, fun _ => by omega, fun _ => by omega, ⟨by dsimp only; omega, by dsimp only; omega⟩⟩
        · dsimp only at h; omega
        · dsimp only at h; omega
        · dsimp only at h; omega)
      obtain ⟨⟨a1, a2, a3, a4⟩, a5, a6, a7⟩ := ih (o := o ++ [(x.1, 0)]) (fun y hy => h1 y (List.mem_cons_of_mem _ hy)) (h3.1 hx3) h3.2 hk (by omega)
      rw [e1, e2, List.append_cons, hd, ht]
      refine ⟨⟨?_, a2, a3, a4⟩, a5, a6, a7⟩
      simp only [List.length_cons]; omega
    · have e1 : gvO most (x :: s) = [] := by show (if _ then _ else _) = _; rw [if_neg c]
      have e2 : gvS most (x :: s) = x :: s := by show (if _ then _ else _) = _; rw [if_neg c]
      rw [e1, e2, List.append_nil]
      exact ⟨⟨by simp, h1, rfl, rfl⟩, ⟨h2, h3⟩, h4, h5⟩
theorem rn_ge (f : Nat → Bool) (n p : Nat) (hp : p ≤ n) : p ≤ rn f n p ∧ rn f n p ≤ n := ⟨(rn_sp f n p hp).1, (rn_sp f n p hp).2.1⟩
theorem we_1 {t : Tp} {n p : Nat} (hp : p ≤ n) (h : we t n p = p + 1) : p < n ∧ 97 ≤ t p ∧ t p ≤ 122 := by
  obtain ⟨a, b, c, -⟩ := rn_sp (fun i => decide (97 ≤ t i ∧ t i ≤ 122)) n p hp
  have h' : rn (fun i => decide (97 ≤ t i ∧ t i ≤ 122)) n p = p + 1 := h
  have := c p (Nat.le_refl _) (by omega)
  simp at this
  exact ⟨by omega, this⟩
theorem isW_n {t : Tp} {n p j : Nat} (hp : p ≤ n) (h : isW t n j p = true) : p + sLn j ≤ n := by
  obtain ⟨a, b, -, -⟩ := rn_sp (fun i => decide (97 ≤ t i ∧ t i ≤ 122)) n p hp
  have h' : rn (fun i => decide (97 ≤ t i ∧ t i ≤ 122)) n p = p + sLn j := (isW_i.mp h).1
  omega
theorem dp_c (x : Int × Int) (s : List (Int × Int)) : dpN (x :: s) = (if x.1 = 3 ∨ x.1 = 7 then 1 else 0) + dpN s := rfl
theorem ti_c (x : Int × Int) (s : List (Int × Int)) : tiN (x :: s) = (if x.1 = 4 then 1 else 0) + tiN s := rfl
theorem bn_c (x : Int × Int) (s : List (Int × Int)) : bnN (x :: s) = (if x.1 = 5 ∨ x.1 = 6 then 1 else 0) + bnN s := rfl
/-- no step goes wrong -/
theorem InvC_step {t : Tp} {n : Nat} {c : Cf} (h : InvC n c) (he : cE c = 0) : InvC n (step t n c) := by
  obtain ⟨h1, h2, h3, h4, h5, ⟨h6, h7, h8⟩, h9, h10, h11⟩ := h he
  obtain ⟨b1, b2⟩ := rn_ge (fun i => decide (t i = 32)) n (cP c) h1
  have b1 : cP c ≤ bl t n (cP c) := b1
  have b2 : bl t n (cP c) ≤ n := b2
  have fl : ∀ p code : Nat, InvC n (flC c p code) := fun p code h => by have h' : 1 + 8 * (p : Int) + code = 0 := h; omega
  -- a fact is put down
  have put : ∀ (q : Nat) (x : Int × Int), bl t n (cP c) < q → q ≤ n → (0 ≤ x.1 ∧ x.1 ≤ 2) ∧ (x.1 = 0 → 0 ≤ x.2 ∧ x.2 < 10) ∧ (x.1 = 1 → 0 ≤ x.2 ∧ x.2 < 8) ∧ (0 ≤ x.2 ∧ x.2 < 10) → cM c = 0 → ¬ cC c = 30 → InvC n (1, q, cE c, cO c ++ [x], cC c + 1, cS c) := by
    intro q x hq hq2 hx hm hc _
    have hl := htL_last (cO c) x
    rw [if_pos (by omega), h5, if_pos hm] at hl
    refine ⟨hq2, ?_, h3.app ⟨by omega, hx.2.1, hx.2.2.1, fun h => by omega, fun h => by omega, fun h => by omega, hx.2.2.2⟩, h4, ?_, ⟨h6, h7, by show cC c + 1 ≤ 30; omega⟩, by show 1 ≤ 3; omega, h10, fun h => by cases h⟩
    · show (cO c ++ [x]).length + (cS c).length ≤ q
      rw [List.length_append]; simp only [List.length_cons, List.length_nil]; omega
    · show htL (cO c ++ [x]) (cO c ++ [x]).length = _
      rw [hl]; rfl
  -- something is opened
  have opn : ∀ (q : Nat) (x : Int × Int), bl t n (cP c) < q → q ≤ n → (x.1 = 3 ∨ x.1 = 4 ∨ x.1 = 7) ∧ (0 ≤ x.2 ∧ x.2 < 6) ∧ (¬ x.1 = 4 → x.2 = 0) → cM c = 0 → (x.1 = 4 → ¬ tiN (cS c) = 4) → (¬ x.1 = 4 → ¬ dpN (cS c) = 10) → InvC n (cM c, q, cE c, cO c, cC c, x :: cS c) := by
    intro q x hq hq2 hx hm ht hd _
    have e1 := dp_c x (cS c)
    have e2 := ti_c x (cS c)
    have e3 := bn_c x (cS c)
    rw [if_neg (by omega)] at e3
    refine ⟨hq2, ?_, h3, fun y hy => ?_, ?_, ⟨?_, ?_, h8⟩, h9, ⟨fun h => by omega, h10⟩, fun h => by have h' : cM c = 2 := h; omega⟩
    · show (cO c).length + (x :: cS c).length ≤ q
      simp only [List.length_cons]; omega
    · rcases List.mem_cons.mp hy with rfl | hy
      · exact ⟨by omega, hx.2⟩
      · exact h4 y hy
    · show htL (cO c) (cO c).length = bnN (x :: cS c) + _
      rw [e3, h5, Nat.zero_add]
    · show dpN (x :: cS c) ≤ 10
      rw [e1]; split <;> omega
    · show tiN (x :: cS c) ≤ 4
      rw [e2]; split <;> omega
  rcases Nat.lt_or_ge (cM c) 1 with m0 | m0
  · have hm : cM c = 0 := by omega
    rw [step_0 hm]
    unfold stA
    split
    · rename_i g
      split
      · exact fl _ _
      · exact opn _ (7, 0) (by omega) (by omega) ⟨by omega, by omega, fun _ => rfl⟩ hm (fun h => by dsimp only at h; omega) (fun _ => by assumption)
    · split
      · rename_i g
        have := isW_n b2 g
        have e3 : sLn 2 = 3 := rfl
        split
        · exact fl _ _
        · exact opn _ (3, 0) (by omega) (by omega) ⟨by omega, by omega, fun _ => rfl⟩ hm (fun h => by dsimp only at h; omega) (fun _ => by assumption)
      · unfold stA1
        split
        · rename_i g
          have := we_1 b2 g.1
          split
          · exact fl _ _
          · exact opn _ (4, t (bl t n (cP c)) - 117) (by omega) (by omega) ⟨by omega, by dsimp only; omega, fun h => absurd rfl h⟩ hm (fun _ => by assumption) (fun h => absurd rfl h)
        · unfold stA2
          split
          · rename_i g
            have := we_1 b2 g.1
            split
            · exact fl _ _
            · exact put _ (0, t (bl t n (cP c)) - 97) (by omega) (by omega) ⟨by dsimp only; omega, fun _ => by dsimp only; omega, fun h => by dsimp only at h; omega, by dsimp only; omega⟩ hm (by assumption)
          · unfold stA3
            split
            · rename_i g
              have := isW_n b2 g
              have e3 : sLn 1 = 2 := rfl
              split
              · exact fl _ _
              · exact put _ (2, 0) (by omega) (by omega) ⟨by dsimp only; omega, fun h => by dsimp only at h; omega, fun h => by dsimp only at h; omega, by dsimp only; omega⟩ hm (by assumption)
            · unfold stA4
              split
              · rename_i g
                have := isW_n b2 g
                have e3 : sLn 0 = 2 := rfl
                obtain ⟨d1, d2⟩ := rn_ge (fun i => decide (t i = 32)) n (bl t n (cP c) + 2) (by omega)
                have d1 : bl t n (cP c) + 2 ≤ bl t n (bl t n (cP c) + 2) := d1
                have d2 : bl t n (bl t n (cP c) + 2) ≤ n := d2
                obtain ⟨f1, f2, f3, -⟩ := rn_sp (fun i => decide (48 ≤ t i ∧ t i ≤ 57)) n (bl t n (bl t n (cP c) + 2)) d2
                have f1 : bl t n (bl t n (cP c) + 2) ≤ dg t n (bl t n (bl t n (cP c) + 2)) := f1
                have f2 : dg t n (bl t n (bl t n (cP c) + 2)) ≤ n := f2
                split
                · exact fl _ _
                · split
                  · exact fl _ _
                  · split
                    · exact fl _ _
                    · rename_i g1 g2 g3
                      have f4 := f3 (bl t n (bl t n (cP c) + 2)) (Nat.le_refl _) (by show _ < dg t n (bl t n (bl t n (cP c) + 2)); omega)
                      simp at f4
                      exact put _ (1, t (bl t n (bl t n (cP c) + 2)) - 48) (by omega) (by omega) ⟨by dsimp only; omega, fun h => by dsimp only at h; omega, fun _ => by dsimp only; omega, by dsimp only; omega⟩ hm (by assumption)
              · exact fl _ _
  · rcases Nat.lt_or_ge (cM c) 2 with m1 | m1
    · have hm : cM c = 1 := by omega
      rw [step_1 hm]
      rw [hm, if_neg (by omega)] at h5
      unfold stC
      split
      · rename_i e0
        exact fun _ => ⟨h1, h2, h3, h4, h5, ⟨h6, h7, h8⟩, by show 2 ≤ 3; omega, h10, fun _ => by show nk (cS c); rw [e0]; trivial⟩
      · rename_i x s e0
        rw [e0] at h2 h4 h5 h6 h7 h10
        have hx := h4 x List.mem_cons_self
        split
        · rename_i g
          have hl := htL_last (cO c) x
          rw [if_neg (by omega), if_pos g, h5] at hl
          have e1 := dp_c x s
          have e2 := ti_c x s
          have e3 := bn_c x s
          rw [if_neg (by omega)] at e3
          refine fun _ => ⟨h1, ?_, h3.app ⟨by omega, fun h => by omega, fun h => by omega, fun h => hx.2.1, fun h => by omega, fun h => by omega, by omega⟩, fun y hy => h4 y (List.mem_cons_of_mem _ hy), ?_, ⟨by show dpN s ≤ 10; omega, by show tiN s ≤ 4; omega, h8⟩, h9, h10.2, fun h => by have h' : cM c = 2 := h; omega⟩
          · show (cO c ++ [x]).length + s.length ≤ cP c
            rw [List.length_append]; simp only [List.length_cons, List.length_nil] at h2 ⊢; omega
          · show htL (cO c ++ [x]) (cO c ++ [x]).length = bnN s + (if cM c = 0 then 0 else 1)
            rw [hl, if_neg (by omega)]; omega
        · rename_i g
          exact fun _ => ⟨h1, by show (cO c).length + (cS c).length ≤ cP c; rw [e0]; exact h2, h3, by show okS (cS c); rw [e0]; exact h4, by show _ = bnN (cS c) + 1; rw [e0]; exact h5, ⟨by show dpN (cS c) ≤ 10; rw [e0]; exact h6, by show tiN (cS c) ≤ 4; rw [e0]; exact h7, h8⟩, by show 2 ≤ 3; omega, by show adj (cS c); rw [e0]; exact h10, fun _ => by show nk (cS c); rw [e0]; exact g⟩
    · rcases Nat.lt_or_ge (cM c) 3 with m2 | m2
      · have hm : cM c = 2 := by omega
        rw [step_2 hm]
        rw [hm, if_neg (by omega)] at h5
        obtain ⟨⟨a1, a2, a3, a4⟩, ⟨a5, a5'⟩, a6, a7⟩ := gv_sp (most := 6) h4 (h11 hm) h10 h3 h5
        obtain ⟨⟨c1, c2, c3, c4⟩, ⟨c5, c5'⟩, c6, c7⟩ := gv_sp (most := 5) h4 (h11 hm) h10 h3 h5
        unfold stF
        split
        · rename_i g
          split
          · exact fl _ _
          · rename_i y s e0
            rw [e0] at a1 a2 a3 a4 a5 a5' a7
            have hy := a2 y List.mem_cons_self
            have e1 := dp_c y s
            have e2 := ti_c y s
            have e3 := bn_c y s
            have hy7 : y.1 = 7 := by
              have hnk : ¬ (y.1 = 3 ∨ y.1 = 4) := a5
              have : ∀ s : List (Int × Int), ∀ y s', gvS 6 s = y :: s' → y.1 = 7 ∨ 6 < y.1 := by
                intro s
                induction s with
                | nil => intro y s' h; cases h
                | cons z s ih =>
                  intro y s' h
                  by_cases g : ¬ z.1 = 7 ∧ z.1 ≤ 6
                  · rw [show gvS 6 (z :: s) = gvS 6 s by show (if _ then _ else _) = _; rw [if_pos g]] at h
                    exact ih y s' h
                  · rw [show gvS 6 (z :: s) = z :: s by show (if _ then _ else _) = _; rw [if_neg g]] at h
                    cases h; omega
              have := this _ _ _ e0
              omega
            rw [if_neg (by omega)] at e3
            refine fun _ => ⟨by show bl t n (cP c) + 1 ≤ n; omega, ?_, a6, fun z hz => a2 z (List.mem_cons_of_mem _ hz), ?_, ⟨by show dpN s ≤ 10; omega, by show tiN s ≤ 4; omega, h8⟩, by show 1 ≤ 3; omega, a5'.2, fun h => by cases h⟩
            · show (cO c ++ gvO 6 (cS c)).length + s.length ≤ bl t n (cP c) + 1
              rw [List.length_append]; simp only [List.length_cons] at a1; omega
            · show htL (cO c ++ gvO 6 (cS c)) (cO c ++ gvO 6 (cS c)).length = bnN s + 1
              rw [a7]; omega
        · split
          · split
            · rename_i g1 g2 e0
              rw [e0] at a1 a7
              refine fun _ => ⟨b2, ?_, a6, fun z hz => (by cases hz), a7, ⟨by show 0 ≤ 10; omega, by show 0 ≤ 4; omega, h8⟩, by show 3 ≤ 3; omega, trivial, fun h => by cases h⟩
              show (cO c ++ gvO 6 (cS c)).length + 0 ≤ bl t n (cP c)
              rw [List.length_append]; simp only [List.length_nil] at a1; omega
            · exact fl _ _
          · split
            · rename_i g
              have := isW_n b2 g
              have e3 : sLn 3 = 3 := rfl
              refine fun _ => ⟨by show bl t n (cP c) + 3 ≤ n; omega, ?_, c6, fun z hz => ?_, ?_, ⟨?_, ?_, h8⟩, by show 0 ≤ 3; omega, ⟨fun _ => c5, c5'⟩, fun h => by cases h⟩
              · show (cO c ++ gvO 5 (cS c)).length + ((5, 0) :: gvS 5 (cS c)).length ≤ bl t n (cP c) + 3
                rw [List.length_append]; simp only [List.length_cons]; omega
              · rcases List.mem_cons.mp hz with rfl | hz
                · exact ⟨by dsimp only; omega, by dsimp only; omega, fun _ => rfl⟩
                · exact c2 z hz
              · show htL (cO c ++ gvO 5 (cS c)) (cO c ++ gvO 5 (cS c)).length = bnN ((5, 0) :: gvS 5 (cS c)) + 0
                rw [c7, bn_c, if_pos (by dsimp only; omega)]; omega
              · show dpN ((5, 0) :: gvS 5 (cS c)) ≤ 10
                rw [dp_c, if_neg (by dsimp only; omega)]; omega
              · show tiN ((5, 0) :: gvS 5 (cS c)) ≤ 4
                rw [ti_c, if_neg (by dsimp only; omega)]; omega
            · split
              · rename_i g
                have := isW_n b2 g
                have e3 : sLn 4 = 2 := rfl
                refine fun _ => ⟨by show bl t n (cP c) + 2 ≤ n; omega, ?_, a6, fun z hz => ?_, ?_, ⟨?_, ?_, h8⟩, by show 0 ≤ 3; omega, ⟨fun _ => a5, a5'⟩, fun h => by cases h⟩
                · show (cO c ++ gvO 6 (cS c)).length + ((6, 0) :: gvS 6 (cS c)).length ≤ bl t n (cP c) + 2
                  rw [List.length_append]; simp only [List.length_cons]; omega
                · rcases List.mem_cons.mp hz with rfl | hz
                  · exact ⟨by dsimp only; omega, by dsimp only; omega, fun _ => rfl⟩
                  · exact a2 z hz
                · show htL (cO c ++ gvO 6 (cS c)) (cO c ++ gvO 6 (cS c)).length = bnN ((6, 0) :: gvS 6 (cS c)) + 0
                  rw [a7, bn_c, if_pos (by dsimp only; omega)]; omega
                · show dpN ((6, 0) :: gvS 6 (cS c)) ≤ 10
                  rw [dp_c, if_neg (by dsimp only; omega)]; omega
                · show tiN ((6, 0) :: gvS 6 (cS c)) ≤ 4
                  rw [ti_c, if_neg (by dsimp only; omega)]; omega
              · exact fl _ _
      · rw [show step t n c = c by unfold step; rw [if_neg (by omega), if_neg (by omega), if_neg (by omega)]]
        exact h
