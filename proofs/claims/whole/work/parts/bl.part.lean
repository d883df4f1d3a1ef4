/-! readPart on the class -/
section CW4
variable {l : Launch} {G : Gt} {d : Nat} {M : Mem} {r : Option Vl} {M' : Mem} {t : Tp} {n p : Nat} {I I' I'' : IM} {c c' : Cf}
def cdW (j : Nat) : Int := if j = 0 then 16 else if j = 1 then 24 else if j = 2 then 25 else if j = 3 then 26 else if j = 4 then 27 else if j = 5 then 30 else 31
theorem isW_x {j j' : Nat} (hj : j < 7) (hj' : j' < 7) (h : isW t n j p = true) (h' : isW t n j' p = true) : j = j' := by
  have a := isW_i.mp h
  have b := isW_i.mp h'
  have e1 : sLn j = sLn j' := by have := a.1; have := b.1; omega
  have l1 := sLn_t j (by omega)
  have l2 := sLn_t j' (by omega)
  have e2 : sCh j 0 = sCh j' 0 := (a.2 0 (by omega)).symm.trans (b.2 0 (by omega))
  have key : ∀ j, j < 7 → ∀ j', j' < 7 → sLn j = sLn j' → sCh j 0 = sCh j' 0 → j = j' := by decide +kernel
  exact key j hj j' hj' e1 e2
theorem lk_W {j : Nat} (hj : j < 7) (hp : p ≤ n) (h : isW t n j p = true) : lkS t n p = cdW j ∧ lkE t n p = p + sLn j := by
  have a := isW_i.mp h
  have hl := sLn_t j (by omega)
  have hn := isW_n hp h
  have h0 := a.2 0 (by omega)
  have hs : ∀ j, j < 7 → 97 ≤ sCh j 0 ∧ sCh j 0 ≤ 122 := by decide +kernel
  have hs1 := hs j hj
  rw [Nat.add_zero] at h0
  have c1 : ¬ n ≤ p := by omega
  have c2 : ¬ ¬ (97 ≤ t p ∧ t p ≤ 122) := fun x => x (by rw [h0]; exact hs1)
  refine ⟨?_, by unfold lkE; rw [if_neg c1, if_neg c2]; exact a.1⟩
  unfold lkS
  rw [if_neg c1, if_neg c2, if_neg (by have := a.1; omega)]
  have no : ∀ k, k < 7 → ¬ k = j → ¬ isW t n k p = true := fun k hk hne hx => hne (isW_x hk hj hx h)
  unfold wdS cdW
  have hc : j = 0 ∨ j = 1 ∨ j = 2 ∨ j = 3 ∨ j = 4 ∨ j = 5 ∨ j = 6 := by omega
  rcases hc with rfl | rfl | rfl | rfl | rfl | rfl | rfl
  · rw [if_pos h]; rfl
  · rw [if_neg (no 0 (by omega) (by omega)), if_pos h]; rfl
  · rw [if_neg (no 0 (by omega) (by omega)), if_neg (no 1 (by omega) (by omega)), if_pos h]; rfl
  · rw [if_neg (no 0 (by omega) (by omega)), if_neg (no 1 (by omega) (by omega)), if_neg (no 2 (by omega) (by omega)), if_pos h]; rfl
  · rw [if_neg (no 0 (by omega) (by omega)), if_neg (no 1 (by omega) (by omega)), if_neg (no 2 (by omega) (by omega)), if_neg (no 3 (by omega) (by omega)), if_pos h]; rfl
  · rw [if_neg (no 0 (by omega) (by omega)), if_neg (no 1 (by omega) (by omega)), if_neg (no 2 (by omega) (by omega)), if_neg (no 3 (by omega) (by omega)), if_neg (no 4 (by omega) (by omega)), if_pos h]; rfl
  · rw [if_neg (no 0 (by omega) (by omega)), if_neg (no 1 (by omega) (by omega)), if_neg (no 2 (by omega) (by omega)), if_neg (no 3 (by omega) (by omega)), if_neg (no 4 (by omega) (by omega)), if_neg (no 5 (by omega) (by omega)), if_pos h]; rfl
/-- every sign and what it comes from -/
theorem lk_sp (t : Tp) (n p : Nat) (hp : p ≤ n) : (lkS t n p = 32 ∨ (lkS t n p = 28 ∧ p < n ∧ t p = 91) ∨ (lkS t n p = 29 ∧ p < n ∧ t p = 93) ∨ (we t n p = p + 1 ∧ t p ≤ 106 ∧ lkS t n p = t p - 97) ∨ (we t n p = p + 1 ∧ 117 ≤ t p ∧ lkS t n p = 10 + (t p - 117)) ∨ ∃ j, j < 7 ∧ isW t n j p = true ∧ lkS t n p = cdW j) := by
  unfold lkS
  by_cases c1 : n ≤ p
  · rw [if_pos c1]; exact .inl rfl
  · rw [if_neg c1]
    by_cases c2 : 97 ≤ t p ∧ t p ≤ 122
    · rw [if_neg (fun x => x c2)]
      by_cases c3 : we t n p = p + 1
      · rw [if_pos c3]
        unfold ltS
        by_cases c4 : t p ≤ 106
        · rw [if_pos c4]; exact .inr (.inr (.inr (.inl ⟨c3, c4, rfl⟩)))
        · rw [if_neg c4]
          by_cases c5 : 117 ≤ t p
          · rw [if_pos c5]; exact .inr (.inr (.inr (.inr (.inl ⟨c3, c5, rfl⟩))))
          · rw [if_neg c5]; exact .inl rfl
      · rw [if_neg c3]
        unfold wdS
        repeat' split
        · exact .inr (.inr (.inr (.inr (.inr ⟨0, by omega, by assumption, rfl⟩))))
        · exact .inr (.inr (.inr (.inr (.inr ⟨1, by omega, by assumption, rfl⟩))))
        · exact .inr (.inr (.inr (.inr (.inr ⟨2, by omega, by assumption, rfl⟩))))
        · exact .inr (.inr (.inr (.inr (.inr ⟨3, by omega, by assumption, rfl⟩))))
        · exact .inr (.inr (.inr (.inr (.inr ⟨4, by omega, by assumption, rfl⟩))))
        · exact .inr (.inr (.inr (.inr (.inr ⟨5, by omega, by assumption, rfl⟩))))
        · exact .inr (.inr (.inr (.inr (.inr ⟨6, by omega, by assumption, rfl⟩))))
        · exact .inl rfl
    · rw [if_pos c2]
      by_cases c3 : t p = 91
      · rw [if_pos c3]; exact .inr (.inl ⟨rfl, by omega, c3⟩)
      · rw [if_neg c3]
        by_cases c4 : t p = 93
        · rw [if_pos c4]; exact .inr (.inr (.inl ⟨rfl, by omega, c4⟩))
        · rw [if_neg c4]; exact .inl rfl
theorem cdW_v (j : Nat) (hj : j < 7) : cdW j = 16 ∧ j = 0 ∨ cdW j = 24 ∧ j = 1 ∨ cdW j = 25 ∧ j = 2 ∨ cdW j = 26 ∧ j = 3 ∨ cdW j = 27 ∧ j = 4 ∨ cdW j = 30 ∧ j = 5 ∨ cdW j = 31 ∧ j = 6 := by
  have hc : j = 0 ∨ j = 1 ∨ j = 2 ∨ j = 3 ∨ j = 4 ∨ j = 5 ∨ j = 6 := by omega
  rcases hc with rfl | rfl | rfl | rfl | rfl | rfl | rfl <;> decide
theorem lk_26 (hp : p ≤ n) : lkS t n p = 26 → isW t n 3 p = true := by
  intro h
  rcases lk_sp t n p hp with g | ⟨g, -, -⟩ | ⟨g, -, -⟩ | ⟨g1, g2, g⟩ | ⟨g1, g2, g⟩ | ⟨j, hj, g1, g⟩
  · omega
  · omega
  · omega
  · have := we_1 hp g1; omega
  · have := we_1 hp g1; omega
  · have := cdW_v j hj
    rw [h] at g
    rw [show j = 3 by omega] at g1
    exact g1
theorem lk_27 (hp : p ≤ n) : lkS t n p = 27 → isW t n 4 p = true := by
  intro h
  rcases lk_sp t n p hp with g | ⟨g, -, -⟩ | ⟨g, -, -⟩ | ⟨g1, g2, g⟩ | ⟨g1, g2, g⟩ | ⟨j, hj, g1, g⟩
  · omega
  · omega
  · omega
  · have := we_1 hp g1; omega
  · have := we_1 hp g1; omega
  · have := cdW_v j hj
    rw [h] at g
    rw [show j = 4 by omega] at g1
    exact g1
/-- class and machine at one place; w: signs that wait there -/
def Wm (t : Tp) (n : Nat) (c : Cf) (w : List (Int × Int)) (I : IM) : Prop := ∃ st sp, Cg t n st sp 0 (cC c) (cO c ++ w) I ∧ sp ≤ n ∧ bl t n sp = bl t n (cP c)
def FlC (t : Tp) (n : Nat) (c : Cf) (I : IM) : Prop := cM c = 3 ∧ ¬ cE c = 0 ∧ ∃ st sp fa o, Cg t n st sp (cE c) fa o I
def FcR (t : Tp) (n : Nat) (c c' : Cf) (I : IM) : Prop := (cM c' = 1 ∧ cE c' = 0 ∧ cS c' = cS c ∧ cP c < cP c' ∧ Wm t n c' [] I) ∨ FlC t n c' I
/-- what readFact is to do -/
def RFact (l : Launch) (G : Gt) (D : Nat) (t : Tp) (n dp ti : Nat) : Prop := ∀ {M : Mem} {c : Cf}, Sh M.2.1 → M.2.1 12 0 0 = some (16, 0) → cCnt M.2.2 1 = 28 → InvD n c → cM c = 0 → cE c = 0 → dpN (cS c) = dp → tiN (cS c) = ti → Wm t n c [] M.1 → ∃ I' c', Cl l G D mX2_readFact [vR (some (12, 0)), vI (dp : Int), vI (ti : Int)] M none (I', M.2.1, M.2.2) ∧ frY M.1 I' ∧ Rn t n c c' ∧ FcR t n c c' I'
end CW4
