/-! SETS as bits -/
def tb (b n : Int) : Bool := (u32 b).testBit n.toNat
theorem u32_and (a b : Int) : u32 (aAnd a b) = u32 a &&& u32 b := u32_s32 (Nat.and_lt_two_pow (n := 32) _ (u32_lt b))
theorem u32_or (a b : Int) : u32 (aOr a b) = u32 a ||| u32 b := u32_s32 (Nat.or_lt_two_pow (n := 32) (u32_lt a) (u32_lt b))
theorem u32_xor (a b : Int) : u32 (aXor a b) = u32 a ^^^ u32 b := u32_s32 (Nat.xor_lt_two_pow (n := 32) (u32_lt a) (u32_lt b))
theorem u32_shl (a s : Int) : u32 (aShl a s) = u32 a * 2 ^ s.toNat % 4294967296 := u32_s32 (Nat.mod_lt _ (by omega))
theorem u32_nat {n : Nat} (h : n < 4294967296) : u32 (n : Int) = n := by unfold u32; omega
theorem s32_nat {n : Nat} (h : n < 2147483648) : s32 n = (n : Int) := by unfold s32; rw [if_pos h]
theorem s32_u32 {a : Int} (h : InR a) : s32 (u32 a) = a := by unfold s32 u32 InR at *; split <;> omega
theorem tb_and (a b n : Int) : tb (aAnd a b) n = (tb a n && tb b n) := by unfold tb; rw [u32_and, Nat.testBit_and]
theorem tb_or (a b n : Int) : tb (aOr a b) n = (tb a n || tb b n) := by unfold tb; rw [u32_or, Nat.testBit_or]
theorem tb_xor (a b n : Int) : tb (aXor a b) n = (tb a n ^^ tb b n) := by unfold tb; rw [u32_xor, Nat.testBit_xor]
theorem tb_ext {a b : Int} (ha : InR a) (hb : InR b) (h : ∀ n : Nat, n < 32 → tb a n = tb b n) : a = b := by
  rw [← s32_u32 ha, ← s32_u32 hb]
  congr 1
  apply Nat.eq_of_testBit_eq
  intro i
  by_cases hi : i < 32
  · have := h i hi
    unfold tb at this
    simpa using this
  · have h1 := u32_lt a
    have h2 := u32_lt b
    have h3 : (4294967296 : Nat) ≤ 2 ^ i := Nat.pow_le_pow_right (n := 2) (by omega) (show 32 ≤ i by omega)
    rw [Nat.testBit_lt_two_pow (by omega), Nat.testBit_lt_two_pow (by omega)]
theorem u32_one_shl {n : Int} (h0 : 0 ≤ n) (h1 : n < 32) : u32 (aShl 1 n) = 2 ^ n.toNat := by
  rw [u32_shl, show u32 1 = 1 from rfl, Nat.one_mul]
  apply Nat.mod_eq_of_lt
  exact Nat.pow_lt_pow_right (a := 2) (by omega) (show n.toNat < 32 by omega)
theorem one_shl {n : Int} (h0 : 0 ≤ n) (h1 : n < 31) : aShl 1 n = ((2 ^ n.toNat : Nat) : Int) := by
  have := u32_one_shl h0 (show n < 32 by omega)
  have hlt : 2 ^ n.toNat < 2147483648 := Nat.pow_lt_pow_right (a := 2) (by omega) (show n.toNat < 31 by omega)
  rw [← s32_u32 (aShl_in 1 n), this, s32_nat hlt]
theorem tb_one_shl {n : Int} {k : Nat} (h0 : 0 ≤ n) (h1 : n < 32) : tb (aShl 1 n) k = decide ((k : Int) = n) := by
  unfold tb
  rw [u32_one_shl h0 h1, Nat.testBit_two_pow]
  simp
  omega
theorem tb_not (a : Int) {k : Nat} (hk : k < 32) : tb (aXor a (-1)) k = !tb a k := by
  rw [tb_xor]
  have : tb (-1) k = true := by
    unfold tb
    rw [show u32 (-1) = 2 ^ 32 - 1 from rfl, Nat.testBit_two_pow_sub_one]
    simp [hk]
  rw [this]
  cases tb a k <;> rfl
theorem tb_zero (n : Int) : tb 0 n = false := by unfold tb; rw [show u32 0 = 0 from rfl]; simp
/-- bits by a law -/
def bset : Nat → (Nat → Bool) → Nat
  | 0, _ => 0
  | n + 1, p => bset n p + (if p n then 2 ^ n else 0)
theorem bset_lt (n : Nat) (p : Nat → Bool) : bset n p < 2 ^ n := by
  induction n with
  | zero => simp [bset]
  | succ n ih =>
    unfold bset
    rw [Nat.pow_succ]
    split <;> omega
theorem bset_bit (n : Nat) (p : Nat → Bool) (i : Nat) : (bset n p).testBit i = (decide (i < n) && p i) := by
  induction n with
  | zero => simp [bset]
  | succ n ih =>
    have hl := bset_lt n p
    unfold bset
    by_cases hp : p n = true
    · rw [if_pos hp]
      have e := Nat.two_pow_add_eq_or_of_lt hl 1
      rw [Nat.mul_one] at e
      rw [Nat.add_comm, e]
      rw [Nat.testBit_or, Nat.testBit_two_pow, ih]
      by_cases hi : n = i
      · subst hi; simp [hp]
      · simp [hi]
        by_cases h2 : i < n
        · simp [h2, show i < n + 1 by omega]
        · simp [h2, show ¬ i < n + 1 by omega]
    · rw [if_neg hp, Nat.add_zero, ih]
      by_cases hi : i = n
      · subst hi
        simp [hp]
      · by_cases h2 : i < n
        · simp [h2, show i < n + 1 by omega]
        · simp [h2, show ¬ i < n + 1 by omega]
def bI (n : Nat) (p : Nat → Bool) : Int := (bset n p : Int)
theorem bI_in {n : Nat} (h : n ≤ 31) (p : Nat → Bool) : InR (bI n p) := by
  have h1 := bset_lt n p
  have h2 : 2 ^ n ≤ 2 ^ 31 := Nat.pow_le_pow_right (n := 2) (by omega) h
  unfold bI InR
  omega
theorem tb_bI {n : Nat} (h : n ≤ 31) (p : Nat → Bool) (i : Nat) : tb (bI n p) i = (decide (i < n) && p i) := by
  have h1 := bset_lt n p
  have h2 : 2 ^ n ≤ 2 ^ 31 := Nat.pow_le_pow_right (n := 2) (by omega) h
  unfold tb bI
  rw [u32_nat (by omega)]
  simpa using bset_bit n p i
theorem bI_ext {n : Nat} {p q : Nat → Bool} (h : ∀ i, i < n → p i = q i) : bI n p = bI n q := by
  unfold bI
  congr 1
  induction n with
  | zero => rfl
  | succ n ih =>
    unfold bset
    rw [ih (fun i hi => h i (by omega)), h n (by omega)]
/-- an int is the set of a law -/
theorem bI_of {a : Int} {n : Nat} {p : Nat → Bool} (hn : n ≤ 31) (ha : InR a) (h : ∀ i : Nat, i < 32 → tb a i = (decide (i < n) && p i)) : a = bI n p :=
  tb_ext ha (bI_in hn p) fun i hi => by rw [h i hi, tb_bI hn]
theorem bI_succ {n : Nat} (h : n < 31) (p : Nat → Bool) : aOr (bI n p) (if p n = true then aShl 1 n else 0) = bI (n + 1) p := by
  refine bI_of (by omega) (aOr_in _ _) fun i hi => ?_
  rw [tb_or, tb_bI (by omega)]
  by_cases hp : p n = true
  · rw [if_pos hp, tb_one_shl (by omega) (by omega)]
    by_cases h2 : i = n
    · subst h2; simp [hp]
    · by_cases h3 : i < n
      · simp [h3, show i < n + 1 by omega, show ¬ ((i : Int) = n) by omega]
      · simp [h3, show ¬ i < n + 1 by omega, show ¬ ((i : Int) = n) by omega]
  · rw [if_neg hp, tb_zero]
    by_cases h2 : i = n
    · subst h2; simp [hp]
    · by_cases h3 : i < n
      · simp [h3, show i < n + 1 by omega]
      · simp [h3, show ¬ i < n + 1 by omega]
theorem u32_shr {a s : Int} (h : 0 ≤ a) (h1 : a ≤ 2147483647) : u32 (aShr a s) = u32 a / 2 ^ s.toNat := by
  unfold aShr
  have e : a = ((a.toNat : Nat) : Int) := by omega
  have h2 : (a.toNat / 2 ^ s.toNat) ≤ a.toNat := Nat.div_le_self _ _
  rw [e, u32_nat (by omega)]
  have e2 : ((a.toNat : Nat) : Int) / 2 ^ s.toNat = ((a.toNat / 2 ^ s.toNat : Nat) : Int) := by
    rw [Int.natCast_ediv]; congr 1
  rw [e2, u32_nat (by omega)]
/-- (a >> n & 1) is the bit -/
theorem bit_and {a n : Int} (h : 0 ≤ a) (h0 : 0 ≤ n) (h1 : n < 32) : aAnd (aShr a n) 1 = if tb a n = true then 1 else 0 := by
  obtain ⟨w, rfl⟩ := Int.eq_ofNat_of_zero_le h
  have e1 : u32 (aShr (w : Int) n) = (w / 2 ^ n.toNat) % 4294967296 := by
    unfold aShr u32
    have e2 : ((w : Nat) : Int) / 2 ^ n.toNat = ((w / 2 ^ n.toNat : Nat) : Int) := by
      rw [Int.natCast_ediv]; congr 1
    rw [e2]
    omega
  have e3 : u32 (w : Int) = w % 4294967296 := by unfold u32; omega
  have e4 : tb (w : Int) n = decide (w / 2 ^ n.toNat % 2 = 1) := by
    unfold tb
    rw [e3, show (4294967296 : Nat) = 2 ^ 32 from rfl, Nat.testBit_mod_two_pow, Nat.testBit_eq_decide_div_mod_eq]
    simp [show n.toNat < 32 by omega]
  unfold aAnd
  rw [e1, e4, show u32 1 = 1 from rfl, Nat.and_one_is_mod]
  by_cases e : w / 2 ^ n.toNat % 2 = 1
  · have : (w / 2 ^ n.toNat) % 4294967296 % 2 = 1 := by omega
    simp [e, this, s32]
  · have : (w / 2 ^ n.toNat) % 4294967296 % 2 = 0 := by omega
    simp [e, this, s32]
theorem tb_shl_bit {c : Prop} [Decidable c] {n : Int} (h0 : 0 ≤ n) (h1 : n < 31) : aShl (if c then 1 else 0) n = if c then aShl 1 n else 0 := by
  by_cases hc : c
  · rw [if_pos hc, if_pos hc]
  · rw [if_neg hc, if_neg hc]
    unfold aShl
    rw [show u32 0 = 0 from rfl, Nat.zero_mul]
    rfl
theorem and_zero_iff {a b : Int} : aAnd a b = 0 ↔ ∀ i : Nat, i < 32 → (tb a i && tb b i) = false := by
  constructor
  · intro h i hi
    rw [← tb_and, h, tb_zero]
  · intro h
    refine tb_ext (aAnd_in _ _) InR0 fun i hi => ?_
    rw [tb_and, h i hi, tb_zero]
theorem tb_nat {a : Nat} (h : a < 4294967296) (i : Nat) : tb (a : Int) i = a.testBit i := by
  unfold tb
  rw [u32_nat h]
  simp
theorem pow_sub_one {n : Nat} (h : n ≤ 30) : aShl 1 n - 1 = bI n (fun _ => true) := by
  rw [one_shl (by omega) (by omega)]
  have hp : 0 < 2 ^ n := Nat.pow_pos (by omega)
  have hl : 2 ^ n ≤ 2 ^ 30 := Nat.pow_le_pow_right (n := 2) (by omega) h
  simp only [Int.toNat_natCast]
  have e : ((2 ^ n : Nat) : Int) - 1 = ((2 ^ n - 1 : Nat) : Int) := by omega
  rw [e]
  refine bI_of (by omega) (by unfold InR; omega) fun i hi => ?_
  rw [tb_nat (by omega), Nat.testBit_two_pow_sub_one]
  simp
