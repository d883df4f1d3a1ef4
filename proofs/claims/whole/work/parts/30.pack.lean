/-! a change as one number -/
theorem aShl_mul {a s : Int} (h0 : 0 ≤ a) (h : a * 2 ^ s.toNat ≤ 2147483647) : aShl a s = a * 2 ^ s.toNat := by
  obtain ⟨w, rfl⟩ := Int.eq_ofNat_of_zero_le h0
  have hp : (1 : Int) ≤ 2 ^ s.toNat := Int.pow_pos (by omega)
  have e : (w : Int) * 2 ^ s.toNat = ((w * 2 ^ s.toNat : Nat) : Int) := by
    rw [Int.natCast_mul]; congr 1
  have hw : (w : Int) ≤ w * 2 ^ s.toNat := by
    have := Int.mul_le_mul_of_nonneg_left hp (show (0 : Int) ≤ w by omega)
    omega
  rw [e] at h hw
  unfold aShl
  rw [u32_nat (by omega), e, Nat.mod_eq_of_lt (by omega), s32_nat (by omega)]
theorem aOr_add {a b : Int} {k : Nat} (h0 : 0 ≤ a) (h1 : 0 ≤ b) (h2 : b < 2 ^ k) (h3 : a * 2 ^ k + b ≤ 2147483647) : aOr (a * 2 ^ k) b = a * 2 ^ k + b := by
  obtain ⟨w, rfl⟩ := Int.eq_ofNat_of_zero_le h0
  obtain ⟨v, rfl⟩ := Int.eq_ofNat_of_zero_le h1
  have e : (w : Int) * 2 ^ k = ((2 ^ k * w : Nat) : Int) := by
    rw [Int.natCast_mul, Int.mul_comm]; congr 1
  have hv : v < 2 ^ k := by exact_mod_cast h2
  rw [e] at h3 ⊢
  unfold aOr
  rw [u32_nat (by omega), u32_nat (by omega), ← Nat.two_pow_add_eq_or_of_lt hv, s32_nat (by omega)]
  omega
theorem aAnd_mask {a : Int} {k : Nat} (h0 : 0 ≤ a) (h1 : a ≤ 2147483647) (hk : k ≤ 30) : aAnd a ((2 ^ k - 1 : Nat) : Int) = a % 2 ^ k := by
  obtain ⟨w, rfl⟩ := Int.eq_ofNat_of_zero_le h0
  have hl : 2 ^ k ≤ 2 ^ 30 := Nat.pow_le_pow_right (n := 2) (by omega) hk
  have hp : 0 < 2 ^ k := Nat.pow_pos (by omega)
  unfold aAnd
  rw [u32_nat (by omega), u32_nat (by omega), Nat.and_two_pow_sub_one_eq_mod]
  have := Nat.mod_lt w hp
  rw [s32_nat (by omega), Int.natCast_emod]
  congr 1
def pkF (day kind who what oth is : Int) : Int := aOr (aOr (aOr (aOr (aOr (aShl day 15) (aShl kind 13)) (aShl who 9)) (aShl what 5)) (aShl oth 1)) is
def pkN (day kind who what oth is : Int) : Int := day * 32768 + kind * 8192 + who * 512 + what * 32 + oth * 2 + is
theorem pkF_eq {day kind who what oth is : Int} (h1 : 0 ≤ day ∧ day ≤ 999) (h2 : 0 ≤ kind ∧ kind ≤ 2) (h3 : 0 ≤ who ∧ who < 12) (h4 : 0 ≤ what ∧ what < 10) (h5 : 0 ≤ oth ∧ oth < 12) (h6 : is = 0 ∨ is = 1) : pkF day kind who what oth is = pkN day kind who what oth is := by
  unfold pkF pkN
  rw [aShl_mul (s := 15) h1.1 (by simp; omega), aShl_mul (s := 13) h2.1 (by simp; omega), aShl_mul (s := 9) h3.1 (by simp; omega), aShl_mul (s := 5) h4.1 (by simp; omega), aShl_mul (s := 1) h5.1 (by simp; omega)]
  simp only [show (15 : Int).toNat = 15 from rfl, show (13 : Int).toNat = 13 from rfl, show (9 : Int).toNat = 9 from rfl, show (5 : Int).toNat = 5 from rfl, show (1 : Int).toNat = 1 from rfl]
  rw [aOr_add (k := 15) h1.1 (by omega) (by omega) (by omega)]
  rw [show day * 2 ^ 15 + kind * 2 ^ 13 = (day * 4 + kind) * 2 ^ 13 by omega, aOr_add (k := 13) (by omega) (by omega) (by omega) (by omega)]
  rw [show (day * 4 + kind) * 2 ^ 13 + who * 2 ^ 9 = (day * 64 + kind * 16 + who) * 2 ^ 9 by omega, aOr_add (k := 9) (by omega) (by omega) (by omega) (by omega)]
  rw [show (day * 64 + kind * 16 + who) * 2 ^ 9 + what * 2 ^ 5 = (day * 1024 + kind * 256 + who * 16 + what) * 2 ^ 5 by omega, aOr_add (k := 5) (by omega) (by omega) (by omega) (by omega)]
  rw [show (day * 1024 + kind * 256 + who * 16 + what) * 2 ^ 5 + oth * 2 ^ 1 = (day * 16384 + kind * 4096 + who * 256 + what * 16 + oth) * 2 ^ 1 by omega, aOr_add (k := 1) (by omega) (by omega) (by omega) (by omega)]
  omega
theorem pkN_day {day kind who what oth is : Int} (h1 : 0 ≤ day ∧ day ≤ 999) (h2 : 0 ≤ kind ∧ kind ≤ 2) (h3 : 0 ≤ who ∧ who < 12) (h4 : 0 ≤ what ∧ what < 10) (h5 : 0 ≤ oth ∧ oth < 12) (h6 : is = 0 ∨ is = 1) : aShr (pkN day kind who what oth is) 15 = day ∧ aAnd (aShr (pkN day kind who what oth is) 13) 3 = kind ∧ aAnd (aShr (pkN day kind who what oth is) 9) 15 = who ∧ aAnd (aShr (pkN day kind who what oth is) 5) 15 = what ∧ aAnd (aShr (pkN day kind who what oth is) 1) 15 = oth ∧ aAnd (pkN day kind who what oth is) 1 = is := by
  unfold aShr pkN
  simp only [show (15 : Int).toNat = 15 from rfl, show (13 : Int).toNat = 13 from rfl, show (9 : Int).toNat = 9 from rfl, show (5 : Int).toNat = 5 from rfl, show (1 : Int).toNat = 1 from rfl]
  have m3 : ∀ a : Int, 0 ≤ a → a ≤ 2147483647 → aAnd a 3 = a % 4 := fun a x y => aAnd_mask (k := 2) x y (by omega)
  have m15 : ∀ a : Int, 0 ≤ a → a ≤ 2147483647 → aAnd a 15 = a % 16 := fun a x y => aAnd_mask (k := 4) x y (by omega)
  have m1 : ∀ a : Int, 0 ≤ a → a ≤ 2147483647 → aAnd a 1 = a % 2 := fun a x y => aAnd_mask (k := 1) x y (by omega)
  refine ⟨by omega, ?_, ?_, ?_, ?_, ?_⟩
  · rw [m3 _ (by omega) (by omega)]; omega
  · rw [m15 _ (by omega) (by omega)]; omega
  · rw [m15 _ (by omega) (by omega)]; omega
  · rw [m15 _ (by omega) (by omega)]; omega
  · rw [m1 _ (by omega) (by omega)]; omega
