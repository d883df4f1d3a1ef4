/-! numbers: ints of the machine as Int -/
def u32 (a : Int) : Nat := (a % 4294967296).toNat
def s32 (n : Nat) : Int := if n < 2147483648 then (n : Int) else (n : Int) - 4294967296
def aAnd (a b : Int) : Int := s32 (u32 a &&& u32 b)
def aOr (a b : Int) : Int := s32 (u32 a ||| u32 b)
def aXor (a b : Int) : Int := s32 (u32 a ^^^ u32 b)
def aShl (a s : Int) : Int := s32 (u32 a * 2 ^ s.toNat % 4294967296)
def aShr (a s : Int) : Int := a / 2 ^ s.toNat
def aUshr (a s : Int) : Int := s32 (u32 a / 2 ^ s.toNat)
def aMul (a b : Int) : Int := s32 (u32 (a * b))
theorem u32_lt (a : Int) : u32 a < 4294967296 := by unfold u32; omega
theorem s32_in {n : Nat} (h : n < 4294967296) : InR (s32 n) := by unfold s32 InR; split <;> omega
theorem u32_s32 {n : Nat} (h : n < 4294967296) : u32 (s32 n) = n := by unfold s32 u32; split <;> omega
theorem i32_bv (a : Int) : (Int32.ofInt a).toBitVec.toNat = u32 a := by
  rw [Int32.toBitVec_ofInt, BitVec.toNat_ofInt]
  rfl
theorem i32_eq {x : Int32} {n : Nat} (h : x.toBitVec.toNat = n) : Int32.ofInt (s32 n) = x := by
  apply Int32.toBitVec.inj
  apply BitVec.eq_of_toNat_eq
  rw [i32_bv, h]
  have := x.toBitVec.isLt
  exact u32_s32 (by omega)
theorem aAnd_in (a b : Int) : InR (aAnd a b) := s32_in (Nat.and_lt_two_pow (n := 32) _ (u32_lt b))
theorem aOr_in (a b : Int) : InR (aOr a b) := s32_in (Nat.or_lt_two_pow (n := 32) (u32_lt a) (u32_lt b))
theorem aXor_in (a b : Int) : InR (aXor a b) := s32_in (Nat.xor_lt_two_pow (n := 32) (u32_lt a) (u32_lt b))
theorem aShl_in (a s : Int) : InR (aShl a s) := s32_in (Nat.mod_lt _ (by omega))
theorem aUshr_in (a s : Int) : InR (aUshr a s) := s32_in (Nat.lt_of_le_of_lt (Nat.div_le_self _ _) (u32_lt a))
theorem aMul_in (a b : Int) : InR (aMul a b) := s32_in (u32_lt _)
theorem aShr_in {a s : Int} (h : InR a) : InR (aShr a s) := by
  unfold aShr InR at *
  have h0 : (0 : Int) < 2 ^ s.toNat := Int.pow_pos (by omega)
  refine ⟨?_, ?_⟩
  · rw [Int.le_ediv_iff_mul_le h0]
    have : (1 : Int) ≤ 2 ^ s.toNat := h0
    have : (-2147483648 : Int) * 2 ^ s.toNat ≤ -2147483648 * 1 := Int.mul_le_mul_of_nonpos_left (by omega) this
    omega
  · by_cases ha : 0 ≤ a
    · have := Int.ediv_le_self (2 ^ s.toNat) ha
      omega
    · have := Int.ediv_neg_of_neg_of_pos (show a < 0 by omega) h0
      omega
theorem aAnd_eq (a b : Int) : Int32.ofInt (aAnd a b) = Int32.ofInt a &&& Int32.ofInt b := i32_eq (by
  rw [Int32.toBitVec_and, BitVec.toNat_and, i32_bv, i32_bv])
theorem aOr_eq (a b : Int) : Int32.ofInt (aOr a b) = Int32.ofInt a ||| Int32.ofInt b := i32_eq (by
  rw [Int32.toBitVec_or, BitVec.toNat_or, i32_bv, i32_bv])
theorem aXor_eq (a b : Int) : Int32.ofInt (aXor a b) = Int32.ofInt a ^^^ Int32.ofInt b := i32_eq (by
  rw [Int32.toBitVec_xor, BitVec.toNat_xor, i32_bv, i32_bv])
theorem aMul_eq (a b : Int) : Int32.ofInt (aMul a b) = Int32.ofInt a * Int32.ofInt b := by
  rw [← Int32.ofInt_mul]
  exact i32_eq (i32_bv _)
theorem sh_k {s : Int} (h0 : 0 ≤ s) (h1 : s < 32) : ((Int32.ofInt s &&& 31).toBitVec.smod 32).toNat = s.toNat ∧ (((Int32.ofInt s).toUInt32 &&& Int32.toUInt32 31).toBitVec % 32).toNat = s.toNat := by
  have h : ∀ k : Fin 32, ((Int32.ofInt (k.val : Int) &&& 31).toBitVec.smod 32).toNat = k.val ∧ (((Int32.ofInt (k.val : Int)).toUInt32 &&& Int32.toUInt32 31).toBitVec % 32).toNat = k.val := by decide +kernel
  have h2 := h ⟨s.toNat, by omega⟩
  have e : ((s.toNat : Nat) : Int) = s := by omega
  simpa only [e] using h2
theorem aShl_eq {a s : Int} (h0 : 0 ≤ s) (h1 : s < 32) : Int32.ofInt (aShl a s) = Int32.ofInt a <<< (Int32.ofInt s &&& 31) := i32_eq (by
  rw [pk_shl _ _ s.toNat (sh_k h0 h1).1, i32_bv])
theorem aUshr_eq {a s : Int} (h0 : 0 ≤ s) (h1 : s < 32) : ((Int32.ofInt a).toUInt32 >>> ((Int32.ofInt s).toUInt32 &&& Int32.toUInt32 31)).toInt32 = Int32.ofInt (aUshr a s) := (i32_eq (by
  rw [pk_ushr _ _ s.toNat (sh_k h0 h1).2, i32_bv])).symm
theorem i32_to {a : Int} (h : InR a) : (Int32.ofInt a).toInt = a := Int32.toInt_ofInt_of_le (by unfold InR at h; omega) (by unfold InR at h; omega)
theorem aShr_eq {a s : Int} (ha : InR a) (h0 : 0 ≤ s) (h1 : s < 32) : Int32.ofInt (aShr a s) = Int32.ofInt a >>> (Int32.ofInt s &&& 31) := by
  apply Int32.toInt_inj.mp
  rw [i32_to (aShr_in ha), pk_shr _ _ s.toNat (sh_k h0 h1).1, i32_to ha]
  unfold aShr
  rw [Int.shiftRight_eq_div_pow]
  norm_cast
theorem i32_lt {a b : Int} (ha : InR a) (hb : InR b) : Int32.ofInt a < Int32.ofInt b ↔ a < b := by
  rw [Int32.lt_iff_toInt_lt, i32_to ha, i32_to hb]
theorem i32_le {a b : Int} (ha : InR a) (hb : InR b) : Int32.ofInt a ≤ Int32.ofInt b ↔ a ≤ b := by
  rw [Int32.le_iff_toInt_le, i32_to ha, i32_to hb]
theorem i32_e {a b : Int} (ha : InR a) (hb : InR b) : Int32.ofInt a = Int32.ofInt b ↔ a = b := by
  rw [← Int32.toInt_inj, i32_to ha, i32_to hb]
theorem InR0 : InR 0 := by unfold InR; omega
theorem i32_0 : Int32.ofInt 0 = 0 := by decide
theorem aDiv_eq {a b : Int} (ha : InR a) (hb : InR b) (h0 : 0 ≤ a) (h1 : 0 < b) : Int32.ofInt (a / b) = Int32.ofInt a / Int32.ofInt b := by
  apply Int32.toInt_inj.mp
  rw [Int32.toInt_div, i32_to ha, i32_to hb, Int.tdiv_eq_ediv_of_nonneg h0]
  have h2 : 0 ≤ a / b := Int.ediv_nonneg h0 (by omega)
  have h3 : a / b ≤ a := Int.ediv_le_self b h0
  have h4 : InR (a / b) := by unfold InR at *; omega
  rw [i32_to h4]
  have h5 := h4
  unfold InR at h5
  rw [Int.bmod_eq_of_le (by omega) (by omega)]
theorem aRem_eq {a b : Int} (ha : InR a) (hb : InR b) (h0 : 0 ≤ a) (h1 : 0 < b) : Int32.ofInt (a % b) = Int32.ofInt a - Int32.ofInt a / Int32.ofInt b * Int32.ofInt b := by
  rw [← aDiv_eq ha hb h0 h1, ← Int32.ofInt_mul, ← Int32.ofInt_sub]
  congr 1
  rw [Int.emod_def, Int.mul_comm]
def aI2b (a : Int) : Int := a.bmod 256
theorem aI2b_in (a : Int) : InR (aI2b a) := by
  unfold aI2b InR
  have h1 := Int.le_bmod (x := a) (m := 256) (by omega)
  have h2 := Int.bmod_lt (x := a) (m := 256) (by omega)
  omega
theorem aI2b_eq {a : Int} (ha : InR a) : (Int32.ofInt a).toInt8.toInt32 = Int32.ofInt (aI2b a) := by
  apply Int32.toInt_inj.mp
  rw [i32_to (aI2b_in a), Int8.toInt_toInt32, Int32.toInt_toInt8, i32_to ha]
  rfl
theorem i64_to {a : Int} (h : InR a) : (Int64.ofInt a).toInt = a := Int64.toInt_ofInt_of_le (by unfold InR at h; omega) (by unfold InR at h; omega)
theorem i64_of {a : Int} (h : InR a) : (Int32.ofInt a).toInt64 = Int64.ofInt a := by
  apply Int64.toInt_inj.mp
  rw [Int32.toInt_toInt64, i32_to h, i64_to h]
theorem i32_ix {a : Int} (h : InR a) (n : Nat) (h0 : 0 ≤ a) (h1 : a < n) : ¬ (Int32.ofInt a < 0 ∨ n ≤ (Int32.ofInt a).toNatClampNeg) := by
  have e : (Int32.ofInt a).toNatClampNeg = a.toNat := by
    show (Int32.ofInt a).toInt.toNat = a.toNat
    rw [i32_to h]
  rw [e, ← i32_0, i32_lt h InR0]
  omega
theorem i32_cl {a : Int} (h : InR a) : (Int32.ofInt a).toNatClampNeg = a.toNat := by
  show (Int32.ofInt a).toInt.toNat = a.toNat
  rw [i32_to h]
