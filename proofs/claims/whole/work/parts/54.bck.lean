/-! Integer.bitCount -/
def bc1 (x : Nat) : Nat := x - ((x / 2) &&& 1431655765)
def bc2 (v : Nat) : Nat := (v &&& 858993459) + ((v / 4) &&& 858993459)
def bc3 (v : Nat) : Nat := (v + v / 16) &&& 252645135
def bc4 (v : Nat) : Nat := v + v / 256
def bc5 (v : Nat) : Nat := v + v / 65536
def bcN (x : Nat) : Nat := bc5 (bc4 (bc3 (bc2 (bc1 x)))) &&& 63
def pcR : Nat → Nat → Nat
  | 0, _ => 0
  | n + 1, x => x % 2 + pcR n (x / 2)
theorem pcR_eq : ∀ n x, pcR n x = cnt (fun i => x.testBit i) n := by
  intro n
  induction n with
  | zero => intro x; rfl
  | succ n ih =>
    intro x
    rw [cnt_low]
    unfold pcR
    rw [ih]
    simp only [Nat.testBit_add_one, Nat.testBit_zero]
    by_cases c : x % 2 = 1
    · simp [c]
    · simp [c, show x % 2 = 0 by omega]
def bck : Nat → Nat → Nat → Bool
  | 0, x, m => Nat.beq (bcN x) m && Nat.ble (bc1 x) 2000000000 && Nat.ble (bc2 (bc1 x)) 1000000000
  | n + 1, x, m => bck n x m && bck n (x + 2 ^ n) (m + 1)
set_option maxRecDepth 100000 in
theorem bck16 : bck 16 0 0 = true := by decide +kernel
