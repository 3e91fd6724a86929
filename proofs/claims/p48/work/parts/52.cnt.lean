/-- the bits of x below n, counted -/
def nbt (x : Nat) : Nat → Nat
  | 0 => 0
  | n + 1 => nbt x n + (if x.testBit n then 1 else 0)
theorem pop8_nbt : ∀ x : Fin 256, pop8 x.val = nbt x.val 8 := by decide +kernel
theorem nbt_shift (x k : Nat) : ∀ n, nbt x (k + n) = nbt x k + nbt (x >>> k) n := by
  intro n
  induction n with
  | zero => rfl
  | succ n ih =>
    show nbt x (k + n) + _ = nbt x k + (nbt (x >>> k) n + _)
    rw [ih, Nat.testBit_shiftRight, Nat.add_assoc]; rfl
theorem nbt_mod (x : Nat) : ∀ n, n ≤ 8 → nbt (x % 256) n = nbt x n := by
  intro n
  induction n with
  | zero => intro _; rfl
  | succ n ih =>
    intro h
    unfold nbt
    rw [ih (by omega), show x % 256 = x % 2 ^ 8 from rfl, Nat.testBit_mod_two_pow, decide_eq_true (show n < 8 by omega), Bool.true_and]
theorem nbt_byte (x : Nat) (n : Nat) : nbt x (8 + n) = pop8 (x % 256) + nbt (x / 256) n := by
  rw [nbt_shift x 8 n, pop8_nbt ⟨x % 256, Nat.mod_lt _ (by omega)⟩, nbt_mod x 8 (Nat.le_refl 8), Nat.shiftRight_eq_div_pow]
theorem pc64_nbt {x : Nat} (h : x < 1099511627776) : pc64 (x : Int) = (nbt x 40 : Nat) := by
  have e := pc64_40 (a := x % 256) (b := x / 256 % 256) (c := x / 65536 % 256) (d := x / 16777216 % 256) (e := x / 4294967296) (by omega) (by omega) (by omega) (by omega) (by omega)
  rw [show x % 256 + 256 * (x / 256 % 256 + 256 * (x / 65536 % 256 + 256 * (x / 16777216 % 256 + 256 * (x / 4294967296 + 256 * 0)))) = x by omega] at e
  rw [e, show (40 : Nat) = 8 + (8 + (8 + (8 + (8 + 0)))) from rfl, nbt_byte, nbt_byte, nbt_byte, nbt_byte, nbt_byte]
  have e1 : x / 256 / 256 = x / 65536 := by omega
  have e2 : x / 65536 / 256 = x / 16777216 := by omega
  have e3 : x / 16777216 / 256 = x / 4294967296 := by omega
  rw [e1, e2, e3, show x / 4294967296 % 256 = x / 4294967296 by omega]
  show _ = ((_ + (_ + (_ + (_ + (_ + 0)))) : Nat) : Int)
  omega
