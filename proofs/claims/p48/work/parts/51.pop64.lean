/-! ===== HOW MANY BITS OF A LONG ===== -/
def B64 (s : Int) : BitVec 64 := (Int64.ofInt s).toBitVec
theorem B64_nat {x : Nat} (h : x < 9223372036854775808) : (B64 (x : Int)).toNat = x := by
  have h1 : (B64 (x : Int)).toInt = x := Int64.toInt_ofInt_of_le (by omega) (by omega)
  have h2 := BitVec.toInt_eq_toNat_cond (B64 (x : Int))
  have h3 := (B64 (x : Int)).isLt
  rw [h1] at h2
  split at h2 <;> omega
theorem i64_nn {v : Int64} {n : Nat} (e : v.toBitVec.toNat = n) (h : n < 9223372036854775808) : v.toInt = n := by
  have h1 := BitVec.toInt_eq_toNat_of_lt (x := v.toBitVec) (by omega)
  rw [e] at h1
  exact h1
theorem land_nn {x z : Int} {y w : Nat} (hx : x = (y : Int)) (hz : z = (w : Int)) (hy : y < 9223372036854775808) (hw : w < 9223372036854775808) : o64 gand x z = ((y &&& w : Nat) : Int) := by
  rw [hx, hz]
  refine i64_nn ?_ (Nat.lt_of_le_of_lt Nat.and_le_left hy)
  show (B64 (y : Int) &&& B64 (w : Int)).toNat = _
  rw [BitVec.toNat_and, B64_nat hy, B64_nat hw]
theorem lush_amt : ∀ y : Fin 64, (((Int32.ofInt (y.val : Int)).toInt64.toUInt64 &&& Int64.toUInt64 63).toBitVec.umod 64) = BitVec.ofNat 64 y.val := by decide +kernel
theorem lush_nn {x n : Nat} (hx : x < 9223372036854775808) (h : n < 64) : lushZ (x : Int) (n : Int) = ((x >>> n : Nat) : Int) := by
  refine i64_nn ?_ (Nat.lt_of_le_of_lt (shr_le _ _) hx)
  show (B64 (x : Int) >>> (((Int32.ofInt (n : Int)).toInt64.toUInt64 &&& Int64.toUInt64 63).toBitVec.umod 64)).toNat = _
  rw [lush_amt ⟨n, h⟩]
  show (B64 (x : Int) >>> (BitVec.ofNat 64 n)).toNat = _
  rw [BitVec.ushiftRight_eq', BitVec.toNat_ushiftRight, BitVec.toNat_ofNat, Nat.mod_eq_of_lt (by omega), B64_nat hx]
