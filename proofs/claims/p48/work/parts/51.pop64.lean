/-! ===== HOW MANY BITS OF A LONG ===== -/
def B64 (s : Int) : BitVec 64 := (Int64.ofInt s).toBitVec
theorem B64_nat {x : Nat} (h : x < 9223372036854775808) : (B64 (x : Int)).toNat = x := by
  have h1 : (B64 (x : Int)).toInt = x := Int64.toInt_ofInt_of_le (by omega) (by omega)
  have h2 := BitVec.toInt_eq_toNat_cond (B64 (x : Int))
  have h3 := (B64 (x : Int)).isLt
  rw [h1] at h2
  split at h2 <;> omega
theorem i64_nn {v : Int64} {n : Nat} (e : v.toBitVec.toNat = n) (h : n < 9223372036854775808) : v.toInt = n := by
  have h1 := BitVec.toInt_eq_toNat_of_lt (x := v.toBitVec) (by omega)
  rw [e] at h1
  exact h1
theorem land_nn {x z : Int} {y w : Nat} (hx : x = (y : Int)) (hz : z = (w : Int)) (hy : y < 9223372036854775808) (hw : w < 9223372036854775808) : o64 gand x z = ((y &&& w : Nat) : Int) := by
  rw [hx, hz]
  refine i64_nn ?_ (Nat.lt_of_le_of_lt Nat.and_le_left hy)
  show (B64 (y : Int) &&& B64 (w : Int)).toNat = _
  rw [BitVec.toNat_and, B64_nat hy, B64_nat hw]
theorem lush_amt : ∀ y : Fin 64, (((Int32.ofInt (y.val : Int)).toInt64.toUInt64 &&& Int64.toUInt64 63).toBitVec.umod 64) = BitVec.ofNat 64 y.val := by decide +kernel
theorem lush_nn {x n : Nat} (hx : x < 9223372036854775808) (h : n < 64) : lushZ (x : Int) (n : Int) = ((x >>> n : Nat) : Int) := by
  refine i64_nn ?_ (Nat.lt_of_le_of_lt (shr_le _ _) hx)
  show (B64 (x : Int) >>> (((Int32.ofInt (n : Int)).toInt64.toUInt64 &&& Int64.toUInt64 63).toBitVec.umod 64)).toNat = _
  rw [lush_amt ⟨n, h⟩]
  show (B64 (x : Int) >>> (BitVec.ofNat 64 n)).toNat = _
  rw [BitVec.ushiftRight_eq', BitVec.toNat_ushiftRight, BitVec.toNat_ofNat, Nat.mod_eq_of_lt (by omega), B64_nat hx]
theorem lcA_n {y : Nat} (hy : y < 9223372036854775808) : lcA y = (nA y 6148914691236517205 : Nat) := by
  unfold lcA nA
  have e1 : lushZ (y : Int) 1 = ((y >>> 1 : Nat) : Int) := lush_nn (n := 1) hy (by omega)
  have e2 : o64 gand (lushZ (y : Int) 1) 6148914691236517205 = (((y >>> 1) &&& 6148914691236517205 : Nat) : Int) := land_nn (w := 6148914691236517205) e1 rfl (Nat.lt_of_le_of_lt (shr_le _ _) hy) (by omega)
  rw [e2]
  have := nA_le y 6148914691236517205
  omega
theorem lcB_n {y : Nat} (hy : y < 9223372036854775808) : lcB y = (nB y 3689348814741910323 : Nat) := by
  unfold lcB nB
  have e1 : lushZ (y : Int) 2 = ((y >>> 2 : Nat) : Int) := lush_nn (n := 2) hy (by omega)
  have e2 : o64 gand (lushZ (y : Int) 2) 3689348814741910323 = (((y >>> 2) &&& 3689348814741910323 : Nat) : Int) := land_nn (w := 3689348814741910323) e1 rfl (Nat.lt_of_le_of_lt (shr_le _ _) hy) (by omega)
  have e3 : o64 gand (y : Int) 3689348814741910323 = ((y &&& 3689348814741910323 : Nat) : Int) := land_nn (w := 3689348814741910323) rfl rfl hy (by omega)
  rw [e2, e3]
  omega
theorem lcC_n {y : Nat} (hy : y < 1152921504606846976) : lcC y = (nC8 y 1085102592571150095 : Nat) := by
  unfold lcC nC8
  have e1 : lushZ (y : Int) 4 = ((y >>> 4 : Nat) : Int) := lush_nn (n := 4) (by omega) (by omega)
  rw [e1]
  have := shr_le y 4
  exact land_nn (y := y + (y >>> 4)) (w := 1085102592571150095) (by omega) rfl (by omega) (by omega)
