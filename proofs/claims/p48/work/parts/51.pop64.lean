/-! ===== HOW MANY BITS OF A LONG ===== -/
def B64 (s : Int) : BitVec 64 := (Int64.ofInt s).toBitVec
theorem B64_nat {x : Nat} (h : x < 9223372036854775808) : (B64 (x : Int)).toNat = x := by
  have h1 : (B64 (x : Int)).toInt = x := Int64.toInt_ofInt_of_le (by omega) (by omega)
  have h2 := BitVec.toInt_eq_toNat_cond (B64 (x : Int))
  have h3 := (B64 (x : Int)).isLt
  rw [h1] at h2
  split at h2 <;> omega
theorem i64_nn {v : Int64} {n : Nat} (e : v.toBitVec.toNat = n) (h : n < 9223372036854775808) : v.toInt = n := by
  have h1 := BitVec.toInt_eq_toNat_of_lt (x := v.toBitVec) (by omega)
  rw [e] at h1
  exact h1
theorem land_nn {x z : Int} {y w : Nat} (hx : x = (y : Int)) (hz : z = (w : Int)) (hy : y < 9223372036854775808) (hw : w < 9223372036854775808) : o64 gand x z = ((y &&& w : Nat) : Int) := by
  rw [hx, hz]
  refine i64_nn ?_ (Nat.lt_of_le_of_lt Nat.and_le_left hy)
  show (B64 (y : Int) &&& B64 (w : Int)).toNat = _
  rw [BitVec.toNat_and, B64_nat hy, B64_nat hw]
theorem lush_amt : ∀ y : Fin 64, (((Int32.ofInt (y.val : Int)).toInt64.toUInt64 &&& Int64.toUInt64 63).toBitVec.umod 64) = BitVec.ofNat 64 y.val := by decide +kernel
theorem lush_nn {x n : Nat} (hx : x < 9223372036854775808) (h : n < 64) : lushZ (x : Int) (n : Int) = ((x >>> n : Nat) : Int) := by
  refine i64_nn ?_ (Nat.lt_of_le_of_lt (shr_le _ _) hx)
  show (B64 (x : Int) >>> (((Int32.ofInt (n : Int)).toInt64.toUInt64 &&& Int64.toUInt64 63).toBitVec.umod 64)).toNat = _
  rw [lush_amt ⟨n, h⟩]
  show (B64 (x : Int) >>> (BitVec.ofNat 64 n)).toNat = _
  rw [BitVec.ushiftRight_eq', BitVec.toNat_ushiftRight, BitVec.toNat_ofNat, Nat.mod_eq_of_lt (by omega), B64_nat hx]
theorem lcA_n {y : Nat} (hy : y < 9223372036854775808) : lcA y = (nA y 6148914691236517205 : Nat) := by
  unfold lcA nA
  have e1 : lushZ (y : Int) 1 = ((y >>> 1 : Nat) : Int) := lush_nn (n := 1) hy (by omega)
  have e2 : o64 gand (lushZ (y : Int) 1) 6148914691236517205 = (((y >>> 1) &&& 6148914691236517205 : Nat) : Int) := land_nn (w := 6148914691236517205) e1 rfl (Nat.lt_of_le_of_lt (shr_le _ _) hy) (by omega)
  rw [e2]
  have := nA_le y 6148914691236517205
  omega
theorem lcB_n {y : Nat} (hy : y < 9223372036854775808) : lcB y = (nB y 3689348814741910323 : Nat) := by
  unfold lcB nB
  have e1 : lushZ (y : Int) 2 = ((y >>> 2 : Nat) : Int) := lush_nn (n := 2) hy (by omega)
  have e2 : o64 gand (lushZ (y : Int) 2) 3689348814741910323 = (((y >>> 2) &&& 3689348814741910323 : Nat) : Int) := land_nn (w := 3689348814741910323) e1 rfl (Nat.lt_of_le_of_lt (shr_le _ _) hy) (by omega)
  have e3 : o64 gand (y : Int) 3689348814741910323 = ((y &&& 3689348814741910323 : Nat) : Int) := land_nn (w := 3689348814741910323) rfl rfl hy (by omega)
  rw [e2, e3]
  omega
theorem lcC_n {y : Nat} (hy : y < 1152921504606846976) : lcC y = (nC8 y 1085102592571150095 : Nat) := by
  unfold lcC nC8
  have e1 : lushZ (y : Int) 4 = ((y >>> 4 : Nat) : Int) := lush_nn (n := 4) (by omega) (by omega)
  rw [e1]
  have := shr_le y 4
  exact land_nn (y := y + (y >>> 4)) (w := 1085102592571150095) (by omega) rfl (by omega) (by omega)
theorem and127_n {x : Nat} : o32 fand (x : Int) 127 = ((x % 128 : Nat) : Int) := by
  refine o32_nn ?_ (by omega)
  rw [B32_and, BitVec.toNat_and]
  have e : (B32 (x : Int)).toNat = x % 4294967296 := by
    show (BitVec.ofInt 32 (x : Int)).toNat = _
    rw [BitVec.toNat_ofInt]
    omega
  rw [e, show (B32 127).toNat = 2 ^ 7 - 1 from rfl, Nat.and_two_pow_sub_one_eq_mod]
  omega
theorem nA_0 (m : Nat) : nA 0 m = 0 := Nat.zero_sub _
theorem nB_0 (m : Nat) : nB 0 m = 0 := by unfold nB; rw [Nat.zero_shiftRight, Nat.zero_and]
theorem nC_0 (m : Nat) : nC8 0 m = 0 := by unfold nC8; rw [Nat.zero_shiftRight, Nat.zero_and]
set_option maxRecDepth 4000 in
theorem pc64_40 {a b c d e : Nat} (ha : a < 256) (hb : b < 256) (hc : c < 256) (hd : d < 256) (he : e < 256) : pc64 ((a + 256 * (b + 256 * (c + 256 * (d + 256 * (e + 256 * (0))))) : Nat) : Int) = (pop8 a + pop8 b + pop8 c + pop8 d + pop8 e : Nat) := by
  have ka := b_A ⟨a, ha⟩
  have qa := b_B ⟨a, ha⟩
  have pa := b_P ⟨a, ha⟩
  have kb := b_A ⟨b, hb⟩
  have qb := b_B ⟨b, hb⟩
  have pb := b_P ⟨b, hb⟩
  have kc := b_A ⟨c, hc⟩
  have qc := b_B ⟨c, hc⟩
  have pc := b_P ⟨c, hc⟩
  have kd := b_A ⟨d, hd⟩
  have qd := b_B ⟨d, hd⟩
  have pd := b_P ⟨d, hd⟩
  have ke := b_A ⟨e, he⟩
  have qe := b_B ⟨e, he⟩
  have pe := b_P ⟨e, he⟩
  dsimp only at ka qa pa kb qb pb kc qc pc kd qd pd ke qe pe
  have EA : nA (a + 256 * (b + 256 * (c + 256 * (d + 256 * (e + 256 * (0)))))) 6148914691236517205 = nA a 85 + 256 * (nA b 85 + 256 * (nA c 85 + 256 * (nA d 85 + 256 * (nA e 85 + 256 * (0))))) := by
    rw [show (6148914691236517205 : Nat) = 85 + 256 * (85 + 256 * (85 + 256 * (85 + 256 * (85 + 256 * (85 + 256 * (85 + 256 * (85))))))) from rfl, nA_lo ha, nA_lo hb, nA_lo hc, nA_lo hd, nA_lo he, nA_0]
  have EB : nB (nA a 85 + 256 * (nA b 85 + 256 * (nA c 85 + 256 * (nA d 85 + 256 * (nA e 85 + 256 * (0)))))) 3689348814741910323 = nB (nA a 85) 51 + 256 * (nB (nA b 85) 51 + 256 * (nB (nA c 85) 51 + 256 * (nB (nA d 85) 51 + 256 * (nB (nA e 85) 51 + 256 * (0))))) := by
    rw [show (3689348814741910323 : Nat) = 51 + 256 * (51 + 256 * (51 + 256 * (51 + 256 * (51 + 256 * (51 + 256 * (51 + 256 * (51))))))) from rfl, nB_lo ka, nB_lo kb, nB_lo kc, nB_lo kd, nB_lo ke, nB_0]
  have EC : nC8 (nB (nA a 85) 51 + 256 * (nB (nA b 85) 51 + 256 * (nB (nA c 85) 51 + 256 * (nB (nA d 85) 51 + 256 * (nB (nA e 85) 51 + 256 * (0)))))) 1085102592571150095 = pop8 a + 256 * (pop8 b + 256 * (pop8 c + 256 * (pop8 d + 256 * (pop8 e + 256 * (0))))) := by
    rw [show (1085102592571150095 : Nat) = 15 + 256 * (15 + 256 * (15 + 256 * (15 + 256 * (15 + 256 * (15 + 256 * (15 + 256 * (15))))))) from rfl, nC_lo qa.2.1 qa.2.2 (by omega), nC_lo qb.2.1 qb.2.2 (by omega), nC_lo qc.2.1 qc.2.2 (by omega), nC_lo qd.2.1 qd.2.2 (by omega), nC_lo qe.2.1 qe.2.2 (by omega), nC_0]; rfl
  unfold pc64
  rw [lcA_n (by omega), EA, lcB_n (by omega), EB, lcC_n (by omega), EC]
  generalize pop8 a = A at *
  generalize pop8 b = B at *
  generalize pop8 c = C at *
  generalize pop8 d = E at *
  generalize pop8 e = F at *
  obtain ⟨x1, e1⟩ : ∃ x : Nat, x = A + 256 * (B + 256 * (C + 256 * (E + 256 * (F + 256 * (0))))) := ⟨_, rfl⟩
  rw [← e1]
  have s1 : lushZ (x1 : Int) 8 = ((x1 >>> 8 : Nat) : Int) := lush_nn (n := 8) (by omega) (by omega)
  obtain ⟨x2, e2⟩ : ∃ x : Nat, x = x1 + x1 / 256 := ⟨_, rfl⟩
  have t1 : lcD (x1 : Int) = (x2 : Int) := by unfold lcD; rw [s1, Nat.shiftRight_eq_div_pow]; omega
  rw [t1]
  have s2 : lushZ (x2 : Int) 16 = ((x2 >>> 16 : Nat) : Int) := lush_nn (n := 16) (by omega) (by omega)
  obtain ⟨x3, e3⟩ : ∃ x : Nat, x = x2 + x2 / 65536 := ⟨_, rfl⟩
  have t2 : lcE (x2 : Int) = (x3 : Int) := by unfold lcE; rw [s2, Nat.shiftRight_eq_div_pow]; omega
  rw [t2]
  have s3 : lushZ (x3 : Int) 32 = ((x3 >>> 32 : Nat) : Int) := lush_nn (n := 32) (by omega) (by omega)
  obtain ⟨x4, e4⟩ : ∃ x : Nat, x = x3 + x3 / 4294967296 := ⟨_, rfl⟩
  have t3 : lcF (x3 : Int) = (x4 : Int) := by unfold lcF; rw [s3, Nat.shiftRight_eq_div_pow]; omega
  rw [t3]
  rw [and127_n]
  have f2 : x2 = (A + B) + 256 * (B + C) + 65536 * (C + E) + 16777216 * (E + F) + 4294967296 * F := by omega
  have g2 : x2 / 65536 = (C + E) + 256 * (E + F) + 65536 * F := by omega
  have f3 : x3 = (A + B + C + E) + 256 * (B + C + E + F) + 65536 * (C + E + F) + 16777216 * (E + F) + 4294967296 * F := by omega
  have g3 : x3 / 4294967296 = F := by omega
  have f4 : x4 = (A + B + C + E + F) + 256 * ((B + C + E + F) + 256 * (C + E + F) + 65536 * (E + F) + 16777216 * F) := by omega
  clear e1 e2 e3 e4 t1 t2 t3 s1 s2 s3 f2 f3 g2 g3
  have : x4 % 128 = A + B + C + E + F := by omega
  rw [this]
