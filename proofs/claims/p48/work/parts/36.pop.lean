/-! ===== HOW MANY BITS ===== -/
theorem o32_nn {f : Int32 → Int32 → Int32} {x y : Int} {n : Nat} (e : (B32 (o32 f x y)).toNat = n) (h : n < 2147483648) : o32 f x y = n := by
  have h1 := BitVec.toInt_eq_toNat_of_lt (x := B32 (o32 f x y)) (by omega)
  rw [o32_toInt, e] at h1
  exact h1
theorem and_nn {x y : Nat} (hx : x < 2147483648) (hy : y < 2147483648) : o32 fand x y = ((x &&& y : Nat) : Int) := by
  refine o32_nn ?_ (Nat.lt_of_le_of_lt Nat.and_le_left hx)
  rw [B32_and, BitVec.toNat_and, B32_nat (by omega), B32_nat (by omega)]; rfl
theorem ush_amt : ∀ y : Fin 32, (((Int32.ofInt (y.val : Int)).toUInt32 &&& Int32.toUInt32 31).toBitVec.umod 32) = BitVec.ofNat 32 y.val := by decide +kernel
theorem ush_nn {x n : Nat} (hx : x < 2147483648) (h : n < 32) : o32 fush x n = ((x >>> n : Nat) : Int) := by
  refine o32_nn ?_ (Nat.lt_of_le_of_lt (by rw [Nat.shiftRight_eq_div_pow]; exact Nat.div_le_self _ _) hx)
  rw [B32_o]
  show ((Int32.ofInt (x : Int)).toBitVec >>> (((Int32.ofInt (n : Int)).toUInt32 &&& Int32.toUInt32 31).toBitVec.umod 32)).toNat = _
  rw [ush_amt ⟨n, h⟩]
  show (B32 x >>> (BitVec.ofNat 32 n)).toNat = _
  rw [BitVec.ushiftRight_eq', BitVec.toNat_ushiftRight, BitVec.toNat_ofNat, Nat.mod_eq_of_lt (by omega), B32_nat (by omega)]; rfl
/-- bytes: the low one apart -/
theorem land_lo {x y m M : Nat} (hx : x < 256) (hm : m < 256) : (x + 256 * y) &&& (m + 256 * M) = (x &&& m) + 256 * (y &&& M) := by
  apply Nat.eq_of_testBit_eq
  intro i
  have hxm : x &&& m < 256 := Nat.lt_of_le_of_lt Nat.and_le_left hx
  have t : ∀ {a b : Nat}, a < 256 → (a + 256 * b).testBit i = if i < 8 then a.testBit i else b.testBit (i - 8) := fun {a b} ha => by
    rw [Nat.add_comm, show 256 * b = 2 ^ 8 * b from rfl, Nat.testBit_two_pow_mul_add b ha i]
  rw [Nat.testBit_and, t hx, t hm, t hxm]
  split <;> rw [Nat.testBit_and]
theorem shl_lo {x y m M k : Nat} (hx : x < 256) (hm : m < 2 ^ (8 - k)) (hk : k ≤ 8) : ((x + 256 * y) >>> k) &&& (m + 256 * M) = ((x >>> k) &&& m) + 256 * ((y >>> k) &&& M) := by
  have h8 : (2 : Nat) ^ (8 - k) ≤ 256 := Nat.pow_le_pow_right (by omega) (Nat.sub_le 8 k)
  have hm8 : m < 256 := by omega
  apply Nat.eq_of_testBit_eq
  intro i
  have hxm : (x >>> k) &&& m < 256 := Nat.lt_of_le_of_lt Nat.and_le_right hm8
  have t : ∀ {a b j : Nat}, a < 256 → (a + 256 * b).testBit j = if j < 8 then a.testBit j else b.testBit (j - 8) := fun {a b j} ha => by
    rw [Nat.add_comm, show 256 * b = 2 ^ 8 * b from rfl, Nat.testBit_two_pow_mul_add b ha j]
  rw [Nat.testBit_and, Nat.testBit_shiftRight, t hx, t hm8, t hxm]
  by_cases q : i < 8
  · rw [if_pos q, if_pos q, Nat.testBit_and, Nat.testBit_shiftRight]
    by_cases r : k + i < 8
    · rw [if_pos r]
    · rw [if_neg r]
      have e : m.testBit i = false := Nat.testBit_lt_two_pow (Nat.lt_of_lt_of_le hm (Nat.pow_le_pow_right (by omega) (by omega)))
      rw [e, Bool.and_false, Bool.and_false]
  · rw [if_neg q, if_neg q, if_neg (by omega), Nat.testBit_and, Nat.testBit_shiftRight]
    rw [show k + i - 8 = k + (i - 8) by omega]
def nA (x m : Nat) : Nat := x - ((x >>> 1) &&& m)
def nB (x m : Nat) : Nat := (x &&& m) + ((x >>> 2) &&& m)
def nC8 (x m : Nat) : Nat := (x + (x >>> 4)) &&& m
/-- the bits of a byte -/
def pop8 (x : Nat) : Nat := nC8 (nB (nA x 85) 51) 15
theorem nA_le (x m : Nat) : (x >>> 1) &&& m ≤ x := Nat.le_trans Nat.and_le_left (by rw [Nat.shiftRight_eq_div_pow]; exact Nat.div_le_self _ _)
theorem nA_lo {x y M : Nat} (hx : x < 256) : nA (x + 256 * y) (85 + 256 * M) = nA x 85 + 256 * nA y M := by
  unfold nA
  rw [shl_lo hx (by decide) (by decide)]
  have := nA_le x 85
  have := nA_le y M
  omega
theorem b_A : ∀ x : Fin 256, nA x.val 85 < 256 := by decide +kernel
theorem b_B : ∀ x : Fin 256, nB (nA x.val 85) 51 < 256 ∧ nB (nA x.val 85) 51 % 16 ≤ 4 ∧ nB (nA x.val 85) 51 / 16 ≤ 4 := by decide +kernel
theorem b_P : ∀ x : Fin 256, pop8 x.val ≤ 8 ∧ (x.val ≠ 0 → 1 ≤ pop8 x.val) := by decide +kernel
theorem nB_lo {x y M : Nat} (hx : x < 256) : nB (x + 256 * y) (51 + 256 * M) = nB x 51 + 256 * nB y M := by
  unfold nB
  rw [shl_lo hx (by decide) (by decide), land_lo hx (by decide)]
  omega
theorem and15 (x : Nat) : x &&& 15 = x % 16 := Nat.and_two_pow_sub_one_eq_mod x 4
theorem and63n (x : Nat) : x &&& 63 = x % 64 := Nat.and_two_pow_sub_one_eq_mod x 6
theorem nC_lo {x y M : Nat} (h1 : x % 16 ≤ 4) (h2 : x / 16 ≤ 4) (h3 : y % 16 ≤ 4) : nC8 (x + 256 * y) (15 + 256 * M) = nC8 x 15 + 256 * nC8 y M := by
  unfold nC8
  rw [show (x + 256 * y) + ((x + 256 * y) >>> 4) = (x + x / 16 + 16 * (y % 16)) + 256 * (y + (y >>> 4)) by rw [Nat.shiftRight_eq_div_pow, Nat.shiftRight_eq_div_pow]; omega, land_lo (by omega) (by decide), and15, and15, Nat.shiftRight_eq_div_pow]
  have : (x + x / 16 + 16 * (y % 16)) % 16 = (x + x / 2 ^ 4) % 16 := by omega
  omega
theorem fush_nn {x : Int} {y n : Nat} (hx : x = (y : Int)) (hy : y < 2147483648) (h : n < 32) : o32 fush x (n : Nat) = ((y >>> n : Nat) : Int) := by rw [hx]; exact ush_nn hy h
theorem fand_nn {x z : Int} {y w : Nat} (hx : x = (y : Int)) (hz : z = (w : Int)) (hy : y < 2147483648) (hw : w < 2147483648) : o32 fand x z = ((y &&& w : Nat) : Int) := by rw [hx, hz]; exact and_nn hy hw
theorem shr_le (y n : Nat) : y >>> n ≤ y := by rw [Nat.shiftRight_eq_div_pow]; exact Nat.div_le_self _ _
theorem pcA_n {y : Nat} (hy : y < 2147483648) : pcA y = (nA y 1431655765 : Nat) := by
  unfold pcA nA
  have e1 : o32 fush (y : Int) 1 = ((y >>> 1 : Nat) : Int) := ush_nn (n := 1) hy (by omega)
  have e2 : o32 fand (o32 fush (y : Int) 1) 1431655765 = (((y >>> 1) &&& 1431655765 : Nat) : Int) := fand_nn (w := 1431655765) e1 rfl (Nat.lt_of_le_of_lt (shr_le _ _) hy) (by omega)
  rw [e2]
  have := nA_le y 1431655765
  omega
theorem nA_n (y m : Nat) : nA y m ≤ y := Nat.sub_le _ _
theorem pcB_n {y : Nat} (hy : y < 2147483648) : pcB y = (nB y 858993459 : Nat) := by
  unfold pcB nB
  have e1 : o32 fush (y : Int) 2 = ((y >>> 2 : Nat) : Int) := ush_nn (n := 2) hy (by omega)
  have e2 : o32 fand (o32 fush (y : Int) 2) 858993459 = (((y >>> 2) &&& 858993459 : Nat) : Int) := fand_nn (w := 858993459) e1 rfl (Nat.lt_of_le_of_lt (shr_le _ _) hy) (by omega)
  have e3 : o32 fand (y : Int) 858993459 = ((y &&& 858993459 : Nat) : Int) := fand_nn (w := 858993459) rfl rfl hy (by omega)
  rw [e2, e3]
  omega
theorem pcC_n {y : Nat} (hy : y < 1073741824) : pcC y = (nC8 y 252645135 : Nat) := by
  unfold pcC nC8
  have e1 : o32 fush (y : Int) 4 = ((y >>> 4 : Nat) : Int) := ush_nn (n := 4) (by omega) (by omega)
  rw [e1]
  have := shr_le y 4
  exact fand_nn (y := y + (y >>> 4)) (w := 252645135) (by omega) rfl (by omega) (by omega)
set_option maxRecDepth 4000 in
theorem pc32_24 {a b c : Nat} (ha : a < 256) (hb : b < 256) (hc : c < 256) : pc32 ((a + 256 * (b + 256 * (c + 256 * 0)) : Nat) : Int) = (pop8 a + pop8 b + pop8 c : Nat) := by
  have A : nA (a + 256 * (b + 256 * (c + 256 * 0))) 1431655765 = nA a 85 + 256 * (nA b 85 + 256 * (nA c 85 + 256 * 0)) := by
    rw [show (1431655765 : Nat) = 85 + 256 * (85 + 256 * (85 + 256 * 85)) from rfl, nA_lo ha, nA_lo hb, nA_lo hc]; rfl
  have ka := b_A ⟨a, ha⟩
  have kb := b_A ⟨b, hb⟩
  have kc := b_A ⟨c, hc⟩
  have qa := b_B ⟨a, ha⟩
  have qb := b_B ⟨b, hb⟩
  have qc := b_B ⟨c, hc⟩
  have pa := b_P ⟨a, ha⟩
  have pb := b_P ⟨b, hb⟩
  have pc := b_P ⟨c, hc⟩
  dsimp only at ka kb kc qa qb qc pa pb pc
  have Bb : nB (nA a 85 + 256 * (nA b 85 + 256 * (nA c 85 + 256 * 0))) 858993459 = nB (nA a 85) 51 + 256 * (nB (nA b 85) 51 + 256 * (nB (nA c 85) 51 + 256 * 0)) := by
    rw [show (858993459 : Nat) = 51 + 256 * (51 + 256 * (51 + 256 * 51)) from rfl, nB_lo ka, nB_lo kb, nB_lo kc]; rfl
  have Cc : nC8 (nB (nA a 85) 51 + 256 * (nB (nA b 85) 51 + 256 * (nB (nA c 85) 51 + 256 * 0))) 252645135 = pop8 a + 256 * (pop8 b + 256 * (pop8 c + 256 * 0)) := by
    rw [show (252645135 : Nat) = 15 + 256 * (15 + 256 * (15 + 256 * 15)) from rfl, nC_lo qa.2.1 qa.2.2 (by omega), nC_lo qb.2.1 qb.2.2 (by omega), nC_lo qc.2.1 qc.2.2 (by omega)]; rfl
  unfold pc32
  rw [pcA_n (by omega), A, pcB_n (by omega), Bb, pcC_n (by omega), Cc]
  have e8 : o32 fush ((pop8 a + 256 * (pop8 b + 256 * (pop8 c + 256 * 0)) : Nat) : Int) 8 = (((pop8 a + 256 * (pop8 b + 256 * (pop8 c + 256 * 0))) >>> 8 : Nat) : Int) := ush_nn (n := 8) (by omega) (by omega)
  have eD : pcD ((pop8 a + 256 * (pop8 b + 256 * (pop8 c + 256 * 0)) : Nat) : Int) = ((pop8 a + pop8 b) + 256 * (pop8 b + pop8 c) + 65536 * pop8 c : Nat) := by
    unfold pcD; rw [e8, Nat.shiftRight_eq_div_pow]; omega
  rw [eD]
  have e16 : o32 fush (((pop8 a + pop8 b) + 256 * (pop8 b + pop8 c) + 65536 * pop8 c : Nat) : Int) 16 = ((((pop8 a + pop8 b) + 256 * (pop8 b + pop8 c) + 65536 * pop8 c) >>> 16 : Nat) : Int) := ush_nn (n := 16) (by omega) (by omega)
  have eE : pcE (((pop8 a + pop8 b) + 256 * (pop8 b + pop8 c) + 65536 * pop8 c : Nat) : Int) = ((pop8 a + pop8 b + pop8 c) + 256 * (pop8 b + pop8 c) + 65536 * pop8 c : Nat) := by
    unfold pcE; rw [e16, Nat.shiftRight_eq_div_pow]; omega
  have e63 : o32 fand (((pop8 a + pop8 b + pop8 c) + 256 * (pop8 b + pop8 c) + 65536 * pop8 c : Nat) : Int) 63 = ((((pop8 a + pop8 b + pop8 c) + 256 * (pop8 b + pop8 c) + 65536 * pop8 c) &&& 63 : Nat) : Int) := fand_nn (w := 63) rfl rfl (by omega) (by omega)
  rw [eE, e63, and63n]
  omega
theorem pc32_pos {s : Int} (h : 0 < s ∧ s ≤ 16777215) : 1 ≤ pc32 s := by
  have e := pc32_24 (a := s.toNat % 256) (b := s.toNat / 256 % 256) (c := s.toNat / 65536) (by omega) (by omega) (by omega)
  rw [show s.toNat % 256 + 256 * (s.toNat / 256 % 256 + 256 * (s.toNat / 65536 + 256 * 0)) = s.toNat by omega, show ((s.toNat : Nat) : Int) = s by omega] at e
  rw [e]
  have pa := b_P ⟨s.toNat % 256, by omega⟩
  have pb := b_P ⟨s.toNat / 256 % 256, by omega⟩
  have pc := b_P ⟨s.toNat / 65536, by omega⟩
  dsimp only at pa pb pc
  omega
theorem pc32_zero : pc32 0 = 0 := by decide +kernel
