/-! ===== BITS ===== -/
def B32 (s : Int) : BitVec 32 := (Int32.ofInt s).toBitVec
theorem B32_o {f : Int32 → Int32 → Int32} {x y : Int} : B32 (o32 f x y) = (f (Int32.ofInt x) (Int32.ofInt y)).toBitVec := by
  unfold B32 o32
  rw [Int32.ofInt_toInt]
theorem B32_and {x y : Int} : B32 (o32 fand x y) = B32 x &&& B32 y := B32_o
theorem B32_or {x y : Int} : B32 (o32 fior x y) = B32 x ||| B32 y := B32_o
theorem B32_xor {x y : Int} : B32 (o32 fxor x y) = B32 x ^^^ B32 y := B32_o
theorem sh_amt : ∀ y : Fin 32, ((Int32.ofInt (y.val : Int) &&& 31).toBitVec.smod 32) = BitVec.ofNat 32 y.val := by decide +kernel
theorem B32_shl {x : Int} {n : Nat} (h : n < 32) : B32 (o32 fshl x n) = B32 x <<< n := by
  rw [B32_o]
  show (Int32.ofInt x).toBitVec <<< ((Int32.ofInt (n : Int) &&& 31).toBitVec.smod 32) = _
  rw [sh_amt ⟨n, h⟩]
  show B32 x <<< (BitVec.ofNat 32 n) = _
  rw [BitVec.shiftLeft_eq', BitVec.toNat_ofNat, Nat.mod_eq_of_lt (by omega)]
theorem B32_shr {x : Int} {n : Nat} (h : n < 32) : B32 (o32 fshr x n) = (B32 x).sshiftRight n := by
  rw [B32_o]
  show (Int32.ofInt x).toBitVec.sshiftRight' ((Int32.ofInt (n : Int) &&& 31).toBitVec.smod 32) = _
  rw [sh_amt ⟨n, h⟩]
  show (B32 x).sshiftRight' (BitVec.ofNat 32 n) = _
  rw [BitVec.sshiftRight', BitVec.toNat_ofNat, Nat.mod_eq_of_lt (by omega)]
theorem B32_toInt {x : Int} (h : -2147483648 ≤ x ∧ x < 2147483648) : (B32 x).toInt = x := Int32.toInt_ofInt_of_le (by omega) (by omega)
theorem o32_toInt {f : Int32 → Int32 → Int32} {x y : Int} : (B32 (o32 f x y)).toInt = o32 f x y := B32_toInt o32_r
theorem B32_inj {x y : Int} (hx : -2147483648 ≤ x ∧ x < 2147483648) (hy : -2147483648 ≤ y ∧ y < 2147483648) (e : B32 x = B32 y) : x = y := by
  rw [← B32_toInt hx, e, B32_toInt hy]
theorem tb_iff {s : Int} {n : Nat} (h : n < 32) : tb s n = 1 ↔ (B32 s).getLsbD n = true := by
  have e : o32 fand (o32 fshr s n) 1 = 0 ↔ (B32 s).getLsbD n = false := by
    have e1 : o32 fand (o32 fshr s n) 1 = 0 ↔ B32 (o32 fand (o32 fshr s n) 1) = 0#32 :=
      ⟨fun q => by rw [q]; rfl, fun q => B32_inj o32_r (by omega) (by rw [q]; rfl)⟩
    rw [e1, B32_and, B32_shr h]
    have e2 : B32 1 = 1#32 := rfl
    rw [e2]
    constructor
    · intro q
      have := congrArg (fun b => BitVec.getLsbD b 0) q
      simpa [BitVec.getLsbD_sshiftRight, BitVec.getElem_sshiftRight, h] using this
    · intro q
      apply BitVec.eq_of_getLsbD_eq
      intro i hi
      rw [BitVec.getLsbD_and, BitVec.getLsbD_sshiftRight, BitVec.getLsbD_zero]
      rcases Nat.eq_zero_or_pos i with r | r
      · subst r; rw [BitVec.getLsbD_eq_getElem h] at q; simp [h, q]
      · have : (1#32).getLsbD i = false := by
          rw [BitVec.getLsbD_one]
          simp; omega
        rw [this, Bool.and_false]
  unfold tb
  split
  · rename_i q; rw [e] at q; rw [q]; simp
  · rename_i q; rw [e] at q; simp at q; rw [q]; simp
theorem tb_of {s n : Int} (h : 0 ≤ n ∧ n < 32) : tb s n = 1 ↔ (B32 s).getLsbD n.toNat = true := by
  have := tb_iff (s := s) (n := n.toNat) (by omega)
  rwa [show ((n.toNat : Nat) : Int) = n by omega] at this
theorem tb_or {a b n : Int} (h : 0 ≤ n ∧ n < 32) : tb (o32 fior a b) n = 1 ↔ tb a n = 1 ∨ tb b n = 1 := by
  rw [tb_of h, tb_of h, tb_of h, B32_or, BitVec.getLsbD_or, Bool.or_eq_true]
theorem tb_and {a b n : Int} (h : 0 ≤ n ∧ n < 32) : tb (o32 fand a b) n = 1 ↔ tb a n = 1 ∧ tb b n = 1 := by
  rw [tb_of h, tb_of h, tb_of h, B32_and, BitVec.getLsbD_and, Bool.and_eq_true]
theorem tb_xor {a b n : Int} (h : 0 ≤ n ∧ n < 32) : tb (o32 fxor a b) n = 1 ↔ (tb a n = 1 ↔ tb b n ≠ 1) := by
  rw [Ne, tb_of h, tb_of h, tb_of h, B32_xor, BitVec.getLsbD_xor]
  cases (B32 a).getLsbD n.toNat <;> cases (B32 b).getLsbD n.toNat <;> simp
theorem tb_one {k n : Int} (hk : 0 ≤ k ∧ k < 32) (h : 0 ≤ n ∧ n < 32) : tb (o32 fshl 1 k) n = 1 ↔ n = k := by
  have e := B32_shl (x := 1) (n := k.toNat) (by omega)
  rw [show ((k.toNat : Nat) : Int) = k by omega] at e
  rw [tb_of h, e, show B32 1 = 1#32 from rfl, BitVec.getLsbD_shiftLeft, BitVec.getLsbD_one]
  simp
  omega
theorem tb_zero {n : Int} (h : 0 ≤ n ∧ n < 32) : tb 0 n = 0 := by
  have e : B32 0 = 0#32 := rfl
  have := tb_of (s := 0) h
  rw [e, BitVec.getLsbD_zero] at this
  rcases tb01 (s := 0) (n := n) with q | q
  · exact q
  · rw [this] at q; cases q
theorem tb_m1 {n : Int} (h : 0 ≤ n ∧ n < 32) : tb (-1) n = 1 := by
  rw [tb_of h, show B32 (-1) = BitVec.allOnes 32 from rfl, BitVec.getLsbD_allOnes]
  simp; omega
theorem tb_ne {s n : Int} : tb s n ≠ 1 ↔ tb s n = 0 := by
  have := tb01 (s := s) (n := n)
  omega
theorem B32_nat {s : Int} (h : 0 ≤ s ∧ s < 2147483648) : (B32 s).toNat = s.toNat := by
  have h1 := B32_toInt (x := s) (by omega)
  have h2 := BitVec.toInt_eq_toNat_cond (B32 s)
  have h3 := (B32 s).isLt
  rw [h1] at h2
  split at h2 <;> omega
/-- what has no bit below 24 and lies below 2^24 is 0 -/
theorem tb_nil {s : Int} (h : 0 ≤ s ∧ s ≤ 16777215) (q : ∀ n : Int, 0 ≤ n → n < 24 → tb s n = 0) : s = 0 := by
  refine B32_inj (by omega) (by omega) ?_
  apply BitVec.eq_of_getLsbD_eq
  intro i hi
  rw [show B32 0 = 0#32 from rfl, BitVec.getLsbD_zero]
  rcases Nat.lt_or_ge i 24 with r | r
  · have := q i (by omega) (by omega)
    cases w : (B32 s).getLsbD i with
    | false => rfl
    | true =>
      rw [← tb_iff hi] at w
      omega
  · rw [BitVec.getLsbD, B32_nat (by omega)]
    apply Nat.testBit_lt_two_pow
    have : 2 ^ 24 ≤ 2 ^ i := Nat.pow_le_pow_right (by omega) r
    omega
/-- and what has bits below 24 alone lies below 2^24 -/
theorem tb_small {s : Int} (hs : -2147483648 ≤ s ∧ s < 2147483648) (q : ∀ n : Int, 24 ≤ n → n < 32 → tb s n = 0) : 0 ≤ s ∧ s ≤ 16777215 := by
  have hlt : (B32 s).toNat < 2 ^ 24 := by
    apply Nat.lt_pow_two_of_testBit
    intro i hi
    rcases Nat.lt_or_ge i 32 with r | r
    · have := q i (by omega) (by omega)
      cases w : (B32 s).toNat.testBit i with
      | false => rfl
      | true =>
        rw [← BitVec.getLsbD, ← tb_iff r] at w
        omega
    · exact BitVec.getLsbD_of_ge _ _ r
  have h1 := B32_toInt hs
  have h2 := BitVec.toInt_eq_toNat_cond (B32 s)
  rw [h1] at h2
  split at h2 <;> omega
