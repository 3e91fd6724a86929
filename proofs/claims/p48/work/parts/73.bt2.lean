/-! ===== MORE OF BITS ===== -/
theorem bit_nat {b k : Nat} (hb : b < 2147483648) (hk : k < 32) : tb ((b : Nat) : Int) ((k : Nat) : Int) = if b.testBit k then 1 else 0 := by
  have e := tb_iff (s := ((b : Nat) : Int)) hk
  have e2 : (B32 ((b : Nat) : Int)).getLsbD k = b.testBit k := by
    rw [BitVec.getLsbD, B32_nat (by omega)]; rfl
  rw [e2] at e
  cases w : b.testBit k with
  | true => rw [w] at e; exact e.mpr rfl
  | false =>
    rw [w] at e
    rcases tb01 (s := ((b : Nat) : Int)) (n := ((k : Nat) : Int)) with q | q
    · exact q
    · have := e.mp q; cases this
theorem bit_int {b k : Int} (hb : 0 ≤ b ∧ b < 2147483648) (hk : 0 ≤ k ∧ k < 32) : tb b k = 1 ↔ b.toNat.testBit k.toNat = true := by
  have e := bit_nat (b := b.toNat) (k := k.toNat) (by omega) (by omega)
  rw [show ((b.toNat : Nat) : Int) = b by omega, show ((k.toNat : Nat) : Int) = k by omega] at e
  rw [e]
  cases b.toNat.testBit k.toNat <;> simp
theorem tb_hi {x n : Int} (hx : 0 ≤ x ∧ x ≤ 16777215) (hn : 24 ≤ n ∧ n < 32) : tb x n ≠ 1 := by
  rw [ne_eq, bit_int (by omega) (by omega)]
  rw [Nat.testBit_lt_two_pow]
  · simp
  · have : (2 : Nat) ^ 24 ≤ 2 ^ n.toNat := Nat.pow_le_pow_right (by omega) (by omega)
    omega
theorem and_rng {x y : Int} (hx : 0 ≤ x ∧ x ≤ 16777215) : 0 ≤ o32 fand x y ∧ o32 fand x y ≤ 16777215 :=
  tb_small o32_r (fun n h1 h2 => tb_ne.mp (fun q => tb_hi hx ⟨h1, h2⟩ ((tb_and (by omega)).mp q).1))
theorem or_rng {x y : Int} (hx : 0 ≤ x ∧ x ≤ 16777215) (hy : 0 ≤ y ∧ y ≤ 16777215) : 0 ≤ o32 fior x y ∧ o32 fior x y ≤ 16777215 :=
  tb_small o32_r (fun n h1 h2 => tb_ne.mp (fun q => ((tb_or (by omega)).mp q).elim (tb_hi hx ⟨h1, h2⟩) (tb_hi hy ⟨h1, h2⟩)))
theorem shl_rng {i : Int} (h : 0 ≤ i ∧ i < 24) : 0 ≤ o32 fshl 1 i ∧ o32 fshl 1 i ≤ 16777215 :=
  tb_small o32_r (fun n h1 h2 => tb_ne.mp (fun q => by have := (tb_one (by omega) (by omega)).mp q; omega))
theorem or_ii {x y : Int} (hx : 0 ≤ x ∧ x < 2147483648) (hy : 0 ≤ y ∧ y < 2147483648) : o32 fior x y = ((x.toNat ||| y.toNat : Nat) : Int) := by
  refine o32_nn ?_ (Nat.or_lt_two_pow (n := 31) (by omega) (by omega))
  rw [B32_or, BitVec.toNat_or, B32_nat hx, B32_nat hy]
theorem or_255 {x i : Int} (hx : 0 ≤ x ∧ x ≤ 255) (hi : 0 ≤ i ∧ i < 8) : 0 ≤ o32 fior x (o32 fshl 1 i) ∧ o32 fior x (o32 fshl 1 i) ≤ 255 := by
  have hs : 0 ≤ o32 fshl 1 i ∧ o32 fshl 1 i ≤ 128 := by
    rcases (show i = 0 ∨ i = 1 ∨ i = 2 ∨ i = 3 ∨ i = 4 ∨ i = 5 ∨ i = 6 ∨ i = 7 by omega) with rfl | rfl | rfl | rfl | rfl | rfl | rfl | rfl <;> decide +kernel
  rw [or_ii (by omega) (by omega)]
  have := Nat.or_lt_two_pow (x := x.toNat) (y := (o32 fshl 1 i).toNat) (n := 8) (by omega) (by omega)
  omega
theorem tb_z {s n : Int} (q : s = 0) (h : 0 ≤ n ∧ n < 32) : tb s n ≠ 1 := by rw [q, tb_zero h]; decide
/-- how many bits -/
theorem pc32_nbt {x : Nat} (h : x < 16777216) : pc32 (x : Int) = (nbt x 24 : Nat) := by
  have e : x = (x % 256) + 256 * ((x / 256 % 256) + 256 * ((x / 256 / 256 % 256) + 256 * 0)) := by omega
  have k := pc32_24 (a := x % 256) (b := x / 256 % 256) (c := x / 256 / 256 % 256) (by omega) (by omega) (by omega)
  rw [← e] at k
  rw [k, show 24 = 8 + (8 + 8) from rfl, nbt_byte, nbt_byte, show (8 : Nat) = 8 + 0 from rfl, nbt_byte]
  simp only [nbt]
  omega
theorem nbt_one {x : Nat} : ∀ n a, a < n → x.testBit a = true → 1 ≤ nbt x n := by
  intro n
  induction n with
  | zero => intro a ha; omega
  | succ n ih =>
    intro a ha t
    unfold nbt
    by_cases c : a = n
    · subst c; rw [t]; simp
    · have := ih a (by omega) t; omega
theorem nbt_two {x : Nat} : ∀ n a b, a < b → b < n → x.testBit a = true → x.testBit b = true → 2 ≤ nbt x n := by
  intro n
  induction n with
  | zero => intro a b _ hb; omega
  | succ n ih =>
    intro a b hab hb t u
    unfold nbt
    by_cases c : b = n
    · subst c; rw [u]
      have := nbt_one b a hab t
      simp; omega
    · have := ih a b hab (by omega) t u; omega
theorem pc32_two {x a b : Int} (hx : 0 ≤ x ∧ x ≤ 16777215) (ha : 0 ≤ a ∧ a < 24) (hb : 0 ≤ b ∧ b < 24) (n : a ≠ b) (t : tb x a = 1) (u : tb x b = 1) : pc32 x ≠ 1 := by
  rw [bit_int (by omega) (by omega)] at t u
  have e := pc32_nbt (x := x.toNat) (by omega)
  rw [show ((x.toNat : Nat) : Int) = x by omega] at e
  rw [e]
  rcases Nat.lt_or_ge a.toNat b.toNat with w | w
  · have := nbt_two 24 a.toNat b.toNat w (by omega) t u; omega
  · have := nbt_two 24 b.toNat a.toNat (by omega) (by omega) u t; omega
theorem C14 {D : Nat → Nat → Bool} {d : Nat} {h : Hp} {x : Int} {p : Nat} (P : Pc h p) (V : Vis D) : ∃ v : Int, (fun v : Int => -2147483648 ≤ v ∧ v < 2147483648) v ∧ PV D (d + 0) 14 [vR (some p), vI x] h (vI v) := by
  refine PE_of (fun Q hQ => ?_)
  refine x_ent en14 ?_
  have hw := P.wide
  have hh := P.high
  refine x_iconst d14_0 ?_
  refine x_nm (fun w1_1 ew1_1 => ?_)
  refine x_istore_n [some (vR _), some (vI _), some (vI _), none, none] d14_1 rfl ?_
  refine x_iconst d14_2 ?_
  refine x_nm (fun w3_2 ew3_2 => ?_)
  refine x_istore_n [some (vR _), some (vI _), some (vI _), some (vI _), none] d14_3 rfl ?_
  refine (x_ub (N := hI h p 2) (P := fun i3 => ∀ s3_2 : Int, (-2147483648 ≤ s3_2 ∧ s3_2 < 2147483648) → ∀ t3_4 : Option XV, wp D (d + 0) 14 4 [some (vR (some p)), some (vI x), some (vI s3_2), some (vI i3), t3_4] [] h Q) w3_2 (by omega) (fun i3 hi3 hj3 ih3 s3_2 hs3_2 t3_4 => ?_)) _ (by omega) _
  refine x_iload_n d14_4 rfl ?_
  refine x_aload_n d14_5 rfl ?_
  refine x_gfI d14_6 cl14 f4_38 (by decide) (Pc.ob P) (V.g (Pc.g P)) ?_
  have g4 := (Pc.high P)
  refine x_icge (t := 50) d14_9 rfl (by omega) (fun c9_5 => ?_) (fun c9_5 => ?_)
  · refine x_iload_n d14_50 rfl ?_
    exact x_iret d14_51 rt14 (hQ _ (by omega))
  · refine x_iconst d14_12 ?_
    refine x_nm (fun w13_6 ew13_6 => ?_)
    refine x_istore [some (vR _), some (vI _), some (vI _), some (vI _), some (vI _)] d14_13 rfl ?_
    refine (x_ub (N := hI h p 1) (P := fun i7 => ∀ s7_2 : Int, (-2147483648 ≤ s7_2 ∧ s7_2 < 2147483648) → wp D (d + 0) 14 15 [some (vR (some p)), some (vI x), some (vI s7_2), some (vI i3), some (vI i7)] [] h Q) w13_6 (by omega) (fun i7 hi7 hj7 ih7 s7_2 hs7_2 => ?_)) _ (by omega)
    refine x_iload d14_15 rfl ?_
    refine x_aload_n d14_17 rfl ?_
    refine x_gfI d14_18 cl14 f4_35 (by decide) (Pc.ob P) (V.g (Pc.g P)) ?_
    have g8 := (Pc.wide P)
    refine x_icge (t := 44) d14_21 rfl (by omega) (fun c21_9 => ?_) (fun c21_9 => ?_)
    · refine x_iinc [some (vR _), some (vI _), some (vI _), some (vI _), some (vI _)] d14_44 rfl rfl ?_
      refine x_goto (t := 4) d14_47 rfl ?_
      exact ih3 (by omega) _ (by omega) _
    · refine x_iload_n d14_24 rfl ?_
      refine x_iload_n d14_25 rfl ?_
      refine x_iload_n d14_26 rfl ?_
      refine x_aload_n d14_27 rfl ?_
      refine x_gfI d14_28 cl14 f4_65 (by decide) (Pc.ob P) (V.g (Pc.g P)) ?_
      have g10 := (Pc.plateWide P)
      refine x_imul d14_31 ?_
      refine x_iload d14_32 rfl ?_
      refine x_iadd d14_34 ?_
      refine x_ishrq d14_35 (fun q11 => ?_)
      refine x_iorq d14_36 (fun q12 => ?_)
      refine x_nm (fun w37_13 ew37_13 => ?_)
      refine x_istore_n [some (vR _), some (vI _), some (vI _), some (vI _), some (vI _)] d14_37 rfl ?_
      refine x_iinc [some (vR _), some (vI _), some (vI _), some (vI _), some (vI _)] d14_38 rfl rfl ?_
      refine x_goto (t := 15) d14_41 rfl ?_
      exact ih7 (by omega) _ (by omega)
theorem C16 {D : Nat → Nat → Bool} {d : Nat} {h : Hp} {x : Int} {p : Nat} (P : Pc h p) (V : Vis D) (qx : 0 ≤ x ∧ x < 24) : ∃ v : Int, (fun v : Int => (-2147483648 ≤ v ∧ v < 2147483648) ∧ tb v x = 1) v ∧ PV D (d + 0) 16 [vR (some p), vI x] h (vI v) := by
  refine PE_of (fun Q hQ => ?_)
  refine x_ent en16 ?_
  have hw := P.wide
  have hh := P.high
  refine x_iconst d16_0 ?_
  refine x_nm (fun w1_1 ew1_1 => ?_)
  refine x_istore_n [some (vR _), some (vI _), some (vI _), none, none] d16_1 rfl ?_
  refine x_iconst d16_2 ?_
  refine x_nm (fun w3_2 ew3_2 => ?_)
  refine x_istore_n [some (vR _), some (vI _), some (vI _), some (vI _), none] d16_3 rfl ?_
  refine (x_ub (N := hI h p 2) (P := fun i3 => ∀ s3_2 : Int, ((-2147483648 ≤ s3_2 ∧ s3_2 < 2147483648) ∧ (1 ≤ i3 → tb s3_2 x = 1)) → ∀ t3_4 : Option XV, wp D (d + 0) 16 4 [some (vR (some p)), some (vI x), some (vI s3_2), some (vI i3), t3_4] [] h Q) w3_2 (by omega) (fun i3 hi3 hj3 ih3 s3_2 hs3_2 t3_4 => ?_)) _ (by omega) _
  refine x_iload_n d16_4 rfl ?_
  refine x_aload_n d16_5 rfl ?_
  refine x_gfI d16_6 cl16 f4_38 (by decide) (Pc.ob P) (V.g (Pc.g P)) ?_
  have g4 := (Pc.high P)
  refine x_icge (t := 52) d16_9 rfl (by omega) (fun c9_5 => ?_) (fun c9_5 => ?_)
  · refine x_iload_n d16_52 rfl ?_
    exact x_iret d16_53 rt16 (hQ _ (by omega))
  · refine x_iconst d16_12 ?_
    refine x_nm (fun w13_6 ew13_6 => ?_)
    refine x_istore [some (vR _), some (vI _), some (vI _), some (vI _), some (vI _)] d16_13 rfl ?_
    refine (x_ub (N := hI h p 1) (P := fun i7 => ∀ s7_2 : Int, ((-2147483648 ≤ s7_2 ∧ s7_2 < 2147483648) ∧ (1 ≤ i3 ∨ 1 ≤ i7 → tb s7_2 x = 1)) → wp D (d + 0) 16 15 [some (vR (some p)), some (vI x), some (vI s7_2), some (vI i3), some (vI i7)] [] h Q) w13_6 (by omega) (fun i7 hi7 hj7 ih7 s7_2 hs7_2 => ?_)) _ (by omega)
    refine x_iload d16_15 rfl ?_
    refine x_aload_n d16_17 rfl ?_
    refine x_gfI d16_18 cl16 f4_35 (by decide) (Pc.ob P) (V.g (Pc.g P)) ?_
    have g8 := (Pc.wide P)
    refine x_icge (t := 46) d16_21 rfl (by omega) (fun c21_9 => ?_) (fun c21_9 => ?_)
    · refine x_iinc [some (vR _), some (vI _), some (vI _), some (vI _), some (vI _)] d16_46 rfl rfl ?_
      refine x_goto (t := 4) d16_49 rfl ?_
      exact ih3 (by omega) _ (by omega) _
    · refine x_iload_n d16_24 rfl ?_
      refine x_iconst d16_25 ?_
      refine x_iload_n d16_26 rfl ?_
      refine x_iload_n d16_27 rfl ?_
      refine x_aload_n d16_28 rfl ?_
      refine x_gfI d16_29 cl16 f4_65 (by decide) (Pc.ob P) (V.g (Pc.g P)) ?_
      have g10 := (Pc.plateWide P)
      refine x_imul d16_32 ?_
      refine x_iadd d16_33 ?_
      refine x_iload d16_34 rfl ?_
      refine x_iadd d16_36 ?_
      refine x_ishlq d16_37 (fun q11 => ?_)
      refine x_iorq d16_38 (fun q12 => ?_)
      refine x_nm (fun w39_13 ew39_13 => ?_)
      refine x_istore_n [some (vR _), some (vI _), some (vI _), some (vI _), some (vI _)] d16_39 rfl ?_
      have hin : tb w39_13 x = 1 := by
        rw [ew39_13]
        by_cases c9 : 1 ≤ i3 ∨ 1 ≤ i7
        · exact (tb_or (by omega)).mpr (Or.inl (hs7_2.2 c9))
        · have e1 : i3 = 0 := by omega
          have e2 : i7 = 0 := by omega
          rw [e1, e2, Int.zero_mul, Int.add_zero, Int.add_zero]
          exact (tb_or (by omega)).mpr (Or.inr ((tb_one (by omega) (by omega)).mpr rfl))
      refine x_iinc [some (vR _), some (vI _), some (vI _), some (vI _), some (vI _)] d16_40 rfl rfl ?_
      refine x_goto (t := 15) d16_43 rfl ?_
      exact ih7 (by omega) _ (by omega)
theorem C15 {D : Nat → Nat → Bool} {d : Nat} {h : Hp} {x : Int} {p : Nat} (P : Pc h p) (V : Vis D) : ∃ v : Int, (fun v : Int => (-2147483648 ≤ v ∧ v < 2147483648) ∧ ∀ c : Int, 0 ≤ c → c < 24 → tb v c ≠ 1 → ∃ y : Int, 0 ≤ y ∧ y < 24 ∧ tb x y = 1 ∧ y ≠ c) v ∧ PV D (d + 1) 15 [vR (some p), vI x] h (vI v) := by
  refine PE_of (fun Q hQ => ?_)
  refine x_ent en15 ?_
  refine x_iconst d15_0 ?_
  refine x_nm (fun w1_1 ew1_1 => ?_)
  refine x_istore_n [some (vR _), some (vI _), some (vI _), none] d15_1 rfl ?_
  refine x_iconst d15_2 ?_
  refine x_nm (fun w3_2 ew3_2 => ?_)
  refine x_istore_n [some (vR _), some (vI _), some (vI _), some (vI _)] d15_3 rfl ?_
  refine (x_ub (N := 24) (P := fun i3 => ∀ s3_2 : Int, ((-2147483648 ≤ s3_2 ∧ s3_2 < 2147483648) ∧ (∀ c : Int, 0 ≤ c → c < 24 → tb s3_2 c ≠ 1 → ∃ y : Int, 0 ≤ y ∧ y < i3 ∧ tb x y = 1 ∧ y ≠ c)) → wp D (d + 1) 15 4 [some (vR (some p)), some (vI x), some (vI s3_2), some (vI i3)] [] h Q) w3_2 (by omega) (fun i3 hi3 hj3 ih3 s3_2 hs3_2 => ?_)) _ (by subst_vars; exact ⟨by omega, fun c c1 c2 c3 => absurd (tb_m1 (by omega)) c3⟩)
  refine x_iload_n d15_4 rfl ?_
  refine x_bipush d15_5 (by decide) ?_
  refine x_icge (t := 36) d15_7 rfl (by omega) (fun c7_4 => ?_) (fun c7_4 => ?_)
  · have hend : (-2147483648 ≤ s3_2 ∧ s3_2 < 2147483648) ∧ ∀ c : Int, 0 ≤ c → c < 24 → tb s3_2 c ≠ 1 → ∃ y : Int, 0 ≤ y ∧ y < 24 ∧ tb x y = 1 ∧ y ≠ c := ⟨hs3_2.1, fun c c1 c2 c3 => by obtain ⟨y, y1, y2, y3⟩ := hs3_2.2 c c1 c2 c3; exact ⟨y, y1, by omega, y3⟩⟩
    refine x_iload_n d15_36 rfl ?_
    exact x_iret d15_37 rt15 (hQ _ hend)
  · refine x_iload_n d15_10 rfl ?_
    refine x_ifeq (t := 36) d15_11 rfl (by omega) (fun c11_5 => ?_) (fun c11_5 => ?_)
    · have hend : (-2147483648 ≤ s3_2 ∧ s3_2 < 2147483648) ∧ ∀ c : Int, 0 ≤ c → c < 24 → tb s3_2 c ≠ 1 → ∃ y : Int, 0 ≤ y ∧ y < 24 ∧ tb x y = 1 ∧ y ≠ c := ⟨hs3_2.1, fun c c1 c2 c3 => by obtain ⟨y, y1, y2, y3⟩ := hs3_2.2 c c1 c2 c3; exact ⟨y, y1, by omega, y3⟩⟩
      refine x_iload_n d15_36 rfl ?_
      exact x_iret d15_37 rt15 (hQ _ hend)
    · refine x_iload_n d15_14 rfl ?_
      refine x_iload_n d15_15 rfl ?_
      refine x_SE d15_16 cl15 m4_85 kd86 po86 le86 C86 (fun v6 r6 z6 => ?_)
      try dsimp only at r6
      refine x_ifeq (t := 30) d15_19 rfl (by omega) (fun c19_7 => ?_) (fun c19_7 => ?_)
      · have hin : (-2147483648 ≤ s3_2 ∧ s3_2 < 2147483648) ∧ (∀ c : Int, 0 ≤ c → c < 24 → tb s3_2 c ≠ 1 → ∃ y : Int, 0 ≤ y ∧ y < (i3 + 1) ∧ tb x y = 1 ∧ y ≠ c) := ⟨hs3_2.1, fun c c1 c2 c3 => by obtain ⟨y, y1, y2, y3⟩ := hs3_2.2 c c1 c2 c3; exact ⟨y, y1, by omega, y3⟩⟩
        refine x_iinc [some (vR _), some (vI _), some (vI _), some (vI _)] d15_30 rfl rfl ?_
        refine x_goto (t := 4) d15_33 rfl ?_
        exact ih3 (by omega) _ hin
      · refine x_iload_n d15_22 rfl ?_
        refine x_aload_n d15_23 rfl ?_
        refine x_iload_n d15_24 rfl ?_
        refine x_VE d15_25 cl15 m4_89 kd16 tg16 po16 le16 (by have := Pc.g P; omega) (Pc.ob P) (C16 P V (by omega)) (fun v8 r8 z8 => ?_)
        try dsimp only at r8
        refine x_iandq d15_28 (fun q9 => ?_)
        refine x_nm (fun w29_10 ew29_10 => ?_)
        refine x_istore_n [some (vR _), some (vI _), some (vI _), some (vI _)] d15_29 rfl ?_
        have hin : (-2147483648 ≤ w29_10 ∧ w29_10 < 2147483648) ∧ (∀ c : Int, 0 ≤ c → c < 24 → tb w29_10 c ≠ 1 → ∃ y : Int, 0 ≤ y ∧ y < (i3 + 1) ∧ tb x y = 1 ∧ y ≠ c) := by
          refine ⟨by omega, fun c c1 c2 c3 => ?_⟩
          by_cases c4 : tb s3_2 c = 1
          · have c5 : tb v8 c ≠ 1 := fun q => c3 (by rw [ew29_10]; exact (tb_and (by omega)).mpr ⟨c4, q⟩)
            exact ⟨i3, by omega, by omega, by omega, fun q => c5 (by rw [← q]; exact r8.2)⟩
          · obtain ⟨y, y1, y2, y3⟩ := hs3_2.2 c c1 c2 c4; exact ⟨y, y1, by omega, y3⟩
        refine x_iinc [some (vR _), some (vI _), some (vI _), some (vI _)] d15_30 rfl rfl ?_
        refine x_goto (t := 4) d15_33 rfl ?_
        exact ih3 (by omega) _ hin
