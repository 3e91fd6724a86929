theorem nat_903 {D : Nat → Nat → Bool} {h : Hp} {x y : Int} (q : (-2147483648 ≤ x ∧ x < 2147483648) ∧ (-2147483648 ≤ y ∧ y < 2147483648)) : nat D 903 [vI x, vI y] h = some (some (vI (if y < x then y else x)), h) := if_pos ⟨r32_i q.1, r32_i q.2⟩
theorem nat_904 {D : Nat → Nat → Bool} {h : Hp} {x y : Int} (q : (-2147483648 ≤ x ∧ x < 2147483648) ∧ (-2147483648 ≤ y ∧ y < 2147483648)) : nat D 904 [vI x, vI y] h = some (some (vI (if x < y then y else x)), h) := if_pos ⟨r32_i q.1, r32_i q.2⟩
theorem nat_905 {D : Nat → Nat → Bool} {h : Hp} {x : Int} (q : -2147483648 ≤ x ∧ x < 2147483648) : nat D 905 [vI x] h = some (some (vI (if 0 ≤ x then x else 0 - x)), h) := if_pos (r32_i q)
theorem C83 {D : Nat → Nat → Bool} {d : Nat} {h : Hp} {x a b : Int} (qx : -2147483648 ≤ x ∧ x < 2147483648) (qa : -2147483648 ≤ a ∧ a < 2147483648) (qb : -2147483648 ≤ b ∧ b < 2147483648) : ∃ v : Int, (fun v : Int => (v = 0 ∨ v = 1) ∧ (v = 1 ↔ a ≤ x ∧ x ≤ b)) v ∧ PV D (d + 0) 83 [vI x, vI a, vI b] h (vI v) := by
  refine PE_of (fun Q hQ => ?_)
  refine x_ent en83 ?_
  refine x_iload_n d83_0 rfl ?_
  refine x_iload_n d83_1 rfl ?_
  refine x_iclt (t := 14) d83_2 rfl (by omega) (fun c2_1 => ?_) (fun c2_1 => ?_)
  · refine x_iconst d83_14 ?_
    exact x_zret d83_15 rt83 (by omega) (hQ _ (by omega))
  · refine x_iload_n d83_5 rfl ?_
    refine x_iload_n d83_6 rfl ?_
    refine x_icgt (t := 14) d83_7 rfl (by omega) (fun c7_2 => ?_) (fun c7_2 => ?_)
    · refine x_iconst d83_14 ?_
      exact x_zret d83_15 rt83 (by omega) (hQ _ (by omega))
    · refine x_iconst d83_10 ?_
      refine x_goto (t := 15) d83_11 rfl ?_
      exact x_zret d83_15 rt83 (by omega) (hQ _ (by omega))
theorem C90 {D : Nat → Nat → Bool} {d : Nat} {h : Hp} {x : Int} (qx : -2147483648 ≤ x ∧ x < 2147483648) : ∃ v : Int, (fun v : Int => (v = 0 ∨ v = 1) ∧ (v = 1 ↔ 0 ≤ x ∧ x ≤ 999)) v ∧ PV D (d + 1) 90 [vI x] h (vI v) := by
  refine PE_of (fun Q hQ => ?_)
  refine x_ent en90 ?_
  refine x_iload_n d90_0 rfl ?_
  refine x_iconst d90_1 ?_
  refine x_sipush d90_2 (by decide) ?_
  refine x_SE d90_5 cl90 m11_84 kd83 po83 le83 (C83 (by omega) (by omega) (by omega)) (fun v1 r1 z1 => ?_)
  try dsimp only at r1
  exact x_zret d90_8 rt90 (by omega) (hQ _ (by omega))
theorem C93 {D : Nat → Nat → Bool} {d : Nat} {h : Hp} {x : Int} (qx : -2147483648 ≤ x ∧ x < 2147483648) : ∃ v : Int, (fun v : Int => (v = 0 ∨ v = 1) ∧ (v = 1 ↔ 0 ≤ x ∧ x ≤ 5)) v ∧ PV D (d + 1) 93 [vI x] h (vI v) := by
  refine PE_of (fun Q hQ => ?_)
  refine x_ent en93 ?_
  refine x_iload_n d93_0 rfl ?_
  refine x_iconst d93_1 ?_
  refine x_iconst d93_2 ?_
  refine x_SE d93_3 cl93 m11_84 kd83 po83 le83 (C83 (by omega) (by omega) (by omega)) (fun v1 r1 z1 => ?_)
  try dsimp only at r1
  exact x_zret d93_6 rt93 (by omega) (hQ _ (by omega))
theorem C97 {D : Nat → Nat → Bool} {d : Nat} {h : Hp} {x : Int} (qx : -2147483648 ≤ x ∧ x < 2147483648) : ∃ v : Int, (fun v : Int => (v = 0 ∨ v = 1) ∧ (v = 1 ↔ 0 ≤ x ∧ x ≤ 5)) v ∧ PV D (d + 1) 97 [vI x] h (vI v) := by
  refine PE_of (fun Q hQ => ?_)
  refine x_ent en97 ?_
  refine x_iload_n d97_0 rfl ?_
  refine x_iconst d97_1 ?_
  refine x_iconst d97_2 ?_
  refine x_SE d97_3 cl97 m11_84 kd83 po83 le83 (C83 (by omega) (by omega) (by omega)) (fun v1 r1 z1 => ?_)
  try dsimp only at r1
  exact x_zret d97_6 rt97 (by omega) (hQ _ (by omega))
theorem C101 {D : Nat → Nat → Bool} {d : Nat} {h : Hp} {x : Int} (qx : -2147483648 ≤ x ∧ x < 2147483648) : ∃ v : Int, (fun v : Int => (v = 0 ∨ v = 1) ∧ (v = 1 ↔ 0 ≤ x ∧ x ≤ 7)) v ∧ PV D (d + 1) 101 [vI x] h (vI v) := by
  refine PE_of (fun Q hQ => ?_)
  refine x_ent en101 ?_
  refine x_iload_n d101_0 rfl ?_
  refine x_iconst d101_1 ?_
  refine x_bipush d101_2 (by decide) ?_
  refine x_SE d101_4 cl101 m11_84 kd83 po83 le83 (C83 (by omega) (by omega) (by omega)) (fun v1 r1 z1 => ?_)
  try dsimp only at r1
  exact x_zret d101_7 rt101 (by omega) (hQ _ (by omega))
theorem C115 {D : Nat → Nat → Bool} {d : Nat} {h : Hp} {x : Int} (qx : -2147483648 ≤ x ∧ x < 2147483648) : ∃ v : Int, (fun v : Int => (v = 0 ∨ v = 1) ∧ (v = 1 ↔ 0 ≤ x ∧ x ≤ 4)) v ∧ PV D (d + 1) 115 [vI x] h (vI v) := by
  refine PE_of (fun Q hQ => ?_)
  refine x_ent en115 ?_
  refine x_iload_n d115_0 rfl ?_
  refine x_iconst d115_1 ?_
  refine x_iconst d115_2 ?_
  refine x_SE d115_3 cl115 m11_84 kd83 po83 le83 (C83 (by omega) (by omega) (by omega)) (fun v1 r1 z1 => ?_)
  try dsimp only at r1
  exact x_zret d115_6 rt115 (by omega) (hQ _ (by omega))
theorem C96 {D : Nat → Nat → Bool} {d : Nat} {h : Hp} {x y : Int} (qx : -2147483648 ≤ x ∧ x < 2147483648) (qy : -2147483648 ≤ y ∧ y < 2147483648) : ∃ v : Int, (fun v : Int => (v = 0 ∨ v = 1) ∧ (v = 1 ↔ (1 ≤ x ∧ x ≤ 3) ∧ 1 ≤ y ∧ y ≤ 3)) v ∧ PV D (d + 1) 96 [vI x, vI y] h (vI v) := by
  refine PE_of (fun Q hQ => ?_)
  refine x_ent en96 ?_
  refine x_iload_n d96_0 rfl ?_
  refine x_iconst d96_1 ?_
  refine x_iconst d96_2 ?_
  refine x_SE d96_3 cl96 m11_84 kd83 po83 le83 (C83 (by omega) (by omega) (by omega)) (fun v1 r1 z1 => ?_)
  try dsimp only at r1
  refine x_ifeq (t := 22) d96_6 rfl (by omega) (fun c6_2 => ?_) (fun c6_2 => ?_)
  · refine x_iconst d96_22 ?_
    exact x_zret d96_23 rt96 (by omega) (hQ _ (by omega))
  · refine x_iload_n d96_9 rfl ?_
    refine x_iconst d96_10 ?_
    refine x_iconst d96_11 ?_
    refine x_SE d96_12 cl96 m11_84 kd83 po83 le83 (C83 (by omega) (by omega) (by omega)) (fun v3 r3 z3 => ?_)
    try dsimp only at r3
    refine x_ifeq (t := 22) d96_15 rfl (by omega) (fun c15_4 => ?_) (fun c15_4 => ?_)
    · refine x_iconst d96_22 ?_
      exact x_zret d96_23 rt96 (by omega) (hQ _ (by omega))
    · refine x_iconst d96_18 ?_
      refine x_goto (t := 23) d96_19 rfl ?_
      exact x_zret d96_23 rt96 (by omega) (hQ _ (by omega))
theorem C120 {D : Nat → Nat → Bool} {d : Nat} {h : Hp} {x y w : Int} (qx : -2147483648 ≤ x ∧ x < 2147483648) (qy : -2147483648 ≤ y ∧ y < 2147483648) (qw : -2147483648 ≤ w ∧ w < 2147483648) : ∃ v : Int, (fun v : Int => (v = 0 ∨ v = 1) ∧ (v = 1 ↔ (0 ≤ x ∧ x ≤ 99) ∧ (0 ≤ y ∧ y ≤ 99) ∧ 0 ≤ w ∧ w ≤ 99)) v ∧ PV D (d + 1) 120 [vI x, vI y, vI w] h (vI v) := by
  refine PE_of (fun Q hQ => ?_)
  refine x_ent en120 ?_
  refine x_iload_n d120_0 rfl ?_
  refine x_iconst d120_1 ?_
  refine x_bipush d120_2 (by decide) ?_
  refine x_SE d120_4 cl120 m11_84 kd83 po83 le83 (C83 (by omega) (by omega) (by omega)) (fun v1 r1 z1 => ?_)
  try dsimp only at r1
  refine x_ifeq (t := 34) d120_7 rfl (by omega) (fun c7_2 => ?_) (fun c7_2 => ?_)
  · refine x_iconst d120_34 ?_
    exact x_zret d120_35 rt120 (by omega) (hQ _ (by omega))
  · refine x_iload_n d120_10 rfl ?_
    refine x_iconst d120_11 ?_
    refine x_bipush d120_12 (by decide) ?_
    refine x_SE d120_14 cl120 m11_84 kd83 po83 le83 (C83 (by omega) (by omega) (by omega)) (fun v3 r3 z3 => ?_)
    try dsimp only at r3
    refine x_ifeq (t := 34) d120_17 rfl (by omega) (fun c17_4 => ?_) (fun c17_4 => ?_)
    · refine x_iconst d120_34 ?_
      exact x_zret d120_35 rt120 (by omega) (hQ _ (by omega))
    · refine x_iload_n d120_20 rfl ?_
      refine x_iconst d120_21 ?_
      refine x_bipush d120_22 (by decide) ?_
      refine x_SE d120_24 cl120 m11_84 kd83 po83 le83 (C83 (by omega) (by omega) (by omega)) (fun v5 r5 z5 => ?_)
      try dsimp only at r5
      refine x_ifeq (t := 34) d120_27 rfl (by omega) (fun c27_6 => ?_) (fun c27_6 => ?_)
      · refine x_iconst d120_34 ?_
        exact x_zret d120_35 rt120 (by omega) (hQ _ (by omega))
      · refine x_iconst d120_30 ?_
        refine x_goto (t := 35) d120_31 rfl ?_
        exact x_zret d120_35 rt120 (by omega) (hQ _ (by omega))
theorem o32_r {f : Int32 → Int32 → Int32} {x y : Int} : -2147483648 ≤ o32 f x y ∧ o32 f x y < 2147483648 := ⟨Int32.le_toInt _, Int32.toInt_lt _⟩
section XQ
variable {D : Nat → Nat → Bool} {d y pc nx : Nat} {ls : XL} {st : List XV} {h : Hp} {Q : XO × Hp → Prop}
theorem x_iandq {a b : Int} (hd : cod y pc = some (.iand, nx)) (k : (-2147483648 ≤ o32 fand a b ∧ o32 fand a b < 2147483648) → wp D d y nx ls (vI (o32 fand a b) :: st) h Q) : wp D d y pc ls (vI b :: vI a :: st) h Q := x_iand hd (k o32_r)
theorem x_iorq {a b : Int} (hd : cod y pc = some (.ior, nx)) (k : (-2147483648 ≤ o32 fior a b ∧ o32 fior a b < 2147483648) → wp D d y nx ls (vI (o32 fior a b) :: st) h Q) : wp D d y pc ls (vI b :: vI a :: st) h Q := x_ior hd (k o32_r)
theorem x_ixorq {a b : Int} (hd : cod y pc = some (.ixor, nx)) (k : (-2147483648 ≤ o32 fxor a b ∧ o32 fxor a b < 2147483648) → wp D d y nx ls (vI (o32 fxor a b) :: st) h Q) : wp D d y pc ls (vI b :: vI a :: st) h Q := x_ixor hd (k o32_r)
theorem x_ishlq {a b : Int} (hd : cod y pc = some (.ishl, nx)) (k : (-2147483648 ≤ o32 fshl a b ∧ o32 fshl a b < 2147483648) → wp D d y nx ls (vI (o32 fshl a b) :: st) h Q) : wp D d y pc ls (vI b :: vI a :: st) h Q := x_ishl hd (k o32_r)
theorem x_ishrq {a b : Int} (hd : cod y pc = some (.ishr, nx)) (k : (-2147483648 ≤ o32 fshr a b ∧ o32 fshr a b < 2147483648) → wp D d y nx ls (vI (o32 fshr a b) :: st) h Q) : wp D d y pc ls (vI b :: vI a :: st) h Q := x_ishr hd (k o32_r)
theorem x_iushrq {a b : Int} (hd : cod y pc = some (.iushr, nx)) (k : (-2147483648 ≤ o32 fush a b ∧ o32 fush a b < 2147483648) → wp D d y nx ls (vI (o32 fush a b) :: st) h Q) : wp D d y pc ls (vI b :: vI a :: st) h Q := x_iushr hd (k o32_r)
theorem cmpZ_r {a b : Int} : -1 ≤ cmpZ a b ∧ cmpZ a b ≤ 1 := by unfold cmpZ; split <;> first | omega | (split <;> omega)
theorem x_lcmpq {a b : Int} (hd : cod y pc = some (.lcmp, nx)) (k : (-1 ≤ cmpZ a b ∧ cmpZ a b ≤ 1) → wp D d y nx ls (vI (cmpZ a b) :: st) h Q) : wp D d y pc ls (vL b :: vL a :: st) h Q := x_lcmp hd (k cmpZ_r)
end XQ
/-- a loop upwards -/
theorem x_ub {N : Int} {P : Int → Prop} (a : Int) (ha : a ≤ N) (hs : ∀ i, a ≤ i → i ≤ N → (i < N → P (i + 1)) → P i) : P a := by
  have key : ∀ n : Nat, ∀ i : Int, a ≤ i → i ≤ N → (N - i).toNat = n → P i := by
    intro n
    induction n with
    | zero => intro i hi hj e; exact hs i hi hj (fun q => by omega)
    | succ n ih => intro i hi hj e; exact hs i hi hj (fun q => ih (i + 1) (by omega) (by omega) (by omega))
  exact key _ a (by omega) ha rfl
/-- is the bit n in s -/
def tb (s n : Int) : Int := if o32 fand (o32 fshr s n) 1 = 0 then 0 else 1
theorem tb01 {s n : Int} : tb s n = 0 ∨ tb s n = 1 := by unfold tb; split <;> omega
theorem mul_rng {a b A B : Int} (h1 : 0 ≤ a ∧ a ≤ A) (h2 : 0 ≤ b ∧ b ≤ B) : 0 ≤ a * b ∧ a * b ≤ A * B := ⟨Int.mul_nonneg h1.1 h2.1, Int.mul_le_mul h1.2 h2.2 h2.1 (Int.le_trans h1.1 h1.2)⟩
theorem tmod_rng {a b : Int} (h1 : 0 ≤ a) (h2 : 0 < b) : 0 ≤ a.tmod b ∧ a.tmod b < b := ⟨Int.tmod_nonneg _ h1, Int.tmod_lt_of_pos _ h2⟩
theorem tdiv_rng {a b : Int} (h1 : 0 ≤ a) (h2 : 0 ≤ b) : 0 ≤ a.tdiv b ∧ a.tdiv b ≤ a := ⟨Int.tdiv_nonneg h1 h2, Int.tdiv_le_self _ h1⟩
theorem Ls.mem {K : Hp → Nat → Prop} {h : Hp} {l : Nat} {m : Nat → Nat} {n : Nat} (L : Ls K h l m n) (j : Nat) (hj : j < n) : K h (m j) := by
  obtain ⟨-, e, -, -, -, -, -, q, -⟩ := L
  exact (q j hj).2
theorem C174 {D : Nat → Nat → Bool} {d : Nat} {h : Hp} {l e b : Nat} {i : Int} (ol : Ob h l 12) (dl : D l 1 = true) (e1 : hR h l 1 = some e) (he : e < hN h) (te : hT h e = 103) (hi : 0 ≤ i ∧ i < (hL h e : Int)) (de : D e i.toNat = true) (eb : hR h e i.toNat = some b) : PV D (d + 0) 174 [vR (some l), vI i] h (vR (some b)) := by
  refine x_ent en174 ?_
  refine x_aload_n d174_0 rfl ?_
  refine x_gfR d174_1 cl174 f12_9 ol dl e1 ?_
  refine x_iload_n d174_4 rfl ?_
  refine x_aaload d174_5 he (by omega) hi de eb ?_
  exact x_aret d174_6 rt174 rfl
theorem C86 {D : Nat → Nat → Bool} {d : Nat} {h : Hp} {x s : Int} : ∃ v : Int, (fun v : Int => v = tb s x ∧ (v = 0 ∨ v = 1)) v ∧ PV D (d + 0) 86 [vI x, vI s] h (vI v) := by
  refine PE_of (fun Q hQ => ?_)
  refine x_ent en86 ?_
  refine x_iload_n d86_0 rfl ?_
  refine x_iload_n d86_1 rfl ?_
  refine x_ishrq d86_2 (fun q1 => ?_)
  refine x_iconst d86_3 ?_
  refine x_iandq d86_4 (fun q2 => ?_)
  refine x_ifeq (t := 12) d86_5 rfl (by omega) (fun c5_3 => ?_) (fun c5_3 => ?_)
  · refine x_iconst d86_12 ?_
    exact x_zret d86_13 rt86 (by omega) (hQ _ (by unfold tb; split <;> first | omega | exact ⟨rfl, by omega⟩))
  · refine x_iconst d86_8 ?_
    refine x_goto (t := 13) d86_9 rfl ?_
    exact x_zret d86_13 rt86 (by omega) (hQ _ (by unfold tb; split <;> first | omega | exact ⟨rfl, by omega⟩))
theorem C85 {D : Nat → Nat → Bool} {d : Nat} {h : Hp} {s : Int} : ∃ v : Int, (fun v : Int => -1 ≤ v ∧ v ≤ 23 ∧ (0 ≤ v → tb s v = 1) ∧ (v = -1 → ∀ n : Int, 0 ≤ n → n < 24 → tb s n = 0)) v ∧ PV D (d + 1) 85 [vI s] h (vI v) := by
  refine PE_of (fun Q hQ => ?_)
  refine x_ent en85 ?_
  refine x_iconst d85_0 ?_
  refine x_nm (fun w1_1 ew1_1 => ?_)
  refine x_istore_n [some (vI _), some (vI _)] d85_1 rfl ?_
  refine (x_ub (N := 24) (P := fun i2 => (∀ n : Int, 0 ≤ n → n < i2 → tb s n = 0) → wp D (d + 1) 85 2 [some (vI s), some (vI i2)] [] h Q) w1_1 (by omega) (fun i2 hi2 hj2 ih2 hp2 => ?_)) (fun n h1 h2 => by omega)
  refine x_iload_n d85_2 rfl ?_
  refine x_bipush d85_3 (by decide) ?_
  refine x_icge (t := 24) d85_5 rfl (by omega) (fun c5_3 => ?_) (fun c5_3 => ?_)
  · refine x_iconst d85_24 ?_
    exact x_iret d85_25 rt85 (hQ _ (by first | exact ⟨by omega, by omega, fun _ => by omega, fun q => by omega⟩ | exact ⟨by omega, by omega, fun q => by omega, fun _ n h1 h2 => hp2 n h1 (by omega)⟩))
  · refine x_iload_n d85_8 rfl ?_
    refine x_iload_n d85_9 rfl ?_
    refine x_SE d85_10 cl85 m11_203 kd86 po86 le86 C86 (fun v4 r4 z4 => ?_)
    try dsimp only at r4
    refine x_ifeq (t := 18) d85_13 rfl (by omega) (fun c13_5 => ?_) (fun c13_5 => ?_)
    · refine x_iinc [some (vI _), some (vI _)] d85_18 rfl rfl ?_
      refine x_goto (t := 2) d85_21 rfl ?_
      exact ih2 (by omega) (fun n h1 h2 => by rcases (show n < i2 ∨ n = i2 by omega) with q | q; exact hp2 n h1 q; rw [q]; omega)
    · refine x_iload_n d85_16 rfl ?_
      exact x_iret d85_17 rt85 (hQ _ (by first | exact ⟨by omega, by omega, fun _ => by omega, fun q => by omega⟩ | exact ⟨by omega, by omega, fun q => by omega, fun _ n h1 h2 => hp2 n h1 (by omega)⟩))
def pcA (i : Int) : Int := i - o32 fand (o32 fush i 1) 1431655765
def pcB (i : Int) : Int := o32 fand i 858993459 + o32 fand (o32 fush i 2) 858993459
def pcC (i : Int) : Int := o32 fand (i + o32 fush i 4) 252645135
def pcD (i : Int) : Int := i + o32 fush i 8
def pcE (i : Int) : Int := i + o32 fush i 16
/-- how many bits -/
def pc32 (i : Int) : Int := o32 fand (pcE (pcD (pcC (pcB (pcA i))))) 63
theorem and63 (x : Int) : 0 ≤ o32 fand x 63 ∧ o32 fand x 63 ≤ 63 := by
  have h1 : (fand (Int32.ofInt x) (Int32.ofInt 63)).toBitVec.toNat ≤ 63 := by
    show ((Int32.ofInt x).toBitVec &&& (Int32.ofInt 63).toBitVec).toNat ≤ 63
    rw [BitVec.toNat_and]
    exact Nat.and_le_right
  have h2 : o32 fand x 63 = ((fand (Int32.ofInt x) (Int32.ofInt 63)).toBitVec.toNat : Int) := by
    show (fand (Int32.ofInt x) (Int32.ofInt 63)).toBitVec.toInt = _
    exact BitVec.toInt_eq_toNat_of_lt (by omega)
  omega
theorem C186 {D : Nat → Nat → Bool} {d : Nat} {h : Hp} {x : Int} : ∃ v : Int, (fun v : Int => v = pc32 x ∧ 0 ≤ v ∧ v ≤ 63) v ∧ PV D (d + 0) 186 [vI x] h (vI v) := by
  refine PE_of (fun Q hQ => ?_)
  refine x_ent en186 ?_
  refine x_iload_n d186_0 rfl ?_
  refine x_iload_n d186_1 rfl ?_
  refine x_iconst d186_2 ?_
  refine x_iushrq d186_3 (fun q1 => ?_)
  refine x_ldcw d186_4 cl186 ci19_265 ?_
  refine x_iandq d186_7 (fun q2 => ?_)
  refine x_isub d186_8 ?_
  refine x_nm (fun w9_3 ew9_3 => ?_)
  refine x_istore_n [some (vI _)] d186_9 rfl ?_
  refine x_iload_n d186_10 rfl ?_
  refine x_ldcw d186_11 cl186 ci19_266 ?_
  refine x_iandq d186_14 (fun q4 => ?_)
  refine x_iload_n d186_15 rfl ?_
  refine x_iconst d186_16 ?_
  refine x_iushrq d186_17 (fun q5 => ?_)
  refine x_ldcw d186_18 cl186 ci19_266 ?_
  refine x_iandq d186_21 (fun q6 => ?_)
  refine x_iadd d186_22 ?_
  refine x_nm (fun w23_7 ew23_7 => ?_)
  refine x_istore_n [some (vI _)] d186_23 rfl ?_
  refine x_iload_n d186_24 rfl ?_
  refine x_iload_n d186_25 rfl ?_
  refine x_iconst d186_26 ?_
  refine x_iushrq d186_27 (fun q8 => ?_)
  refine x_iadd d186_28 ?_
  refine x_ldcw d186_29 cl186 ci19_267 ?_
  refine x_iandq d186_32 (fun q9 => ?_)
  refine x_nm (fun w33_10 ew33_10 => ?_)
  refine x_istore_n [some (vI _)] d186_33 rfl ?_
  refine x_iload_n d186_34 rfl ?_
  refine x_iload_n d186_35 rfl ?_
  refine x_bipush d186_36 (by decide) ?_
  refine x_iushrq d186_38 (fun q11 => ?_)
  refine x_iadd d186_39 ?_
  refine x_nm (fun w40_12 ew40_12 => ?_)
  refine x_istore_n [some (vI _)] d186_40 rfl ?_
  refine x_iload_n d186_41 rfl ?_
  refine x_iload_n d186_42 rfl ?_
  refine x_bipush d186_43 (by decide) ?_
  refine x_iushrq d186_45 (fun q13 => ?_)
  refine x_iadd d186_46 ?_
  refine x_nm (fun w47_14 ew47_14 => ?_)
  refine x_istore_n [some (vI _)] d186_47 rfl ?_
  refine x_iload_n d186_48 rfl ?_
  refine x_bipush d186_49 (by decide) ?_
  refine x_iandq d186_51 (fun q15 => ?_)
  exact x_iret d186_52 rt186 (hQ _ (by subst_vars; exact ⟨rfl, and63 _⟩))
theorem C185 {D : Nat → Nat → Bool} {d : Nat} {h : Hp} {x n : Int} (qx : -2147483648 ≤ x ∧ x < 2147483648) (qn : -2147483648 ≤ n ∧ n < 2147483648) (hx : 0 ≤ x ∧ x < n) : ∃ v : Int, (fun v : Int => v = x) v ∧ PV D (d + 0) 185 [vI x, vI n, vR none] h (vI v) := by
  refine PE_of (fun Q hQ => ?_)
  refine x_ent en185 ?_
  refine x_iload_n d185_0 rfl ?_
  refine x_iflt (t := 9) d185_1 rfl (by omega) (fun c1_1 => ?_) (fun c1_1 => ?_)
  · exfalso; omega
  · refine x_iload_n d185_4 rfl ?_
    refine x_iload_n d185_5 rfl ?_
    refine x_iclt (t := 16) d185_6 rfl (by omega) (fun c6_2 => ?_) (fun c6_2 => ?_)
    · refine x_iload_n d185_16 rfl ?_
      exact x_iret d185_17 rt185 (hQ _ (by omega))
    · exfalso; omega
theorem C184 {D : Nat → Nat → Bool} {d : Nat} {h : Hp} {x n : Int} (qx : -2147483648 ≤ x ∧ x < 2147483648) (qn : -2147483648 ≤ n ∧ n < 2147483648) (hx : 0 ≤ x ∧ x < n) : ∃ v : Int, (fun v : Int => v = x) v ∧ PV D (d + 1) 184 [vI x, vI n] h (vI v) := by
  refine PE_of (fun Q hQ => ?_)
  refine x_ent en184 ?_
  refine x_iload_n d184_0 rfl ?_
  refine x_iload_n d184_1 rfl ?_
  refine x_null d184_2 ?_
  refine x_SE d184_3 cl184 m17_105 kd185 po185 le185 (C185 (by omega) (by omega) (by omega)) (fun v1 r1 z1 => ?_)
  try dsimp only at r1
  exact x_iret d184_6 rt184 (hQ _ (by omega))
theorem C173 {D : Nat → Nat → Bool} {d : Nat} {K : Hp → Nat → Prop} {h : Hp} {l : Nat} {m : Nat → Nat} {n : Nat} {i : Int} (ol : Ob h l 12) (d1 : D l 1 = true) (d2 : D l 2 = true) (L : Ls K h l m n) (V : Vis D) (hn : n ≤ 1000) (hi : 0 ≤ i ∧ i < n) (h2 : 2 ≤ l := by decide) : PV D (d + 3) 173 [vR (some l), vI i] h (vR (some (m i.toNat))) := by
  obtain ⟨q1, e, e1, e2, e3, e4, e5, e6, e7⟩ := L
  refine x_ent en173 ?_
  refine x_iload_n d173_0 rfl ?_
  refine x_aload_n d173_1 rfl ?_
  refine x_gfI d173_2 cl173 f12_48 (by decide) ol d2 ?_
  rw [q1]
  refine x_SE d173_5 cl173 m12_118 kd184 po184 le184 (C184 (by omega) (by omega) (by omega)) (fun v1 r1 z1 => ?_)
  refine x_pop d173_8 rfl ?_
  refine x_aload_n d173_9 rfl ?_
  refine x_iload_n d173_10 rfl ?_
  refine x_VV d173_11 cl173 m12_123 kd174 tg174 po174 le174 h2 ol (C174 ol d1 e1 e3 e4 (by omega) ?_ (e6 i.toNat (by omega)).1) ?_
  · rcases e2 with e2 | e2
    · subst e2; exact V _ _ rfl
    · exact V.g e2
  exact x_aret d173_14 rt173 rfl
theorem C168 {D : Nat → Nat → Bool} {d : Nat} {K : Hp → Nat → Prop} {h : Hp} {l : Nat} {m : Nat → Nat} {n : Nat} (ol : Ob h l 12) (d2 : D l 2 = true) (L : Ls K h l m n) : ∃ v : Int, (fun v : Int => v = (n : Int)) v ∧ PV D (d + 0) 168 [vR (some l)] h (vI v) := by
  refine PE_of (fun Q hQ => ?_)
  refine x_ent en168 ?_
  refine x_aload_n d168_0 rfl ?_
  refine x_gfI d168_1 cl168 f12_48 (by decide) ol d2 ?_
  exact x_iret d168_4 rt168 (hQ _ L.1)
theorem C94 {D : Nat → Nat → Bool} {d : Nat} {h : Hp} {x : Int} (qx : x = 1) : wp D (d + 0) 94 0 (ent 94 [vI x]) [] h (fun r => r = (.inl none, h)) := by
  refine x_ent en94 ?_
  refine x_iload_n d94_0 rfl ?_
  refine x_ifne (t := 15) d94_1 rfl (by omega) (fun c1 => ?_) (fun c1 => ?_)
  · exact x_ret d94_15 rt94 rfl
  · exfalso; omega
theorem C84 {D : Nat → Nat → Bool} {d : Nat} {h : Hp} {x : Int} (qx : x = 1) : wp D (d + 0) 84 0 (ent 84 [vI x]) [] h (fun r => r = (.inl none, h)) := by
  refine x_ent en84 ?_
  refine x_iload_n d84_0 rfl ?_
  refine x_ifne (t := 15) d84_1 rfl (by omega) (fun c1 => ?_) (fun c1 => ?_)
  · exact x_ret d84_15 rt84 rfl
  · exfalso; omega
theorem C88 {D : Nat → Nat → Bool} {d : Nat} {h : Hp} {x : Int} (qx : x = 1) : wp D (d + 0) 88 0 (ent 88 [vI x]) [] h (fun r => r = (.inl none, h)) := by
  refine x_ent en88 ?_
  refine x_iload_n d88_0 rfl ?_
  refine x_ifne (t := 15) d88_1 rfl (by omega) (fun c1 => ?_) (fun c1 => ?_)
  · exact x_ret d88_15 rt88 rfl
  · exfalso; omega
