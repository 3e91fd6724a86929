theorem nat_903 {D : Nat → Nat → Bool} {h : Hp} {x y : Int} (q : (-2147483648 ≤ x ∧ x < 2147483648) ∧ (-2147483648 ≤ y ∧ y < 2147483648)) : nat D 903 [vI x, vI y] h = some (some (vI (if y < x then y else x)), h) := if_pos ⟨r32_i q.1, r32_i q.2⟩
theorem nat_904 {D : Nat → Nat → Bool} {h : Hp} {x y : Int} (q : (-2147483648 ≤ x ∧ x < 2147483648) ∧ (-2147483648 ≤ y ∧ y < 2147483648)) : nat D 904 [vI x, vI y] h = some (some (vI (if x < y then y else x)), h) := if_pos ⟨r32_i q.1, r32_i q.2⟩
theorem nat_905 {D : Nat → Nat → Bool} {h : Hp} {x : Int} (q : -2147483648 ≤ x ∧ x < 2147483648) : nat D 905 [vI x] h = some (some (vI (if 0 ≤ x then x else 0 - x)), h) := if_pos (r32_i q)
theorem C83 {D : Nat → Nat → Bool} {d : Nat} {h : Hp} {x a b : Int} (qx : -2147483648 ≤ x ∧ x < 2147483648) (qa : -2147483648 ≤ a ∧ a < 2147483648) (qb : -2147483648 ≤ b ∧ b < 2147483648) : ∃ v : Int, (fun v : Int => (v = 0 ∨ v = 1) ∧ (v = 1 ↔ a ≤ x ∧ x ≤ b)) v ∧ PV D (d + 0) 83 [vI x, vI a, vI b] h (vI v) := by
  refine PE_of (fun Q hQ => ?_)
  refine x_ent en83 ?_
  refine x_iload_n d83_0 rfl ?_
  refine x_iload_n d83_1 rfl ?_
  refine x_iclt (t := 14) d83_2 rfl (by omega) (fun c2_1 => ?_) (fun c2_1 => ?_)
  · refine x_iconst d83_14 ?_
    exact x_zret d83_15 rt83 (by omega) (hQ _ (by omega))
  · refine x_iload_n d83_5 rfl ?_
    refine x_iload_n d83_6 rfl ?_
    refine x_icgt (t := 14) d83_7 rfl (by omega) (fun c7_2 => ?_) (fun c7_2 => ?_)
    · refine x_iconst d83_14 ?_
      exact x_zret d83_15 rt83 (by omega) (hQ _ (by omega))
    · refine x_iconst d83_10 ?_
      refine x_goto (t := 15) d83_11 rfl ?_
      exact x_zret d83_15 rt83 (by omega) (hQ _ (by omega))
theorem C90 {D : Nat → Nat → Bool} {d : Nat} {h : Hp} {x : Int} (qx : -2147483648 ≤ x ∧ x < 2147483648) : ∃ v : Int, (fun v : Int => (v = 0 ∨ v = 1) ∧ (v = 1 ↔ 0 ≤ x ∧ x ≤ 999)) v ∧ PV D (d + 1) 90 [vI x] h (vI v) := by
  refine PE_of (fun Q hQ => ?_)
  refine x_ent en90 ?_
  refine x_iload_n d90_0 rfl ?_
  refine x_iconst d90_1 ?_
  refine x_sipush d90_2 (by decide) ?_
  refine x_SE d90_5 cl90 m11_84 kd83 po83 le83 (C83 (by omega) (by omega) (by omega)) (fun v1 r1 => ?_)
  try dsimp only at r1
  exact x_zret d90_8 rt90 (by omega) (hQ _ (by omega))
theorem C93 {D : Nat → Nat → Bool} {d : Nat} {h : Hp} {x : Int} (qx : -2147483648 ≤ x ∧ x < 2147483648) : ∃ v : Int, (fun v : Int => (v = 0 ∨ v = 1) ∧ (v = 1 ↔ 0 ≤ x ∧ x ≤ 5)) v ∧ PV D (d + 1) 93 [vI x] h (vI v) := by
  refine PE_of (fun Q hQ => ?_)
  refine x_ent en93 ?_
  refine x_iload_n d93_0 rfl ?_
  refine x_iconst d93_1 ?_
  refine x_iconst d93_2 ?_
  refine x_SE d93_3 cl93 m11_84 kd83 po83 le83 (C83 (by omega) (by omega) (by omega)) (fun v1 r1 => ?_)
  try dsimp only at r1
  exact x_zret d93_6 rt93 (by omega) (hQ _ (by omega))
theorem C97 {D : Nat → Nat → Bool} {d : Nat} {h : Hp} {x : Int} (qx : -2147483648 ≤ x ∧ x < 2147483648) : ∃ v : Int, (fun v : Int => (v = 0 ∨ v = 1) ∧ (v = 1 ↔ 0 ≤ x ∧ x ≤ 5)) v ∧ PV D (d + 1) 97 [vI x] h (vI v) := by
  refine PE_of (fun Q hQ => ?_)
  refine x_ent en97 ?_
  refine x_iload_n d97_0 rfl ?_
  refine x_iconst d97_1 ?_
  refine x_iconst d97_2 ?_
  refine x_SE d97_3 cl97 m11_84 kd83 po83 le83 (C83 (by omega) (by omega) (by omega)) (fun v1 r1 => ?_)
  try dsimp only at r1
  exact x_zret d97_6 rt97 (by omega) (hQ _ (by omega))
theorem C101 {D : Nat → Nat → Bool} {d : Nat} {h : Hp} {x : Int} (qx : -2147483648 ≤ x ∧ x < 2147483648) : ∃ v : Int, (fun v : Int => (v = 0 ∨ v = 1) ∧ (v = 1 ↔ 0 ≤ x ∧ x ≤ 7)) v ∧ PV D (d + 1) 101 [vI x] h (vI v) := by
  refine PE_of (fun Q hQ => ?_)
  refine x_ent en101 ?_
  refine x_iload_n d101_0 rfl ?_
  refine x_iconst d101_1 ?_
  refine x_bipush d101_2 (by decide) ?_
  refine x_SE d101_4 cl101 m11_84 kd83 po83 le83 (C83 (by omega) (by omega) (by omega)) (fun v1 r1 => ?_)
  try dsimp only at r1
  exact x_zret d101_7 rt101 (by omega) (hQ _ (by omega))
theorem C115 {D : Nat → Nat → Bool} {d : Nat} {h : Hp} {x : Int} (qx : -2147483648 ≤ x ∧ x < 2147483648) : ∃ v : Int, (fun v : Int => (v = 0 ∨ v = 1) ∧ (v = 1 ↔ 0 ≤ x ∧ x ≤ 4)) v ∧ PV D (d + 1) 115 [vI x] h (vI v) := by
  refine PE_of (fun Q hQ => ?_)
  refine x_ent en115 ?_
  refine x_iload_n d115_0 rfl ?_
  refine x_iconst d115_1 ?_
  refine x_iconst d115_2 ?_
  refine x_SE d115_3 cl115 m11_84 kd83 po83 le83 (C83 (by omega) (by omega) (by omega)) (fun v1 r1 => ?_)
  try dsimp only at r1
  exact x_zret d115_6 rt115 (by omega) (hQ _ (by omega))
theorem C96 {D : Nat → Nat → Bool} {d : Nat} {h : Hp} {x y : Int} (qx : -2147483648 ≤ x ∧ x < 2147483648) (qy : -2147483648 ≤ y ∧ y < 2147483648) : ∃ v : Int, (fun v : Int => (v = 0 ∨ v = 1) ∧ (v = 1 ↔ (1 ≤ x ∧ x ≤ 3) ∧ 1 ≤ y ∧ y ≤ 3)) v ∧ PV D (d + 1) 96 [vI x, vI y] h (vI v) := by
  refine PE_of (fun Q hQ => ?_)
  refine x_ent en96 ?_
  refine x_iload_n d96_0 rfl ?_
  refine x_iconst d96_1 ?_
  refine x_iconst d96_2 ?_
  refine x_SE d96_3 cl96 m11_84 kd83 po83 le83 (C83 (by omega) (by omega) (by omega)) (fun v1 r1 => ?_)
  try dsimp only at r1
  refine x_ifeq (t := 22) d96_6 rfl (by omega) (fun c6_2 => ?_) (fun c6_2 => ?_)
  · refine x_iconst d96_22 ?_
    exact x_zret d96_23 rt96 (by omega) (hQ _ (by omega))
  · refine x_iload_n d96_9 rfl ?_
    refine x_iconst d96_10 ?_
    refine x_iconst d96_11 ?_
    refine x_SE d96_12 cl96 m11_84 kd83 po83 le83 (C83 (by omega) (by omega) (by omega)) (fun v3 r3 => ?_)
    try dsimp only at r3
    refine x_ifeq (t := 22) d96_15 rfl (by omega) (fun c15_4 => ?_) (fun c15_4 => ?_)
    · refine x_iconst d96_22 ?_
      exact x_zret d96_23 rt96 (by omega) (hQ _ (by omega))
    · refine x_iconst d96_18 ?_
      refine x_goto (t := 23) d96_19 rfl ?_
      exact x_zret d96_23 rt96 (by omega) (hQ _ (by omega))
theorem C120 {D : Nat → Nat → Bool} {d : Nat} {h : Hp} {x y w : Int} (qx : -2147483648 ≤ x ∧ x < 2147483648) (qy : -2147483648 ≤ y ∧ y < 2147483648) (qw : -2147483648 ≤ w ∧ w < 2147483648) : ∃ v : Int, (fun v : Int => (v = 0 ∨ v = 1) ∧ (v = 1 ↔ (0 ≤ x ∧ x ≤ 99) ∧ (0 ≤ y ∧ y ≤ 99) ∧ 0 ≤ w ∧ w ≤ 99)) v ∧ PV D (d + 1) 120 [vI x, vI y, vI w] h (vI v) := by
  refine PE_of (fun Q hQ => ?_)
  refine x_ent en120 ?_
  refine x_iload_n d120_0 rfl ?_
  refine x_iconst d120_1 ?_
  refine x_bipush d120_2 (by decide) ?_
  refine x_SE d120_4 cl120 m11_84 kd83 po83 le83 (C83 (by omega) (by omega) (by omega)) (fun v1 r1 => ?_)
  try dsimp only at r1
  refine x_ifeq (t := 34) d120_7 rfl (by omega) (fun c7_2 => ?_) (fun c7_2 => ?_)
  · refine x_iconst d120_34 ?_
    exact x_zret d120_35 rt120 (by omega) (hQ _ (by omega))
  · refine x_iload_n d120_10 rfl ?_
    refine x_iconst d120_11 ?_
    refine x_bipush d120_12 (by decide) ?_
    refine x_SE d120_14 cl120 m11_84 kd83 po83 le83 (C83 (by omega) (by omega) (by omega)) (fun v3 r3 => ?_)
    try dsimp only at r3
    refine x_ifeq (t := 34) d120_17 rfl (by omega) (fun c17_4 => ?_) (fun c17_4 => ?_)
    · refine x_iconst d120_34 ?_
      exact x_zret d120_35 rt120 (by omega) (hQ _ (by omega))
    · refine x_iload_n d120_20 rfl ?_
      refine x_iconst d120_21 ?_
      refine x_bipush d120_22 (by decide) ?_
      refine x_SE d120_24 cl120 m11_84 kd83 po83 le83 (C83 (by omega) (by omega) (by omega)) (fun v5 r5 => ?_)
      try dsimp only at r5
      refine x_ifeq (t := 34) d120_27 rfl (by omega) (fun c27_6 => ?_) (fun c27_6 => ?_)
      · refine x_iconst d120_34 ?_
        exact x_zret d120_35 rt120 (by omega) (hQ _ (by omega))
      · refine x_iconst d120_30 ?_
        refine x_goto (t := 35) d120_31 rfl ?_
        exact x_zret d120_35 rt120 (by omega) (hQ _ (by omega))
def Pl (h : Hp) : Prop := (0 ≤ hI h 3 0 ∧ hI h 3 0 ≤ 6) ∧ (0 ≤ hI h 3 1 ∧ hI h 3 1 ≤ 4) ∧ (0 ≤ hI h 3 2 ∧ hI h 3 2 ≤ 60) ∧ Rg h 4 0 1023
