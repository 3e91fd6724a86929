theorem C30 {D : Nat → Nat → Bool} {d : Nat} {h : Hp} {mP mC mI mD mB : Nat → Nat} {nP nC nI nD nB : Nat} (V : Vis D) (S : Hv h mP mC mI mD mB nP nC nI nD nB) : ∃ v : Int, (fun v : Int => v = hI h 3 0 * hI h 3 1 ∧ 0 ≤ v ∧ v ≤ 24) v ∧ PV D (d + 0) 30 [vR (some 3)] h (vI v) := by
  refine PE_of (fun Q hQ => ?_)
  refine x_ent en30 ?_
  refine x_aload_n d30_0 rfl ?_
  refine x_gfI d30_1 cl30 f5_15 (by decide) (S.F.o rfl (by decide)) (V _ _ rfl) ?_
  have g1 := S.pl.1
  refine x_aload_n d30_4 rfl ?_
  refine x_gfI d30_5 cl30 f5_19 (by decide) (S.F.o rfl (by decide)) (V _ _ rfl) ?_
  have g2 := S.pl.2.1
  refine x_imul d30_8 ?_
  exact x_iret d30_9 rt30 (hQ _ ⟨rfl, by have := mul_rng S.pl.1 S.pl.2.1; omega⟩)
theorem C35 {D : Nat → Nat → Bool} {d : Nat} {h : Hp} {x : Int} {mP mC mI mD mB : Nat → Nat} {nP nC nI nD nB : Nat} (V : Vis D) (S : Hv h mP mC mI mD mB nP nC nI nD nB) (qx : -2147483648 ≤ x ∧ x < 2147483648) : ∃ v : Int, (fun v : Int => (v = 0 ∨ v = 1) ∧ (v = 1 ↔ 0 ≤ x ∧ x < hI h 3 0 * hI h 3 1)) v ∧ PV D (d + 1) 35 [vR (some 3), vI x] h (vI v) := by
  refine PE_of (fun Q hQ => ?_)
  refine x_ent en35 ?_
  refine x_iload_n d35_0 rfl ?_
  refine x_iconst d35_1 ?_
  refine x_aload_n d35_2 rfl ?_
  refine x_VE d35_3 cl35 m5_31 kd30 tg30 po30 le30 (by decide) (S.F.o rfl (by decide)) (C30 V S) (fun v1 r1 => ?_)
  try dsimp only at r1
  refine x_iconst d35_6 ?_
  refine x_isub d35_7 ?_
  refine x_SE d35_8 cl35 m5_35 kd83 po83 le83 (C83 (by omega) (by omega) (by omega)) (fun v2 r2 => ?_)
  try dsimp only at r2
  exact x_zret d35_11 rt35 (by omega) (hQ _ (by omega))
theorem C36 {D : Nat → Nat → Bool} {d : Nat} {h : Hp} {x y : Int} {mP mC mI mD mB : Nat → Nat} {nP nC nI nD nB : Nat} (V : Vis D) (S : Hv h mP mC mI mD mB nP nC nI nD nB) (qx : 0 ≤ x ∧ x < 24) (qy : 0 ≤ y ∧ y < 8) : ∃ v : Int, (fun v : Int => 0 ≤ v ∧ v ≤ 1023) v ∧ PV D (d + 0) 36 [vR (some 3), vI x, vI y] h (vI v) := by
  refine PE_of (fun Q hQ => ?_)
  refine x_ent en36 ?_
  refine x_aload_n d36_0 rfl ?_
  refine x_gfR d36_1 cl36 f5_9 (S.F.o rfl (by decide)) (V _ _ rfl) (S.F.r rfl) ?_
  refine x_iload_n d36_4 rfl ?_
  refine x_bipush d36_5 (by decide) ?_
  refine x_imul d36_7 ?_
  refine x_iload_n d36_8 rfl ?_
  refine x_iadd d36_9 ?_
  refine x_iaload d36_10 (S.F.o rfl (by decide)) ⟨by omega, by rw [(S.F.l (a := 4) (n := 192) (by decide) rfl)]; omega⟩ (V _ _ rfl) ?_
  refine x_gen (fun v => 0 ≤ v ∧ v ≤ 1023) (S.pl.2.2.2 _) (fun a1 b1 => ?_)
  try dsimp only at b1
  exact x_iret d36_11 rt36 (hQ _ (by omega))
theorem C34 {D : Nat → Nat → Bool} {d : Nat} {h : Hp} {x a b : Int} {mP mC mI mD mB : Nat → Nat} {nP nC nI nD nB : Nat} (V : Vis D) (S : Hv h mP mC mI mD mB nP nC nI nD nB) (qx : 0 ≤ x ∧ x < 1000) (qa : 1 ≤ a ∧ a ≤ 3) (qb : 1 ≤ b ∧ b ≤ 3) : ∃ v : Int, (fun v : Int => (v = 0 ∨ v = 1) ∧ (v = 1 → 1 ≤ hI h 3 0 ∧ 0 ≤ x ∧ x < hI h 3 0 * hI h 3 1 ∧ x.tmod (hI h 3 0) + a ≤ hI h 3 0 ∧ x.tdiv (hI h 3 0) + b ≤ hI h 3 1)) v ∧ PV D (d + 2) 34 [vR (some 3), vI x, vI a, vI b] h (vI v) := by
  refine PE_of (fun Q hQ => ?_)
  refine x_ent en34 ?_
  refine x_aload_n d34_0 rfl ?_
  refine x_gfI d34_1 cl34 f5_15 (by decide) (S.F.o rfl (by decide)) (V _ _ rfl) ?_
  have g1 := S.pl.1
  refine x_iconst d34_4 ?_
  refine x_iclt (t := 16) d34_5 rfl (by omega) (fun c5_2 => ?_) (fun c5_2 => ?_)
  · refine x_iconst d34_16 ?_
    exact x_zret d34_17 rt34 (by omega) (hQ _ (by omega))
  · refine x_aload_n d34_8 rfl ?_
    refine x_iload_n d34_9 rfl ?_
    refine x_VE d34_10 cl34 m5_39 kd35 tg35 po35 le35 (by decide) (S.F.o rfl (by decide)) (C35 V S (by omega)) (fun v3 r3 => ?_)
    try dsimp only at r3
    refine x_ifne (t := 18) d34_13 rfl (by omega) (fun c13_4 => ?_) (fun c13_4 => ?_)
    · have hm := tmod_rng (a := x) (b := hI h 3 0) (by omega) (by omega)
      have hd := tdiv_rng (a := x) (b := hI h 3 0) (by omega) (by omega)
      refine x_iload_n d34_18 rfl ?_
      refine x_aload_n d34_19 rfl ?_
      refine x_gfI d34_20 cl34 f5_15 (by decide) (S.F.o rfl (by decide)) (V _ _ rfl) ?_
      have g5 := S.pl.1
      refine x_irem d34_23 (by omega) ?_
      refine x_iload_n d34_24 rfl ?_
      refine x_iadd d34_25 ?_
      refine x_aload_n d34_26 rfl ?_
      refine x_gfI d34_27 cl34 f5_15 (by decide) (S.F.o rfl (by decide)) (V _ _ rfl) ?_
      have g6 := S.pl.1
      refine x_icgt (t := 52) d34_30 rfl (by omega) (fun c30_7 => ?_) (fun c30_7 => ?_)
      · refine x_iconst d34_52 ?_
        exact x_zret d34_53 rt34 (by omega) (hQ _ (by omega))
      · refine x_iload_n d34_33 rfl ?_
        refine x_aload_n d34_34 rfl ?_
        refine x_gfI d34_35 cl34 f5_15 (by decide) (S.F.o rfl (by decide)) (V _ _ rfl) ?_
        have g8 := S.pl.1
        refine x_idiv d34_38 (by omega) ?_
        refine x_iload_n d34_39 rfl ?_
        refine x_iadd d34_40 ?_
        refine x_aload_n d34_41 rfl ?_
        refine x_gfI d34_42 cl34 f5_19 (by decide) (S.F.o rfl (by decide)) (V _ _ rfl) ?_
        have g9 := S.pl.2.1
        refine x_icgt (t := 52) d34_45 rfl (by omega) (fun c45_10 => ?_) (fun c45_10 => ?_)
        · refine x_iconst d34_52 ?_
          exact x_zret d34_53 rt34 (by omega) (hQ _ (by omega))
        · refine x_iconst d34_48 ?_
          refine x_goto (t := 53) d34_49 rfl ?_
          exact x_zret d34_53 rt34 (by omega) (hQ _ (by omega))
    · refine x_iconst d34_16 ?_
      exact x_zret d34_17 rt34 (by omega) (hQ _ (by omega))
theorem C20 {D : Nat → Nat → Bool} {d : Nat} {h : Hp} {p : Nat} (P : Pc h p) (V : Vis D) : ∃ v : Int, (fun v : Int => v = hI h p 1 * hI h p 2 ∧ 1 ≤ v ∧ v ≤ 9) v ∧ PV D (d + 0) 20 [vR (some p)] h (vI v) := by
  refine PE_of (fun Q hQ => ?_)
  refine x_ent en20 ?_
  refine x_aload_n d20_0 rfl ?_
  refine x_gfI d20_1 cl20 f4_35 (by decide) (Pc.ob P) (V.g (Pc.g P)) ?_
  have g1 := (Pc.wide P)
  refine x_aload_n d20_4 rfl ?_
  refine x_gfI d20_5 cl20 f4_38 (by decide) (Pc.ob P) (V.g (Pc.g P)) ?_
  have g2 := (Pc.high P)
  refine x_imul d20_8 ?_
  exact x_iret d20_9 rt20 (hQ _ ⟨rfl, by have := mul_rng (a := hI h p 1 - 1) (b := hI h p 2) (A := 2) (B := 3) (by omega) (by omega); have := Int.sub_mul (hI h p 1) 1 (hI h p 2); omega⟩)
theorem C23 {D : Nat → Nat → Bool} {d : Nat} {h : Hp} {x : Int} {p : Nat} (P : Pc h p) (V : Vis D) : ∃ v : Int, (fun v : Int => -2147483648 ≤ v ∧ v < 2147483648) v ∧ PV D (d + 1) 23 [vR (some p), vI x] h (vI v) := by
  refine PE_of (fun Q hQ => ?_)
  refine x_ent en23 ?_
  refine x_iconst d23_0 ?_
  refine x_nm (fun w1_1 ew1_1 => ?_)
  refine x_istore_n [some (vR _), some (vI _), some (vI _), none] d23_1 rfl ?_
  refine x_iconst d23_2 ?_
  refine x_nm (fun w3_2 ew3_2 => ?_)
  refine x_istore_n [some (vR _), some (vI _), some (vI _), some (vI _)] d23_3 rfl ?_
  refine (x_ub (N := 8) (P := fun i3 => ∀ s3_2 : Int, (-2147483648 ≤ s3_2 ∧ s3_2 < 2147483648) → wp D (d + 1) 23 4 [some (vR (some p)), some (vI x), some (vI s3_2), some (vI i3)] [] h Q) w3_2 (by omega) (fun i3 hi3 hj3 ih3 s3_2 hs3_2 => ?_)) _ (by omega)
  refine x_iload_n d23_4 rfl ?_
  refine x_bipush d23_5 (by decide) ?_
  refine x_icge (t := 33) d23_7 rfl (by omega) (fun c7_4 => ?_) (fun c7_4 => ?_)
  · refine x_iload_n d23_33 rfl ?_
    exact x_iret d23_34 rt23 (hQ _ (by omega))
  · refine x_iload_n d23_10 rfl ?_
    refine x_iload_n d23_11 rfl ?_
    refine x_SE d23_12 cl23 m4_85 kd86 po86 le86 C86 (fun v5 r5 => ?_)
    try dsimp only at r5
    refine x_ifeq (t := 27) d23_15 rfl (by omega) (fun c15_6 => ?_) (fun c15_6 => ?_)
    · refine x_iinc [some (vR _), some (vI _), some (vI _), some (vI _)] d23_27 rfl rfl ?_
      refine x_goto (t := 4) d23_30 rfl ?_
      exact ih3 (by omega) _ (by omega)
    · refine x_iload_n d23_18 rfl ?_
      refine x_aload_n d23_19 rfl ?_
      refine x_gfR d23_20 cl23 f4_19 (Pc.ob P) (V.g (Pc.g P)) (Pc.r3 P) ?_
      refine x_iload_n d23_23 rfl ?_
      refine x_iaload d23_24 (Pc.o3 P) ⟨by omega, by rw [(Pc.l3 P)]; omega⟩ (V.g (by have := Pc.g P; omega)) ?_
      refine x_gen (fun v => 0 ≤ v ∧ v ≤ 16777215) (Pc.fits P _) (fun a7 b7 => ?_)
      try dsimp only at b7
      refine x_iorq d23_25 (fun q8 => ?_)
      refine x_nm (fun w26_9 ew26_9 => ?_)
      refine x_istore_n [some (vR _), some (vI _), some (vI _), some (vI _)] d23_26 rfl ?_
      refine x_iinc [some (vR _), some (vI _), some (vI _), some (vI _)] d23_27 rfl rfl ?_
      refine x_goto (t := 4) d23_30 rfl ?_
      exact ih3 (by omega) _ (by omega)
theorem C25 {D : Nat → Nat → Bool} {d : Nat} {h : Hp} {p : Nat} (P : Pc h p) (V : Vis D) : ∃ v : Int, (fun v : Int => v = 0 ∨ v = 1) v ∧ PV D (d + 0) 25 [vR (some p)] h (vI v) := by
  refine PE_of (fun Q hQ => ?_)
  refine x_ent en25 ?_
  refine x_aload_n d25_0 rfl ?_
  refine x_gfR d25_1 cl25 f4_22 (Pc.ob P) (V.g (Pc.g P)) (Pc.r4 P) ?_
  refine x_iconst d25_4 ?_
  refine x_iaload d25_5 (Pc.o4 P) ⟨by omega, by rw [(Pc.l4 P)]; omega⟩ (V.g (by have := Pc.g P; omega)) ?_
  refine x_gen (fun v => 0 ≤ v ∧ v ≤ 10000) (Pc.gauges P _) (fun a1 b1 => ?_)
  try dsimp only at b1
  refine x_ifeq (t := 40) d25_6 rfl (by omega) (fun c6_2 => ?_) (fun c6_2 => ?_)
  · refine x_iconst d25_40 ?_
    exact x_zret d25_41 rt25 (by omega) (hQ _ (by omega))
  · refine x_aload_n d25_9 rfl ?_
    refine x_gfR d25_10 cl25 f4_22 (Pc.ob P) (V.g (Pc.g P)) (Pc.r4 P) ?_
    refine x_iconst d25_13 ?_
    refine x_iaload d25_14 (Pc.o4 P) ⟨by omega, by rw [(Pc.l4 P)]; omega⟩ (V.g (by have := Pc.g P; omega)) ?_
    refine x_gen (fun v => 0 ≤ v ∧ v ≤ 10000) (Pc.gauges P _) (fun a3 b3 => ?_)
    try dsimp only at b3
    refine x_ifeq (t := 40) d25_15 rfl (by omega) (fun c15_4 => ?_) (fun c15_4 => ?_)
    · refine x_iconst d25_40 ?_
      exact x_zret d25_41 rt25 (by omega) (hQ _ (by omega))
    · refine x_aload_n d25_18 rfl ?_
      refine x_gfR d25_19 cl25 f4_22 (Pc.ob P) (V.g (Pc.g P)) (Pc.r4 P) ?_
      refine x_iconst d25_22 ?_
      refine x_iaload d25_23 (Pc.o4 P) ⟨by omega, by rw [(Pc.l4 P)]; omega⟩ (V.g (by have := Pc.g P; omega)) ?_
      refine x_gen (fun v => 0 ≤ v ∧ v ≤ 10000) (Pc.gauges P _) (fun a5 b5 => ?_)
      try dsimp only at b5
      refine x_ifeq (t := 40) d25_24 rfl (by omega) (fun c24_6 => ?_) (fun c24_6 => ?_)
      · refine x_iconst d25_40 ?_
        exact x_zret d25_41 rt25 (by omega) (hQ _ (by omega))
      · refine x_aload_n d25_27 rfl ?_
        refine x_gfR d25_28 cl25 f4_22 (Pc.ob P) (V.g (Pc.g P)) (Pc.r4 P) ?_
        refine x_iconst d25_31 ?_
        refine x_iaload d25_32 (Pc.o4 P) ⟨by omega, by rw [(Pc.l4 P)]; omega⟩ (V.g (by have := Pc.g P; omega)) ?_
        refine x_gen (fun v => 0 ≤ v ∧ v ≤ 10000) (Pc.gauges P _) (fun a7 b7 => ?_)
        try dsimp only at b7
        refine x_ifeq (t := 40) d25_33 rfl (by omega) (fun c33_8 => ?_) (fun c33_8 => ?_)
        · refine x_iconst d25_40 ?_
          exact x_zret d25_41 rt25 (by omega) (hQ _ (by omega))
        · refine x_iconst d25_36 ?_
          refine x_goto (t := 41) d25_37 rfl ?_
          exact x_zret d25_41 rt25 (by omega) (hQ _ (by omega))
theorem C26 {D : Nat → Nat → Bool} {d : Nat} {h : Hp} {p : Nat} (P : Pc h p) (V : Vis D) : ∃ v : Int, (fun v : Int => v = 0 ∨ v = 1) v ∧ PV D (d + 1) 26 [vR (some p)] h (vI v) := by
  refine PE_of (fun Q hQ => ?_)
  refine x_ent en26 ?_
  refine x_aload_n d26_0 rfl ?_
  refine x_VE d26_1 cl26 m4_92 kd25 tg25 po25 le25 (by have := Pc.g P; omega) (Pc.ob P) (C25 P V) (fun v1 r1 => ?_)
  try dsimp only at r1
  refine x_ifeq (t := 51) d26_4 rfl (by omega) (fun c4_2 => ?_) (fun c4_2 => ?_)
  · refine x_iconst d26_51 ?_
    exact x_zret d26_52 rt26 (by omega) (hQ _ (by omega))
  · refine x_aload_n d26_7 rfl ?_
    refine x_gfR d26_8 cl26 f4_22 (Pc.ob P) (V.g (Pc.g P)) (Pc.r4 P) ?_
    refine x_iconst d26_11 ?_
    refine x_iaload d26_12 (Pc.o4 P) ⟨by omega, by rw [(Pc.l4 P)]; omega⟩ (V.g (by have := Pc.g P; omega)) ?_
    refine x_gen (fun v => 0 ≤ v ∧ v ≤ 10000) (Pc.gauges P _) (fun a3 b3 => ?_)
    try dsimp only at b3
    refine x_aload_n d26_13 rfl ?_
    refine x_gfR d26_14 cl26 f4_22 (Pc.ob P) (V.g (Pc.g P)) (Pc.r4 P) ?_
    refine x_iconst d26_17 ?_
    refine x_iaload d26_18 (Pc.o4 P) ⟨by omega, by rw [(Pc.l4 P)]; omega⟩ (V.g (by have := Pc.g P; omega)) ?_
    refine x_gen (fun v => 0 ≤ v ∧ v ≤ 10000) (Pc.gauges P _) (fun a4 b4 => ?_)
    try dsimp only at b4
    refine x_isub d26_19 ?_
    refine x_nat d26_20 cl26 m4_96 (by decide) (popN_of (q := [vI _]) (show mArg 905 = 1 by decide +kernel) rfl rfl) (by exact Nat.le_of_ble_eq_true rfl) (nat_905 (by omega)) ?_
    refine x_nm (fun m20 em20 => ?_)
    try dsimp only at em20
    refine x_iconst d26_23 ?_
    refine x_icge (t := 47) d26_24 rfl (by omega) (fun c24_5 => ?_) (fun c24_5 => ?_)
    · refine x_iconst d26_47 ?_
      refine x_goto (t := 52) d26_48 rfl ?_
      exact x_zret d26_52 rt26 (by omega) (hQ _ (by omega))
    · refine x_aload_n d26_27 rfl ?_
      refine x_gfR d26_28 cl26 f4_22 (Pc.ob P) (V.g (Pc.g P)) (Pc.r4 P) ?_
      refine x_iconst d26_31 ?_
      refine x_iaload d26_32 (Pc.o4 P) ⟨by omega, by rw [(Pc.l4 P)]; omega⟩ (V.g (by have := Pc.g P; omega)) ?_
      refine x_gen (fun v => 0 ≤ v ∧ v ≤ 10000) (Pc.gauges P _) (fun a6 b6 => ?_)
      try dsimp only at b6
      refine x_aload_n d26_33 rfl ?_
      refine x_gfR d26_34 cl26 f4_22 (Pc.ob P) (V.g (Pc.g P)) (Pc.r4 P) ?_
      refine x_iconst d26_37 ?_
      refine x_iaload d26_38 (Pc.o4 P) ⟨by omega, by rw [(Pc.l4 P)]; omega⟩ (V.g (by have := Pc.g P; omega)) ?_
      refine x_gen (fun v => 0 ≤ v ∧ v ≤ 10000) (Pc.gauges P _) (fun a7 b7 => ?_)
      try dsimp only at b7
      refine x_isub d26_39 ?_
      refine x_nat d26_40 cl26 m4_96 (by decide) (popN_of (q := [vI _]) (show mArg 905 = 1 by decide +kernel) rfl rfl) (by exact Nat.le_of_ble_eq_true rfl) (nat_905 (by omega)) ?_
      refine x_nm (fun m40 em40 => ?_)
      try dsimp only at em40
      refine x_iconst d26_43 ?_
      refine x_iclt (t := 51) d26_44 rfl (by omega) (fun c44_8 => ?_) (fun c44_8 => ?_)
      · refine x_iconst d26_51 ?_
        exact x_zret d26_52 rt26 (by omega) (hQ _ (by omega))
      · refine x_iconst d26_47 ?_
        refine x_goto (t := 52) d26_48 rfl ?_
        exact x_zret d26_52 rt26 (by omega) (hQ _ (by omega))
theorem C24 {D : Nat → Nat → Bool} {d : Nat} {h : Hp} {p : Nat} (P : Pc h p) (V : Vis D) : ∃ v : Int, (fun v : Int => -1 ≤ v ∧ v ≤ 6) v ∧ PV D (d + 2) 24 [vR (some p)] h (vI v) := by
  refine PE_of (fun Q hQ => ?_)
  refine x_ent en24 ?_
  refine x_aload_n d24_0 rfl ?_
  refine x_VE d24_1 cl24 m4_92 kd25 tg25 po25 le25 (by have := Pc.g P; omega) (Pc.ob P) (C25 P V) (fun v1 r1 => ?_)
  try dsimp only at r1
  refine x_ifne (t := 9) d24_4 rfl (by omega) (fun c4_2 => ?_) (fun c4_2 => ?_)
  · refine x_iconst d24_9 ?_
    refine x_nm (fun w10_3 ew10_3 => ?_)
    refine x_istore_n [some (vR _), some (vI _)] d24_10 rfl ?_
    refine x_aload_n d24_11 rfl ?_
    refine x_gfR d24_12 cl24 f4_22 (Pc.ob P) (V.g (Pc.g P)) (Pc.r4 P) ?_
    refine x_iconst d24_15 ?_
    refine x_iaload d24_16 (Pc.o4 P) ⟨by omega, by rw [(Pc.l4 P)]; omega⟩ (V.g (by have := Pc.g P; omega)) ?_
    refine x_gen (fun v => 0 ≤ v ∧ v ≤ 10000) (Pc.gauges P _) (fun a4 b4 => ?_)
    try dsimp only at b4
    refine x_aload_n d24_17 rfl ?_
    refine x_gfR d24_18 cl24 f4_22 (Pc.ob P) (V.g (Pc.g P)) (Pc.r4 P) ?_
    refine x_iconst d24_21 ?_
    refine x_iaload d24_22 (Pc.o4 P) ⟨by omega, by rw [(Pc.l4 P)]; omega⟩ (V.g (by have := Pc.g P; omega)) ?_
    refine x_gen (fun v => 0 ≤ v ∧ v ≤ 10000) (Pc.gauges P _) (fun a5 b5 => ?_)
    try dsimp only at b5
    refine x_icne (t := 62) d24_23 rfl (by omega) (fun c23_6 => ?_) (fun c23_6 => ?_)
    · refine x_aload_n d24_62 rfl ?_
      refine x_VE d24_63 cl24 m4_101 kd26 tg26 po26 le26 (by have := Pc.g P; omega) (Pc.ob P) (C26 P V) (fun v7 r7 => ?_)
      try dsimp only at r7
      refine x_ifeq (t := 75) d24_66 rfl (by omega) (fun c66_8 => ?_) (fun c66_8 => ?_)
      · refine x_iload_n d24_75 rfl ?_
        exact x_iret d24_76 rt24 (hQ _ (by omega))
      · refine x_iload_n d24_69 rfl ?_
        refine x_iconst d24_70 ?_
        refine x_iadd d24_71 ?_
        refine x_goto (t := 76) d24_72 rfl ?_
        exact x_iret d24_76 rt24 (hQ _ (by omega))
    · refine x_aload_n d24_26 rfl ?_
      refine x_gfR d24_27 cl24 f4_22 (Pc.ob P) (V.g (Pc.g P)) (Pc.r4 P) ?_
      refine x_iconst d24_30 ?_
      refine x_iaload d24_31 (Pc.o4 P) ⟨by omega, by rw [(Pc.l4 P)]; omega⟩ (V.g (by have := Pc.g P; omega)) ?_
      refine x_gen (fun v => 0 ≤ v ∧ v ≤ 10000) (Pc.gauges P _) (fun a9 b9 => ?_)
      try dsimp only at b9
      refine x_aload_n d24_32 rfl ?_
      refine x_gfR d24_33 cl24 f4_22 (Pc.ob P) (V.g (Pc.g P)) (Pc.r4 P) ?_
      refine x_iconst d24_36 ?_
      refine x_iaload d24_37 (Pc.o4 P) ⟨by omega, by rw [(Pc.l4 P)]; omega⟩ (V.g (by have := Pc.g P; omega)) ?_
      refine x_gen (fun v => 0 ≤ v ∧ v ≤ 10000) (Pc.gauges P _) (fun a10 b10 => ?_)
      try dsimp only at b10
      refine x_icne (t := 62) d24_38 rfl (by omega) (fun c38_11 => ?_) (fun c38_11 => ?_)
      · refine x_aload_n d24_62 rfl ?_
        refine x_VE d24_63 cl24 m4_101 kd26 tg26 po26 le26 (by have := Pc.g P; omega) (Pc.ob P) (C26 P V) (fun v12 r12 => ?_)
        try dsimp only at r12
        refine x_ifeq (t := 75) d24_66 rfl (by omega) (fun c66_13 => ?_) (fun c66_13 => ?_)
        · refine x_iload_n d24_75 rfl ?_
          exact x_iret d24_76 rt24 (hQ _ (by omega))
        · refine x_iload_n d24_69 rfl ?_
          refine x_iconst d24_70 ?_
          refine x_iadd d24_71 ?_
          refine x_goto (t := 76) d24_72 rfl ?_
          exact x_iret d24_76 rt24 (hQ _ (by omega))
      · refine x_aload_n d24_41 rfl ?_
        refine x_gfR d24_42 cl24 f4_22 (Pc.ob P) (V.g (Pc.g P)) (Pc.r4 P) ?_
        refine x_iconst d24_45 ?_
        refine x_iaload d24_46 (Pc.o4 P) ⟨by omega, by rw [(Pc.l4 P)]; omega⟩ (V.g (by have := Pc.g P; omega)) ?_
        refine x_gen (fun v => 0 ≤ v ∧ v ≤ 10000) (Pc.gauges P _) (fun a14 b14 => ?_)
        try dsimp only at b14
        refine x_aload_n d24_47 rfl ?_
        refine x_gfR d24_48 cl24 f4_22 (Pc.ob P) (V.g (Pc.g P)) (Pc.r4 P) ?_
        refine x_iconst d24_51 ?_
        refine x_iaload d24_52 (Pc.o4 P) ⟨by omega, by rw [(Pc.l4 P)]; omega⟩ (V.g (by have := Pc.g P; omega)) ?_
        refine x_gen (fun v => 0 ≤ v ∧ v ≤ 10000) (Pc.gauges P _) (fun a15 b15 => ?_)
        try dsimp only at b15
        refine x_icne (t := 60) d24_53 rfl (by omega) (fun c53_16 => ?_) (fun c53_16 => ?_)
        · refine x_iconst d24_60 ?_
          refine x_nm (fun w61_17 ew61_17 => ?_)
          refine x_istore_n [some (vR _), some (vI _)] d24_61 rfl ?_
          refine x_aload_n d24_62 rfl ?_
          refine x_VE d24_63 cl24 m4_101 kd26 tg26 po26 le26 (by have := Pc.g P; omega) (Pc.ob P) (C26 P V) (fun v18 r18 => ?_)
          try dsimp only at r18
          refine x_ifeq (t := 75) d24_66 rfl (by omega) (fun c66_19 => ?_) (fun c66_19 => ?_)
          · refine x_iload_n d24_75 rfl ?_
            exact x_iret d24_76 rt24 (hQ _ (by omega))
          · refine x_iload_n d24_69 rfl ?_
            refine x_iconst d24_70 ?_
            refine x_iadd d24_71 ?_
            refine x_goto (t := 76) d24_72 rfl ?_
            exact x_iret d24_76 rt24 (hQ _ (by omega))
        · refine x_iconst d24_56 ?_
          refine x_goto (t := 61) d24_57 rfl ?_
          refine x_nm (fun w61_20 ew61_20 => ?_)
          refine x_istore_n [some (vR _), some (vI _)] d24_61 rfl ?_
          refine x_aload_n d24_62 rfl ?_
          refine x_VE d24_63 cl24 m4_101 kd26 tg26 po26 le26 (by have := Pc.g P; omega) (Pc.ob P) (C26 P V) (fun v21 r21 => ?_)
          try dsimp only at r21
          refine x_ifeq (t := 75) d24_66 rfl (by omega) (fun c66_22 => ?_) (fun c66_22 => ?_)
          · refine x_iload_n d24_75 rfl ?_
            exact x_iret d24_76 rt24 (hQ _ (by omega))
          · refine x_iload_n d24_69 rfl ?_
            refine x_iconst d24_70 ?_
            refine x_iadd d24_71 ?_
            refine x_goto (t := 76) d24_72 rfl ?_
            exact x_iret d24_76 rt24 (hQ _ (by omega))
  · refine x_iconst d24_7 ?_
    exact x_iret d24_8 rt24 (hQ _ (by omega))
