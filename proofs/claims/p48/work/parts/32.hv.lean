theorem C30 {D : Nat → Nat → Bool} {d : Nat} {h : Hp} {mP mC mI mD mB : Nat → Nat} {nP nC nI nD nB : Nat} (V : Vis D) (S : Hv h mP mC mI mD mB nP nC nI nD nB) : ∃ v : Int, (fun v : Int => v = hI h 3 0 * hI h 3 1 ∧ 0 ≤ v ∧ v ≤ 24) v ∧ PV D (d + 0) 30 [vR (some 3)] h (vI v) := by
  refine PE_of (fun Q hQ => ?_)
  refine x_ent en30 ?_
  refine x_aload_n d30_0 rfl ?_
  refine x_gfI d30_1 cl30 f5_15 (by decide) (S.F.o rfl (by decide)) (V _ _ rfl) ?_
  have g1 := S.pl.1
  refine x_aload_n d30_4 rfl ?_
  refine x_gfI d30_5 cl30 f5_19 (by decide) (S.F.o rfl (by decide)) (V _ _ rfl) ?_
  have g2 := S.pl.2.1
  refine x_imul d30_8 ?_
  exact x_iret d30_9 rt30 (hQ _ ⟨rfl, by have := mul_rng S.pl.1 S.pl.2.1; omega⟩)
theorem C35 {D : Nat → Nat → Bool} {d : Nat} {h : Hp} {x : Int} {mP mC mI mD mB : Nat → Nat} {nP nC nI nD nB : Nat} (V : Vis D) (S : Hv h mP mC mI mD mB nP nC nI nD nB) (qx : -2147483648 ≤ x ∧ x < 2147483648) : ∃ v : Int, (fun v : Int => (v = 0 ∨ v = 1) ∧ (v = 1 ↔ 0 ≤ x ∧ x < hI h 3 0 * hI h 3 1)) v ∧ PV D (d + 1) 35 [vR (some 3), vI x] h (vI v) := by
  refine PE_of (fun Q hQ => ?_)
  refine x_ent en35 ?_
  refine x_iload_n d35_0 rfl ?_
  refine x_iconst d35_1 ?_
  refine x_aload_n d35_2 rfl ?_
  refine x_VE d35_3 cl35 m5_31 kd30 tg30 po30 le30 (by decide) (S.F.o rfl (by decide)) (C30 V S) (fun v1 r1 z1 => ?_)
  try dsimp only at r1
  refine x_iconst d35_6 ?_
  refine x_isub d35_7 ?_
  refine x_SE d35_8 cl35 m5_35 kd83 po83 le83 (C83 (by omega) (by omega) (by omega)) (fun v2 r2 z2 => ?_)
  try dsimp only at r2
  exact x_zret d35_11 rt35 (by omega) (hQ _ (by omega))
theorem C36 {D : Nat → Nat → Bool} {d : Nat} {h : Hp} {x y : Int} {mP mC mI mD mB : Nat → Nat} {nP nC nI nD nB : Nat} (V : Vis D) (S : Hv h mP mC mI mD mB nP nC nI nD nB) (qx : 0 ≤ x ∧ x < 24) (qy : 0 ≤ y ∧ y < 8) : ∃ v : Int, (fun v : Int => 0 ≤ v ∧ v ≤ 1023) v ∧ PV D (d + 0) 36 [vR (some 3), vI x, vI y] h (vI v) := by
  refine PE_of (fun Q hQ => ?_)
  refine x_ent en36 ?_
  refine x_aload_n d36_0 rfl ?_
  refine x_gfR d36_1 cl36 f5_9 (S.F.o rfl (by decide)) (V _ _ rfl) (S.F.r rfl) ?_
  refine x_iload_n d36_4 rfl ?_
  refine x_bipush d36_5 (by decide) ?_
  refine x_imul d36_7 ?_
  refine x_iload_n d36_8 rfl ?_
  refine x_iadd d36_9 ?_
  refine x_iaload d36_10 (S.F.o rfl (by decide)) ⟨by omega, by rw [(S.F.l (a := 4) (n := 192) (by decide) rfl)]; omega⟩ (V _ _ rfl) ?_
  refine x_nm (fun a1 e1 => ?_)
  have b1 : 0 ≤ a1 ∧ a1 ≤ 1023 := by rw [e1]; exact (S.pl.2.2.2 _)
  exact x_iret d36_11 rt36 (hQ _ (by omega))
theorem C34 {D : Nat → Nat → Bool} {d : Nat} {h : Hp} {x a b : Int} {mP mC mI mD mB : Nat → Nat} {nP nC nI nD nB : Nat} (V : Vis D) (S : Hv h mP mC mI mD mB nP nC nI nD nB) (qx : 0 ≤ x ∧ x < 1000) (qa : 1 ≤ a ∧ a ≤ 3) (qb : 1 ≤ b ∧ b ≤ 3) : ∃ v : Int, (fun v : Int => (v = 0 ∨ v = 1) ∧ (v = 1 → 1 ≤ hI h 3 0 ∧ 0 ≤ x ∧ x < hI h 3 0 * hI h 3 1 ∧ x.tmod (hI h 3 0) + a ≤ hI h 3 0 ∧ x.tdiv (hI h 3 0) + b ≤ hI h 3 1)) v ∧ PV D (d + 2) 34 [vR (some 3), vI x, vI a, vI b] h (vI v) := by
  refine PE_of (fun Q hQ => ?_)
  refine x_ent en34 ?_
  refine x_aload_n d34_0 rfl ?_
  refine x_gfI d34_1 cl34 f5_15 (by decide) (S.F.o rfl (by decide)) (V _ _ rfl) ?_
  have g1 := S.pl.1
  refine x_iconst d34_4 ?_
  refine x_iclt (t := 16) d34_5 rfl (by omega) (fun c5_2 => ?_) (fun c5_2 => ?_)
  · refine x_iconst d34_16 ?_
    exact x_zret d34_17 rt34 (by omega) (hQ _ (by omega))
  · refine x_aload_n d34_8 rfl ?_
    refine x_iload_n d34_9 rfl ?_
    refine x_VE d34_10 cl34 m5_39 kd35 tg35 po35 le35 (by decide) (S.F.o rfl (by decide)) (C35 V S (by omega)) (fun v3 r3 z3 => ?_)
    try dsimp only at r3
    refine x_ifne (t := 18) d34_13 rfl (by omega) (fun c13_4 => ?_) (fun c13_4 => ?_)
    · have hm := tmod_rng (a := x) (b := hI h 3 0) (by omega) (by omega)
      have hd := tdiv_rng (a := x) (b := hI h 3 0) (by omega) (by omega)
      refine x_iload_n d34_18 rfl ?_
      refine x_aload_n d34_19 rfl ?_
      refine x_gfI d34_20 cl34 f5_15 (by decide) (S.F.o rfl (by decide)) (V _ _ rfl) ?_
      have g5 := S.pl.1
      refine x_irem d34_23 (by omega) ?_
      refine x_iload_n d34_24 rfl ?_
      refine x_iadd d34_25 ?_
      refine x_aload_n d34_26 rfl ?_
      refine x_gfI d34_27 cl34 f5_15 (by decide) (S.F.o rfl (by decide)) (V _ _ rfl) ?_
      have g6 := S.pl.1
      refine x_icgt (t := 52) d34_30 rfl (by omega) (fun c30_7 => ?_) (fun c30_7 => ?_)
      · refine x_iconst d34_52 ?_
        exact x_zret d34_53 rt34 (by omega) (hQ _ (by omega))
      · refine x_iload_n d34_33 rfl ?_
        refine x_aload_n d34_34 rfl ?_
        refine x_gfI d34_35 cl34 f5_15 (by decide) (S.F.o rfl (by decide)) (V _ _ rfl) ?_
        have g8 := S.pl.1
        refine x_idiv d34_38 (by omega) ?_
        refine x_iload_n d34_39 rfl ?_
        refine x_iadd d34_40 ?_
        refine x_aload_n d34_41 rfl ?_
        refine x_gfI d34_42 cl34 f5_19 (by decide) (S.F.o rfl (by decide)) (V _ _ rfl) ?_
        have g9 := S.pl.2.1
        refine x_icgt (t := 52) d34_45 rfl (by omega) (fun c45_10 => ?_) (fun c45_10 => ?_)
        · refine x_iconst d34_52 ?_
          exact x_zret d34_53 rt34 (by omega) (hQ _ (by omega))
        · refine x_iconst d34_48 ?_
          refine x_goto (t := 53) d34_49 rfl ?_
          exact x_zret d34_53 rt34 (by omega) (hQ _ (by omega))
    · refine x_iconst d34_16 ?_
      exact x_zret d34_17 rt34 (by omega) (hQ _ (by omega))
theorem C20 {D : Nat → Nat → Bool} {d : Nat} {h : Hp} {p : Nat} (P : Pc h p) (V : Vis D) : ∃ v : Int, (fun v : Int => v = hI h p 1 * hI h p 2 ∧ 1 ≤ v ∧ v ≤ 9) v ∧ PV D (d + 0) 20 [vR (some p)] h (vI v) := by
  refine PE_of (fun Q hQ => ?_)
  refine x_ent en20 ?_
  refine x_aload_n d20_0 rfl ?_
  refine x_gfI d20_1 cl20 f4_35 (by decide) (Pc.ob P) (V.g (Pc.g P)) ?_
  have g1 := (Pc.wide P)
  refine x_aload_n d20_4 rfl ?_
  refine x_gfI d20_5 cl20 f4_38 (by decide) (Pc.ob P) (V.g (Pc.g P)) ?_
  have g2 := (Pc.high P)
  refine x_imul d20_8 ?_
  exact x_iret d20_9 rt20 (hQ _ ⟨rfl, by have := mul_rng (a := hI h p 1 - 1) (b := hI h p 2) (A := 2) (B := 3) (by omega) (by omega); have := Int.sub_mul (hI h p 1) 1 (hI h p 2); omega⟩)
theorem C23 {D : Nat → Nat → Bool} {d : Nat} {h : Hp} {x : Int} {p : Nat} (P : Pc h p) (V : Vis D) : ∃ v : Int, (fun v : Int => -2147483648 ≤ v ∧ v < 2147483648) v ∧ PV D (d + 1) 23 [vR (some p), vI x] h (vI v) := by
  refine PE_of (fun Q hQ => ?_)
  refine x_ent en23 ?_
  refine x_iconst d23_0 ?_
  refine x_nm (fun w1_1 ew1_1 => ?_)
  refine x_istore_n [some (vR _), some (vI _), some (vI _), none] d23_1 rfl ?_
  refine x_iconst d23_2 ?_
  refine x_nm (fun w3_2 ew3_2 => ?_)
  refine x_istore_n [some (vR _), some (vI _), some (vI _), some (vI _)] d23_3 rfl ?_
  refine (x_ub (N := 8) (P := fun i3 => ∀ s3_2 : Int, (-2147483648 ≤ s3_2 ∧ s3_2 < 2147483648) → wp D (d + 1) 23 4 [some (vR (some p)), some (vI x), some (vI s3_2), some (vI i3)] [] h Q) w3_2 (by omega) (fun i3 hi3 hj3 ih3 s3_2 hs3_2 => ?_)) _ (by omega)
  refine x_iload_n d23_4 rfl ?_
  refine x_bipush d23_5 (by decide) ?_
  refine x_icge (t := 33) d23_7 rfl (by omega) (fun c7_4 => ?_) (fun c7_4 => ?_)
  · refine x_iload_n d23_33 rfl ?_
    exact x_iret d23_34 rt23 (hQ _ (by omega))
  · refine x_iload_n d23_10 rfl ?_
    refine x_iload_n d23_11 rfl ?_
    refine x_SE d23_12 cl23 m4_85 kd86 po86 le86 C86 (fun v5 r5 z5 => ?_)
    try dsimp only at r5
    refine x_ifeq (t := 27) d23_15 rfl (by omega) (fun c15_6 => ?_) (fun c15_6 => ?_)
    · refine x_iinc [some (vR _), some (vI _), some (vI _), some (vI _)] d23_27 rfl rfl ?_
      refine x_goto (t := 4) d23_30 rfl ?_
      exact ih3 (by omega) _ (by omega)
    · refine x_iload_n d23_18 rfl ?_
      refine x_aload_n d23_19 rfl ?_
      refine x_gfR d23_20 cl23 f4_19 (Pc.ob P) (V.g (Pc.g P)) (Pc.r3 P) ?_
      refine x_iload_n d23_23 rfl ?_
      refine x_iaload d23_24 (Pc.o3 P) ⟨by omega, by rw [(Pc.l3 P)]; omega⟩ (V.g (by have := Pc.g P; omega)) ?_
      refine x_nm (fun a7 e7 => ?_)
      have b7 : 0 ≤ a7 ∧ a7 ≤ 16777215 := by rw [e7]; exact (Pc.fits P _)
      refine x_iorq d23_25 (fun q8 => ?_)
      refine x_nm (fun w26_9 ew26_9 => ?_)
      refine x_istore_n [some (vR _), some (vI _), some (vI _), some (vI _)] d23_26 rfl ?_
      refine x_iinc [some (vR _), some (vI _), some (vI _), some (vI _)] d23_27 rfl rfl ?_
      refine x_goto (t := 4) d23_30 rfl ?_
      exact ih3 (by omega) _ (by omega)
theorem C25 {D : Nat → Nat → Bool} {d : Nat} {h : Hp} {p : Nat} (P : Pc h p) (V : Vis D) : ∃ v : Int, (fun v : Int => v = 0 ∨ v = 1) v ∧ PV D (d + 0) 25 [vR (some p)] h (vI v) := by
  refine PE_of (fun Q hQ => ?_)
  refine x_ent en25 ?_
  refine x_aload_n d25_0 rfl ?_
  refine x_gfR d25_1 cl25 f4_22 (Pc.ob P) (V.g (Pc.g P)) (Pc.r4 P) ?_
  refine x_iconst d25_4 ?_
  refine x_iaload d25_5 (Pc.o4 P) ⟨by omega, by rw [(Pc.l4 P)]; omega⟩ (V.g (by have := Pc.g P; omega)) ?_
  refine x_nm (fun a1 e1 => ?_)
  have b1 : 0 ≤ a1 ∧ a1 ≤ 10000 := by rw [e1]; exact (Pc.gauges P _)
  refine x_ifeq (t := 40) d25_6 rfl (by omega) (fun c6_2 => ?_) (fun c6_2 => ?_)
  · refine x_iconst d25_40 ?_
    exact x_zret d25_41 rt25 (by omega) (hQ _ (by omega))
  · refine x_aload_n d25_9 rfl ?_
    refine x_gfR d25_10 cl25 f4_22 (Pc.ob P) (V.g (Pc.g P)) (Pc.r4 P) ?_
    refine x_iconst d25_13 ?_
    refine x_iaload d25_14 (Pc.o4 P) ⟨by omega, by rw [(Pc.l4 P)]; omega⟩ (V.g (by have := Pc.g P; omega)) ?_
    refine x_nm (fun a3 e3 => ?_)
    have b3 : 0 ≤ a3 ∧ a3 ≤ 10000 := by rw [e3]; exact (Pc.gauges P _)
    refine x_ifeq (t := 40) d25_15 rfl (by omega) (fun c15_4 => ?_) (fun c15_4 => ?_)
    · refine x_iconst d25_40 ?_
      exact x_zret d25_41 rt25 (by omega) (hQ _ (by omega))
    · refine x_aload_n d25_18 rfl ?_
      refine x_gfR d25_19 cl25 f4_22 (Pc.ob P) (V.g (Pc.g P)) (Pc.r4 P) ?_
      refine x_iconst d25_22 ?_
      refine x_iaload d25_23 (Pc.o4 P) ⟨by omega, by rw [(Pc.l4 P)]; omega⟩ (V.g (by have := Pc.g P; omega)) ?_
      refine x_nm (fun a5 e5 => ?_)
      have b5 : 0 ≤ a5 ∧ a5 ≤ 10000 := by rw [e5]; exact (Pc.gauges P _)
      refine x_ifeq (t := 40) d25_24 rfl (by omega) (fun c24_6 => ?_) (fun c24_6 => ?_)
      · refine x_iconst d25_40 ?_
        exact x_zret d25_41 rt25 (by omega) (hQ _ (by omega))
      · refine x_aload_n d25_27 rfl ?_
        refine x_gfR d25_28 cl25 f4_22 (Pc.ob P) (V.g (Pc.g P)) (Pc.r4 P) ?_
        refine x_iconst d25_31 ?_
        refine x_iaload d25_32 (Pc.o4 P) ⟨by omega, by rw [(Pc.l4 P)]; omega⟩ (V.g (by have := Pc.g P; omega)) ?_
        refine x_nm (fun a7 e7 => ?_)
        have b7 : 0 ≤ a7 ∧ a7 ≤ 10000 := by rw [e7]; exact (Pc.gauges P _)
        refine x_ifeq (t := 40) d25_33 rfl (by omega) (fun c33_8 => ?_) (fun c33_8 => ?_)
        · refine x_iconst d25_40 ?_
          exact x_zret d25_41 rt25 (by omega) (hQ _ (by omega))
        · refine x_iconst d25_36 ?_
          refine x_goto (t := 41) d25_37 rfl ?_
          exact x_zret d25_41 rt25 (by omega) (hQ _ (by omega))
theorem C26 {D : Nat → Nat → Bool} {d : Nat} {h : Hp} {p : Nat} (P : Pc h p) (V : Vis D) : ∃ v : Int, (fun v : Int => v = 0 ∨ v = 1) v ∧ PV D (d + 1) 26 [vR (some p)] h (vI v) := by
  refine PE_of (fun Q hQ => ?_)
  refine x_ent en26 ?_
  refine x_aload_n d26_0 rfl ?_
  refine x_VE d26_1 cl26 m4_92 kd25 tg25 po25 le25 (by have := Pc.g P; omega) (Pc.ob P) (C25 P V) (fun v1 r1 z1 => ?_)
  try dsimp only at r1
  refine x_ifeq (t := 51) d26_4 rfl (by omega) (fun c4_2 => ?_) (fun c4_2 => ?_)
  · refine x_iconst d26_51 ?_
    exact x_zret d26_52 rt26 (by omega) (hQ _ (by omega))
  · refine x_aload_n d26_7 rfl ?_
    refine x_gfR d26_8 cl26 f4_22 (Pc.ob P) (V.g (Pc.g P)) (Pc.r4 P) ?_
    refine x_iconst d26_11 ?_
    refine x_iaload d26_12 (Pc.o4 P) ⟨by omega, by rw [(Pc.l4 P)]; omega⟩ (V.g (by have := Pc.g P; omega)) ?_
    refine x_nm (fun a3 e3 => ?_)
    have b3 : 0 ≤ a3 ∧ a3 ≤ 10000 := by rw [e3]; exact (Pc.gauges P _)
    refine x_aload_n d26_13 rfl ?_
    refine x_gfR d26_14 cl26 f4_22 (Pc.ob P) (V.g (Pc.g P)) (Pc.r4 P) ?_
    refine x_iconst d26_17 ?_
    refine x_iaload d26_18 (Pc.o4 P) ⟨by omega, by rw [(Pc.l4 P)]; omega⟩ (V.g (by have := Pc.g P; omega)) ?_
    refine x_nm (fun a4 e4 => ?_)
    have b4 : 0 ≤ a4 ∧ a4 ≤ 10000 := by rw [e4]; exact (Pc.gauges P _)
    refine x_isub d26_19 ?_
    refine x_nat d26_20 cl26 m4_96 (by decide) (popN_of (q := [vI _]) (show mArg 905 = 1 by decide +kernel) rfl rfl) (by exact Nat.le_of_ble_eq_true rfl) (nat_905 (by omega)) ?_
    refine x_nm (fun m20 em20 => ?_)
    try dsimp only at em20
    refine x_iconst d26_23 ?_
    refine x_icge (t := 47) d26_24 rfl (by omega) (fun c24_5 => ?_) (fun c24_5 => ?_)
    · refine x_iconst d26_47 ?_
      refine x_goto (t := 52) d26_48 rfl ?_
      exact x_zret d26_52 rt26 (by omega) (hQ _ (by omega))
    · refine x_aload_n d26_27 rfl ?_
      refine x_gfR d26_28 cl26 f4_22 (Pc.ob P) (V.g (Pc.g P)) (Pc.r4 P) ?_
      refine x_iconst d26_31 ?_
      refine x_iaload d26_32 (Pc.o4 P) ⟨by omega, by rw [(Pc.l4 P)]; omega⟩ (V.g (by have := Pc.g P; omega)) ?_
      refine x_nm (fun a6 e6 => ?_)
      have b6 : 0 ≤ a6 ∧ a6 ≤ 10000 := by rw [e6]; exact (Pc.gauges P _)
      refine x_aload_n d26_33 rfl ?_
      refine x_gfR d26_34 cl26 f4_22 (Pc.ob P) (V.g (Pc.g P)) (Pc.r4 P) ?_
      refine x_iconst d26_37 ?_
      refine x_iaload d26_38 (Pc.o4 P) ⟨by omega, by rw [(Pc.l4 P)]; omega⟩ (V.g (by have := Pc.g P; omega)) ?_
      refine x_nm (fun a7 e7 => ?_)
      have b7 : 0 ≤ a7 ∧ a7 ≤ 10000 := by rw [e7]; exact (Pc.gauges P _)
      refine x_isub d26_39 ?_
      refine x_nat d26_40 cl26 m4_96 (by decide) (popN_of (q := [vI _]) (show mArg 905 = 1 by decide +kernel) rfl rfl) (by exact Nat.le_of_ble_eq_true rfl) (nat_905 (by omega)) ?_
      refine x_nm (fun m40 em40 => ?_)
      try dsimp only at em40
      refine x_iconst d26_43 ?_
      refine x_iclt (t := 51) d26_44 rfl (by omega) (fun c44_8 => ?_) (fun c44_8 => ?_)
      · refine x_iconst d26_51 ?_
        exact x_zret d26_52 rt26 (by omega) (hQ _ (by omega))
      · refine x_iconst d26_47 ?_
        refine x_goto (t := 52) d26_48 rfl ?_
        exact x_zret d26_52 rt26 (by omega) (hQ _ (by omega))
theorem C24 {D : Nat → Nat → Bool} {d : Nat} {h : Hp} {p : Nat} (P : Pc h p) (V : Vis D) : ∃ v : Int, (fun v : Int => -1 ≤ v ∧ v ≤ 6) v ∧ PV D (d + 2) 24 [vR (some p)] h (vI v) := by
  refine PE_of (fun Q hQ => ?_)
  refine x_ent en24 ?_
  refine x_aload_n d24_0 rfl ?_
  refine x_VE d24_1 cl24 m4_92 kd25 tg25 po25 le25 (by have := Pc.g P; omega) (Pc.ob P) (C25 P V) (fun v1 r1 z1 => ?_)
  try dsimp only at r1
  refine x_ifne (t := 9) d24_4 rfl (by omega) (fun c4_2 => ?_) (fun c4_2 => ?_)
  · refine x_iconst d24_9 ?_
    refine x_nm (fun w10_3 ew10_3 => ?_)
    refine x_istore_n [some (vR _), some (vI _)] d24_10 rfl ?_
    refine x_aload_n d24_11 rfl ?_
    refine x_gfR d24_12 cl24 f4_22 (Pc.ob P) (V.g (Pc.g P)) (Pc.r4 P) ?_
    refine x_iconst d24_15 ?_
    refine x_iaload d24_16 (Pc.o4 P) ⟨by omega, by rw [(Pc.l4 P)]; omega⟩ (V.g (by have := Pc.g P; omega)) ?_
    refine x_nm (fun a4 e4 => ?_)
    have b4 : 0 ≤ a4 ∧ a4 ≤ 10000 := by rw [e4]; exact (Pc.gauges P _)
    refine x_aload_n d24_17 rfl ?_
    refine x_gfR d24_18 cl24 f4_22 (Pc.ob P) (V.g (Pc.g P)) (Pc.r4 P) ?_
    refine x_iconst d24_21 ?_
    refine x_iaload d24_22 (Pc.o4 P) ⟨by omega, by rw [(Pc.l4 P)]; omega⟩ (V.g (by have := Pc.g P; omega)) ?_
    refine x_nm (fun a5 e5 => ?_)
    have b5 : 0 ≤ a5 ∧ a5 ≤ 10000 := by rw [e5]; exact (Pc.gauges P _)
    refine x_icne (t := 62) d24_23 rfl (by omega) (fun c23_6 => ?_) (fun c23_6 => ?_)
    · refine x_aload_n d24_62 rfl ?_
      refine x_VE d24_63 cl24 m4_101 kd26 tg26 po26 le26 (by have := Pc.g P; omega) (Pc.ob P) (C26 P V) (fun v7 r7 z7 => ?_)
      try dsimp only at r7
      refine x_ifeq (t := 75) d24_66 rfl (by omega) (fun c66_8 => ?_) (fun c66_8 => ?_)
      · refine x_iload_n d24_75 rfl ?_
        exact x_iret d24_76 rt24 (hQ _ (by omega))
      · refine x_iload_n d24_69 rfl ?_
        refine x_iconst d24_70 ?_
        refine x_iadd d24_71 ?_
        refine x_goto (t := 76) d24_72 rfl ?_
        exact x_iret d24_76 rt24 (hQ _ (by omega))
    · refine x_aload_n d24_26 rfl ?_
      refine x_gfR d24_27 cl24 f4_22 (Pc.ob P) (V.g (Pc.g P)) (Pc.r4 P) ?_
      refine x_iconst d24_30 ?_
      refine x_iaload d24_31 (Pc.o4 P) ⟨by omega, by rw [(Pc.l4 P)]; omega⟩ (V.g (by have := Pc.g P; omega)) ?_
      refine x_nm (fun a9 e9 => ?_)
      have b9 : 0 ≤ a9 ∧ a9 ≤ 10000 := by rw [e9]; exact (Pc.gauges P _)
      refine x_aload_n d24_32 rfl ?_
      refine x_gfR d24_33 cl24 f4_22 (Pc.ob P) (V.g (Pc.g P)) (Pc.r4 P) ?_
      refine x_iconst d24_36 ?_
      refine x_iaload d24_37 (Pc.o4 P) ⟨by omega, by rw [(Pc.l4 P)]; omega⟩ (V.g (by have := Pc.g P; omega)) ?_
      refine x_nm (fun a10 e10 => ?_)
      have b10 : 0 ≤ a10 ∧ a10 ≤ 10000 := by rw [e10]; exact (Pc.gauges P _)
      refine x_icne (t := 62) d24_38 rfl (by omega) (fun c38_11 => ?_) (fun c38_11 => ?_)
      · refine x_aload_n d24_62 rfl ?_
        refine x_VE d24_63 cl24 m4_101 kd26 tg26 po26 le26 (by have := Pc.g P; omega) (Pc.ob P) (C26 P V) (fun v12 r12 z12 => ?_)
        try dsimp only at r12
        refine x_ifeq (t := 75) d24_66 rfl (by omega) (fun c66_13 => ?_) (fun c66_13 => ?_)
        · refine x_iload_n d24_75 rfl ?_
          exact x_iret d24_76 rt24 (hQ _ (by omega))
        · refine x_iload_n d24_69 rfl ?_
          refine x_iconst d24_70 ?_
          refine x_iadd d24_71 ?_
          refine x_goto (t := 76) d24_72 rfl ?_
          exact x_iret d24_76 rt24 (hQ _ (by omega))
      · refine x_aload_n d24_41 rfl ?_
        refine x_gfR d24_42 cl24 f4_22 (Pc.ob P) (V.g (Pc.g P)) (Pc.r4 P) ?_
        refine x_iconst d24_45 ?_
        refine x_iaload d24_46 (Pc.o4 P) ⟨by omega, by rw [(Pc.l4 P)]; omega⟩ (V.g (by have := Pc.g P; omega)) ?_
        refine x_nm (fun a14 e14 => ?_)
        have b14 : 0 ≤ a14 ∧ a14 ≤ 10000 := by rw [e14]; exact (Pc.gauges P _)
        refine x_aload_n d24_47 rfl ?_
        refine x_gfR d24_48 cl24 f4_22 (Pc.ob P) (V.g (Pc.g P)) (Pc.r4 P) ?_
        refine x_iconst d24_51 ?_
        refine x_iaload d24_52 (Pc.o4 P) ⟨by omega, by rw [(Pc.l4 P)]; omega⟩ (V.g (by have := Pc.g P; omega)) ?_
        refine x_nm (fun a15 e15 => ?_)
        have b15 : 0 ≤ a15 ∧ a15 ≤ 10000 := by rw [e15]; exact (Pc.gauges P _)
        refine x_icne (t := 60) d24_53 rfl (by omega) (fun c53_16 => ?_) (fun c53_16 => ?_)
        · refine x_iconst d24_60 ?_
          refine x_nm (fun w61_17 ew61_17 => ?_)
          refine x_istore_n [some (vR _), some (vI _)] d24_61 rfl ?_
          refine x_aload_n d24_62 rfl ?_
          refine x_VE d24_63 cl24 m4_101 kd26 tg26 po26 le26 (by have := Pc.g P; omega) (Pc.ob P) (C26 P V) (fun v18 r18 z18 => ?_)
          try dsimp only at r18
          refine x_ifeq (t := 75) d24_66 rfl (by omega) (fun c66_19 => ?_) (fun c66_19 => ?_)
          · refine x_iload_n d24_75 rfl ?_
            exact x_iret d24_76 rt24 (hQ _ (by omega))
          · refine x_iload_n d24_69 rfl ?_
            refine x_iconst d24_70 ?_
            refine x_iadd d24_71 ?_
            refine x_goto (t := 76) d24_72 rfl ?_
            exact x_iret d24_76 rt24 (hQ _ (by omega))
        · refine x_iconst d24_56 ?_
          refine x_goto (t := 61) d24_57 rfl ?_
          refine x_nm (fun w61_20 ew61_20 => ?_)
          refine x_istore_n [some (vR _), some (vI _)] d24_61 rfl ?_
          refine x_aload_n d24_62 rfl ?_
          refine x_VE d24_63 cl24 m4_101 kd26 tg26 po26 le26 (by have := Pc.g P; omega) (Pc.ob P) (C26 P V) (fun v21 r21 z21 => ?_)
          try dsimp only at r21
          refine x_ifeq (t := 75) d24_66 rfl (by omega) (fun c66_22 => ?_) (fun c66_22 => ?_)
          · refine x_iload_n d24_75 rfl ?_
            exact x_iret d24_76 rt24 (hQ _ (by omega))
          · refine x_iload_n d24_69 rfl ?_
            refine x_iconst d24_70 ?_
            refine x_iadd d24_71 ?_
            refine x_goto (t := 76) d24_72 rfl ?_
            exact x_iret d24_76 rt24 (hQ _ (by omega))
  · refine x_iconst d24_7 ?_
    exact x_iret d24_8 rt24 (hQ _ (by omega))
theorem C22 {D : Nat → Nat → Bool} {d : Nat} {h : Hp} {p : Nat} (P : Pc h p) (V : Vis D) : ∃ v : Int, (fun v : Int => 0 ≤ v ∧ v ≤ 504) v ∧ PV D (d + 1) 22 [vR (some p)] h (vI v) := by
  refine PE_of (fun Q hQ => ?_)
  refine x_ent en22 ?_
  refine x_iconst d22_0 ?_
  refine x_nm (fun w1_1 ew1_1 => ?_)
  refine x_istore_n [some (vR _), some (vI _), none] d22_1 rfl ?_
  refine x_iconst d22_2 ?_
  refine x_nm (fun w3_2 ew3_2 => ?_)
  refine x_istore_n [some (vR _), some (vI _), some (vI _)] d22_3 rfl ?_
  refine (x_ub (N := 8) (P := fun i3 => ∀ s3_1 : Int, (0 ≤ s3_1 ∧ s3_1 ≤ 63 * i3) → wp D (d + 1) 22 4 [some (vR (some p)), some (vI s3_1), some (vI i3)] [] h Q) w3_2 (by omega) (fun i3 hi3 hj3 ih3 s3_1 hs3_1 => ?_)) _ (by omega)
  refine x_iload_n d22_4 rfl ?_
  refine x_bipush d22_5 (by decide) ?_
  refine x_icge (t := 28) d22_7 rfl (by omega) (fun c7_4 => ?_) (fun c7_4 => ?_)
  · refine x_iload_n d22_28 rfl ?_
    exact x_iret d22_29 rt22 (hQ _ (by omega))
  · refine x_iload_n d22_10 rfl ?_
    refine x_aload_n d22_11 rfl ?_
    refine x_gfR d22_12 cl22 f4_19 (Pc.ob P) (V.g (Pc.g P)) (Pc.r3 P) ?_
    refine x_iload_n d22_15 rfl ?_
    refine x_iaload d22_16 (Pc.o3 P) ⟨by omega, by rw [(Pc.l3 P)]; omega⟩ (V.g (by have := Pc.g P; omega)) ?_
    refine x_nm (fun a5 e5 => ?_)
    have b5 : 0 ≤ a5 ∧ a5 ≤ 16777215 := by rw [e5]; exact (Pc.fits P _)
    refine x_SE d22_17 cl22 m4_79 kd186 po186 le186 C186 (fun v6 r6 z6 => ?_)
    try dsimp only at r6
    refine x_iadd d22_20 ?_
    refine x_nm (fun w21_7 ew21_7 => ?_)
    refine x_istore_n [some (vR _), some (vI _), some (vI _)] d22_21 rfl ?_
    refine x_iinc [some (vR _), some (vI _), some (vI _)] d22_22 rfl rfl ?_
    refine x_goto (t := 4) d22_25 rfl ?_
    exact ih3 (by omega) _ (by omega)
theorem C27 {D : Nat → Nat → Bool} {d : Nat} {h : Hp} {p : Nat} (P : Pc h p) (V : Vis D) : ∃ v : Int, (fun v : Int => 0 ≤ v ∧ v ≤ 567) v ∧ PV D (d + 1) 27 [vR (some p)] h (vI v) := by
  refine PE_of (fun Q hQ => ?_)
  refine x_ent en27 ?_
  have hst := mul_rng (a := hI h p 1 - 1) (b := hI h p 2) (A := 2) (B := 3) (by have := P.wide; omega) (by have := P.high; omega)
  have hst2 := Int.sub_mul (hI h p 1) 1 (hI h p 2)
  have hwd := P.wide
  have hhg := P.high
  refine x_iconst d27_0 ?_
  refine x_nm (fun w1_1 ew1_1 => ?_)
  refine x_istore_n [some (vR _), some (vI _), none] d27_1 rfl ?_
  refine x_iconst d27_2 ?_
  refine x_nm (fun w3_2 ew3_2 => ?_)
  refine x_istore_n [some (vR _), some (vI _), some (vI _)] d27_3 rfl ?_
  refine (x_ub (N := hI h p 1 * hI h p 2) (P := fun i3 => ∀ s3_1 : Int, (0 ≤ s3_1 ∧ s3_1 ≤ 63 * i3) → wp D (d + 1) 27 4 [some (vR (some p)), some (vI s3_1), some (vI i3)] [] h Q) w3_2 (by omega) (fun i3 hi3 hj3 ih3 s3_1 hs3_1 => ?_)) _ (by omega)
  refine x_iload_n d27_4 rfl ?_
  refine x_aload_n d27_5 rfl ?_
  refine x_VE d27_6 cl27 m4_54 kd20 tg20 po20 le20 (by have := Pc.g P; omega) (Pc.ob P) (C20 P V) (fun v4 r4 z4 => ?_)
  try dsimp only at r4
  refine x_icge (t := 30) d27_9 rfl (by omega) (fun c9_5 => ?_) (fun c9_5 => ?_)
  · refine x_iload_n d27_30 rfl ?_
    exact x_iret d27_31 rt27 (hQ _ (by omega))
  · refine x_iload_n d27_12 rfl ?_
    refine x_aload_n d27_13 rfl ?_
    refine x_gfR d27_14 cl27 f4_9 (Pc.ob P) (V.g (Pc.g P)) (Pc.r1 P) ?_
    refine x_iload_n d27_17 rfl ?_
    refine x_iaload d27_18 (Pc.o1 P) ⟨by omega, by rw [(Pc.l1 P)]; omega⟩ (V.g (by have := Pc.g P; omega)) ?_
    refine x_nm (fun a6 e6 => ?_)
    have b6 : 0 ≤ a6 ∧ a6 ≤ 1023 := by rw [e6]; exact (Pc.seen P _)
    refine x_SE d27_19 cl27 m4_79 kd186 po186 le186 C186 (fun v7 r7 z7 => ?_)
    try dsimp only at r7
    refine x_iadd d27_22 ?_
    refine x_nm (fun w23_8 ew23_8 => ?_)
    refine x_istore_n [some (vR _), some (vI _), some (vI _)] d27_23 rfl ?_
    refine x_iinc [some (vR _), some (vI _), some (vI _)] d27_24 rfl rfl ?_
    refine x_goto (t := 4) d27_27 rfl ?_
    exact ih3 (by omega) _ (by omega)
theorem C7 {D : Nat → Nat → Bool} {d : Nat} {h : Hp} {e x y : Int} {mP mC mI mD mB : Nat → Nat} {nP nC nI nD nB : Nat} (V : Vis D) (S : Hv h mP mC mI mD mB nP nC nI nD nB) (qe : -2147483648 ≤ e ∧ e < 2147483648) (qx : -2147483648 ≤ x ∧ x < 2147483648) (qy : -2147483648 ≤ y ∧ y < 2147483648) (hy : 0 ≤ y ∧ y ≤ 999) : ∃ v : Int, (fun v : Int => -1 ≤ v ∧ v ≤ 19) v ∧ PV D (d + 0) 7 [vR (some 49), vI e, vI x, vI y] h (vI v) := by
  refine PE_of (fun Q hQ => ?_)
  refine x_ent en7 ?_
  have hop := S.opinions
  refine x_iconst d7_0 ?_
  refine x_nm (fun w1_1 ew1_1 => ?_)
  refine x_istore [some (vR _), some (vI _), some (vI _), some (vI _), some (vI _), none] d7_1 rfl ?_
  refine x_iconst d7_3 ?_
  refine x_nm (fun w4_2 ew4_2 => ?_)
  refine x_istore [some (vR _), some (vI _), some (vI _), some (vI _), some (vI _), some (vI _)] d7_4 rfl ?_
  refine (x_ub (N := hI h 49 1) (P := fun i3 => ∀ s3_4 : Int, (-1 ≤ s3_4 ∧ s3_4 < i3) → wp D (d + 0) 7 6 [some (vR (some 49)), some (vI e), some (vI x), some (vI y), some (vI s3_4), some (vI i3)] [] h Q) w4_2 (by omega) (fun i3 hi3 hj3 ih3 s3_4 hs3_4 => ?_)) _ (by omega)
  refine x_iload d7_6 rfl ?_
  refine x_aload_n d7_8 rfl ?_
  refine x_gfI d7_9 cl7 f2_34 (by decide) (S.F.o rfl (by decide)) (V _ _ rfl) ?_
  have g4 := S.opinions
  refine x_icge (t := 58) d7_12 rfl (by omega) (fun c12_5 => ?_) (fun c12_5 => ?_)
  · refine x_iload d7_58 rfl ?_
    refine x_iconst d7_60 ?_
    refine x_iceq (t := 84) d7_61 rfl (by omega) (fun c61_6 => ?_) (fun c61_6 => ?_)
    · refine x_iconst d7_84 ?_
      exact x_iret d7_85 rt7 (hQ _ (by omega))
    · refine x_iload_n d7_64 rfl ?_
      refine x_aload_n d7_65 rfl ?_
      refine x_gfR d7_66 cl7 f2_21 (S.F.o rfl (by decide)) (V _ _ rfl) (S.F.r rfl) ?_
      refine x_iload d7_69 rfl ?_
      refine x_iaload d7_71 (S.F.o rfl (by decide)) ⟨by omega, by rw [(S.F.l (a := 53) (n := 20) (by decide) rfl)]; omega⟩ (V _ _ rfl) ?_
      refine x_nm (fun a7 e7 => ?_)
      have b7 : 0 ≤ a7 ∧ a7 ≤ 999 := by rw [e7]; exact (S.a53 _)
      refine x_isub d7_72 ?_
      refine x_sipush d7_73 (by decide) ?_
      refine x_icgt (t := 84) d7_76 rfl (by omega) (fun c76_8 => ?_) (fun c76_8 => ?_)
      · refine x_iconst d7_84 ?_
        exact x_iret d7_85 rt7 (hQ _ (by omega))
      · refine x_iload d7_79 rfl ?_
        refine x_goto (t := 85) d7_81 rfl ?_
        exact x_iret d7_85 rt7 (hQ _ (by omega))
  · refine x_aload_n d7_15 rfl ?_
    refine x_gfR d7_16 cl7 f2_18 (S.F.o rfl (by decide)) (V _ _ rfl) (S.F.r rfl) ?_
    refine x_iload d7_19 rfl ?_
    refine x_iaload d7_21 (S.F.o rfl (by decide)) ⟨by omega, by rw [(S.F.l (a := 52) (n := 20) (by decide) rfl)]; omega⟩ (V _ _ rfl) ?_
    refine x_nm (fun a9 e9 => ?_)
    have b9 : 0 ≤ a9 ∧ a9 ≤ 4 := by rw [e9]; exact (S.a52 _)
    refine x_iload_n d7_22 rfl ?_
    refine x_icne (t := 52) d7_23 rfl (by omega) (fun c23_10 => ?_) (fun c23_10 => ?_)
    · refine x_iinc [some (vR _), some (vI _), some (vI _), some (vI _), some (vI _), some (vI _)] d7_52 rfl rfl ?_
      refine x_goto (t := 6) d7_55 rfl ?_
      exact ih3 (by omega) _ (by omega)
    · refine x_aload_n d7_26 rfl ?_
      refine x_gfR d7_27 cl7 f2_15 (S.F.o rfl (by decide)) (V _ _ rfl) (S.F.r rfl) ?_
      refine x_iload d7_30 rfl ?_
      refine x_iaload d7_32 (S.F.o rfl (by decide)) ⟨by omega, by rw [(S.F.l (a := 51) (n := 20) (by decide) rfl)]; omega⟩ (V _ _ rfl) ?_
      refine x_nm (fun a11 e11 => ?_)
      have b11 : 0 ≤ a11 ∧ a11 ≤ 11 := by rw [e11]; exact (S.a51 _)
      refine x_iload_n d7_33 rfl ?_
      refine x_icne (t := 52) d7_34 rfl (by omega) (fun c34_12 => ?_) (fun c34_12 => ?_)
      · refine x_iinc [some (vR _), some (vI _), some (vI _), some (vI _), some (vI _), some (vI _)] d7_52 rfl rfl ?_
        refine x_goto (t := 6) d7_55 rfl ?_
        exact ih3 (by omega) _ (by omega)
      · refine x_aload_n d7_37 rfl ?_
        refine x_gfR d7_38 cl7 f2_21 (S.F.o rfl (by decide)) (V _ _ rfl) (S.F.r rfl) ?_
        refine x_iload d7_41 rfl ?_
        refine x_iaload d7_43 (S.F.o rfl (by decide)) ⟨by omega, by rw [(S.F.l (a := 53) (n := 20) (by decide) rfl)]; omega⟩ (V _ _ rfl) ?_
        refine x_nm (fun a13 e13 => ?_)
        have b13 : 0 ≤ a13 ∧ a13 ≤ 999 := by rw [e13]; exact (S.a53 _)
        refine x_iload_n d7_44 rfl ?_
        refine x_icgt (t := 52) d7_45 rfl (by omega) (fun c45_14 => ?_) (fun c45_14 => ?_)
        · refine x_iinc [some (vR _), some (vI _), some (vI _), some (vI _), some (vI _), some (vI _)] d7_52 rfl rfl ?_
          refine x_goto (t := 6) d7_55 rfl ?_
          exact ih3 (by omega) _ (by omega)
        · refine x_iload d7_48 rfl ?_
          refine x_nm (fun w50_15 ew50_15 => ?_)
          refine x_istore [some (vR _), some (vI _), some (vI _), some (vI _), some (vI _), some (vI _)] d7_50 rfl ?_
          refine x_iinc [some (vR _), some (vI _), some (vI _), some (vI _), some (vI _), some (vI _)] d7_52 rfl rfl ?_
          refine x_goto (t := 6) d7_55 rfl ?_
          exact ih3 (by omega) _ (by omega)
theorem C8 {D : Nat → Nat → Bool} {d : Nat} {h : Hp} {x y : Int} {mP mC mI mD mB : Nat → Nat} {nP nC nI nD nB : Nat} (V : Vis D) (S : Hv h mP mC mI mD mB nP nC nI nD nB) (qx : -2147483648 ≤ x ∧ x < 2147483648) (qy : -2147483648 ≤ y ∧ y < 2147483648) (hy : 0 ≤ y ∧ y ≤ 999) : ∃ v : Int, (fun v : Int => -45 ≤ v ∧ v ≤ 45) v ∧ PV D (d + 1) 8 [vR (some 49), vI x, vI y] h (vI v) := by
  refine PE_of (fun Q hQ => ?_)
  refine x_ent en8 ?_
  refine x_iconst d8_0 ?_
  refine x_nm (fun w1_1 ew1_1 => ?_)
  refine x_istore_n [some (vR _), some (vI _), some (vI _), some (vI _), none, none] d8_1 rfl ?_
  refine x_iconst d8_2 ?_
  refine x_nm (fun w3_2 ew3_2 => ?_)
  refine x_istore [some (vR _), some (vI _), some (vI _), some (vI _), some (vI _), none] d8_3 rfl ?_
  refine (x_ub (N := 5) (P := fun i3 => ∀ s3_3 : Int, (-9 * i3 ≤ s3_3 ∧ s3_3 ≤ 9 * i3) → ∀ t3_5 : Option XV, wp D (d + 1) 8 5 [some (vR (some 49)), some (vI x), some (vI y), some (vI s3_3), some (vI i3), t3_5] [] h Q) w3_2 (by omega) (fun i3 hi3 hj3 ih3 s3_3 hs3_3 t3_5 => ?_)) _ (by omega) _
  refine x_iload d8_5 rfl ?_
  refine x_iconst d8_7 ?_
  refine x_icge (t := 64) d8_8 rfl (by omega) (fun c8_4 => ?_) (fun c8_4 => ?_)
  · refine x_iload_n d8_64 rfl ?_
    exact x_iret d8_65 rt8 (hQ _ (by omega))
  · refine x_aload_n d8_11 rfl ?_
    refine x_iload d8_12 rfl ?_
    refine x_iload_n d8_14 rfl ?_
    refine x_iload_n d8_15 rfl ?_
    refine x_VE d8_16 cl8 m2_38 kd7 tg7 po7 le7 (by decide) (S.F.o rfl (by decide)) (C7 V S (by omega) (by omega) (by omega) (by omega)) (fun v5 r5 z5 => ?_)
    try dsimp only at r5
    refine x_nm (fun w19_6 ew19_6 => ?_)
    refine x_istore [some (vR _), some (vI _), some (vI _), some (vI _), some (vI _), some (vI _)] d8_19 rfl ?_
    refine x_iload d8_21 rfl ?_
    refine x_iconst d8_23 ?_
    refine x_iceq (t := 58) d8_24 rfl (by omega) (fun c24_7 => ?_) (fun c24_7 => ?_)
    · refine x_iinc [some (vR _), some (vI _), some (vI _), some (vI _), some (vI _), some (vI _)] d8_58 rfl rfl ?_
      refine x_goto (t := 5) d8_61 rfl ?_
      exact ih3 (by omega) _ (by omega) _
    · refine x_iload_n d8_27 rfl ?_
      refine x_aload_n d8_28 rfl ?_
      refine x_gfR d8_29 cl8 f2_24 (S.F.o rfl (by decide)) (V _ _ rfl) (S.F.r rfl) ?_
      refine x_iload d8_32 rfl ?_
      refine x_baload d8_34 (S.F.o rfl (by decide)) ⟨by omega, by rw [(S.F.l (a := 54) (n := 20) (by decide) rfl)]; omega⟩ (V _ _ rfl) ?_
      refine x_nm (fun a8 e8 => ?_)
      have b8 : 0 ≤ a8 ∧ a8 ≤ 1 := by rw [e8]; exact (S.a54 _)
      refine x_ifeq (t := 48) d8_35 rfl (by omega) (fun c35_9 => ?_) (fun c35_9 => ?_)
      · refine x_aload_n d8_48 rfl ?_
        refine x_gfR d8_49 cl8 f2_9 (S.F.o rfl (by decide)) (V _ _ rfl) (S.F.r rfl) ?_
        refine x_iload d8_52 rfl ?_
        refine x_iaload d8_54 (S.F.o rfl (by decide)) ⟨by omega, by rw [(S.F.l (a := 50) (n := 5) (by decide) rfl)]; omega⟩ (V _ _ rfl) ?_
        refine x_nm (fun a10 e10 => ?_)
        have b10 : 0 ≤ a10 ∧ a10 ≤ 9 := by rw [e10]; exact (S.a50 _)
        refine x_ineg d8_55 ?_
        refine x_iadd d8_56 ?_
        refine x_nm (fun w57_11 ew57_11 => ?_)
        refine x_istore_n [some (vR _), some (vI _), some (vI _), some (vI _), some (vI _), some (vI _)] d8_57 rfl ?_
        refine x_iinc [some (vR _), some (vI _), some (vI _), some (vI _), some (vI _), some (vI _)] d8_58 rfl rfl ?_
        refine x_goto (t := 5) d8_61 rfl ?_
        exact ih3 (by omega) _ (by omega) _
      · refine x_aload_n d8_38 rfl ?_
        refine x_gfR d8_39 cl8 f2_9 (S.F.o rfl (by decide)) (V _ _ rfl) (S.F.r rfl) ?_
        refine x_iload d8_42 rfl ?_
        refine x_iaload d8_44 (S.F.o rfl (by decide)) ⟨by omega, by rw [(S.F.l (a := 50) (n := 5) (by decide) rfl)]; omega⟩ (V _ _ rfl) ?_
        refine x_nm (fun a12 e12 => ?_)
        have b12 : 0 ≤ a12 ∧ a12 ≤ 9 := by rw [e12]; exact (S.a50 _)
        refine x_goto (t := 56) d8_45 rfl ?_
        refine x_iadd d8_56 ?_
        refine x_nm (fun w57_13 ew57_13 => ?_)
        refine x_istore_n [some (vR _), some (vI _), some (vI _), some (vI _), some (vI _), some (vI _)] d8_57 rfl ?_
        refine x_iinc [some (vR _), some (vI _), some (vI _), some (vI _), some (vI _), some (vI _)] d8_58 rfl rfl ?_
        refine x_goto (t := 5) d8_61 rfl ?_
        exact ih3 (by omega) _ (by omega) _
theorem C9 {D : Nat → Nat → Bool} {d : Nat} {h : Hp} {mP mC mI mD mB : Nat → Nat} {nP nC nI nD nB : Nat} (V : Vis D) (S : Hv h mP mC mI mD mB nP nC nI nD nB) : ∃ v : Int, (fun v : Int => v = 1) v ∧ PV D (d + 1) 9 [vR (some 49)] h (vI v) := by
  refine PE_of (fun Q hQ => ?_)
  refine x_ent en9 ?_
  refine x_iconst d9_0 ?_
  refine x_nm (fun w1_1 ew1_1 => ?_)
  refine x_istore_n [some (vR _), some (vI _)] d9_1 rfl ?_
  refine (x_ub (N := 5) (P := fun i2 => wp D (d + 1) 9 2 [some (vR (some 49)), some (vI i2)] [] h Q) w1_1 (by omega) (fun i2 hi2 hj2 ih2 => ?_))
  refine x_iload_n d9_2 rfl ?_
  refine x_iconst d9_3 ?_
  refine x_icge (t := 30) d9_4 rfl (by omega) (fun c4_3 => ?_) (fun c4_3 => ?_)
  · refine x_iconst d9_30 ?_
    exact x_zret d9_31 rt9 (by omega) (hQ _ (by omega))
  · refine x_aload_n d9_7 rfl ?_
    refine x_gfR d9_8 cl9 f2_9 (S.F.o rfl (by decide)) (V _ _ rfl) (S.F.r rfl) ?_
    refine x_iload_n d9_11 rfl ?_
    refine x_iaload d9_12 (S.F.o rfl (by decide)) ⟨by omega, by rw [(S.F.l (a := 50) (n := 5) (by decide) rfl)]; omega⟩ (V _ _ rfl) ?_
    refine x_nm (fun a4 e4 => ?_)
    have b4 : 0 ≤ a4 ∧ a4 ≤ 9 := by rw [e4]; exact (S.a50 _)
    refine x_iconst d9_13 ?_
    refine x_bipush d9_14 (by decide) ?_
    refine x_SE d9_16 cl9 m2_51 kd83 po83 le83 (C83 (by omega) (by omega) (by omega)) (fun v5 r5 z5 => ?_)
    try dsimp only at r5
    refine x_ifne (t := 24) d9_19 rfl (by omega) (fun c19_6 => ?_) (fun c19_6 => ?_)
    · refine x_iinc [some (vR _), some (vI _)] d9_24 rfl rfl ?_
      refine x_goto (t := 2) d9_27 rfl ?_
      exact ih2 (by omega) 
    · exfalso; omega
theorem C13 {D : Nat → Nat → Bool} {d : Nat} {h : Hp} {x : Int} {mP mC mI mD mB : Nat → Nat} {nP nC nI nD nB : Nat} (V : Vis D) (S : Hv h mP mC mI mD mB nP nC nI nD nB) {p : Nat} (P : Pc h p) (qx : -1 ≤ x ∧ x < hI h 47 0) : ∃ v : Int, (fun v : Int => True) v ∧ PV D (d + 0) 13 [vR (some 47), vR (some p), vI x] h (vL v) := by
  refine PEL_of (fun Q hQ => ?_)
  refine x_ent en13 ?_
  have hhd := S.hands
  refine x_lconst (z := 1) d13_0 rfl ?_
  refine x_nmL (fun w1_1 ew1_1 => ?_)
  refine x_lstore_n [some (vR _), some (vR _), some (vI _), some (vL _), none, none, none] d13_1 rfl ?_
  refine x_iconst d13_2 ?_
  refine x_nm (fun w3_2 ew3_2 => ?_)
  refine x_istore [some (vR _), some (vR _), some (vI _), some (vL _), none, some (vI _), none] d13_3 rfl ?_
  refine (x_ub (N := 8) (P := fun i3 => ∀ s3_3 : Int, ∀ t3_6 : Option XV, wp D (d + 0) 13 5 [some (vR (some 47)), some (vR (some p)), some (vI x), some (vL s3_3), none, some (vI i3), t3_6] [] h Q) w3_2 (by omega) (fun i3 hi3 hj3 ih3 s3_3 t3_6 => ?_)) _ _
  refine x_iload d13_5 rfl ?_
  refine x_bipush d13_7 (by decide) ?_
  refine x_icge (t := 80) d13_9 rfl (by omega) (fun c9_4 => ?_) (fun c9_4 => ?_)
  · refine x_lload_n d13_80 rfl ?_
    exact x_lret d13_81 rt13 (hQ _ trivial)
  · refine x_iload_n d13_12 rfl ?_
    refine x_iconst d13_13 ?_
    refine x_icne (t := 22) d13_14 rfl (by omega) (fun c14_5 => ?_) (fun c14_5 => ?_)
    · refine x_aload_n d13_22 rfl ?_
      refine x_gfR d13_23 cl13 f3_9 (S.F.o rfl (by decide)) (V _ _ rfl) (S.F.r rfl) ?_
      refine x_iload_n d13_26 rfl ?_
      refine x_bipush d13_27 (by decide) ?_
      refine x_imul d13_29 ?_
      refine x_iload d13_30 rfl ?_
      refine x_iadd d13_32 ?_
      refine x_iaload d13_33 (S.F.o rfl (by decide)) ⟨by omega, by rw [(S.F.l (a := 48) (n := 40) (by decide) rfl)]; omega⟩ (V _ _ rfl) ?_
      refine x_nm (fun a6 e6 => ?_)
      have b6 : 0 ≤ a6 ∧ a6 ≤ 16 := by rw [e6]; exact (S.a48 _)
      refine x_nm (fun w34_7 ew34_7 => ?_)
      refine x_istore [some (vR _), some (vR _), some (vI _), some (vL _), none, some (vI _), some (vI _)] d13_34 rfl ?_
      refine x_aload_n d13_36 rfl ?_
      refine x_gfR d13_37 cl13 f3_19 (Pc.ob P) (V.g (Pc.g P)) (Pc.r5 P) ?_
      refine x_iload d13_40 rfl ?_
      refine x_iaload d13_42 (Pc.o5 P) ⟨by omega, by rw [(Pc.l5 P)]; omega⟩ (V.g (by have := Pc.g P; omega)) ?_
      refine x_nm (fun a8 e8 => ?_)
      have b8 : 0 ≤ a8 ∧ a8 ≤ 2 := by rw [e8]; exact (Pc.marks P _)
      refine x_iconst d13_43 ?_
      refine x_icne (t := 55) d13_44 rfl (by omega) (fun c44_9 => ?_) (fun c44_9 => ?_)
      · refine x_aload_n d13_55 rfl ?_
        refine x_gfR d13_56 cl13 f3_19 (Pc.ob P) (V.g (Pc.g P)) (Pc.r5 P) ?_
        refine x_iload d13_59 rfl ?_
        refine x_iaload d13_61 (Pc.o5 P) ⟨by omega, by rw [(Pc.l5 P)]; omega⟩ (V.g (by have := Pc.g P; omega)) ?_
        refine x_nm (fun a10 e10 => ?_)
        have b10 : 0 ≤ a10 ∧ a10 ≤ 2 := by rw [e10]; exact (Pc.marks P _)
        refine x_ifne (t := 74) d13_62 rfl (by omega) (fun c62_11 => ?_) (fun c62_11 => ?_)
        · refine x_iinc [some (vR _), some (vR _), some (vI _), some (vL _), none, some (vI _), some (vI _)] d13_74 rfl rfl ?_
          refine x_goto (t := 5) d13_77 rfl ?_
          exact ih3 (by omega) _ _
        · refine x_lload_n d13_65 rfl ?_
          refine x_bipush d13_66 (by decide) ?_
          refine x_iload d13_68 rfl ?_
          refine x_isub d13_70 ?_
          refine x_i2l d13_71 ?_
          refine x_lmul d13_72 ?_
          refine x_nmL (fun w73_12 ew73_12 => ?_)
          refine x_lstore_n [some (vR _), some (vR _), some (vI _), some (vL _), none, some (vI _), some (vI _)] d13_73 rfl ?_
          refine x_iinc [some (vR _), some (vR _), some (vI _), some (vL _), none, some (vI _), some (vI _)] d13_74 rfl rfl ?_
          refine x_goto (t := 5) d13_77 rfl ?_
          exact ih3 (by omega) _ _
      · refine x_lload_n d13_47 rfl ?_
        refine x_iconst d13_48 ?_
        refine x_iload d13_49 rfl ?_
        refine x_iadd d13_51 ?_
        refine x_i2l d13_52 ?_
        refine x_lmul d13_53 ?_
        refine x_nmL (fun w54_13 ew54_13 => ?_)
        refine x_lstore_n [some (vR _), some (vR _), some (vI _), some (vL _), none, some (vI _), some (vI _)] d13_54 rfl ?_
        refine x_aload_n d13_55 rfl ?_
        refine x_gfR d13_56 cl13 f3_19 (Pc.ob P) (V.g (Pc.g P)) (Pc.r5 P) ?_
        refine x_iload d13_59 rfl ?_
        refine x_iaload d13_61 (Pc.o5 P) ⟨by omega, by rw [(Pc.l5 P)]; omega⟩ (V.g (by have := Pc.g P; omega)) ?_
        refine x_nm (fun a14 e14 => ?_)
        have b14 : 0 ≤ a14 ∧ a14 ≤ 2 := by rw [e14]; exact (Pc.marks P _)
        refine x_ifne (t := 74) d13_62 rfl (by omega) (fun c62_15 => ?_) (fun c62_15 => ?_)
        · refine x_iinc [some (vR _), some (vR _), some (vI _), some (vL _), none, some (vI _), some (vI _)] d13_74 rfl rfl ?_
          refine x_goto (t := 5) d13_77 rfl ?_
          exact ih3 (by omega) _ _
        · refine x_lload_n d13_65 rfl ?_
          refine x_bipush d13_66 (by decide) ?_
          refine x_iload d13_68 rfl ?_
          refine x_isub d13_70 ?_
          refine x_i2l d13_71 ?_
          refine x_lmul d13_72 ?_
          refine x_nmL (fun w73_16 ew73_16 => ?_)
          refine x_lstore_n [some (vR _), some (vR _), some (vI _), some (vL _), none, some (vI _), some (vI _)] d13_73 rfl ?_
          refine x_iinc [some (vR _), some (vR _), some (vI _), some (vL _), none, some (vI _), some (vI _)] d13_74 rfl rfl ?_
          refine x_goto (t := 5) d13_77 rfl ?_
          exact ih3 (by omega) _ _
    · refine x_bipush d13_17 (by decide) ?_
      refine x_goto (t := 34) d13_19 rfl ?_
      refine x_nm (fun w34_17 ew34_17 => ?_)
      refine x_istore [some (vR _), some (vR _), some (vI _), some (vL _), none, some (vI _), some (vI _)] d13_34 rfl ?_
      refine x_aload_n d13_36 rfl ?_
      refine x_gfR d13_37 cl13 f3_19 (Pc.ob P) (V.g (Pc.g P)) (Pc.r5 P) ?_
      refine x_iload d13_40 rfl ?_
      refine x_iaload d13_42 (Pc.o5 P) ⟨by omega, by rw [(Pc.l5 P)]; omega⟩ (V.g (by have := Pc.g P; omega)) ?_
      refine x_nm (fun a18 e18 => ?_)
      have b18 : 0 ≤ a18 ∧ a18 ≤ 2 := by rw [e18]; exact (Pc.marks P _)
      refine x_iconst d13_43 ?_
      refine x_icne (t := 55) d13_44 rfl (by omega) (fun c44_19 => ?_) (fun c44_19 => ?_)
      · refine x_aload_n d13_55 rfl ?_
        refine x_gfR d13_56 cl13 f3_19 (Pc.ob P) (V.g (Pc.g P)) (Pc.r5 P) ?_
        refine x_iload d13_59 rfl ?_
        refine x_iaload d13_61 (Pc.o5 P) ⟨by omega, by rw [(Pc.l5 P)]; omega⟩ (V.g (by have := Pc.g P; omega)) ?_
        refine x_nm (fun a20 e20 => ?_)
        have b20 : 0 ≤ a20 ∧ a20 ≤ 2 := by rw [e20]; exact (Pc.marks P _)
        refine x_ifne (t := 74) d13_62 rfl (by omega) (fun c62_21 => ?_) (fun c62_21 => ?_)
        · refine x_iinc [some (vR _), some (vR _), some (vI _), some (vL _), none, some (vI _), some (vI _)] d13_74 rfl rfl ?_
          refine x_goto (t := 5) d13_77 rfl ?_
          exact ih3 (by omega) _ _
        · refine x_lload_n d13_65 rfl ?_
          refine x_bipush d13_66 (by decide) ?_
          refine x_iload d13_68 rfl ?_
          refine x_isub d13_70 ?_
          refine x_i2l d13_71 ?_
          refine x_lmul d13_72 ?_
          refine x_nmL (fun w73_22 ew73_22 => ?_)
          refine x_lstore_n [some (vR _), some (vR _), some (vI _), some (vL _), none, some (vI _), some (vI _)] d13_73 rfl ?_
          refine x_iinc [some (vR _), some (vR _), some (vI _), some (vL _), none, some (vI _), some (vI _)] d13_74 rfl rfl ?_
          refine x_goto (t := 5) d13_77 rfl ?_
          exact ih3 (by omega) _ _
      · refine x_lload_n d13_47 rfl ?_
        refine x_iconst d13_48 ?_
        refine x_iload d13_49 rfl ?_
        refine x_iadd d13_51 ?_
        refine x_i2l d13_52 ?_
        refine x_lmul d13_53 ?_
        refine x_nmL (fun w54_23 ew54_23 => ?_)
        refine x_lstore_n [some (vR _), some (vR _), some (vI _), some (vL _), none, some (vI _), some (vI _)] d13_54 rfl ?_
        refine x_aload_n d13_55 rfl ?_
        refine x_gfR d13_56 cl13 f3_19 (Pc.ob P) (V.g (Pc.g P)) (Pc.r5 P) ?_
        refine x_iload d13_59 rfl ?_
        refine x_iaload d13_61 (Pc.o5 P) ⟨by omega, by rw [(Pc.l5 P)]; omega⟩ (V.g (by have := Pc.g P; omega)) ?_
        refine x_nm (fun a24 e24 => ?_)
        have b24 : 0 ≤ a24 ∧ a24 ≤ 2 := by rw [e24]; exact (Pc.marks P _)
        refine x_ifne (t := 74) d13_62 rfl (by omega) (fun c62_25 => ?_) (fun c62_25 => ?_)
        · refine x_iinc [some (vR _), some (vR _), some (vI _), some (vL _), none, some (vI _), some (vI _)] d13_74 rfl rfl ?_
          refine x_goto (t := 5) d13_77 rfl ?_
          exact ih3 (by omega) _ _
        · refine x_lload_n d13_65 rfl ?_
          refine x_bipush d13_66 (by decide) ?_
          refine x_iload d13_68 rfl ?_
          refine x_isub d13_70 ?_
          refine x_i2l d13_71 ?_
          refine x_lmul d13_72 ?_
          refine x_nmL (fun w73_26 ew73_26 => ?_)
          refine x_lstore_n [some (vR _), some (vR _), some (vI _), some (vL _), none, some (vI _), some (vI _)] d13_73 rfl ?_
          refine x_iinc [some (vR _), some (vR _), some (vI _), some (vL _), none, some (vI _), some (vI _)] d13_74 rfl rfl ?_
          refine x_goto (t := 5) d13_77 rfl ?_
          exact ih3 (by omega) _ _
theorem C12 {D : Nat → Nat → Bool} {d : Nat} {h : Hp} {mP mC mI mD mB : Nat → Nat} {nP nC nI nD nB : Nat} (V : Vis D) (S : Hv h mP mC mI mD mB nP nC nI nD nB) {p : Nat} (P : Pc h p) : ∃ v : Int, (fun v : Int => -1 ≤ v ∧ v ≤ 5) v ∧ PV D (d + 1) 12 [vR (some 47), vR (some p)] h (vI v) := by
  refine PE_of (fun Q hQ => ?_)
  refine x_ent en12 ?_
  have hhd := S.hands
  refine x_iconst d12_0 ?_
  refine x_nm (fun w1_1 ew1_1 => ?_)
  refine x_istore_n [some (vR _), some (vR _), some (vI _), none, none, none, none, none] d12_1 rfl ?_
  refine x_aload_n d12_2 rfl ?_
  refine x_aload_n d12_3 rfl ?_
  refine x_iconst d12_4 ?_
  refine x_VEL d12_5 cl12 m3_24 kd13 tg13 po13 le13 (by decide) (S.F.o rfl (by decide)) (C13 V S P (by omega)) (fun v2 r2 z2 => ?_)
  try dsimp only at r2
  refine x_nmL (fun w8_3 ew8_3 => ?_)
  refine x_lstore_n [some (vR _), some (vR _), some (vI _), some (vL _), none, none, none, none] d12_8 rfl ?_
  refine x_iconst d12_9 ?_
  refine x_nm (fun w10_4 ew10_4 => ?_)
  refine x_istore [some (vR _), some (vR _), some (vI _), some (vL _), none, some (vI _), none, none] d12_10 rfl ?_
  refine (x_ub (N := hI h 47 0) (P := fun i5 => ∀ s5_2 : Int, (-1 ≤ s5_2 ∧ s5_2 ≤ 4) → ∀ s5_3 : Int, ∀ t5_6 : Option XV, ∀ t5_7 : Option XV, wp D (d + 1) 12 12 [some (vR (some 47)), some (vR (some p)), some (vI s5_2), some (vL s5_3), none, some (vI i5), t5_6, t5_7] [] h Q) w10_4 (by omega) (fun i5 hi5 hj5 ih5 s5_2 hs5_2 s5_3 t5_6 t5_7 => ?_)) _ (by omega) _ _ _
  refine x_iload d12_12 rfl ?_
  refine x_aload_n d12_14 rfl ?_
  refine x_gfI d12_15 cl12 f3_15 (by decide) (S.F.o rfl (by decide)) (V _ _ rfl) ?_
  have g6 := S.hands
  refine x_icge (t := 49) d12_18 rfl (by omega) (fun c18_7 => ?_) (fun c18_7 => ?_)
  · refine x_iload_n d12_49 rfl ?_
    exact x_iret d12_50 rt12 (hQ _ (by omega))
  · refine x_aload_n d12_21 rfl ?_
    refine x_aload_n d12_22 rfl ?_
    refine x_iload d12_23 rfl ?_
    refine x_VEL d12_25 cl12 m3_24 kd13 tg13 po13 le13 (by decide) (S.F.o rfl (by decide)) (C13 V S P (by omega)) (fun v8 r8 z8 => ?_)
    try dsimp only at r8
    refine x_nmL (fun w28_9 ew28_9 => ?_)
    refine x_lstore [some (vR _), some (vR _), some (vI _), some (vL _), none, some (vI _), some (vL _), none] d12_28 rfl ?_
    refine x_lload d12_30 rfl ?_
    refine x_lload_n d12_32 rfl ?_
    refine x_lcmpq d12_33 (fun q10 => ?_)
    refine x_ifle (t := 43) d12_34 rfl (by omega) (fun c34_11 => ?_) (fun c34_11 => ?_)
    · refine x_iinc [some (vR _), some (vR _), some (vI _), some (vL _), none, some (vI _), some (vL _), none] d12_43 rfl rfl ?_
      refine x_goto (t := 12) d12_46 rfl ?_
      exact ih5 (by omega) _ (by omega) _ _ _
    · refine x_lload d12_37 rfl ?_
      refine x_nmL (fun w39_12 ew39_12 => ?_)
      refine x_lstore_n [some (vR _), some (vR _), some (vI _), some (vL _), none, some (vI _), some (vL _), none] d12_39 rfl ?_
      refine x_iload d12_40 rfl ?_
      refine x_nm (fun w42_13 ew42_13 => ?_)
      refine x_istore_n [some (vR _), some (vR _), some (vI _), some (vL _), none, some (vI _), some (vL _), none] d12_42 rfl ?_
      refine x_iinc [some (vR _), some (vR _), some (vI _), some (vL _), none, some (vI _), some (vL _), none] d12_43 rfl rfl ?_
      refine x_goto (t := 12) d12_46 rfl ?_
      exact ih5 (by omega) _ (by omega) _ _ _
theorem C41 {D : Nat → Nat → Bool} {d : Nat} {h : Hp} {x y : Int} {mP mC mI mD mB : Nat → Nat} {nP nC nI nD nB : Nat} (V : Vis D) (S : Hv h mP mC mI mD mB nP nC nI nD nB) (qx : 0 ≤ x ∧ x ≤ 5) (qy : 0 ≤ y ∧ y ≤ 5) : ∃ v : Int, (fun v : Int => -1 ≤ v ∧ v ≤ 999) v ∧ PV D (d + 0) 41 [vR (some 37), vI x, vI y] h (vI v) := by
  refine PE_of (fun Q hQ => ?_)
  refine x_ent en41 ?_
  refine x_aload_n d41_0 rfl ?_
  refine x_gfR d41_1 cl41 f6_15 (S.F.o rfl (by decide)) (V _ _ rfl) (S.F.r rfl) ?_
  refine x_iload_n d41_4 rfl ?_
  refine x_bipush d41_5 (by decide) ?_
  refine x_imul d41_7 ?_
  refine x_iload_n d41_8 rfl ?_
  refine x_iadd d41_9 ?_
  refine x_iaload d41_10 (S.F.o rfl (by decide)) ⟨by omega, by rw [(S.F.l (a := 39) (n := 36) (by decide) rfl)]; omega⟩ (V _ _ rfl) ?_
  refine x_nm (fun a1 e1 => ?_)
  have b1 : 0 ≤ a1 ∧ a1 ≤ 1000 := by rw [e1]; exact (S.a39 _)
  refine x_nm (fun w11_2 ew11_2 => ?_)
  refine x_istore_n [some (vR _), some (vI _), some (vI _), some (vI _)] d41_11 rfl ?_
  refine x_iload_n d41_12 rfl ?_
  refine x_sipush d41_13 (by decide) ?_
  refine x_icge (t := 23) d41_16 rfl (by omega) (fun c16_3 => ?_) (fun c16_3 => ?_)
  · refine x_iconst d41_23 ?_
    exact x_iret d41_24 rt41 (hQ _ (by omega))
  · refine x_iload_n d41_19 rfl ?_
    refine x_goto (t := 24) d41_20 rfl ?_
    exact x_iret d41_24 rt41 (hQ _ (by omega))
theorem C42 {D : Nat → Nat → Bool} {d : Nat} {h : Hp} {x y : Int} {mP mC mI mD mB : Nat → Nat} {nP nC nI nD nB : Nat} (V : Vis D) (S : Hv h mP mC mI mD mB nP nC nI nD nB) (qx : 0 ≤ x ∧ x ≤ 5) (qy : 0 ≤ y ∧ y ≤ 5) : ∃ v : Int, (fun v : Int => 0 ≤ v ∧ v ≤ 2) v ∧ PV D (d + 0) 42 [vR (some 37), vI x, vI y] h (vI v) := by
  refine PE_of (fun Q hQ => ?_)
  refine x_ent en42 ?_
  refine x_iload_n d42_0 rfl ?_
  refine x_iload_n d42_1 rfl ?_
  refine x_icne (t := 7) d42_2 rfl (by omega) (fun c2_1 => ?_) (fun c2_1 => ?_)
  · refine x_aload_n d42_7 rfl ?_
    refine x_gfR d42_8 cl42 f6_15 (S.F.o rfl (by decide)) (V _ _ rfl) (S.F.r rfl) ?_
    refine x_iload_n d42_11 rfl ?_
    refine x_bipush d42_12 (by decide) ?_
    refine x_imul d42_14 ?_
    refine x_iload_n d42_15 rfl ?_
    refine x_iadd d42_16 ?_
    refine x_iaload d42_17 (S.F.o rfl (by decide)) ⟨by omega, by rw [(S.F.l (a := 39) (n := 36) (by decide) rfl)]; omega⟩ (V _ _ rfl) ?_
    refine x_nm (fun a2 e2 => ?_)
    have b2 : 0 ≤ a2 ∧ a2 ≤ 1000 := by rw [e2]; exact (S.a39 _)
    refine x_iconst d42_18 ?_
    refine x_icgt (t := 26) d42_19 rfl (by omega) (fun c19_3 => ?_) (fun c19_3 => ?_)
    · refine x_iconst d42_26 ?_
      exact x_iret d42_27 rt42 (hQ _ (by omega))
    · refine x_iconst d42_22 ?_
      refine x_goto (t := 27) d42_23 rfl ?_
      exact x_iret d42_27 rt42 (hQ _ (by omega))
  · refine x_iconst d42_5 ?_
    exact x_iret d42_6 rt42 (hQ _ (by omega))
theorem C44 {D : Nat → Nat → Bool} {d : Nat} {h : Hp} {x y : Int} {mP mC mI mD mB : Nat → Nat} {nP nC nI nD nB : Nat} (V : Vis D) (S : Hv h mP mC mI mD mB nP nC nI nD nB) (qx : 0 ≤ x ∧ x ≤ 15) (qy : 0 ≤ y ∧ y ≤ 15) : ∃ v : Int, (fun v : Int => v = 0 ∨ v = 1) v ∧ PV D (d + 0) 44 [vR (some 37), vI x, vI y] h (vI v) := by
  refine PE_of (fun Q hQ => ?_)
  refine x_ent en44 ?_
  refine x_aload_n d44_0 rfl ?_
  refine x_gfR d44_1 cl44 f6_24 (S.F.o rfl (by decide)) (V _ _ rfl) (S.F.r rfl) ?_
  refine x_iload_n d44_4 rfl ?_
  refine x_iaload d44_5 (S.F.o rfl (by decide)) ⟨by omega, by rw [(S.F.l (a := 42) (n := 16) (by decide) rfl)]; omega⟩ (V _ _ rfl) ?_
  refine x_nm (fun a1 e1 => ?_)
  have b1 : 0 ≤ a1 ∧ a1 ≤ 4 := by rw [e1]; exact (S.a42 _)
  refine x_aload_n d44_6 rfl ?_
  refine x_gfR d44_7 cl44 f6_24 (S.F.o rfl (by decide)) (V _ _ rfl) (S.F.r rfl) ?_
  refine x_iload_n d44_10 rfl ?_
  refine x_iaload d44_11 (S.F.o rfl (by decide)) ⟨by omega, by rw [(S.F.l (a := 42) (n := 16) (by decide) rfl)]; omega⟩ (V _ _ rfl) ?_
  refine x_nm (fun a2 e2 => ?_)
  have b2 : 0 ≤ a2 ∧ a2 ≤ 4 := by rw [e2]; exact (S.a42 _)
  refine x_iceq (t := 36) d44_12 rfl (by omega) (fun c12_3 => ?_) (fun c12_3 => ?_)
  · refine x_aload_n d44_36 rfl ?_
    refine x_gfR d44_37 cl44 f6_18 (S.F.o rfl (by decide)) (V _ _ rfl) (S.F.r rfl) ?_
    refine x_iload_n d44_40 rfl ?_
    refine x_iaload d44_41 (S.F.o rfl (by decide)) ⟨by omega, by rw [(S.F.l (a := 40) (n := 16) (by decide) rfl)]; omega⟩ (V _ _ rfl) ?_
    refine x_nm (fun a4 e4 => ?_)
    have b4 : 0 ≤ a4 ∧ a4 ≤ 999 := by rw [e4]; exact (S.a40 _)
    refine x_aload_n d44_42 rfl ?_
    refine x_gfR d44_43 cl44 f6_18 (S.F.o rfl (by decide)) (V _ _ rfl) (S.F.r rfl) ?_
    refine x_iload_n d44_46 rfl ?_
    refine x_iaload d44_47 (S.F.o rfl (by decide)) ⟨by omega, by rw [(S.F.l (a := 40) (n := 16) (by decide) rfl)]; omega⟩ (V _ _ rfl) ?_
    refine x_nm (fun a5 e5 => ?_)
    have b5 : 0 ≤ a5 ∧ a5 ≤ 999 := by rw [e5]; exact (S.a40 _)
    refine x_iclt (t := 55) d44_48 rfl (by omega) (fun c48_6 => ?_) (fun c48_6 => ?_)
    · refine x_iconst d44_55 ?_
      exact x_zret d44_56 rt44 (by omega) (hQ _ (by omega))
    · refine x_iconst d44_51 ?_
      refine x_goto (t := 56) d44_52 rfl ?_
      exact x_zret d44_56 rt44 (by omega) (hQ _ (by omega))
  · refine x_aload_n d44_15 rfl ?_
    refine x_gfR d44_16 cl44 f6_24 (S.F.o rfl (by decide)) (V _ _ rfl) (S.F.r rfl) ?_
    refine x_iload_n d44_19 rfl ?_
    refine x_iaload d44_20 (S.F.o rfl (by decide)) ⟨by omega, by rw [(S.F.l (a := 42) (n := 16) (by decide) rfl)]; omega⟩ (V _ _ rfl) ?_
    refine x_nm (fun a7 e7 => ?_)
    have b7 : 0 ≤ a7 ∧ a7 ≤ 4 := by rw [e7]; exact (S.a42 _)
    refine x_aload_n d44_21 rfl ?_
    refine x_gfR d44_22 cl44 f6_24 (S.F.o rfl (by decide)) (V _ _ rfl) (S.F.r rfl) ?_
    refine x_iload_n d44_25 rfl ?_
    refine x_iaload d44_26 (S.F.o rfl (by decide)) ⟨by omega, by rw [(S.F.l (a := 42) (n := 16) (by decide) rfl)]; omega⟩ (V _ _ rfl) ?_
    refine x_nm (fun a8 e8 => ?_)
    have b8 : 0 ≤ a8 ∧ a8 ≤ 4 := by rw [e8]; exact (S.a42 _)
    refine x_icge (t := 34) d44_27 rfl (by omega) (fun c27_9 => ?_) (fun c27_9 => ?_)
    · refine x_iconst d44_34 ?_
      exact x_zret d44_35 rt44 (by omega) (hQ _ (by omega))
    · refine x_iconst d44_30 ?_
      refine x_goto (t := 35) d44_31 rfl ?_
      exact x_zret d44_35 rt44 (by omega) (hQ _ (by omega))
theorem C43 {D : Nat → Nat → Bool} {d : Nat} {h : Hp} {x y w : Int} {mP mC mI mD mB : Nat → Nat} {nP nC nI nD nB : Nat} (V : Vis D) (S : Hv h mP mC mI mD mB nP nC nI nD nB) (qx : -2147483648 ≤ x ∧ x < 2147483648) (qy : -2147483648 ≤ y ∧ y < 2147483648) (qw : -2147483648 ≤ w ∧ w < 2147483648) : ∃ v : Int, (fun v : Int => -1 ≤ v ∧ v ≤ 99) v ∧ PV D (d + 1) 43 [vR (some 37), vI x, vI y, vI w] h (vI v) := by
  refine PE_of (fun Q hQ => ?_)
  refine x_ent en43 ?_
  have hrt := S.rates
  refine x_iconst d43_0 ?_
  refine x_nm (fun w1_1 ew1_1 => ?_)
  refine x_istore [some (vR _), some (vI _), some (vI _), some (vI _), some (vI _), none, none] d43_1 rfl ?_
  refine x_iconst d43_3 ?_
  refine x_nm (fun w4_2 ew4_2 => ?_)
  refine x_istore [some (vR _), some (vI _), some (vI _), some (vI _), some (vI _), some (vI _), none] d43_4 rfl ?_
  refine (x_ub (N := hI h 37 2) (P := fun i3 => ∀ s3_4 : Int, (-1 ≤ s3_4 ∧ s3_4 < 16) → ∀ t3_6 : Option XV, wp D (d + 1) 43 6 [some (vR (some 37)), some (vI x), some (vI y), some (vI w), some (vI s3_4), some (vI i3), t3_6] [] h Q) w4_2 (by omega) (fun i3 hi3 hj3 ih3 s3_4 hs3_4 t3_6 => ?_)) _ (by omega) _
  refine x_iload d43_6 rfl ?_
  refine x_aload_n d43_8 rfl ?_
  refine x_gfI d43_9 cl43 f6_46 (by decide) (S.F.o rfl (by decide)) (V _ _ rfl) ?_
  have g4 := S.rates
  refine x_icge (t := 87) d43_12 rfl (by omega) (fun c12_5 => ?_) (fun c12_5 => ?_)
  · refine x_iload d43_87 rfl ?_
    refine x_iconst d43_89 ?_
    refine x_icne (t := 97) d43_90 rfl (by omega) (fun c90_6 => ?_) (fun c90_6 => ?_)
    · refine x_aload_n d43_97 rfl ?_
      refine x_gfR d43_98 cl43 f6_27 (S.F.o rfl (by decide)) (V _ _ rfl) (S.F.r rfl) ?_
      refine x_iload d43_101 rfl ?_
      refine x_iaload d43_103 (S.F.o rfl (by decide)) ⟨by omega, by rw [(S.F.l (a := 43) (n := 16) (by decide) rfl)]; omega⟩ (V _ _ rfl) ?_
      refine x_nm (fun a7 e7 => ?_)
      have b7 : 0 ≤ a7 ∧ a7 ≤ 99 := by rw [e7]; exact (S.a43 _)
      exact x_iret d43_104 rt43 (hQ _ (by omega))
    · refine x_iconst d43_93 ?_
      refine x_goto (t := 104) d43_94 rfl ?_
      exact x_iret d43_104 rt43 (hQ _ (by omega))
  · refine x_aload_n d43_15 rfl ?_
    refine x_gfR d43_16 cl43 f6_21 (S.F.o rfl (by decide)) (V _ _ rfl) (S.F.r rfl) ?_
    refine x_iload d43_19 rfl ?_
    refine x_iaload d43_21 (S.F.o rfl (by decide)) ⟨by omega, by rw [(S.F.l (a := 41) (n := 16) (by decide) rfl)]; omega⟩ (V _ _ rfl) ?_
    refine x_nm (fun a8 e8 => ?_)
    have b8 : 0 ≤ a8 ∧ a8 ≤ 2 := by rw [e8]; exact (S.a41 _)
    refine x_iload_n d43_22 rfl ?_
    refine x_icne (t := 52) d43_23 rfl (by omega) (fun c23_9 => ?_) (fun c23_9 => ?_)
    · refine x_iconst d43_52 ?_
      refine x_nm (fun w53_10 ew53_10 => ?_)
      refine x_istore [some (vR _), some (vI _), some (vI _), some (vI _), some (vI _), some (vI _), some (vI _)] d43_53 rfl ?_
      refine x_iload d43_55 rfl ?_
      refine x_ifeq (t := 81) d43_57 rfl (by omega) (fun c57_11 => ?_) (fun c57_11 => ?_)
      · refine x_iinc [some (vR _), some (vI _), some (vI _), some (vI _), some (vI _), some (vI _), some (vI _)] d43_81 rfl rfl ?_
        refine x_goto (t := 6) d43_84 rfl ?_
        exact ih3 (by omega) _ (by omega) _
      · refine x_iload d43_60 rfl ?_
        refine x_iconst d43_62 ?_
        refine x_iceq (t := 77) d43_63 rfl (by omega) (fun c63_12 => ?_) (fun c63_12 => ?_)
        · refine x_iload d43_77 rfl ?_
          refine x_nm (fun w79_13 ew79_13 => ?_)
          refine x_istore [some (vR _), some (vI _), some (vI _), some (vI _), some (vI _), some (vI _), some (vI _)] d43_79 rfl ?_
          refine x_iinc [some (vR _), some (vI _), some (vI _), some (vI _), some (vI _), some (vI _), some (vI _)] d43_81 rfl rfl ?_
          refine x_goto (t := 6) d43_84 rfl ?_
          exact ih3 (by omega) _ (by omega) _
        · refine x_aload_n d43_66 rfl ?_
          refine x_iload d43_67 rfl ?_
          refine x_iload d43_69 rfl ?_
          refine x_VE d43_71 cl43 m6_50 kd44 tg44 po44 le44 (by decide) (S.F.o rfl (by decide)) (C44 V S (by omega) (by omega)) (fun v14 r14 z14 => ?_)
          try dsimp only at r14
          refine x_ifeq (t := 81) d43_74 rfl (by omega) (fun c74_15 => ?_) (fun c74_15 => ?_)
          · refine x_iinc [some (vR _), some (vI _), some (vI _), some (vI _), some (vI _), some (vI _), some (vI _)] d43_81 rfl rfl ?_
            refine x_goto (t := 6) d43_84 rfl ?_
            exact ih3 (by omega) _ (by omega) _
          · refine x_iload d43_77 rfl ?_
            refine x_nm (fun w79_16 ew79_16 => ?_)
            refine x_istore [some (vR _), some (vI _), some (vI _), some (vI _), some (vI _), some (vI _), some (vI _)] d43_79 rfl ?_
            refine x_iinc [some (vR _), some (vI _), some (vI _), some (vI _), some (vI _), some (vI _), some (vI _)] d43_81 rfl rfl ?_
            refine x_goto (t := 6) d43_84 rfl ?_
            exact ih3 (by omega) _ (by omega) _
    · refine x_aload_n d43_26 rfl ?_
      refine x_gfR d43_27 cl43 f6_24 (S.F.o rfl (by decide)) (V _ _ rfl) (S.F.r rfl) ?_
      refine x_iload d43_30 rfl ?_
      refine x_iaload d43_32 (S.F.o rfl (by decide)) ⟨by omega, by rw [(S.F.l (a := 42) (n := 16) (by decide) rfl)]; omega⟩ (V _ _ rfl) ?_
      refine x_nm (fun a17 e17 => ?_)
      have b17 : 0 ≤ a17 ∧ a17 ≤ 4 := by rw [e17]; exact (S.a42 _)
      refine x_iload_n d43_33 rfl ?_
      refine x_iclt (t := 52) d43_34 rfl (by omega) (fun c34_18 => ?_) (fun c34_18 => ?_)
      · refine x_iconst d43_52 ?_
        refine x_nm (fun w53_19 ew53_19 => ?_)
        refine x_istore [some (vR _), some (vI _), some (vI _), some (vI _), some (vI _), some (vI _), some (vI _)] d43_53 rfl ?_
        refine x_iload d43_55 rfl ?_
        refine x_ifeq (t := 81) d43_57 rfl (by omega) (fun c57_20 => ?_) (fun c57_20 => ?_)
        · refine x_iinc [some (vR _), some (vI _), some (vI _), some (vI _), some (vI _), some (vI _), some (vI _)] d43_81 rfl rfl ?_
          refine x_goto (t := 6) d43_84 rfl ?_
          exact ih3 (by omega) _ (by omega) _
        · refine x_iload d43_60 rfl ?_
          refine x_iconst d43_62 ?_
          refine x_iceq (t := 77) d43_63 rfl (by omega) (fun c63_21 => ?_) (fun c63_21 => ?_)
          · refine x_iload d43_77 rfl ?_
            refine x_nm (fun w79_22 ew79_22 => ?_)
            refine x_istore [some (vR _), some (vI _), some (vI _), some (vI _), some (vI _), some (vI _), some (vI _)] d43_79 rfl ?_
            refine x_iinc [some (vR _), some (vI _), some (vI _), some (vI _), some (vI _), some (vI _), some (vI _)] d43_81 rfl rfl ?_
            refine x_goto (t := 6) d43_84 rfl ?_
            exact ih3 (by omega) _ (by omega) _
          · refine x_aload_n d43_66 rfl ?_
            refine x_iload d43_67 rfl ?_
            refine x_iload d43_69 rfl ?_
            refine x_VE d43_71 cl43 m6_50 kd44 tg44 po44 le44 (by decide) (S.F.o rfl (by decide)) (C44 V S (by omega) (by omega)) (fun v23 r23 z23 => ?_)
            try dsimp only at r23
            refine x_ifeq (t := 81) d43_74 rfl (by omega) (fun c74_24 => ?_) (fun c74_24 => ?_)
            · refine x_iinc [some (vR _), some (vI _), some (vI _), some (vI _), some (vI _), some (vI _), some (vI _)] d43_81 rfl rfl ?_
              refine x_goto (t := 6) d43_84 rfl ?_
              exact ih3 (by omega) _ (by omega) _
            · refine x_iload d43_77 rfl ?_
              refine x_nm (fun w79_25 ew79_25 => ?_)
              refine x_istore [some (vR _), some (vI _), some (vI _), some (vI _), some (vI _), some (vI _), some (vI _)] d43_79 rfl ?_
              refine x_iinc [some (vR _), some (vI _), some (vI _), some (vI _), some (vI _), some (vI _), some (vI _)] d43_81 rfl rfl ?_
              refine x_goto (t := 6) d43_84 rfl ?_
              exact ih3 (by omega) _ (by omega) _
      · refine x_aload_n d43_37 rfl ?_
        refine x_gfR d43_38 cl43 f6_18 (S.F.o rfl (by decide)) (V _ _ rfl) (S.F.r rfl) ?_
        refine x_iload d43_41 rfl ?_
        refine x_iaload d43_43 (S.F.o rfl (by decide)) ⟨by omega, by rw [(S.F.l (a := 40) (n := 16) (by decide) rfl)]; omega⟩ (V _ _ rfl) ?_
        refine x_nm (fun a26 e26 => ?_)
        have b26 : 0 ≤ a26 ∧ a26 ≤ 999 := by rw [e26]; exact (S.a40 _)
        refine x_iload_n d43_44 rfl ?_
        refine x_icgt (t := 52) d43_45 rfl (by omega) (fun c45_27 => ?_) (fun c45_27 => ?_)
        · refine x_iconst d43_52 ?_
          refine x_nm (fun w53_28 ew53_28 => ?_)
          refine x_istore [some (vR _), some (vI _), some (vI _), some (vI _), some (vI _), some (vI _), some (vI _)] d43_53 rfl ?_
          refine x_iload d43_55 rfl ?_
          refine x_ifeq (t := 81) d43_57 rfl (by omega) (fun c57_29 => ?_) (fun c57_29 => ?_)
          · refine x_iinc [some (vR _), some (vI _), some (vI _), some (vI _), some (vI _), some (vI _), some (vI _)] d43_81 rfl rfl ?_
            refine x_goto (t := 6) d43_84 rfl ?_
            exact ih3 (by omega) _ (by omega) _
          · refine x_iload d43_60 rfl ?_
            refine x_iconst d43_62 ?_
            refine x_iceq (t := 77) d43_63 rfl (by omega) (fun c63_30 => ?_) (fun c63_30 => ?_)
            · refine x_iload d43_77 rfl ?_
              refine x_nm (fun w79_31 ew79_31 => ?_)
              refine x_istore [some (vR _), some (vI _), some (vI _), some (vI _), some (vI _), some (vI _), some (vI _)] d43_79 rfl ?_
              refine x_iinc [some (vR _), some (vI _), some (vI _), some (vI _), some (vI _), some (vI _), some (vI _)] d43_81 rfl rfl ?_
              refine x_goto (t := 6) d43_84 rfl ?_
              exact ih3 (by omega) _ (by omega) _
            · refine x_aload_n d43_66 rfl ?_
              refine x_iload d43_67 rfl ?_
              refine x_iload d43_69 rfl ?_
              refine x_VE d43_71 cl43 m6_50 kd44 tg44 po44 le44 (by decide) (S.F.o rfl (by decide)) (C44 V S (by omega) (by omega)) (fun v32 r32 z32 => ?_)
              try dsimp only at r32
              refine x_ifeq (t := 81) d43_74 rfl (by omega) (fun c74_33 => ?_) (fun c74_33 => ?_)
              · refine x_iinc [some (vR _), some (vI _), some (vI _), some (vI _), some (vI _), some (vI _), some (vI _)] d43_81 rfl rfl ?_
                refine x_goto (t := 6) d43_84 rfl ?_
                exact ih3 (by omega) _ (by omega) _
              · refine x_iload d43_77 rfl ?_
                refine x_nm (fun w79_34 ew79_34 => ?_)
                refine x_istore [some (vR _), some (vI _), some (vI _), some (vI _), some (vI _), some (vI _), some (vI _)] d43_79 rfl ?_
                refine x_iinc [some (vR _), some (vI _), some (vI _), some (vI _), some (vI _), some (vI _), some (vI _)] d43_81 rfl rfl ?_
                refine x_goto (t := 6) d43_84 rfl ?_
                exact ih3 (by omega) _ (by omega) _
        · refine x_iconst d43_48 ?_
          refine x_goto (t := 53) d43_49 rfl ?_
          refine x_nm (fun w53_35 ew53_35 => ?_)
          refine x_istore [some (vR _), some (vI _), some (vI _), some (vI _), some (vI _), some (vI _), some (vI _)] d43_53 rfl ?_
          refine x_iload d43_55 rfl ?_
          refine x_ifeq (t := 81) d43_57 rfl (by omega) (fun c57_36 => ?_) (fun c57_36 => ?_)
          · refine x_iinc [some (vR _), some (vI _), some (vI _), some (vI _), some (vI _), some (vI _), some (vI _)] d43_81 rfl rfl ?_
            refine x_goto (t := 6) d43_84 rfl ?_
            exact ih3 (by omega) _ (by omega) _
          · refine x_iload d43_60 rfl ?_
            refine x_iconst d43_62 ?_
            refine x_iceq (t := 77) d43_63 rfl (by omega) (fun c63_37 => ?_) (fun c63_37 => ?_)
            · refine x_iload d43_77 rfl ?_
              refine x_nm (fun w79_38 ew79_38 => ?_)
              refine x_istore [some (vR _), some (vI _), some (vI _), some (vI _), some (vI _), some (vI _), some (vI _)] d43_79 rfl ?_
              refine x_iinc [some (vR _), some (vI _), some (vI _), some (vI _), some (vI _), some (vI _), some (vI _)] d43_81 rfl rfl ?_
              refine x_goto (t := 6) d43_84 rfl ?_
              exact ih3 (by omega) _ (by omega) _
            · refine x_aload_n d43_66 rfl ?_
              refine x_iload d43_67 rfl ?_
              refine x_iload d43_69 rfl ?_
              refine x_VE d43_71 cl43 m6_50 kd44 tg44 po44 le44 (by decide) (S.F.o rfl (by decide)) (C44 V S (by omega) (by omega)) (fun v39 r39 z39 => ?_)
              try dsimp only at r39
              refine x_ifeq (t := 81) d43_74 rfl (by omega) (fun c74_40 => ?_) (fun c74_40 => ?_)
              · refine x_iinc [some (vR _), some (vI _), some (vI _), some (vI _), some (vI _), some (vI _), some (vI _)] d43_81 rfl rfl ?_
                refine x_goto (t := 6) d43_84 rfl ?_
                exact ih3 (by omega) _ (by omega) _
              · refine x_iload d43_77 rfl ?_
                refine x_nm (fun w79_41 ew79_41 => ?_)
                refine x_istore [some (vR _), some (vI _), some (vI _), some (vI _), some (vI _), some (vI _), some (vI _)] d43_79 rfl ?_
                refine x_iinc [some (vR _), some (vI _), some (vI _), some (vI _), some (vI _), some (vI _), some (vI _)] d43_81 rfl rfl ?_
                refine x_goto (t := 6) d43_84 rfl ?_
                exact ih3 (by omega) _ (by omega) _
theorem C2 {D : Nat → Nat → Bool} {d : Nat} {h : Hp} {c : Nat} (G : Cv h c) (V : Vis D) : ∃ v : Int, (fun v : Int => 0 ≤ v ∧ v ≤ 40) v ∧ PV D (d + 0) 2 [vR (some c)] h (vI v) := by
  refine PE_of (fun Q hQ => ?_)
  refine x_ent en2 ?_
  refine x_iconst d2_0 ?_
  refine x_nm (fun w1_1 ew1_1 => ?_)
  refine x_istore_n [some (vR _), some (vI _), none] d2_1 rfl ?_
  refine x_iconst d2_2 ?_
  refine x_nm (fun w3_2 ew3_2 => ?_)
  refine x_istore_n [some (vR _), some (vI _), some (vI _)] d2_3 rfl ?_
  refine (x_ub (N := 10) (P := fun i3 => ∀ s3_1 : Int, (0 ≤ s3_1 ∧ s3_1 ≤ 4 * i3) → wp D (d + 0) 2 4 [some (vR (some c)), some (vI s3_1), some (vI i3)] [] h Q) w3_2 (by omega) (fun i3 hi3 hj3 ih3 s3_1 hs3_1 => ?_)) _ (by omega)
  refine x_iload_n d2_4 rfl ?_
  refine x_bipush d2_5 (by decide) ?_
  refine x_icge (t := 25) d2_7 rfl (by omega) (fun c7_4 => ?_) (fun c7_4 => ?_)
  · refine x_iload_n d2_25 rfl ?_
    exact x_iret d2_26 rt2 (hQ _ (by omega))
  · refine x_iload_n d2_10 rfl ?_
    refine x_aload_n d2_11 rfl ?_
    refine x_gfR d2_12 cl2 f1_9 (Cv.ob G) (V.g (Cv.g G)) (Cv.r1 G) ?_
    refine x_iload_n d2_15 rfl ?_
    refine x_iaload d2_16 (Cv.o1 G) ⟨by omega, by rw [(Cv.l1 G)]; omega⟩ (V.g (by have := Cv.g G; omega)) ?_
    refine x_nm (fun a5 e5 => ?_)
    have b5 : 0 ≤ a5 ∧ a5 ≤ 4 := by rw [e5]; exact (Cv.stamps G _)
    refine x_iadd d2_17 ?_
    refine x_nm (fun w18_6 ew18_6 => ?_)
    refine x_istore_n [some (vR _), some (vI _), some (vI _)] d2_18 rfl ?_
    refine x_iinc [some (vR _), some (vI _), some (vI _)] d2_19 rfl rfl ?_
    refine x_goto (t := 4) d2_22 rfl ?_
    exact ih3 (by omega) _ (by omega)
theorem C80 {D : Nat → Nat → Bool} {d : Nat} {h : Hp} {x : Int} {t : Nat} (T : Tm h t) (V : Vis D) (qx : -2147483648 ≤ x ∧ x < 2147483648) : ∃ v : Int, (fun v : Int => v = 0 ∨ v = 1) v ∧ PV D (d + 0) 80 [vR (some t), vI x] h (vI v) := by
  refine PE_of (fun Q hQ => ?_)
  refine x_ent en80 ?_
  refine x_aload_n d80_0 rfl ?_
  refine x_gfI d80_1 cl80 f10_13 (by decide) (Tm.ob T) (V.g (Tm.g T)) ?_
  have g1 := (Tm.frm T)
  refine x_iload_n d80_4 rfl ?_
  refine x_icgt (t := 20) d80_5 rfl (by omega) (fun c5_2 => ?_) (fun c5_2 => ?_)
  · refine x_iconst d80_20 ?_
    exact x_zret d80_21 rt80 (by omega) (hQ _ (by omega))
  · refine x_iload_n d80_8 rfl ?_
    refine x_aload_n d80_9 rfl ?_
    refine x_gfI d80_10 cl80 f10_16 (by decide) (Tm.ob T) (V.g (Tm.g T)) ?_
    have g3 := (Tm.to T)
    refine x_icgt (t := 20) d80_13 rfl (by omega) (fun c13_4 => ?_) (fun c13_4 => ?_)
    · refine x_iconst d80_20 ?_
      exact x_zret d80_21 rt80 (by omega) (hQ _ (by omega))
    · refine x_iconst d80_16 ?_
      refine x_goto (t := 21) d80_17 rfl ?_
      exact x_zret d80_21 rt80 (by omega) (hQ _ (by omega))
