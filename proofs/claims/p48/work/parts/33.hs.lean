theorem C78 {D : Nat → Nat → Bool} {d : Nat} {h : Hp} {x : Int} {mP mC mI mD mB : Nat → Nat} {nP nC nI nD nB : Nat} (V : Vis D) (S : Hv h mP mC mI mD mB nP nC nI nD nB) {p : Nat} (P : Pc h p) (qx : 0 ≤ x ∧ x < 8) : ∃ v : Int, (fun v : Int => 0 ≤ v ∧ v ≤ 30000) v ∧ PV D (d + 0) 78 [vR (some 63), vI x, vR (some p)] h (vI v) := by
  refine PE_of (fun Q hQ => ?_)
  refine x_ent en78 ?_
  refine x_iconst d78_0 ?_
  refine x_nm (fun w1_1 ew1_1 => ?_)
  refine x_istore_n [some (vR _), some (vI _), some (vR _), some (vI _), none, none, none] d78_1 rfl ?_
  refine x_iconst d78_2 ?_
  refine x_nm (fun w3_2 ew3_2 => ?_)
  refine x_istore [some (vR _), some (vI _), some (vR _), some (vI _), some (vI _), none, none] d78_3 rfl ?_
  refine (x_ub (N := 3) (P := fun i3 => ∀ s3_3 : Int, (0 ≤ s3_3 ∧ s3_3 ≤ 10000 * i3) → ∀ t3_5 : Option XV, ∀ t3_6 : Option XV, wp D (d + 0) 78 5 [some (vR (some 63)), some (vI x), some (vR (some p)), some (vI s3_3), some (vI i3), t3_5, t3_6] [] h Q) w3_2 (by omega) (fun i3 hi3 hj3 ih3 s3_3 hs3_3 t3_5 t3_6 => ?_)) _ (by omega) _ _
  refine x_iload d78_5 rfl ?_
  refine x_iconst d78_7 ?_
  refine x_icge (t := 64) d78_8 rfl (by omega) (fun c8_4 => ?_) (fun c8_4 => ?_)
  · refine x_iload_n d78_64 rfl ?_
    exact x_iret d78_65 rt78 (hQ _ (by omega))
  · refine x_aload_n d78_11 rfl ?_
    refine x_gfR d78_12 cl78 f9_15 (S.F.o rfl (by decide)) (V _ _ rfl) (S.F.r rfl) ?_
    refine x_iload_n d78_15 rfl ?_
    refine x_iconst d78_16 ?_
    refine x_imul d78_17 ?_
    refine x_iload d78_18 rfl ?_
    refine x_iadd d78_20 ?_
    refine x_iaload d78_21 (S.F.o rfl (by decide)) ⟨by omega, by rw [(S.F.l (a := 65) (n := 24) (by decide) rfl)]; omega⟩ (V _ _ rfl) ?_
    refine x_nm (fun a5 e5 => ?_)
    have b5 : 0 ≤ a5 ∧ a5 ≤ 99 := by rw [e5]; exact (S.a65 _)
    refine x_nm (fun w22_6 ew22_6 => ?_)
    refine x_istore [some (vR _), some (vI _), some (vR _), some (vI _), some (vI _), some (vI _), _] d78_22 rfl ?_
    refine x_iload d78_24 rfl ?_
    refine x_bipush d78_26 (by decide) ?_
    refine x_iload d78_28 rfl ?_
    refine x_isub d78_30 ?_
    refine x_aload_n d78_31 rfl ?_
    refine x_gfI d78_32 cl78 f9_33 (by decide) (Pc.ob P) (V.g (Pc.g P)) ?_
    have g7 := (Pc.light P)
    refine x_imul d78_35 ?_
    refine x_bipush d78_36 (by decide) ?_
    have hq := mul_rng (a := 99 - w22_6) (b := hI h p 15) (A := 99) (B := 50) (by omega) (by have := P.light; omega)
    have hq2 := tdiv_rng (a := (99 - w22_6) * hI h p 15) (b := 100) (by omega) (by omega)
    refine x_idiv d78_38 (by omega) ?_
    refine x_iadd d78_39 ?_
    refine x_nm (fun w40_8 ew40_8 => ?_)
    refine x_istore [some (vR _), some (vI _), some (vR _), some (vI _), some (vI _), some (vI _), some (vI _)] d78_40 rfl ?_
    refine x_iload_n d78_42 rfl ?_
    refine x_iload d78_43 rfl ?_
    refine x_aload_n d78_45 rfl ?_
    refine x_gfR d78_46 cl78 f9_36 (Pc.ob P) (V.g (Pc.g P)) (Pc.r6 P) ?_
    refine x_iload d78_49 rfl ?_
    refine x_iaload d78_51 (Pc.o6 P) ⟨by omega, by rw [(Pc.l6 P)]; omega⟩ (V.g (by have := Pc.g P; omega)) ?_
    refine x_nm (fun a9 e9 => ?_)
    have b9 : 0 ≤ a9 ∧ a9 ≤ 99 := by rw [e9]; exact (Pc.shade P _)
    refine x_isub d78_52 ?_
    refine x_nat d78_53 cl78 m9_39 (by decide) (popN_of (q := [vI _]) (show mArg 905 = 1 by decide +kernel) rfl rfl) (by exact Nat.le_of_ble_eq_true rfl) (nat_905 (by omega)) ?_
    refine x_nm (fun m53 em53 => ?_)
    try dsimp only at em53
    refine x_iadd d78_56 ?_
    refine x_nm (fun w57_10 ew57_10 => ?_)
    refine x_istore_n [some (vR _), some (vI _), some (vR _), some (vI _), some (vI _), some (vI _), some (vI _)] d78_57 rfl ?_
    refine x_iinc [some (vR _), some (vI _), some (vR _), some (vI _), some (vI _), some (vI _), some (vI _)] d78_58 rfl rfl ?_
    refine x_goto (t := 5) d78_61 rfl ?_
    exact ih3 (by omega) _ (by omega) _ _
theorem C77 {D : Nat → Nat → Bool} {d : Nat} {h : Hp} {mP mC mI mD mB : Nat → Nat} {nP nC nI nD nB : Nat} (V : Vis D) (S : Hv h mP mC mI mD mB nP nC nI nD nB) {p : Nat} (P : Pc h p) : ∃ v : Int, (fun v : Int => -1 ≤ v ∧ v ≤ 7) v ∧ PV D (d + 1) 77 [vR (some 63), vR (some p)] h (vI v) := by
  refine PE_of (fun Q hQ => ?_)
  refine x_ent en77 ?_
  refine x_aload_n d77_0 rfl ?_
  refine x_gfI d77_1 cl77 f9_23 (by decide) (Pc.ob P) (V.g (Pc.g P)) ?_
  have g1 := (Pc.hasShade P)
  refine x_ifne (t := 9) d77_4 rfl (by omega) (fun c4_2 => ?_) (fun c4_2 => ?_)
  · refine x_iconst d77_9 ?_
    refine x_nm (fun w10_3 ew10_3 => ?_)
    refine x_istore_n [some (vR _), some (vR _), some (vI _), none, none] d77_10 rfl ?_
    refine x_iconst d77_11 ?_
    refine x_nm (fun w12_4 ew12_4 => ?_)
    refine x_istore_n [some (vR _), some (vR _), some (vI _), some (vI _), none] d77_12 rfl ?_
    refine (x_ub (N := 8) (P := fun i5 => ∀ s5_2 : Int, (-1 ≤ s5_2 ∧ s5_2 < 8) → ∀ t5_4 : Option XV, wp D (d + 1) 77 13 [some (vR (some 63)), some (vR (some p)), some (vI s5_2), some (vI i5), t5_4] [] h Q) w12_4 (by omega) (fun i5 hi5 hj5 ih5 s5_2 hs5_2 t5_4 => ?_)) _ (by omega) _
    refine x_iload_n d77_13 rfl ?_
    refine x_bipush d77_14 (by decide) ?_
    refine x_icge (t := 68) d77_16 rfl (by omega) (fun c16_6 => ?_) (fun c16_6 => ?_)
    · refine x_iload_n d77_68 rfl ?_
      exact x_iret d77_69 rt77 (hQ _ (by omega))
    · refine x_iload_n d77_19 rfl ?_
      refine x_iconst d77_20 ?_
      refine x_iceq (t := 39) d77_21 rfl (by omega) (fun c21_7 => ?_) (fun c21_7 => ?_)
      · refine x_iconst d77_39 ?_
        refine x_goto (t := 44) d77_40 rfl ?_
        refine x_nm (fun w44_8 ew44_8 => ?_)
        refine x_istore [some (vR _), some (vR _), some (vI _), some (vI _), some (vI _)] d77_44 rfl ?_
        refine x_aload_n d77_46 rfl ?_
        refine x_gfR d77_47 cl77 f9_9 (S.F.o rfl (by decide)) (V _ _ rfl) (S.F.r rfl) ?_
        refine x_iload_n d77_50 rfl ?_
        refine x_baload d77_51 (S.F.o rfl (by decide)) ⟨by omega, by rw [(S.F.l (a := 64) (n := 8) (by decide) rfl)]; omega⟩ (V _ _ rfl) ?_
        refine x_nm (fun a9 e9 => ?_)
        have b9 : 0 ≤ a9 ∧ a9 ≤ 1 := by rw [e9]; exact (S.a64 _)
        refine x_ifeq (t := 62) d77_52 rfl (by omega) (fun c52_10 => ?_) (fun c52_10 => ?_)
        · refine x_iinc [some (vR _), some (vR _), some (vI _), some (vI _), some (vI _)] d77_62 rfl rfl ?_
          refine x_goto (t := 13) d77_65 rfl ?_
          exact ih5 (by omega) _ (by omega) _
        · refine x_iload d77_55 rfl ?_
          refine x_ifeq (t := 62) d77_57 rfl (by omega) (fun c57_11 => ?_) (fun c57_11 => ?_)
          · refine x_iinc [some (vR _), some (vR _), some (vI _), some (vI _), some (vI _)] d77_62 rfl rfl ?_
            refine x_goto (t := 13) d77_65 rfl ?_
            exact ih5 (by omega) _ (by omega) _
          · refine x_iload_n d77_60 rfl ?_
            refine x_nm (fun w61_12 ew61_12 => ?_)
            refine x_istore_n [some (vR _), some (vR _), some (vI _), some (vI _), some (vI _)] d77_61 rfl ?_
            refine x_iinc [some (vR _), some (vR _), some (vI _), some (vI _), some (vI _)] d77_62 rfl rfl ?_
            refine x_goto (t := 13) d77_65 rfl ?_
            exact ih5 (by omega) _ (by omega) _
      · refine x_aload_n d77_24 rfl ?_
        refine x_iload_n d77_25 rfl ?_
        refine x_aload_n d77_26 rfl ?_
        refine x_VE d77_27 cl77 m9_29 kd78 tg78 po78 le78 (by decide) (S.F.o rfl (by decide)) (C78 V S P (by omega)) (fun v13 r13 z13 => ?_)
        try dsimp only at r13
        refine x_aload_n d77_30 rfl ?_
        refine x_iload_n d77_31 rfl ?_
        refine x_aload_n d77_32 rfl ?_
        refine x_VE d77_33 cl77 m9_29 kd78 tg78 po78 le78 (by decide) (S.F.o rfl (by decide)) (C78 V S P (by omega)) (fun v14 r14 z14 => ?_)
        try dsimp only at r14
        refine x_icge (t := 43) d77_36 rfl (by omega) (fun c36_15 => ?_) (fun c36_15 => ?_)
        · refine x_iconst d77_43 ?_
          refine x_nm (fun w44_16 ew44_16 => ?_)
          refine x_istore [some (vR _), some (vR _), some (vI _), some (vI _), some (vI _)] d77_44 rfl ?_
          refine x_aload_n d77_46 rfl ?_
          refine x_gfR d77_47 cl77 f9_9 (S.F.o rfl (by decide)) (V _ _ rfl) (S.F.r rfl) ?_
          refine x_iload_n d77_50 rfl ?_
          refine x_baload d77_51 (S.F.o rfl (by decide)) ⟨by omega, by rw [(S.F.l (a := 64) (n := 8) (by decide) rfl)]; omega⟩ (V _ _ rfl) ?_
          refine x_nm (fun a17 e17 => ?_)
          have b17 : 0 ≤ a17 ∧ a17 ≤ 1 := by rw [e17]; exact (S.a64 _)
          refine x_ifeq (t := 62) d77_52 rfl (by omega) (fun c52_18 => ?_) (fun c52_18 => ?_)
          · refine x_iinc [some (vR _), some (vR _), some (vI _), some (vI _), some (vI _)] d77_62 rfl rfl ?_
            refine x_goto (t := 13) d77_65 rfl ?_
            exact ih5 (by omega) _ (by omega) _
          · refine x_iload d77_55 rfl ?_
            refine x_ifeq (t := 62) d77_57 rfl (by omega) (fun c57_19 => ?_) (fun c57_19 => ?_)
            · refine x_iinc [some (vR _), some (vR _), some (vI _), some (vI _), some (vI _)] d77_62 rfl rfl ?_
              refine x_goto (t := 13) d77_65 rfl ?_
              exact ih5 (by omega) _ (by omega) _
            · refine x_iload_n d77_60 rfl ?_
              refine x_nm (fun w61_20 ew61_20 => ?_)
              refine x_istore_n [some (vR _), some (vR _), some (vI _), some (vI _), some (vI _)] d77_61 rfl ?_
              refine x_iinc [some (vR _), some (vR _), some (vI _), some (vI _), some (vI _)] d77_62 rfl rfl ?_
              refine x_goto (t := 13) d77_65 rfl ?_
              exact ih5 (by omega) _ (by omega) _
        · refine x_iconst d77_39 ?_
          refine x_goto (t := 44) d77_40 rfl ?_
          refine x_nm (fun w44_21 ew44_21 => ?_)
          refine x_istore [some (vR _), some (vR _), some (vI _), some (vI _), some (vI _)] d77_44 rfl ?_
          refine x_aload_n d77_46 rfl ?_
          refine x_gfR d77_47 cl77 f9_9 (S.F.o rfl (by decide)) (V _ _ rfl) (S.F.r rfl) ?_
          refine x_iload_n d77_50 rfl ?_
          refine x_baload d77_51 (S.F.o rfl (by decide)) ⟨by omega, by rw [(S.F.l (a := 64) (n := 8) (by decide) rfl)]; omega⟩ (V _ _ rfl) ?_
          refine x_nm (fun a22 e22 => ?_)
          have b22 : 0 ≤ a22 ∧ a22 ≤ 1 := by rw [e22]; exact (S.a64 _)
          refine x_ifeq (t := 62) d77_52 rfl (by omega) (fun c52_23 => ?_) (fun c52_23 => ?_)
          · refine x_iinc [some (vR _), some (vR _), some (vI _), some (vI _), some (vI _)] d77_62 rfl rfl ?_
            refine x_goto (t := 13) d77_65 rfl ?_
            exact ih5 (by omega) _ (by omega) _
          · refine x_iload d77_55 rfl ?_
            refine x_ifeq (t := 62) d77_57 rfl (by omega) (fun c57_24 => ?_) (fun c57_24 => ?_)
            · refine x_iinc [some (vR _), some (vR _), some (vI _), some (vI _), some (vI _)] d77_62 rfl rfl ?_
              refine x_goto (t := 13) d77_65 rfl ?_
              exact ih5 (by omega) _ (by omega) _
            · refine x_iload_n d77_60 rfl ?_
              refine x_nm (fun w61_25 ew61_25 => ?_)
              refine x_istore_n [some (vR _), some (vR _), some (vI _), some (vI _), some (vI _)] d77_61 rfl ?_
              refine x_iinc [some (vR _), some (vR _), some (vI _), some (vI _), some (vI _)] d77_62 rfl rfl ?_
              refine x_goto (t := 13) d77_65 rfl ?_
              exact ih5 (by omega) _ (by omega) _
  · refine x_iconst d77_7 ?_
    exact x_iret d77_8 rt77 (hQ _ (by omega))
theorem C73 {D : Nat → Nat → Bool} {d : Nat} {h : Hp} {s : Nat} (H : Sh h s) (V : Vis D) : ∃ v : Int, (fun v : Int => 0 ≤ v ∧ v ≤ 3) v ∧ PV D (d + 1) 73 [vR (some s)] h (vI v) := by
  refine PE_of (fun Q hQ => ?_)
  refine x_ent en73 ?_
  have hsz := H.size
  refine x_iconst d73_0 ?_
  refine x_nm (fun w1_1 ew1_1 => ?_)
  refine x_istore_n [some (vR _), some (vI _), none] d73_1 rfl ?_
  refine x_iconst d73_2 ?_
  refine x_nm (fun w3_2 ew3_2 => ?_)
  refine x_istore_n [some (vR _), some (vI _), some (vI _)] d73_3 rfl ?_
  refine (x_ub (N := hI h s 1) (P := fun i3 => ∀ s3_1 : Int, (0 ≤ s3_1 ∧ s3_1 ≤ i3) → wp D (d + 1) 73 4 [some (vR (some s)), some (vI s3_1), some (vI i3)] [] h Q) w3_2 (by omega) (fun i3 hi3 hj3 ih3 s3_1 hs3_1 => ?_)) _ (by omega)
  refine x_iload_n d73_4 rfl ?_
  refine x_aload_n d73_5 rfl ?_
  refine x_gfI d73_6 cl73 f8_34 (by decide) (Sh.ob H) (V.s (by have := Sh.n H; omega)) ?_
  have g4 := (Sh.size H)
  refine x_icge (t := 34) d73_9 rfl (by omega) (fun c9_5 => ?_) (fun c9_5 => ?_)
  · refine x_iload_n d73_34 rfl ?_
    exact x_iret d73_35 rt73 (hQ _ (by omega))
  · refine x_aload_n d73_12 rfl ?_
    refine x_gfR d73_13 cl73 f8_24 (Sh.ob H) (V.s (by have := Sh.n H; omega)) (Sh.r2 H) ?_
    refine x_iload_n d73_16 rfl ?_
    refine x_iaload d73_17 (Sh.o2 H) ⟨by omega, by rw [(Sh.l2 H)]; omega⟩ (V.s (by have := Sh.n H; omega)) ?_
    refine x_nm (fun a6 e6 => ?_)
    have b6 : 0 ≤ a6 ∧ a6 ≤ 16777215 := by rw [e6]; exact (Sh.places H _)
    refine x_SE d73_18 cl73 m8_82 kd186 po186 le186 C186 (fun v7 r7 z7 => ?_)
    try dsimp only at r7
    refine x_iconst d73_21 ?_
    refine x_icne (t := 28) d73_22 rfl (by omega) (fun c22_8 => ?_) (fun c22_8 => ?_)
    · refine x_iinc [some (vR _), some (vI _), some (vI _)] d73_28 rfl rfl ?_
      refine x_goto (t := 4) d73_31 rfl ?_
      exact ih3 (by omega) _ (by omega)
    · refine x_iinc [some (vR _), some (vI _), some (vI _)] d73_25 rfl rfl ?_
      refine x_iinc [some (vR _), some (vI _), some (vI _)] d73_28 rfl rfl ?_
      refine x_goto (t := 4) d73_31 rfl ?_
      exact ih3 (by omega) _ (by omega)
theorem C74 {D : Nat → Nat → Bool} {d : Nat} {h : Hp} {s : Nat} (H : Sh h s) {p : Nat} (P : Pc h p) (V : Vis D) : ∃ v : Int, (fun v : Int => v = hI h (s + 2) (hI h p 5).toNat ∧ 0 ≤ v ∧ v ≤ 16777215) v ∧ PV D (d + 0) 74 [vR (some s), vR (some p)] h (vI v) := by
  refine PE_of (fun Q hQ => ?_)
  refine x_ent en74 ?_
  refine x_aload_n d74_0 rfl ?_
  refine x_gfR d74_1 cl74 f8_24 (Sh.ob H) (V.s (by have := Sh.n H; omega)) (Sh.r2 H) ?_
  refine x_aload_n d74_4 rfl ?_
  refine x_gfI d74_5 cl74 f8_40 (by decide) (Pc.ob P) (V.g (Pc.g P)) ?_
  have g1 := (Pc.place P)
  refine x_iaload d74_8 (Sh.o2 H) ⟨by omega, by rw [(Sh.l2 H)]; omega⟩ (V.s (by have := Sh.n H; omega)) ?_
  refine x_nm (fun a2 e2 => ?_)
  have b2 : 0 ≤ a2 ∧ a2 ≤ 16777215 := by rw [e2]; exact (Sh.places H _)
  exact x_iret d74_9 rt74 (hQ _ ⟨by assumption, by omega, by omega⟩)
theorem C103 {D : Nat → Nat → Bool} {d : Nat} {h : Hp} {x : Int} {mP mC mI mD mB : Nat → Nat} {nP nC nI nD nB : Nat} (V : Vis D) (S : Hv h mP mC mI mD mB nP nC nI nD nB) (qx : -2147483648 ≤ x ∧ x < 2147483648) : ∃ v : Int, (fun v : Int => (v = 0 ∨ v = 1) ∧ (v = 1 ↔ 0 ≤ x ∧ x < nP)) v ∧ PV D (d + 1) 103 [vR (some 2), vI x] h (vI v) := by
  refine PE_of (fun Q hQ => ?_)
  refine x_ent en103 ?_
  have hnp := S.np; have hnc := S.nc; have hni := S.ni
  refine x_iload_n d103_0 rfl ?_
  refine x_iconst d103_1 ?_
  refine x_aload_n d103_2 rfl ?_
  refine x_gfR d103_3 cl103 f11_19 (S.F.o rfl (by decide)) (V _ _ rfl) (S.F.r rfl) ?_
  refine x_VE d103_6 cl103 m11_129 kd168 tg168 po168 le168 (by decide) (S.F.o rfl (by decide)) (C168 (S.F.o rfl (by decide)) (V _ _ rfl) S.lp) (fun v1 r1 z1 => ?_)
  try dsimp only at r1
  refine x_iconst d103_9 ?_
  refine x_isub d103_10 ?_
  refine x_SE d103_11 cl103 m11_84 kd83 po83 le83 (C83 (by omega) (by omega) (by omega)) (fun v2 r2 z2 => ?_)
  try dsimp only at r2
  exact x_zret d103_14 rt103 (by omega) (hQ _ (by omega))
theorem C108 {D : Nat → Nat → Bool} {d : Nat} {h : Hp} {x : Int} {mP mC mI mD mB : Nat → Nat} {nP nC nI nD nB : Nat} (V : Vis D) (S : Hv h mP mC mI mD mB nP nC nI nD nB) (qx : -2147483648 ≤ x ∧ x < 2147483648) : ∃ v : Int, (fun v : Int => (v = 0 ∨ v = 1) ∧ (v = 1 ↔ 0 ≤ x ∧ x < nC)) v ∧ PV D (d + 1) 108 [vR (some 2), vI x] h (vI v) := by
  refine PE_of (fun Q hQ => ?_)
  refine x_ent en108 ?_
  have hnp := S.np; have hnc := S.nc; have hni := S.ni
  refine x_iload_n d108_0 rfl ?_
  refine x_iconst d108_1 ?_
  refine x_aload_n d108_2 rfl ?_
  refine x_gfR d108_3 cl108 f11_43 (S.F.o rfl (by decide)) (V _ _ rfl) (S.F.r rfl) ?_
  refine x_VE d108_6 cl108 m11_129 kd168 tg168 po168 le168 (by decide) (S.F.o rfl (by decide)) (C168 (S.F.o rfl (by decide)) (V _ _ rfl) S.lc) (fun v1 r1 z1 => ?_)
  try dsimp only at r1
  refine x_iconst d108_9 ?_
  refine x_isub d108_10 ?_
  refine x_SE d108_11 cl108 m11_84 kd83 po83 le83 (C83 (by omega) (by omega) (by omega)) (fun v2 r2 z2 => ?_)
  try dsimp only at r2
  exact x_zret d108_14 rt108 (by omega) (hQ _ (by omega))
theorem C109 {D : Nat → Nat → Bool} {d : Nat} {h : Hp} {x : Int} {mP mC mI mD mB : Nat → Nat} {nP nC nI nD nB : Nat} (V : Vis D) (S : Hv h mP mC mI mD mB nP nC nI nD nB) (qx : -2147483648 ≤ x ∧ x < 2147483648) : ∃ v : Int, (fun v : Int => (v = 0 ∨ v = 1) ∧ (v = 1 ↔ 0 ≤ x ∧ x < nI)) v ∧ PV D (d + 1) 109 [vR (some 2), vI x] h (vI v) := by
  refine PE_of (fun Q hQ => ?_)
  refine x_ent en109 ?_
  have hnp := S.np; have hnc := S.nc; have hni := S.ni
  refine x_iload_n d109_0 rfl ?_
  refine x_iconst d109_1 ?_
  refine x_aload_n d109_2 rfl ?_
  refine x_gfR d109_3 cl109 f11_37 (S.F.o rfl (by decide)) (V _ _ rfl) (S.F.r rfl) ?_
  refine x_VE d109_6 cl109 m11_129 kd168 tg168 po168 le168 (by decide) (S.F.o rfl (by decide)) (C168 (S.F.o rfl (by decide)) (V _ _ rfl) S.li) (fun v1 r1 z1 => ?_)
  try dsimp only at r1
  refine x_iconst d109_9 ?_
  refine x_isub d109_10 ?_
  refine x_SE d109_11 cl109 m11_84 kd83 po83 le83 (C83 (by omega) (by omega) (by omega)) (fun v2 r2 z2 => ?_)
  try dsimp only at r2
  exact x_zret d109_14 rt109 (by omega) (hQ _ (by omega))
/-- the set of POSITIONS of a PIECE -/
def plc (h : Hp) (p : Nat) : Int := hI h (7 + 5 * (hI h p 3).toNat + 2) (hI h p 5).toNat
/-- where it is certain to be -/
def CPos (pl v : Int) : Prop := (-1 ≤ v ∧ v ≤ 23) ∧ (pc32 pl = 1 → (0 ≤ v → tb pl v = 1) ∧ (v = -1 → ∀ n : Int, 0 ≤ n → n < 24 → tb pl n = 0)) ∧ (pc32 pl ≠ 1 → v = -1)
theorem CPos_a {pl v : Int} (e : pc32 pl = 1) (r : -1 ≤ v ∧ v ≤ 23 ∧ (0 ≤ v → tb pl v = 1) ∧ (v = -1 → ∀ n : Int, 0 ≤ n → n < 24 → tb pl n = 0)) : (-1 ≤ v ∧ v ≤ 23) ∧ CPos pl v := ⟨⟨r.1, r.2.1⟩, ⟨r.1, r.2.1⟩, fun _ => r.2.2, fun q => absurd e q⟩
theorem CPos_b {pl : Int} (e : pc32 pl ≠ 1) : (-1 ≤ (-1 : Int) ∧ (-1 : Int) ≤ 23) ∧ CPos pl (-1) := ⟨by omega, by omega, fun q => absurd q e, fun _ => rfl⟩
theorem C130 {D : Nat → Nat → Bool} {d : Nat} {h : Hp} {mP mC mI mD mB : Nat → Nat} {nP nC nI nD nB : Nat} (V : Vis D) (S : Hv h mP mC mI mD mB nP nC nI nD nB) {p : Nat} (P : Pc h p) : ∃ v : Int, (fun v : Int => (-1 ≤ v ∧ v ≤ 23) ∧ CPos (plc h p) v) v ∧ PV D (d + 2) 130 [vR (some 2), vR (some p)] h (vI v) := by
  refine PE_of (fun Q hQ => ?_)
  refine x_ent en130 ?_
  refine x_aload_n d130_0 rfl ?_
  refine x_gfR d130_1 cl130 f11_25 (S.F.o rfl (by decide)) (V _ _ rfl) (S.F.r rfl) ?_
  refine x_aload_n d130_4 rfl ?_
  refine x_gfI d130_5 cl130 f11_186 (by decide) (Pc.ob P) (V.g (Pc.g P)) ?_
  have g1 := (Pc.sheet P)
  refine x_aaload d130_8 (Nat.lt_of_lt_of_le (by decide) S.F.1) (by rw [(S.F.o (a := 6) (t := 104) rfl (by decide)).2]; decide) ⟨by omega, by rw [(S.F.l (a := 6) (n := 6) (by decide) rfl)]; omega⟩ (V _ _ rfl) (S.F.sh (hI h p 3) (by omega)) ?_
  refine x_aload_n d130_9 rfl ?_
  refine x_VE d130_10 cl130 m11_223 kd74 tg74 po74 le74 (by have := Sh.g (S.sh (hI h p 3).toNat (by omega)); omega) (Sh.ob (S.sh (hI h p 3).toNat (by omega))) (C74 (S.sh (hI h p 3).toNat (by omega)) P V) (fun v2 r2 z2 => ?_)
  try dsimp only at r2
  have e13 := r2.1
  refine x_nm (fun w13_3 ew13_3 => ?_)
  refine x_istore_n [some (vR _), some (vR _), some (vI _)] d130_13 rfl ?_
  refine x_iload_n d130_14 rfl ?_
  refine x_SE d130_15 cl130 m11_227 kd186 po186 le186 C186 (fun v4 r4 z4 => ?_)
  try dsimp only at r4
  have e18 := r4.1
  refine x_iconst d130_18 ?_
  refine x_icne (t := 29) d130_19 rfl (by omega) (fun c19_5 => ?_) (fun c19_5 => ?_)
  · refine x_iconst d130_29 ?_
    exact x_iret d130_30 rt130 (hQ _ (by subst_vars; first | exact CPos_a (by unfold plc; omega) (by assumption) | exact CPos_b (by unfold plc; omega)))
  · refine x_iload_n d130_22 rfl ?_
    refine x_SE d130_23 cl130 m11_537 kd85 po85 le85 C85 (fun v6 r6 z6 => ?_)
    try dsimp only at r6
    refine x_goto (t := 30) d130_26 rfl ?_
    exact x_iret d130_30 rt130 (hQ _ (by subst_vars; first | exact CPos_a (by unfold plc; omega) (by assumption) | exact CPos_b (by unfold plc; omega)))
theorem C132 {D : Nat → Nat → Bool} {d : Nat} {h : Hp} {p : Nat} (P : Pc h p) {q : Nat} (Pq : Pc h q) (V : Vis D) : ∃ v : Int, (fun v : Int => v = 0 ∨ v = 1) v ∧ PV D (d + 2) 132 [vR (some p), vR (some q)] h (vI v) := by
  refine PE_of (fun Q hQ => ?_)
  refine x_ent en132 ?_
  refine x_aload_n d132_0 rfl ?_
  refine x_gfI d132_1 cl132 f11_186 (by decide) (Pc.ob P) (V.g (Pc.g P)) ?_
  have g1 := (Pc.sheet P)
  refine x_aload_n d132_4 rfl ?_
  refine x_gfI d132_5 cl132 f11_186 (by decide) (Pc.ob Pq) (V.g (Pc.g Pq)) ?_
  have g2 := (Pc.sheet Pq)
  refine x_iceq (t := 33) d132_8 rfl (by omega) (fun c8_3 => ?_) (fun c8_3 => ?_)
  · refine x_iconst d132_33 ?_
    exact x_zret d132_34 rt132 (by omega) (hQ _ (by omega))
  · refine x_aload_n d132_11 rfl ?_
    refine x_sipush d132_12 (by decide) ?_
    refine x_VE d132_15 cl132 m11_544 kd23 tg23 po23 le23 (by have := Pc.g P; omega) (Pc.ob P) (C23 P V) (fun v4 r4 z4 => ?_)
    try dsimp only at r4
    refine x_aload_n d132_18 rfl ?_
    refine x_sipush d132_19 (by decide) ?_
    refine x_VE d132_22 cl132 m11_544 kd23 tg23 po23 le23 (by have := Pc.g Pq; omega) (Pc.ob Pq) (C23 Pq V) (fun v5 r5 z5 => ?_)
    try dsimp only at r5
    refine x_iandq d132_25 (fun q6 => ?_)
    refine x_ifeq (t := 33) d132_26 rfl (by omega) (fun c26_7 => ?_) (fun c26_7 => ?_)
    · refine x_iconst d132_33 ?_
      exact x_zret d132_34 rt132 (by omega) (hQ _ (by omega))
    · refine x_iconst d132_29 ?_
      refine x_goto (t := 34) d132_30 rfl ?_
      exact x_zret d132_34 rt132 (by omega) (hQ _ (by omega))
theorem C131 {D : Nat → Nat → Bool} {d : Nat} {h : Hp} {mP mC mI mD mB : Nat → Nat} {nP nC nI nD nB : Nat} (V : Vis D) (S : Hv h mP mC mI mD mB nP nC nI nD nB) {p : Nat} (P : Pc h p) : ∃ v : Int, (fun v : Int => -2147483648 ≤ v ∧ v < 2147483648) v ∧ PV D (d + 4) 131 [vR (some 2), vR (some p)] h (vI v) := by
  refine PE_of (fun Q hQ => ?_)
  refine x_ent en131 ?_
  have hnp := S.np
  refine x_iconst d131_0 ?_
  refine x_nm (fun w1_1 ew1_1 => ?_)
  refine x_istore_n [some (vR _), some (vR _), some (vI _), none] d131_1 rfl ?_
  refine x_iconst d131_2 ?_
  refine x_nm (fun w3_2 ew3_2 => ?_)
  refine x_istore_n [some (vR _), some (vR _), some (vI _), some (vI _)] d131_3 rfl ?_
  refine (x_ub (N := nP) (P := fun i3 => ∀ s3_2 : Int, (-2147483648 ≤ s3_2 ∧ s3_2 < 2147483648) → wp D (d + 4) 131 4 [some (vR (some 2)), some (vR (some p)), some (vI s3_2), some (vI i3)] [] h Q) w3_2 (by omega) (fun i3 hi3 hj3 ih3 s3_2 hs3_2 => ?_)) _ (by omega)
  refine x_iload_n d131_4 rfl ?_
  refine x_aload_n d131_5 rfl ?_
  refine x_gfR d131_6 cl131 f11_19 (S.F.o rfl (by decide)) (V _ _ rfl) (S.F.r rfl) ?_
  refine x_VE d131_9 cl131 m11_129 kd168 tg168 po168 le168 (by decide) (S.F.o rfl (by decide)) (C168 (S.F.o rfl (by decide)) (V _ _ rfl) S.lp) (fun v4 r4 z4 => ?_)
  try dsimp only at r4
  refine x_icge (t := 45) d131_12 rfl (by omega) (fun c12_5 => ?_) (fun c12_5 => ?_)
  · refine x_iload_n d131_45 rfl ?_
    exact x_iret d131_46 rt131 (hQ _ (by omega))
  · refine x_aload_n d131_15 rfl ?_
    refine x_aload_n d131_16 rfl ?_
    refine x_gfR d131_17 cl131 f11_19 (S.F.o rfl (by decide)) (V _ _ rfl) (S.F.r rfl) ?_
    refine x_iload_n d131_20 rfl ?_
    refine x_VV d131_21 cl131 m11_132 kd173 tg173 po173 le173 (by decide) (S.F.o rfl (by decide)) (C173 (d := d + 0) (S.F.o rfl (by decide)) (V _ _ rfl) (V _ _ rfl) S.lp V (by omega) (by omega)) ?_
    refine x_cast d131_24 cl131 ct11_136 (Pc.ob (Ls.mem S.lp (i3).toNat (by omega))) ?_
    refine x_SE d131_27 cl131 m11_540 kd132 po132 le132 (C132 P (Ls.mem S.lp (i3).toNat (by omega)) V) (fun v7 r7 z7 => ?_)
    try dsimp only at r7
    refine x_ifeq (t := 39) d131_30 rfl (by omega) (fun c30_8 => ?_) (fun c30_8 => ?_)
    · refine x_iinc [some (vR _), some (vR _), some (vI _), some (vI _)] d131_39 rfl rfl ?_
      refine x_goto (t := 4) d131_42 rfl ?_
      exact ih3 (by omega) _ (by omega)
    · refine x_iload_n d131_33 rfl ?_
      refine x_iconst d131_34 ?_
      refine x_iload_n d131_35 rfl ?_
      refine x_ishlq d131_36 (fun q9 => ?_)
      refine x_iorq d131_37 (fun q10 => ?_)
      refine x_nm (fun w38_11 ew38_11 => ?_)
      refine x_istore_n [some (vR _), some (vR _), some (vI _), some (vI _)] d131_38 rfl ?_
      refine x_iinc [some (vR _), some (vR _), some (vI _), some (vI _)] d131_39 rfl rfl ?_
      refine x_goto (t := 4) d131_42 rfl ?_
      exact ih3 (by omega) _ (by omega)
theorem C140 {D : Nat → Nat → Bool} {d : Nat} {h : Hp} {x : Int} {mP mC mI mD mB : Nat → Nat} {nP nC nI nD nB : Nat} (V : Vis D) (S : Hv h mP mC mI mD mB nP nC nI nD nB) (qx : -2147483648 ≤ x ∧ x < 2147483648) : ∃ v : Int, (fun v : Int => v = 0 ∨ v = 1) v ∧ PV D (d + 2) 140 [vR (some 2), vI x] h (vI v) := by
  refine PE_of (fun Q hQ => ?_)
  refine x_ent en140 ?_
  refine x_aload_n d140_0 rfl ?_
  refine x_gfR d140_1 cl140 f11_56 (S.F.o rfl (by decide)) (V _ _ rfl) (S.F.r rfl) ?_
  refine x_iload_n d140_4 rfl ?_
  refine x_aload_n d140_5 rfl ?_
  refine x_gfI d140_6 cl140 f11_372 (by decide) (S.F.o rfl (by decide)) (V _ _ rfl) ?_
  have g1 := S.today
  refine x_VE d140_9 cl140 m11_379 kd8 tg8 po8 le8 (by decide) (S.F.o rfl (by decide)) (C8 V S (by omega) (by omega) (by omega)) (fun v2 r2 z2 => ?_)
  try dsimp only at r2
  refine x_ifge (t := 19) d140_12 rfl (by omega) (fun c12_3 => ?_) (fun c12_3 => ?_)
  · refine x_iconst d140_19 ?_
    exact x_zret d140_20 rt140 (by omega) (hQ _ (by omega))
  · refine x_iconst d140_15 ?_
    refine x_goto (t := 20) d140_16 rfl ?_
    exact x_zret d140_20 rt140 (by omega) (hQ _ (by omega))
theorem C137 {D : Nat → Nat → Bool} {d : Nat} {h : Hp} {mP mC mI mD mB : Nat → Nat} {nP nC nI nD nB : Nat} (V : Vis D) (S : Hv h mP mC mI mD mB nP nC nI nD nB) {p : Nat} (P : Pc h p) : ∃ v : Int, (fun v : Int => v = 0 ∨ v = 1) v ∧ PV D (d + 2) 137 [vR (some 2), vR (some p)] h (vI v) := by
  refine PE_of (fun Q hQ => ?_)
  refine x_ent en137 ?_
  refine x_aload_n d137_0 rfl ?_
  refine x_gfR d137_1 cl137 f11_70 (S.F.o rfl (by decide)) (V _ _ rfl) (S.F.r rfl) ?_
  refine x_aload_n d137_4 rfl ?_
  refine x_VE d137_5 cl137 m11_457 kd77 tg77 po77 le77 (by decide) (S.F.o rfl (by decide)) (C77 V S P) (fun v1 r1 z1 => ?_)
  try dsimp only at r1
  refine x_nm (fun w8_2 ew8_2 => ?_)
  refine x_istore_n [some (vR _), some (vR _), some (vI _), none] d137_8 rfl ?_
  refine x_aload_n d137_9 rfl ?_
  refine x_gfR d137_10 cl137 f11_25 (S.F.o rfl (by decide)) (V _ _ rfl) (S.F.r rfl) ?_
  refine x_aload_n d137_13 rfl ?_
  refine x_gfI d137_14 cl137 f11_186 (by decide) (Pc.ob P) (V.g (Pc.g P)) ?_
  have g3 := (Pc.sheet P)
  refine x_aaload d137_17 (Nat.lt_of_lt_of_le (by decide) S.F.1) (by rw [(S.F.o (a := 6) (t := 104) rfl (by decide)).2]; decide) ⟨by omega, by rw [(S.F.l (a := 6) (n := 6) (by decide) rfl)]; omega⟩ (V _ _ rfl) (S.F.sh (hI h p 3) (by omega)) ?_
  refine x_gfI d137_18 cl137 f11_209 (by decide) (Sh.ob (S.sh (hI h p 3).toNat (by omega))) (V.s (by have := Sh.n (S.sh (hI h p 3).toNat (by omega)); omega)) ?_
  have g4 := (Sh.printings (S.sh (hI h p 3).toNat (by omega)))
  refine x_nm (fun w21_5 ew21_5 => ?_)
  refine x_istore_n [some (vR _), some (vR _), some (vI _), some (vI _)] d137_21 rfl ?_
  refine x_iload_n d137_22 rfl ?_
  refine x_iconst d137_23 ?_
  refine x_iceq (t := 43) d137_24 rfl (by omega) (fun c24_6 => ?_) (fun c24_6 => ?_)
  · refine x_iconst d137_43 ?_
    exact x_zret d137_44 rt137 (by omega) (hQ _ (by omega))
  · refine x_iload_n d137_27 rfl ?_
    refine x_ifeq (t := 43) d137_28 rfl (by omega) (fun c28_7 => ?_) (fun c28_7 => ?_)
    · refine x_iconst d137_43 ?_
      exact x_zret d137_44 rt137 (by omega) (hQ _ (by omega))
    · refine x_iload_n d137_31 rfl ?_
      refine x_iload_n d137_32 rfl ?_
      refine x_SE d137_33 cl137 m11_203 kd86 po86 le86 C86 (fun v8 r8 z8 => ?_)
      try dsimp only at r8
      refine x_ifne (t := 43) d137_36 rfl (by omega) (fun c36_9 => ?_) (fun c36_9 => ?_)
      · refine x_iconst d137_43 ?_
        exact x_zret d137_44 rt137 (by omega) (hQ _ (by omega))
      · refine x_iconst d137_39 ?_
        refine x_goto (t := 44) d137_40 rfl ?_
        exact x_zret d137_44 rt137 (by omega) (hQ _ (by omega))
theorem C139 {D : Nat → Nat → Bool} {d : Nat} {h : Hp} {mP mC mI mD mB : Nat → Nat} {nP nC nI nD nB : Nat} (V : Vis D) (S : Hv h mP mC mI mD mB nP nC nI nD nB) {p : Nat} (P : Pc h p) : ∃ v : Int, (fun v : Int => 0 ≤ v ∧ v ≤ 20000 ∧ (∀ b : Int, (∃ d2, PV D d2 137 [vR (some 2), vR (some p)] h (vI b)) → b = 1 → v = 0)) v ∧ PV D (d + 3) 139 [vR (some 2), vR (some p)] h (vI v) := by
  refine PE_of (fun Q hQ => ?_)
  refine x_ent en139 ?_
  refine x_aload_n d139_0 rfl ?_
  refine x_aload_n d139_1 rfl ?_
  refine x_gfI d139_2 cl139 f11_170 (by decide) (Pc.ob P) (V.g (Pc.g P)) ?_
  have g1 := (Pc.number P)
  refine x_VE d139_5 cl139 m11_547 kd140 tg140 po140 le140 (by decide) (S.F.o rfl (by decide)) (C140 V S (by omega)) (fun v2 r2 z2 => ?_)
  try dsimp only at r2
  refine x_ifne (t := 19) d139_8 rfl (by omega) (fun c8_3 => ?_) (fun c8_3 => ?_)
  · refine x_iconst d139_19 ?_
    exact x_iret d139_20 rt139 (hQ _ (by refine ⟨by omega, by omega, fun b hb h1 => ?_⟩; first | rfl | (obtain ⟨d2, hb⟩ := hb; have hdd := Sum.inl.inj (PV_det hb hz); omega)))
  · refine x_aload_n d139_11 rfl ?_
    refine x_aload_n d139_12 rfl ?_
    refine x_VE d139_13 cl139 m11_460 kd137 tg137 po137 le137 (by decide) (S.F.o rfl (by decide)) (C137 V S P) (fun v4 r4 z4 => ?_)
    try dsimp only at r4
    have hz := z4
    refine x_ifeq (t := 21) d139_16 rfl (by omega) (fun c16_5 => ?_) (fun c16_5 => ?_)
    · refine x_bipush d139_21 (by decide) ?_
      refine x_aload_n d139_23 rfl ?_
      refine x_VE d139_24 cl139 m11_176 kd20 tg20 po20 le20 (by have := Pc.g P; omega) (Pc.ob P) (C20 P V) (fun v6 r6 z6 => ?_)
      try dsimp only at r6
      refine x_imul d139_27 ?_
      refine x_bipush d139_28 (by decide) ?_
      refine x_aload_n d139_30 rfl ?_
      refine x_VE d139_31 cl139 m11_550 kd27 tg27 po27 le27 (by have := Pc.g P; omega) (Pc.ob P) (C27 P V) (fun v7 r7 z7 => ?_)
      try dsimp only at r7
      refine x_imul d139_34 ?_
      refine x_iadd d139_35 ?_
      refine x_nm (fun w36_8 ew36_8 => ?_)
      refine x_istore_n [some (vR _), some (vR _), some (vI _)] d139_36 rfl ?_
      refine x_aload_n d139_37 rfl ?_
      refine x_aload_n d139_38 rfl ?_
      refine x_VE d139_39 cl139 m11_233 kd130 tg130 po130 le130 (by decide) (S.F.o rfl (by decide)) (C130 V S P) (fun v9 r9 z9 => ?_)
      try dsimp only at r9
      refine x_iconst d139_42 ?_
      refine x_iceq (t := 50) d139_43 rfl (by omega) (fun c43_10 => ?_) (fun c43_10 => ?_)
      · refine x_aload_n d139_50 rfl ?_
        refine x_VE d139_51 cl139 m11_553 kd26 tg26 po26 le26 (by have := Pc.g P; omega) (Pc.ob P) (C26 P V) (fun v11 r11 z11 => ?_)
        try dsimp only at r11
        refine x_ifeq (t := 63) d139_54 rfl (by omega) (fun c54_12 => ?_) (fun c54_12 => ?_)
        · refine x_iload_n d139_63 rfl ?_
          exact x_iret d139_64 rt139 (hQ _ (by refine ⟨by omega, by omega, fun b hb h1 => ?_⟩; first | rfl | (obtain ⟨d2, hb⟩ := hb; have hdd := Sum.inl.inj (PV_det hb hz); omega)))
        · refine x_iload_n d139_57 rfl ?_
          have htd := tdiv_rng (a := w36_8) (b := 3) (by omega) (by omega)
          refine x_iconst d139_58 ?_
          refine x_idiv d139_59 (by omega) ?_
          refine x_goto (t := 64) d139_60 rfl ?_
          exact x_iret d139_64 rt139 (hQ _ (by refine ⟨by omega, by omega, fun b hb h1 => ?_⟩; first | rfl | (obtain ⟨d2, hb⟩ := hb; have hdd := Sum.inl.inj (PV_det hb hz); omega)))
      · refine x_iload_n d139_46 rfl ?_
        refine x_iconst d139_47 ?_
        refine x_imul d139_48 ?_
        refine x_nm (fun w49_13 ew49_13 => ?_)
        refine x_istore_n [some (vR _), some (vR _), some (vI _)] d139_49 rfl ?_
        refine x_aload_n d139_50 rfl ?_
        refine x_VE d139_51 cl139 m11_553 kd26 tg26 po26 le26 (by have := Pc.g P; omega) (Pc.ob P) (C26 P V) (fun v14 r14 z14 => ?_)
        try dsimp only at r14
        refine x_ifeq (t := 63) d139_54 rfl (by omega) (fun c54_15 => ?_) (fun c54_15 => ?_)
        · refine x_iload_n d139_63 rfl ?_
          exact x_iret d139_64 rt139 (hQ _ (by refine ⟨by omega, by omega, fun b hb h1 => ?_⟩; first | rfl | (obtain ⟨d2, hb⟩ := hb; have hdd := Sum.inl.inj (PV_det hb hz); omega)))
        · refine x_iload_n d139_57 rfl ?_
          have htd := tdiv_rng (a := w49_13) (b := 3) (by omega) (by omega)
          refine x_iconst d139_58 ?_
          refine x_idiv d139_59 (by omega) ?_
          refine x_goto (t := 64) d139_60 rfl ?_
          exact x_iret d139_64 rt139 (hQ _ (by refine ⟨by omega, by omega, fun b hb h1 => ?_⟩; first | rfl | (obtain ⟨d2, hb⟩ := hb; have hdd := Sum.inl.inj (PV_det hb hz); omega)))
    · refine x_iconst d139_19 ?_
      exact x_iret d139_20 rt139 (hQ _ (by refine ⟨by omega, by omega, fun b hb h1 => ?_⟩; first | rfl | (obtain ⟨d2, hb⟩ := hb; have hdd := Sum.inl.inj (PV_det hb hz); omega)))
theorem C110 {D : Nat → Nat → Bool} {d : Nat} {h : Hp} {mP mC mI mD mB : Nat → Nat} {nP nC nI nD nB : Nat} (V : Vis D) (S : Hv h mP mC mI mD mB nP nC nI nD nB) {c : Nat} (G : Cv h c) : ∃ v : Int, (fun v : Int => 0 ≤ v ∧ v ≤ 4000) v ∧ PV D (d + 4) 110 [vR (some 2), vR (some c)] h (vI v) := by
  refine PE_of (fun Q hQ => ?_)
  refine x_ent en110 ?_
  have hni := S.ni
  refine x_iconst d110_0 ?_
  refine x_nm (fun w1_1 ew1_1 => ?_)
  refine x_istore_n [some (vR _), some (vR _), some (vI _), none] d110_1 rfl ?_
  refine x_iconst d110_2 ?_
  refine x_nm (fun w3_2 ew3_2 => ?_)
  refine x_istore_n [some (vR _), some (vR _), some (vI _), some (vI _)] d110_3 rfl ?_
  refine (x_ub (N := nI) (P := fun i3 => ∀ s3_2 : Int, (0 ≤ s3_2 ∧ s3_2 ≤ 396 * i3) → wp D (d + 4) 110 4 [some (vR (some 2)), some (vR (some c)), some (vI s3_2), some (vI i3)] [] h Q) w3_2 (by omega) (fun i3 hi3 hj3 ih3 s3_2 hs3_2 => ?_)) _ (by omega)
  refine x_iload_n d110_4 rfl ?_
  refine x_aload_n d110_5 rfl ?_
  refine x_gfR d110_6 cl110 f11_37 (S.F.o rfl (by decide)) (V _ _ rfl) (S.F.r rfl) ?_
  refine x_VE d110_9 cl110 m11_129 kd168 tg168 po168 le168 (by decide) (S.F.o rfl (by decide)) (C168 (S.F.o rfl (by decide)) (V _ _ rfl) S.li) (fun v4 r4 z4 => ?_)
  try dsimp only at r4
  refine x_icge (t := 45) d110_12 rfl (by omega) (fun c12_5 => ?_) (fun c12_5 => ?_)
  · refine x_iload_n d110_45 rfl ?_
    exact x_iret d110_46 rt110 (hQ _ (by omega))
  · refine x_iload_n d110_15 rfl ?_
    refine x_aload_n d110_16 rfl ?_
    refine x_gfR d110_17 cl110 f11_312 (Cv.ob G) (V.g (Cv.g G)) (Cv.r1 G) ?_
    refine x_iload_n d110_20 rfl ?_
    refine x_iaload d110_21 (Cv.o1 G) ⟨by omega, by rw [(Cv.l1 G)]; omega⟩ (V.g (by have := Cv.g G; omega)) ?_
    refine x_nm (fun a6 e6 => ?_)
    have b6 : 0 ≤ a6 ∧ a6 ≤ 4 := by rw [e6]; exact (Cv.stamps G _)
    refine x_aload_n d110_22 rfl ?_
    refine x_gfR d110_23 cl110 f11_37 (S.F.o rfl (by decide)) (V _ _ rfl) (S.F.r rfl) ?_
    refine x_iload_n d110_26 rfl ?_
    refine x_VV d110_27 cl110 m11_132 kd173 tg173 po173 le173 (by decide) (S.F.o rfl (by decide)) (C173 (d := d + 0) (S.F.o rfl (by decide)) (V _ _ rfl) (V _ _ rfl) S.li V (by omega) (by omega)) ?_
    refine x_cast d110_30 cl110 ct11_290 (Tm.ob (Ls.mem S.li (i3).toNat (by omega))) ?_
    refine x_gfI d110_33 cl110 f11_556 (by decide) (Tm.ob (Ls.mem S.li (i3).toNat (by omega))) (V.g (Tm.g (Ls.mem S.li (i3).toNat (by omega)))) ?_
    have g8 := (Tm.what (Ls.mem S.li (i3).toNat (by omega)))
    have hq9 := mul_rng (a := a6) (b := hI h (mI (i3).toNat) 0) (A := 4) (B := 99) (by omega) (by omega)
    refine x_imul d110_36 ?_
    refine x_iadd d110_37 ?_
    refine x_nm (fun w38_10 ew38_10 => ?_)
    refine x_istore_n [some (vR _), some (vR _), some (vI _), some (vI _)] d110_38 rfl ?_
    refine x_iinc [some (vR _), some (vR _), some (vI _), some (vI _)] d110_39 rfl rfl ?_
    refine x_goto (t := 4) d110_42 rfl ?_
    exact ih3 (by omega) _ (by omega)
theorem C144 {D : Nat → Nat → Bool} {d : Nat} {h : Hp} {mP mC mI mD mB : Nat → Nat} {nP nC nI nD nB : Nat} (V : Vis D) (S : Hv h mP mC mI mD mB nP nC nI nD nB) {c : Nat} (G : Cv h c) : ∃ v : Int, (fun v : Int => -2147483648 ≤ v ∧ v < 2147483648) v ∧ PV D (d + 4) 144 [vR (some 2), vR (some c)] h (vI v) := by
  refine PE_of (fun Q hQ => ?_)
  refine x_ent en144 ?_
  have hnd := S.nd
  have hdi := G.die
  refine x_aload_n d144_0 rfl ?_
  refine x_gfR d144_1 cl144 f11_40 (S.F.o rfl (by decide)) (V _ _ rfl) (S.F.r rfl) ?_
  refine x_aload_n d144_4 rfl ?_
  refine x_gfI d144_5 cl144 f11_338 (by decide) (Cv.ob G) (V.g (Cv.g G)) ?_
  have g1 := (Cv.die G)
  refine x_VV d144_8 cl144 m11_132 kd173 tg173 po173 le173 (by decide) (S.F.o rfl (by decide)) (C173 (d := d + 0) (S.F.o rfl (by decide)) (V _ _ rfl) (V _ _ rfl) S.ld V (by omega) (by omega)) ?_
  refine x_cast d144_11 cl144 ct11_290 (Tm.ob (Ls.mem S.ld (hI h c 3).toNat (by omega))) ?_
  refine x_astore_n [some (vR _), some (vR _), some (vR _), none] d144_14 rfl ?_
  refine x_aload_n d144_15 rfl ?_
  refine x_gfI d144_16 cl144 f11_556 (by decide) (Tm.ob (Ls.mem S.ld (hI h c 3).toNat (by omega))) (V.g (Tm.g (Ls.mem S.ld (hI h c 3).toNat (by omega)))) ?_
  have g3 := (Tm.what (Ls.mem S.ld (hI h c 3).toNat (by omega)))
  refine x_aload_n d144_19 rfl ?_
  refine x_gfI d144_20 cl144 f11_559 (by decide) (Cv.ob G) (V.g (Cv.g G)) ?_
  have g4 := (Cv.from G)
  refine x_icne (t := 30) d144_23 rfl (by omega) (fun c23_5 => ?_) (fun c23_5 => ?_)
  · refine x_iconst d144_30 ?_
    refine x_nm (fun w31_6 ew31_6 => ?_)
    refine x_istore_n [some (vR _), some (vR _), some (vR _), some (vI _)] d144_31 rfl ?_
    refine x_aload_n d144_32 rfl ?_
    refine x_aload_n d144_33 rfl ?_
    refine x_gfI d144_34 cl144 f11_328 (by decide) (Cv.ob G) (V.g (Cv.g G)) ?_
    have g7 := (Cv.day G)
    refine x_VE d144_37 cl144 m11_583 kd80 tg80 po80 le80 (by have := Tm.g (Ls.mem S.ld (hI h c 3).toNat (by omega)); omega) (Tm.ob (Ls.mem S.ld (hI h c 3).toNat (by omega))) (C80 (Ls.mem S.ld (hI h c 3).toNat (by omega)) V (by omega)) (fun v8 r8 z8 => ?_)
    try dsimp only at r8
    refine x_ifeq (t := 47) d144_40 rfl (by omega) (fun c40_9 => ?_) (fun c40_9 => ?_)
    · refine x_iload_n d144_47 rfl ?_
      refine x_iconst d144_48 ?_
      refine x_iorq d144_49 (fun q10 => ?_)
      exact x_iret d144_50 rt144 (hQ _ (by omega))
    · refine x_iload_n d144_43 rfl ?_
      refine x_goto (t := 50) d144_44 rfl ?_
      exact x_iret d144_50 rt144 (hQ _ (by omega))
  · refine x_iconst d144_26 ?_
    refine x_goto (t := 31) d144_27 rfl ?_
    refine x_nm (fun w31_11 ew31_11 => ?_)
    refine x_istore_n [some (vR _), some (vR _), some (vR _), some (vI _)] d144_31 rfl ?_
    refine x_aload_n d144_32 rfl ?_
    refine x_aload_n d144_33 rfl ?_
    refine x_gfI d144_34 cl144 f11_328 (by decide) (Cv.ob G) (V.g (Cv.g G)) ?_
    have g12 := (Cv.day G)
    refine x_VE d144_37 cl144 m11_583 kd80 tg80 po80 le80 (by have := Tm.g (Ls.mem S.ld (hI h c 3).toNat (by omega)); omega) (Tm.ob (Ls.mem S.ld (hI h c 3).toNat (by omega))) (C80 (Ls.mem S.ld (hI h c 3).toNat (by omega)) V (by omega)) (fun v13 r13 z13 => ?_)
    try dsimp only at r13
    refine x_ifeq (t := 47) d144_40 rfl (by omega) (fun c40_14 => ?_) (fun c40_14 => ?_)
    · refine x_iload_n d144_47 rfl ?_
      refine x_iconst d144_48 ?_
      refine x_iorq d144_49 (fun q15 => ?_)
      exact x_iret d144_50 rt144 (hQ _ (by omega))
    · refine x_iload_n d144_43 rfl ?_
      refine x_goto (t := 50) d144_44 rfl ?_
      exact x_iret d144_50 rt144 (hQ _ (by omega))
theorem C145 {D : Nat → Nat → Bool} {d : Nat} {h : Hp} {mP mC mI mD mB : Nat → Nat} {nP nC nI nD nB : Nat} (V : Vis D) (S : Hv h mP mC mI mD mB nP nC nI nD nB) {c : Nat} (G : Cv h c) : ∃ v : Int, (fun v : Int => -2147483648 ≤ v ∧ v < 2147483648) v ∧ PV D (d + 4) 145 [vR (some 2), vR (some c)] h (vI v) := by
  refine PE_of (fun Q hQ => ?_)
  refine x_ent en145 ?_
  have hni := S.ni
  refine x_iconst d145_0 ?_
  refine x_nm (fun w1_1 ew1_1 => ?_)
  refine x_istore_n [some (vR _), some (vR _), some (vI _), none] d145_1 rfl ?_
  refine x_iconst d145_2 ?_
  refine x_nm (fun w3_2 ew3_2 => ?_)
  refine x_istore_n [some (vR _), some (vR _), some (vI _), some (vI _)] d145_3 rfl ?_
  refine (x_ub (N := nI) (P := fun i3 => ∀ s3_2 : Int, (-2147483648 ≤ s3_2 ∧ s3_2 < 2147483648) → wp D (d + 4) 145 4 [some (vR (some 2)), some (vR (some c)), some (vI s3_2), some (vI i3)] [] h Q) w3_2 (by omega) (fun i3 hi3 hj3 ih3 s3_2 hs3_2 => ?_)) _ (by omega)
  refine x_iload_n d145_4 rfl ?_
  refine x_aload_n d145_5 rfl ?_
  refine x_gfR d145_6 cl145 f11_37 (S.F.o rfl (by decide)) (V _ _ rfl) (S.F.r rfl) ?_
  refine x_VE d145_9 cl145 m11_129 kd168 tg168 po168 le168 (by decide) (S.F.o rfl (by decide)) (C168 (S.F.o rfl (by decide)) (V _ _ rfl) S.li) (fun v4 r4 z4 => ?_)
  try dsimp only at r4
  refine x_icge (t := 90) d145_12 rfl (by omega) (fun c12_5 => ?_) (fun c12_5 => ?_)
  · refine x_iload_n d145_90 rfl ?_
    exact x_iret d145_91 rt145 (hQ _ (by omega))
  · refine x_aload_n d145_15 rfl ?_
    refine x_gfR d145_16 cl145 f11_312 (Cv.ob G) (V.g (Cv.g G)) (Cv.r1 G) ?_
    refine x_iload_n d145_19 rfl ?_
    refine x_iaload d145_20 (Cv.o1 G) ⟨by omega, by rw [(Cv.l1 G)]; omega⟩ (V.g (by have := Cv.g G; omega)) ?_
    refine x_nm (fun a6 e6 => ?_)
    have b6 : 0 ≤ a6 ∧ a6 ≤ 4 := by rw [e6]; exact (Cv.stamps G _)
    refine x_ifle (t := 49) d145_21 rfl (by omega) (fun c21_7 => ?_) (fun c21_7 => ?_)
    · refine x_aload_n d145_49 rfl ?_
      refine x_gfR d145_50 cl145 f11_312 (Cv.ob G) (V.g (Cv.g G)) (Cv.r1 G) ?_
      refine x_iload_n d145_53 rfl ?_
      refine x_iaload d145_54 (Cv.o1 G) ⟨by omega, by rw [(Cv.l1 G)]; omega⟩ (V.g (by have := Cv.g G; omega)) ?_
      refine x_nm (fun a8 e8 => ?_)
      have b8 : 0 ≤ a8 ∧ a8 ≤ 4 := by rw [e8]; exact (Cv.stamps G _)
      refine x_ifle (t := 84) d145_55 rfl (by omega) (fun c55_9 => ?_) (fun c55_9 => ?_)
      · refine x_iinc [some (vR _), some (vR _), some (vI _), some (vI _)] d145_84 rfl rfl ?_
        refine x_goto (t := 4) d145_87 rfl ?_
        exact ih3 (by omega) _ (by omega)
      · refine x_aload_n d145_58 rfl ?_
        refine x_gfR d145_59 cl145 f11_37 (S.F.o rfl (by decide)) (V _ _ rfl) (S.F.r rfl) ?_
        refine x_iload_n d145_62 rfl ?_
        refine x_VV d145_63 cl145 m11_132 kd173 tg173 po173 le173 (by decide) (S.F.o rfl (by decide)) (C173 (d := d + 0) (S.F.o rfl (by decide)) (V _ _ rfl) (V _ _ rfl) S.li V (by omega) (by omega)) ?_
        refine x_cast d145_66 cl145 ct11_290 (Tm.ob (Ls.mem S.li (i3).toNat (by omega))) ?_
        refine x_gfI d145_69 cl145 f11_587 (by decide) (Tm.ob (Ls.mem S.li (i3).toNat (by omega))) (V.g (Tm.g (Ls.mem S.li (i3).toNat (by omega)))) ?_
        have g11 := (Tm.to (Ls.mem S.li (i3).toNat (by omega)))
        refine x_aload_n d145_72 rfl ?_
        refine x_gfI d145_73 cl145 f11_328 (by decide) (Cv.ob G) (V.g (Cv.g G)) ?_
        have g12 := (Cv.day G)
        refine x_icge (t := 84) d145_76 rfl (by omega) (fun c76_13 => ?_) (fun c76_13 => ?_)
        · refine x_iinc [some (vR _), some (vR _), some (vI _), some (vI _)] d145_84 rfl rfl ?_
          refine x_goto (t := 4) d145_87 rfl ?_
          exact ih3 (by omega) _ (by omega)
        · refine x_iload_n d145_79 rfl ?_
          refine x_bipush d145_80 (by decide) ?_
          refine x_iorq d145_82 (fun q14 => ?_)
          refine x_nm (fun w83_15 ew83_15 => ?_)
          refine x_istore_n [some (vR _), some (vR _), some (vI _), some (vI _)] d145_83 rfl ?_
          refine x_iinc [some (vR _), some (vR _), some (vI _), some (vI _)] d145_84 rfl rfl ?_
          refine x_goto (t := 4) d145_87 rfl ?_
          exact ih3 (by omega) _ (by omega)
    · refine x_aload_n d145_24 rfl ?_
      refine x_gfR d145_25 cl145 f11_37 (S.F.o rfl (by decide)) (V _ _ rfl) (S.F.r rfl) ?_
      refine x_iload_n d145_28 rfl ?_
      refine x_VV d145_29 cl145 m11_132 kd173 tg173 po173 le173 (by decide) (S.F.o rfl (by decide)) (C173 (d := d + 0) (S.F.o rfl (by decide)) (V _ _ rfl) (V _ _ rfl) S.li V (by omega) (by omega)) ?_
      refine x_cast d145_32 cl145 ct11_290 (Tm.ob (Ls.mem S.li (i3).toNat (by omega))) ?_
      refine x_gfI d145_35 cl145 f11_586 (by decide) (Tm.ob (Ls.mem S.li (i3).toNat (by omega))) (V.g (Tm.g (Ls.mem S.li (i3).toNat (by omega)))) ?_
      have g17 := (Tm.frm (Ls.mem S.li (i3).toNat (by omega)))
      refine x_aload_n d145_38 rfl ?_
      refine x_gfI d145_39 cl145 f11_328 (by decide) (Cv.ob G) (V.g (Cv.g G)) ?_
      have g18 := (Cv.day G)
      refine x_icle (t := 49) d145_42 rfl (by omega) (fun c42_19 => ?_) (fun c42_19 => ?_)
      · refine x_aload_n d145_49 rfl ?_
        refine x_gfR d145_50 cl145 f11_312 (Cv.ob G) (V.g (Cv.g G)) (Cv.r1 G) ?_
        refine x_iload_n d145_53 rfl ?_
        refine x_iaload d145_54 (Cv.o1 G) ⟨by omega, by rw [(Cv.l1 G)]; omega⟩ (V.g (by have := Cv.g G; omega)) ?_
        refine x_nm (fun a20 e20 => ?_)
        have b20 : 0 ≤ a20 ∧ a20 ≤ 4 := by rw [e20]; exact (Cv.stamps G _)
        refine x_ifle (t := 84) d145_55 rfl (by omega) (fun c55_21 => ?_) (fun c55_21 => ?_)
        · refine x_iinc [some (vR _), some (vR _), some (vI _), some (vI _)] d145_84 rfl rfl ?_
          refine x_goto (t := 4) d145_87 rfl ?_
          exact ih3 (by omega) _ (by omega)
        · refine x_aload_n d145_58 rfl ?_
          refine x_gfR d145_59 cl145 f11_37 (S.F.o rfl (by decide)) (V _ _ rfl) (S.F.r rfl) ?_
          refine x_iload_n d145_62 rfl ?_
          refine x_VV d145_63 cl145 m11_132 kd173 tg173 po173 le173 (by decide) (S.F.o rfl (by decide)) (C173 (d := d + 0) (S.F.o rfl (by decide)) (V _ _ rfl) (V _ _ rfl) S.li V (by omega) (by omega)) ?_
          refine x_cast d145_66 cl145 ct11_290 (Tm.ob (Ls.mem S.li (i3).toNat (by omega))) ?_
          refine x_gfI d145_69 cl145 f11_587 (by decide) (Tm.ob (Ls.mem S.li (i3).toNat (by omega))) (V.g (Tm.g (Ls.mem S.li (i3).toNat (by omega)))) ?_
          have g23 := (Tm.to (Ls.mem S.li (i3).toNat (by omega)))
          refine x_aload_n d145_72 rfl ?_
          refine x_gfI d145_73 cl145 f11_328 (by decide) (Cv.ob G) (V.g (Cv.g G)) ?_
          have g24 := (Cv.day G)
          refine x_icge (t := 84) d145_76 rfl (by omega) (fun c76_25 => ?_) (fun c76_25 => ?_)
          · refine x_iinc [some (vR _), some (vR _), some (vI _), some (vI _)] d145_84 rfl rfl ?_
            refine x_goto (t := 4) d145_87 rfl ?_
            exact ih3 (by omega) _ (by omega)
          · refine x_iload_n d145_79 rfl ?_
            refine x_bipush d145_80 (by decide) ?_
            refine x_iorq d145_82 (fun q26 => ?_)
            refine x_nm (fun w83_27 ew83_27 => ?_)
            refine x_istore_n [some (vR _), some (vR _), some (vI _), some (vI _)] d145_83 rfl ?_
            refine x_iinc [some (vR _), some (vR _), some (vI _), some (vI _)] d145_84 rfl rfl ?_
            refine x_goto (t := 4) d145_87 rfl ?_
            exact ih3 (by omega) _ (by omega)
      · refine x_iload_n d145_45 rfl ?_
        refine x_iconst d145_46 ?_
        refine x_iorq d145_47 (fun q28 => ?_)
        refine x_nm (fun w48_29 ew48_29 => ?_)
        refine x_istore_n [some (vR _), some (vR _), some (vI _), some (vI _)] d145_48 rfl ?_
        refine x_aload_n d145_49 rfl ?_
        refine x_gfR d145_50 cl145 f11_312 (Cv.ob G) (V.g (Cv.g G)) (Cv.r1 G) ?_
        refine x_iload_n d145_53 rfl ?_
        refine x_iaload d145_54 (Cv.o1 G) ⟨by omega, by rw [(Cv.l1 G)]; omega⟩ (V.g (by have := Cv.g G; omega)) ?_
        refine x_nm (fun a30 e30 => ?_)
        have b30 : 0 ≤ a30 ∧ a30 ≤ 4 := by rw [e30]; exact (Cv.stamps G _)
        refine x_ifle (t := 84) d145_55 rfl (by omega) (fun c55_31 => ?_) (fun c55_31 => ?_)
        · refine x_iinc [some (vR _), some (vR _), some (vI _), some (vI _)] d145_84 rfl rfl ?_
          refine x_goto (t := 4) d145_87 rfl ?_
          exact ih3 (by omega) _ (by omega)
        · refine x_aload_n d145_58 rfl ?_
          refine x_gfR d145_59 cl145 f11_37 (S.F.o rfl (by decide)) (V _ _ rfl) (S.F.r rfl) ?_
          refine x_iload_n d145_62 rfl ?_
          refine x_VV d145_63 cl145 m11_132 kd173 tg173 po173 le173 (by decide) (S.F.o rfl (by decide)) (C173 (d := d + 0) (S.F.o rfl (by decide)) (V _ _ rfl) (V _ _ rfl) S.li V (by omega) (by omega)) ?_
          refine x_cast d145_66 cl145 ct11_290 (Tm.ob (Ls.mem S.li (i3).toNat (by omega))) ?_
          refine x_gfI d145_69 cl145 f11_587 (by decide) (Tm.ob (Ls.mem S.li (i3).toNat (by omega))) (V.g (Tm.g (Ls.mem S.li (i3).toNat (by omega)))) ?_
          have g33 := (Tm.to (Ls.mem S.li (i3).toNat (by omega)))
          refine x_aload_n d145_72 rfl ?_
          refine x_gfI d145_73 cl145 f11_328 (by decide) (Cv.ob G) (V.g (Cv.g G)) ?_
          have g34 := (Cv.day G)
          refine x_icge (t := 84) d145_76 rfl (by omega) (fun c76_35 => ?_) (fun c76_35 => ?_)
          · refine x_iinc [some (vR _), some (vR _), some (vI _), some (vI _)] d145_84 rfl rfl ?_
            refine x_goto (t := 4) d145_87 rfl ?_
            exact ih3 (by omega) _ (by omega)
          · refine x_iload_n d145_79 rfl ?_
            refine x_bipush d145_80 (by decide) ?_
            refine x_iorq d145_82 (fun q36 => ?_)
            refine x_nm (fun w83_37 ew83_37 => ?_)
            refine x_istore_n [some (vR _), some (vR _), some (vI _), some (vI _)] d145_83 rfl ?_
            refine x_iinc [some (vR _), some (vR _), some (vI _), some (vI _)] d145_84 rfl rfl ?_
            refine x_goto (t := 4) d145_87 rfl ?_
            exact ih3 (by omega) _ (by omega)
theorem C146 {D : Nat → Nat → Bool} {d : Nat} {h : Hp} {mP mC mI mD mB : Nat → Nat} {nP nC nI nD nB : Nat} (V : Vis D) (S : Hv h mP mC mI mD mB nP nC nI nD nB) {c : Nat} (G : Cv h c) : ∃ v : Int, (fun v : Int => 0 ≤ v ∧ v ≤ 64) v ∧ PV D (d + 1) 146 [vR (some 2), vR (some c)] h (vI v) := by
  refine PE_of (fun Q hQ => ?_)
  refine x_ent en146 ?_
  refine x_aload_n d146_0 rfl ?_
  refine x_gfR d146_1 cl146 f11_33 (S.F.o rfl (by decide)) (V _ _ rfl) (S.F.r rfl) ?_
  refine x_aload_n d146_4 rfl ?_
  refine x_gfI d146_5 cl146 f11_559 (by decide) (Cv.ob G) (V.g (Cv.g G)) ?_
  have g1 := (Cv.from G)
  refine x_aload_n d146_8 rfl ?_
  refine x_gfI d146_9 cl146 f11_562 (by decide) (Cv.ob G) (V.g (Cv.g G)) ?_
  have g2 := (Cv.to G)
  refine x_VE d146_12 cl146 m11_273 kd41 tg41 po41 le41 (by decide) (S.F.o rfl (by decide)) (C41 V S (by omega) (by omega)) (fun v3 r3 z3 => ?_)
  try dsimp only at r3
  refine x_nm (fun w15_4 ew15_4 => ?_)
  refine x_istore_n [some (vR _), some (vR _), some (vI _)] d146_15 rfl ?_
  refine x_iload_n d146_16 rfl ?_
  refine x_iconst d146_17 ?_
  refine x_iceq (t := 34) d146_18 rfl (by omega) (fun c18_5 => ?_) (fun c18_5 => ?_)
  · refine x_bipush d146_34 (by decide) ?_
    refine x_goto (t := 40) d146_36 rfl ?_
    exact x_iret d146_40 rt146 (hQ _ (by omega))
  · refine x_aload_n d146_21 rfl ?_
    refine x_gfI d146_22 cl146 f11_303 (by decide) (Cv.ob G) (V.g (Cv.g G)) ?_
    have g6 := (Cv.arrived G)
    refine x_aload_n d146_25 rfl ?_
    refine x_gfI d146_26 cl146 f11_328 (by decide) (Cv.ob G) (V.g (Cv.g G)) ?_
    have g7 := (Cv.day G)
    refine x_iload_n d146_29 rfl ?_
    refine x_iadd d146_30 ?_
    refine x_icge (t := 39) d146_31 rfl (by omega) (fun c31_8 => ?_) (fun c31_8 => ?_)
    · refine x_iconst d146_39 ?_
      exact x_iret d146_40 rt146 (hQ _ (by omega))
    · refine x_bipush d146_34 (by decide) ?_
      refine x_goto (t := 40) d146_36 rfl ?_
      exact x_iret d146_40 rt146 (hQ _ (by omega))
theorem C147 {D : Nat → Nat → Bool} {d : Nat} {h : Hp} {mP mC mI mD mB : Nat → Nat} {nP nC nI nD nB : Nat} (V : Vis D) (S : Hv h mP mC mI mD mB nP nC nI nD nB) {c : Nat} (G : Cv h c) : ∃ v : Int, (fun v : Int => -1 ≤ v ∧ v ≤ 99) v ∧ PV D (d + 2) 147 [vR (some 2), vR (some c)] h (vI v) := by
  refine PE_of (fun Q hQ => ?_)
  refine x_ent en147 ?_
  refine x_aload_n d147_0 rfl ?_
  refine x_gfR d147_1 cl147 f11_33 (S.F.o rfl (by decide)) (V _ _ rfl) (S.F.r rfl) ?_
  refine x_aload_n d147_4 rfl ?_
  refine x_gfI d147_5 cl147 f11_328 (by decide) (Cv.ob G) (V.g (Cv.g G)) ?_
  have g1 := (Cv.day G)
  refine x_aload_n d147_8 rfl ?_
  refine x_gfR d147_9 cl147 f11_33 (S.F.o rfl (by decide)) (V _ _ rfl) (S.F.r rfl) ?_
  refine x_aload_n d147_12 rfl ?_
  refine x_gfI d147_13 cl147 f11_559 (by decide) (Cv.ob G) (V.g (Cv.g G)) ?_
  have g2 := (Cv.from G)
  refine x_aload_n d147_16 rfl ?_
  refine x_gfI d147_17 cl147 f11_562 (by decide) (Cv.ob G) (V.g (Cv.g G)) ?_
  have g3 := (Cv.to G)
  refine x_VE d147_20 cl147 m11_565 kd42 tg42 po42 le42 (by decide) (S.F.o rfl (by decide)) (C42 V S (by omega) (by omega)) (fun v4 r4 z4 => ?_)
  try dsimp only at r4
  refine x_aload_n d147_23 rfl ?_
  refine x_gfI d147_24 cl147 f11_568 (by decide) (Cv.ob G) (V.g (Cv.g G)) ?_
  have g5 := (Cv.weight G)
  refine x_VE d147_27 cl147 m11_286 kd43 tg43 po43 le43 (by decide) (S.F.o rfl (by decide)) (C43 V S (by omega) (by omega) (by omega)) (fun v6 r6 z6 => ?_)
  try dsimp only at r6
  exact x_iret d147_30 rt147 (hQ _ (by omega))
theorem C148 {D : Nat → Nat → Bool} {d : Nat} {h : Hp} {x y w : Int} (qx : -2147483648 ≤ x ∧ x < 2147483648) (qy : -2147483648 ≤ y ∧ y < 2147483648) (qw : -2147483648 ≤ w ∧ w < 2147483648) : ∃ v : Int, (fun v : Int => 0 ≤ v ∧ v ≤ 128) v ∧ PV D (d + 0) 148 [vI x, vI y, vI w] h (vI v) := by
  refine PE_of (fun Q hQ => ?_)
  refine x_ent en148 ?_
  refine x_iload_n d148_0 rfl ?_
  refine x_iconst d148_1 ?_
  refine x_icne (t := 9) d148_2 rfl (by omega) (fun c2_1 => ?_) (fun c2_1 => ?_)
  · refine x_iload_n d148_9 rfl ?_
    refine x_iload_n d148_10 rfl ?_
    refine x_icle (t := 17) d148_11 rfl (by omega) (fun c11_2 => ?_) (fun c11_2 => ?_)
    · refine x_iload_n d148_17 rfl ?_
      refine x_iload_n d148_18 rfl ?_
      refine x_icge (t := 31) d148_19 rfl (by omega) (fun c19_3 => ?_) (fun c19_3 => ?_)
      · refine x_iconst d148_31 ?_
        exact x_iret d148_32 rt148 (hQ _ (by omega))
      · refine x_iload_n d148_22 rfl ?_
        refine x_ifne (t := 31) d148_23 rfl (by omega) (fun c23_4 => ?_) (fun c23_4 => ?_)
        · refine x_iconst d148_31 ?_
          exact x_iret d148_32 rt148 (hQ _ (by omega))
        · refine x_bipush d148_26 (by decide) ?_
          refine x_goto (t := 32) d148_28 rfl ?_
          exact x_iret d148_32 rt148 (hQ _ (by omega))
    · refine x_bipush d148_14 (by decide) ?_
      exact x_iret d148_16 rt148 (hQ _ (by omega))
  · refine x_sipush d148_5 (by decide) ?_
    exact x_iret d148_8 rt148 (hQ _ (by omega))
theorem C143 {D : Nat → Nat → Bool} {d : Nat} {h : Hp} {mP mC mI mD mB : Nat → Nat} {nP nC nI nD nB : Nat} (V : Vis D) (S : Hv h mP mC mI mD mB nP nC nI nD nB) {c : Nat} (G : Cv h c) : ∃ v : Int, (fun v : Int => -2147483648 ≤ v ∧ v < 2147483648) v ∧ PV D (d + 5) 143 [vR (some 2), vR (some c)] h (vI v) := by
  refine PE_of (fun Q hQ => ?_)
  refine x_ent en143 ?_
  refine x_aload_n d143_0 rfl ?_
  refine x_aload_n d143_1 rfl ?_
  refine x_VE d143_2 cl143 m11_571 kd144 tg144 po144 le144 (by decide) (S.F.o rfl (by decide)) (C144 V S G) (fun v1 r1 z1 => ?_)
  try dsimp only at r1
  refine x_aload_n d143_5 rfl ?_
  refine x_aload_n d143_6 rfl ?_
  refine x_VE d143_7 cl143 m11_574 kd145 tg145 po145 le145 (by decide) (S.F.o rfl (by decide)) (C145 V S G) (fun v2 r2 z2 => ?_)
  try dsimp only at r2
  refine x_iorq d143_10 (fun q3 => ?_)
  refine x_aload_n d143_11 rfl ?_
  refine x_aload_n d143_12 rfl ?_
  refine x_VE d143_13 cl143 m11_577 kd146 tg146 po146 le146 (by decide) (S.F.o rfl (by decide)) (C146 V S G) (fun v4 r4 z4 => ?_)
  try dsimp only at r4
  refine x_iorq d143_16 (fun q5 => ?_)
  refine x_aload_n d143_17 rfl ?_
  refine x_aload_n d143_18 rfl ?_
  refine x_VE d143_19 cl143 m11_325 kd147 tg147 po147 le147 (by decide) (S.F.o rfl (by decide)) (C147 V S G) (fun v6 r6 z6 => ?_)
  try dsimp only at r6
  refine x_aload_n d143_22 rfl ?_
  refine x_aload_n d143_23 rfl ?_
  refine x_VE d143_24 cl143 m11_314 kd110 tg110 po110 le110 (by decide) (S.F.o rfl (by decide)) (C110 V S G) (fun v7 r7 z7 => ?_)
  try dsimp only at r7
  refine x_aload_n d143_27 rfl ?_
  refine x_gfI d143_28 cl143 f11_318 (by decide) (Cv.ob G) (V.g (Cv.g G)) ?_
  have g8 := (Cv.isTaxed G)
  refine x_SE d143_31 cl143 m11_580 kd148 po148 le148 (C148 (by omega) (by omega) (by omega)) (fun v9 r9 z9 => ?_)
  try dsimp only at r9
  refine x_iorq d143_34 (fun q10 => ?_)
  exact x_iret d143_35 rt143 (hQ _ (by omega))
theorem C149 {D : Nat → Nat → Bool} {d : Nat} {h : Hp} {mP mC mI mD mB : Nat → Nat} {nP nC nI nD nB : Nat} (V : Vis D) (S : Hv h mP mC mI mD mB nP nC nI nD nB) {c : Nat} (G : Cv h c) : ∃ v : Int, (fun v : Int => v = 0 ∨ v = 1) v ∧ PV D (d + 5) 149 [vR (some 2), vR (some c)] h (vI v) := by
  refine PE_of (fun Q hQ => ?_)
  refine x_ent en149 ?_
  refine x_aload_n d149_0 rfl ?_
  refine x_aload_n d149_1 rfl ?_
  refine x_VE d149_2 cl149 m11_571 kd144 tg144 po144 le144 (by decide) (S.F.o rfl (by decide)) (C144 V S G) (fun v1 r1 z1 => ?_)
  try dsimp only at r1
  refine x_aload_n d149_5 rfl ?_
  refine x_aload_n d149_6 rfl ?_
  refine x_VE d149_7 cl149 m11_574 kd145 tg145 po145 le145 (by decide) (S.F.o rfl (by decide)) (C145 V S G) (fun v2 r2 z2 => ?_)
  try dsimp only at r2
  refine x_iorq d149_10 (fun q3 => ?_)
  refine x_aload_n d149_11 rfl ?_
  refine x_aload_n d149_12 rfl ?_
  refine x_VE d149_13 cl149 m11_577 kd146 tg146 po146 le146 (by decide) (S.F.o rfl (by decide)) (C146 V S G) (fun v4 r4 z4 => ?_)
  try dsimp only at r4
  refine x_iorq d149_16 (fun q5 => ?_)
  refine x_bipush d149_17 (by decide) ?_
  refine x_iandq d149_19 (fun q6 => ?_)
  refine x_ifeq (t := 27) d149_20 rfl (by omega) (fun c20_7 => ?_) (fun c20_7 => ?_)
  · refine x_iconst d149_27 ?_
    exact x_zret d149_28 rt149 (by omega) (hQ _ (by omega))
  · refine x_iconst d149_23 ?_
    refine x_goto (t := 28) d149_24 rfl ?_
    exact x_zret d149_28 rt149 (by omega) (hQ _ (by omega))
/-- whether a COVER is impossible, as it is answered -/
def Imp (h : Hp) (c : Nat) (b : Int) : Prop := ∃ d2, PV DV d2 149 [vR (some 2), vR (some c)] h (vI b)
/-- how many of the first ones are not -/
def cntI (f : Nat → Int) : Nat → Int
  | 0 => 0
  | n + 1 => cntI f n + (if f n = 0 then 1 else 0)
theorem cntI_rng (f : Nat → Int) (n : Nat) : 0 ≤ cntI f n ∧ cntI f n ≤ n := by
  induction n with
  | zero => exact ⟨by unfold cntI; omega, by unfold cntI; omega⟩
  | succ n ih => unfold cntI; split <;> omega
theorem cntI_up (f : Nat → Int) (i : Int) (h : 0 ≤ i) : cntI f (i + 1).toNat = cntI f i.toNat + (if f i.toNat = 0 then 1 else 0) := by
  rw [show (i + 1).toNat = i.toNat + 1 by omega]; rfl
