theorem x_SEL {D : Nat → Nat → Bool} {d y pc nx k c z : Nat} {ls : XL} {st as r : List XV} {h : Hp} {Q : XO × Hp → Prop} {P : Int → Prop} (hd : cod y pc = some (.invokestatic k, nx)) (hc : cls y = c) (hl : lkp mthL c k = some z) (hk : mKnd z = 0) (hp : popN (mArg z) st = some (as, r)) (he : (entL as).length ≤ mLoc z) (cc : ∃ v : Int, P v ∧ PV D d z as h (vL v)) (kk : ∀ v : Int, P v → PV D d z as h (vL v) → wp D (d + 1) y nx ls (vL v :: r) h Q) (hz : z < 900 := by decide) (hs : szS r ≤ 8 := by exact Nat.le_of_ble_eq_true rfl) : wp D (d + 1) y pc ls st h Q := by
  obtain ⟨v, h1, h2⟩ := cc
  exact x_SV hd hc hl hk hp he h2 (kk v h1 h2) hz hs
theorem C125 {D : Nat → Nat → Bool} {d : Nat} {h : Hp} {x : Int} {mP mC mI mD mB : Nat → Nat} {nP nC nI nD nB : Nat} (V : Vis D) (S : Hv h mP mC mI mD mB nP nC nI nD nB) : ∃ v : Int, (fun v : Int => True) v ∧ PV D (d + 1) 125 [vR (some 2), vL x] h (vL v) := by
  refine PEL_of (fun Q hQ => ?_)
  refine x_ent en125 ?_
  have hW := mul_rng S.pl.1 S.pl.2.1
  refine x_lload_n d125_0 rfl ?_
  refine x_nmL (fun w1_1 ew1_1 => ?_)
  refine x_lstore_n [some (vR _), some (vL _), none, some (vL _), none, none] d125_1 rfl ?_
  refine x_iconst d125_2 ?_
  refine x_nm (fun w3_2 ew3_2 => ?_)
  refine x_istore [some (vR _), some (vL _), none, some (vL _), none, some (vI _)] d125_3 rfl ?_
  refine (x_ub (N := hI h 3 0 * hI h 3 1) (P := fun i3 => ∀ s3_3 : Int, wp D (d + 1) 125 5 [some (vR (some 2)), some (vL x), none, some (vL s3_3), none, some (vI i3)] [] h Q) w3_2 (by omega) (fun i3 hi3 hj3 ih3 s3_3 => ?_)) _
  refine x_iload d125_5 rfl ?_
  refine x_aload_n d125_7 rfl ?_
  refine x_gfR d125_8 cl125 f11_10 (S.F.o rfl (by decide)) (V _ _ rfl) (S.F.r rfl) ?_
  refine x_VE d125_11 cl125 m11_104 kd30 tg30 po30 le30 (by decide) (S.F.o rfl (by decide)) (C30 V S) (fun v4 r4 z4 => ?_)
  try dsimp only at r4
  refine x_icge (t := 56) d125_14 rfl (by omega) (fun c14_5 => ?_) (fun c14_5 => ?_)
  · refine x_lload_n d125_56 rfl ?_
    exact x_lret d125_57 rt125 (hQ _ trivial)
  · refine x_lload_n d125_17 rfl ?_
    refine x_aload_n d125_18 rfl ?_
    refine x_gfR d125_19 cl125 f11_10 (S.F.o rfl (by decide)) (V _ _ rfl) (S.F.r rfl) ?_
    refine x_iload d125_22 rfl ?_
    refine x_iconst d125_24 ?_
    refine x_VE d125_25 cl125 m11_196 kd36 tg36 po36 le36 (by decide) (S.F.o rfl (by decide)) (C36 V S (by omega) (by omega)) (fun v6 r6 z6 => ?_)
    try dsimp only at r6
    refine x_i2l d125_28 ?_
    refine x_SEL d125_29 cl125 m11_488 kd124 po124 le124 C124 (fun v7 r7 z7 => ?_)
    try dsimp only at r7
    refine x_nmL (fun w32_8 ew32_8 => ?_)
    refine x_lstore_n [some (vR _), some (vL _), none, some (vL _), none, some (vI _)] d125_32 rfl ?_
    refine x_lload_n d125_33 rfl ?_
    refine x_aload_n d125_34 rfl ?_
    refine x_gfR d125_35 cl125 f11_10 (S.F.o rfl (by decide)) (V _ _ rfl) (S.F.r rfl) ?_
    refine x_iload d125_38 rfl ?_
    refine x_bipush d125_40 (by decide) ?_
    refine x_VE d125_42 cl125 m11_196 kd36 tg36 po36 le36 (by decide) (S.F.o rfl (by decide)) (C36 V S (by omega) (by omega)) (fun v9 r9 z9 => ?_)
    try dsimp only at r9
    refine x_i2l d125_45 ?_
    refine x_SEL d125_46 cl125 m11_488 kd124 po124 le124 C124 (fun v10 r10 z10 => ?_)
    try dsimp only at r10
    refine x_nmL (fun w49_11 ew49_11 => ?_)
    refine x_lstore_n [some (vR _), some (vL _), none, some (vL _), none, some (vI _)] d125_49 rfl ?_
    refine x_iinc [some (vR _), some (vL _), none, some (vL _), none, some (vI _)] d125_50 rfl rfl ?_
    refine x_goto (t := 5) d125_53 rfl ?_
    exact ih3 (by omega) _
theorem C126 {D : Nat → Nat → Bool} {d : Nat} {h : Hp} {x : Int} {mP mC mI mD mB : Nat → Nat} {nP nC nI nD nB : Nat} (V : Vis D) (S : Hv h mP mC mI mD mB nP nC nI nD nB) : ∃ v : Int, (fun v : Int => True) v ∧ PV D (d + 3) 126 [vR (some 2), vL x] h (vL v) := by
  refine PEL_of (fun Q hQ => ?_)
  refine x_ent en126 ?_
  refine x_lload_n d126_0 rfl ?_
  refine x_nmL (fun w1_1 ew1_1 => ?_)
  refine x_lstore_n [some (vR _), some (vL _), none, some (vL _), none, none, none] d126_1 rfl ?_
  refine x_iconst d126_2 ?_
  refine x_nm (fun w3_2 ew3_2 => ?_)
  refine x_istore [some (vR _), some (vL _), none, some (vL _), none, some (vI _), none] d126_3 rfl ?_
  refine (x_ub (N := 6) (P := fun i3 => ∀ s3_3 : Int, ∀ t3_6 : Option XV, wp D (d + 3) 126 5 [some (vR (some 2)), some (vL x), none, some (vL s3_3), none, some (vI i3), t3_6] [] h Q) w3_2 (by omega) (fun i3 hi3 hj3 ih3 s3_3 t3_6 => ?_)) _ _
  refine x_iload d126_5 rfl ?_
  refine x_bipush d126_7 (by decide) ?_
  refine x_icge (t := 47) d126_9 rfl (by omega) (fun c9_4 => ?_) (fun c9_4 => ?_)
  · refine x_lload_n d126_47 rfl ?_
    exact x_lret d126_48 rt126 (hQ _ trivial)
  · refine x_iconst d126_12 ?_
    refine x_nm (fun w13_5 ew13_5 => ?_)
    refine x_istore [some (vR _), some (vL _), none, some (vL _), none, some (vI _), some (vI _)] d126_13 rfl ?_
    refine (x_ub (N := 5) (P := fun i6 => ∀ s6_3 : Int, wp D (d + 3) 126 15 [some (vR (some 2)), some (vL x), none, some (vL s6_3), none, some (vI i3), some (vI i6)] [] h Q) w13_5 (by omega) (fun i6 hi6 hj6 ih6 s6_3 => ?_)) _
    refine x_iload d126_15 rfl ?_
    refine x_iconst d126_17 ?_
    refine x_icgt (t := 41) d126_18 rfl (by omega) (fun c18_7 => ?_) (fun c18_7 => ?_)
    · refine x_iinc [some (vR _), some (vL _), none, some (vL _), none, some (vI _), some (vI _)] d126_41 rfl rfl ?_
      refine x_goto (t := 5) d126_44 rfl ?_
      exact ih3 (by omega) _ _
    · refine x_lload_n d126_21 rfl ?_
      refine x_aload_n d126_22 rfl ?_
      refine x_iload d126_23 rfl ?_
      refine x_iload d126_25 rfl ?_
      refine x_VE d126_27 cl126 m11_600 kd127 tg127 po127 le127 (by decide) (S.F.o rfl (by decide)) (C127 V S (by omega) (by omega)) (fun v8 r8 z8 => ?_)
      try dsimp only at r8
      refine x_i2l d126_30 ?_
      refine x_SEL d126_31 cl126 m11_488 kd124 po124 le124 C124 (fun v9 r9 z9 => ?_)
      try dsimp only at r9
      refine x_nmL (fun w34_10 ew34_10 => ?_)
      refine x_lstore_n [some (vR _), some (vL _), none, some (vL _), none, some (vI _), some (vI _)] d126_34 rfl ?_
      refine x_iinc [some (vR _), some (vL _), none, some (vL _), none, some (vI _), some (vI _)] d126_35 rfl rfl ?_
      refine x_goto (t := 15) d126_38 rfl ?_
      exact ih6 (by omega) _
theorem C128 {D : Nat → Nat → Bool} {d : Nat} {h : Hp} {x : Int} {mP mC mI mD mB : Nat → Nat} {nP nC nI nD nB : Nat} (V : Vis D) (S : Hv h mP mC mI mD mB nP nC nI nD nB) : ∃ v : Int, (fun v : Int => True) v ∧ PV D (d + 6) 128 [vR (some 2), vL x] h (vL v) := by
  refine PEL_of (fun Q hQ => ?_)
  refine x_ent en128 ?_
  have hnp := S.np
  refine x_lload_n d128_0 rfl ?_
  refine x_nmL (fun w1_1 ew1_1 => ?_)
  refine x_lstore_n [some (vR _), some (vL _), none, some (vL _), none, none, none] d128_1 rfl ?_
  refine x_iconst d128_2 ?_
  refine x_nm (fun w3_2 ew3_2 => ?_)
  refine x_istore [some (vR _), some (vL _), none, some (vL _), none, some (vI _), none] d128_3 rfl ?_
  refine (x_ub (N := nP) (P := fun i3 => ∀ s3_3 : Int, ∀ t3_6 : Option XV, wp D (d + 6) 128 5 [some (vR (some 2)), some (vL x), none, some (vL s3_3), none, some (vI i3), t3_6] [] h Q) w3_2 (by omega) (fun i3 hi3 hj3 ih3 s3_3 t3_6 => ?_)) _ _
  refine x_iload d128_5 rfl ?_
  refine x_aload_n d128_7 rfl ?_
  refine x_gfR d128_8 cl128 f11_19 (S.F.o rfl (by decide)) (V _ _ rfl) (S.F.r rfl) ?_
  refine x_VE d128_11 cl128 m11_129 kd168 tg168 po168 le168 (by decide) (S.F.o rfl (by decide)) (C168 (S.F.o rfl (by decide)) (V _ _ rfl) S.lp) (fun v4 r4 z4 => ?_)
  try dsimp only at r4
  refine x_icge (t := 133) d128_14 rfl (by omega) (fun c14_5 => ?_) (fun c14_5 => ?_)
  · refine x_lload_n d128_133 rfl ?_
    exact x_lret d128_134 rt128 (hQ _ trivial)
  · refine x_iconst d128_17 ?_
    refine x_nm (fun w18_6 ew18_6 => ?_)
    refine x_istore [some (vR _), some (vL _), none, some (vL _), none, some (vI _), some (vI _)] d128_18 rfl ?_
    refine (x_ub (N := 6) (P := fun i7 => ∀ s7_3 : Int, wp D (d + 6) 128 20 [some (vR (some 2)), some (vL x), none, some (vL s7_3), none, some (vI i3), some (vI i7)] [] h Q) w18_6 (by omega) (fun i7 hi7 hj7 ih7 s7_3 => ?_)) _
    refine x_iload d128_20 rfl ?_
    refine x_iconst d128_22 ?_
    refine x_icgt (t := 46) d128_23 rfl (by omega) (fun c23_8 => ?_) (fun c23_8 => ?_)
    · refine x_lload_n d128_46 rfl ?_
      refine x_aload_n d128_47 rfl ?_
      refine x_iload d128_48 rfl ?_
      refine x_VE d128_50 cl128 m11_606 kd133 tg133 po133 le133 (by decide) (S.F.o rfl (by decide)) (C133 V S (by omega)) (fun v9 r9 z9 => ?_)
      try dsimp only at r9
      refine x_i2l d128_53 ?_
      refine x_SEL d128_54 cl128 m11_488 kd124 po124 le124 C124 (fun v10 r10 z10 => ?_)
      try dsimp only at r10
      refine x_nmL (fun w57_11 ew57_11 => ?_)
      refine x_lstore_n [some (vR _), some (vL _), none, some (vL _), none, some (vI _), some (vI _)] d128_57 rfl ?_
      refine x_lload_n d128_58 rfl ?_
      refine x_aload_n d128_59 rfl ?_
      refine x_iload d128_60 rfl ?_
      refine x_VE d128_62 cl128 m11_609 kd134 tg134 po134 le134 (by decide) (S.F.o rfl (by decide)) (C134 V S (by omega)) (fun v12 r12 z12 => ?_)
      try dsimp only at r12
      refine x_i2l d128_65 ?_
      refine x_SEL d128_66 cl128 m11_488 kd124 po124 le124 C124 (fun v13 r13 z13 => ?_)
      try dsimp only at r13
      refine x_nmL (fun w69_14 ew69_14 => ?_)
      refine x_lstore_n [some (vR _), some (vL _), none, some (vL _), none, some (vI _), some (vI _)] d128_69 rfl ?_
      refine x_lload_n d128_70 rfl ?_
      refine x_aload_n d128_71 rfl ?_
      refine x_iload d128_72 rfl ?_
      refine x_aload_n d128_74 rfl ?_
      refine x_gfI d128_75 cl128 f11_372 (by decide) (S.F.o rfl (by decide)) (V _ _ rfl) ?_
      have g15 := S.today
      refine x_VE d128_78 cl128 m11_612 kd135 tg135 po135 le135 (by decide) (S.F.o rfl (by decide)) (C135 V S (by omega) (by omega)) (fun v16 r16 z16 => ?_)
      try dsimp only at r16
      refine x_i2l d128_81 ?_
      refine x_SEL d128_82 cl128 m11_488 kd124 po124 le124 C124 (fun v17 r17 z17 => ?_)
      try dsimp only at r17
      refine x_nmL (fun w85_18 ew85_18 => ?_)
      refine x_lstore_n [some (vR _), some (vL _), none, some (vL _), none, some (vI _), some (vI _)] d128_85 rfl ?_
      refine x_iconst d128_86 ?_
      refine x_nm (fun w87_19 ew87_19 => ?_)
      refine x_istore [some (vR _), some (vL _), none, some (vL _), none, some (vI _), some (vI _)] d128_87 rfl ?_
      refine (x_ub (N := 3) (P := fun i20 => ∀ s20_3 : Int, wp D (d + 6) 128 89 [some (vR (some 2)), some (vL x), none, some (vL s20_3), none, some (vI i3), some (vI i20)] [] h Q) w87_19 (by omega) (fun i20 hi20 hj20 ih20 s20_3 => ?_)) _
      refine x_iload d128_89 rfl ?_
      refine x_iconst d128_91 ?_
      refine x_icgt (t := 115) d128_92 rfl (by omega) (fun c92_21 => ?_) (fun c92_21 => ?_)
      · refine x_lload_n d128_115 rfl ?_
        refine x_aload_n d128_116 rfl ?_
        refine x_iload d128_117 rfl ?_
        refine x_VE d128_119 cl128 m11_618 kd138 tg138 po138 le138 (by decide) (S.F.o rfl (by decide)) (C138 V S (by omega)) (fun v22 r22 z22 => ?_)
        try dsimp only at r22
        refine x_i2l d128_122 ?_
        refine x_SEL d128_123 cl128 m11_488 kd124 po124 le124 C124 (fun v23 r23 z23 => ?_)
        try dsimp only at r23
        refine x_nmL (fun w126_24 ew126_24 => ?_)
        refine x_lstore_n [some (vR _), some (vL _), none, some (vL _), none, some (vI _), some (vI _)] d128_126 rfl ?_
        refine x_iinc [some (vR _), some (vL _), none, some (vL _), none, some (vI _), some (vI _)] d128_127 rfl rfl ?_
        refine x_goto (t := 5) d128_130 rfl ?_
        exact ih3 (by omega) _ _
      · refine x_lload_n d128_95 rfl ?_
        refine x_aload_n d128_96 rfl ?_
        refine x_iload d128_97 rfl ?_
        refine x_iload d128_99 rfl ?_
        refine x_VE d128_101 cl128 m11_615 kd136 tg136 po136 le136 (by decide) (S.F.o rfl (by decide)) (C136 V S (by omega) (by omega)) (fun v25 r25 z25 => ?_)
        try dsimp only at r25
        refine x_i2l d128_104 ?_
        refine x_SEL d128_105 cl128 m11_488 kd124 po124 le124 C124 (fun v26 r26 z26 => ?_)
        try dsimp only at r26
        refine x_nmL (fun w108_27 ew108_27 => ?_)
        refine x_lstore_n [some (vR _), some (vL _), none, some (vL _), none, some (vI _), some (vI _)] d128_108 rfl ?_
        refine x_iinc [some (vR _), some (vL _), none, some (vL _), none, some (vI _), some (vI _)] d128_109 rfl rfl ?_
        refine x_goto (t := 89) d128_112 rfl ?_
        exact ih20 (by omega) _
    · refine x_lload_n d128_26 rfl ?_
      refine x_aload_n d128_27 rfl ?_
      refine x_iload d128_28 rfl ?_
      refine x_iload d128_30 rfl ?_
      refine x_VE d128_32 cl128 m11_603 kd129 tg129 po129 le129 (by decide) (S.F.o rfl (by decide)) (C129 V S (by omega) (by omega)) (fun v28 r28 z28 => ?_)
      try dsimp only at r28
      refine x_i2l d128_35 ?_
      refine x_SEL d128_36 cl128 m11_488 kd124 po124 le124 C124 (fun v29 r29 z29 => ?_)
      try dsimp only at r29
      refine x_nmL (fun w39_30 ew39_30 => ?_)
      refine x_lstore_n [some (vR _), some (vL _), none, some (vL _), none, some (vI _), some (vI _)] d128_39 rfl ?_
      refine x_iinc [some (vR _), some (vL _), none, some (vL _), none, some (vI _), some (vI _)] d128_40 rfl rfl ?_
      refine x_goto (t := 20) d128_43 rfl ?_
      exact ih7 (by omega) _
theorem C153 {D : Nat → Nat → Bool} {d : Nat} {h : Hp} {x : Int} {mP mC mI mD mB : Nat → Nat} {nP nC nI nD nB : Nat} (V : Vis D) (S : Hv h mP mC mI mD mB nP nC nI nD nB) : ∃ v : Int, (fun v : Int => True) v ∧ PV D (d + 8) 153 [vR (some 2), vL x] h (vL v) := by
  refine PEL_of (fun Q hQ => ?_)
  refine x_ent en153 ?_
  have hni := S.ni
  refine x_lload_n d153_0 rfl ?_
  refine x_nmL (fun w1_1 ew1_1 => ?_)
  refine x_lstore_n [some (vR _), some (vL _), none, some (vL _), none, none] d153_1 rfl ?_
  refine x_iconst d153_2 ?_
  refine x_nm (fun w3_2 ew3_2 => ?_)
  refine x_istore [some (vR _), some (vL _), none, some (vL _), none, some (vI _)] d153_3 rfl ?_
  refine (x_ub (N := nI) (P := fun i3 => ∀ s3_3 : Int, wp D (d + 8) 153 5 [some (vR (some 2)), some (vL x), none, some (vL s3_3), none, some (vI i3)] [] h Q) w3_2 (by omega) (fun i3 hi3 hj3 ih3 s3_3 => ?_)) _
  refine x_iload d153_5 rfl ?_
  refine x_aload_n d153_7 rfl ?_
  refine x_gfR d153_8 cl153 f11_37 (S.F.o rfl (by decide)) (V _ _ rfl) (S.F.r rfl) ?_
  refine x_VE d153_11 cl153 m11_129 kd168 tg168 po168 le168 (by decide) (S.F.o rfl (by decide)) (C168 (S.F.o rfl (by decide)) (V _ _ rfl) S.li) (fun v4 r4 z4 => ?_)
  try dsimp only at r4
  refine x_icge (t := 49) d153_14 rfl (by omega) (fun c14_5 => ?_) (fun c14_5 => ?_)
  · refine x_lload_n d153_49 rfl ?_
    exact x_lret d153_50 rt153 (hQ _ trivial)
  · refine x_lload_n d153_17 rfl ?_
    refine x_aload_n d153_18 rfl ?_
    refine x_iload d153_19 rfl ?_
    refine x_iconst d153_21 ?_
    refine x_VE d153_22 cl153 m11_627 kd154 tg154 po154 le154 (by decide) (S.F.o rfl (by decide)) (C154 V S (by omega) (by omega)) (fun v6 r6 z6 => ?_)
    try dsimp only at r6
    refine x_i2l d153_25 ?_
    refine x_SEL d153_26 cl153 m11_488 kd124 po124 le124 C124 (fun v7 r7 z7 => ?_)
    try dsimp only at r7
    refine x_nmL (fun w29_8 ew29_8 => ?_)
    refine x_lstore_n [some (vR _), some (vL _), none, some (vL _), none, some (vI _)] d153_29 rfl ?_
    refine x_lload_n d153_30 rfl ?_
    refine x_aload_n d153_31 rfl ?_
    refine x_iload d153_32 rfl ?_
    refine x_iconst d153_34 ?_
    refine x_VE d153_35 cl153 m11_627 kd154 tg154 po154 le154 (by decide) (S.F.o rfl (by decide)) (C154 V S (by omega) (by omega)) (fun v9 r9 z9 => ?_)
    try dsimp only at r9
    refine x_i2l d153_38 ?_
    refine x_SEL d153_39 cl153 m11_488 kd124 po124 le124 C124 (fun v10 r10 z10 => ?_)
    try dsimp only at r10
    refine x_nmL (fun w42_11 ew42_11 => ?_)
    refine x_lstore_n [some (vR _), some (vL _), none, some (vL _), none, some (vI _)] d153_42 rfl ?_
    refine x_iinc [some (vR _), some (vL _), none, some (vL _), none, some (vI _)] d153_43 rfl rfl ?_
    refine x_goto (t := 5) d153_46 rfl ?_
    exact ih3 (by omega) _
