/-! ===== FRAMES AND THE CHECKSUM ===== -/
theorem C160 {d : Nat} {h0 : Hp} {x y : Int} {mP mC mI mD mB : Nat → Nat} {nP nC nI nD nB : Nat} (S0 : Hv h0 mP mC mI mD mB nP nC nI nD nB) (sp va as : Nat → Int) (hsp0 : ∀ k, k < nP → sp k = hI h0 (mP k) 1 * hI h0 (mP k) 2) (hva : ∀ k, k < nP → ∃ d2, PV DV d2 139 [vR (some 2), vR (some (mP k))] h0 (vI (va k))) (hal : ∀ k, k < nP → ∃ d2, PV DV d2 131 [vR (some 2), vR (some (mP k))] h0 (vI (as k))) (qx : 0 ≤ x ∧ x ≤ 40) (qy : y = 0 ∨ y = 1) {b : Nat} (hb : Bst (fV sp va (alF as) x nP) (2 ^ nP) b) : ∃ v : Int, (fun v : Int => v = if y = 1 then (b : Int) else fV sp va (alF as) x nP b) v ∧ DW mB nB (d + 10) 160 [vR (some 2), vI x, vI y] h0 (vI v) := by
  have hnp := S0.np
  have h12 : 2 ^ nP ≤ 2 ^ 12 := Nat.pow_le_pow_right (by omega) hnp
  have hvr := fV_rng (sp := sp) (va := va) (al := alF as) (L := x) nP (var_of S0 hva) b
  refine ⟨_, rfl, ?_⟩
  intro h A K
  have V := Vis_DA
  have S := Hv_agr A S0
  refine DQ_of (fun Q hQ => ?_)
  refine x_ent en160 ?_
  refine x_iload_n d160_0 rfl ?_
  refine x_iconst d160_1 ?_
  refine x_bipush d160_2 (by decide) ?_
  refine x_SE d160_4 cl160 m11_84 kd83 po83 le83 (C83 (by omega) (by omega) (by omega)) (fun v1 r1 z1 => ?_)
  try dsimp only at r1
  refine x_SN d160_7 cl160 m11_88 kd84 po84 le84 (C84 (by omega)) ?_
  refine x_aload_n d160_10 rfl ?_
  refine x_iload_n d160_11 rfl ?_
  refine x_VW d160_12 cl160 m11_471 kd161 tg161 po161 le161 (by decide) (S.F.o rfl (by decide)) (C161 S0 A K sp va as hsp0 hva hal (by omega)) (fun v3 h q3 => ?_)
  obtain ⟨v3, rfl, q3⟩ := q3
  obtain ⟨b9, eb9, hb9, hf9, S, A, K⟩ := q3
  have e99 := Bst_one hb9 hb
  have h99 := hb9.1
  refine x_nm (fun w15_4 ew15_4 => ?_)
  refine x_istore_n [some (vR _), some (vI _), some (vI _), some (vI _)] d160_15 rfl ?_
  refine x_iload_n d160_16 rfl ?_
  refine x_ifeq (t := 24) d160_17 rfl (by omega) (fun c17_5 => ?_) (fun c17_5 => ?_)
  · refine x_aload_n d160_24 rfl ?_
    refine x_gfR d160_25 cl160 f11_81 (S.F.o rfl (by decide)) (V _ _ rfl) (S.F.r rfl) ?_
    refine x_iload_n d160_28 rfl ?_
    refine x_iaload d160_29 (S.F.o rfl (by decide)) ⟨by omega, by rw [(S.F.l (a := 68) (n := 4096) (by decide) rfl)]; omega⟩ rfl ?_
    rw [show (w15_4).toNat = b by omega, ← e99, hf9]
    exact x_iret d160_30 rt160 (hQ _ _ (by exact ⟨by first | (rw [if_pos (by omega)]; omega) | (rw [if_neg (by omega), e99]), A, K⟩))
  · refine x_iload_n d160_20 rfl ?_
    refine x_goto (t := 30) d160_21 rfl ?_
    exact x_iret d160_30 rt160 (hQ _ _ (by exact ⟨by first | (rw [if_pos (by omega)]; omega) | (rw [if_neg (by omega), e99]), A, K⟩))
theorem C141 {d : Nat} {h : Hp} {x : Int} {mP mC mI mD mB : Nat → Nat} {nP nC nI nD nB : Nat} (S : Hv h mP mC mI mD mB nP nC nI nD nB) (iw : ∀ k, k < nI → 1 ≤ hI h (mI k) 0) : ∃ v : Int, (fun v : Int => True) v ∧ DW mB nB (d + 8) 141 [vR (some 2), vL x] h (vL v) := by
  have V := Vis_DV
  refine TEL_of (fun Q hQ => ?_)
  refine t_ent en141 ?_
  have hnc := S.nc
  obtain ⟨f, hf⟩ := pick (n := nC) (P := fun k v => ∃ d2, PV DV d2 149 [vR (some 2), vR (some (mC k))] h (vI v)) (0 : Int) (fun k hk => by obtain ⟨v, -, q⟩ := C149 (D := DV) (d := 0) Vis_DV S (Ls.mem S.lc k hk); exact ⟨v, _, q⟩)
  refine t_s (fun g Q => x_lload_n d141_0 rfl) ?_
  refine t_nmL (fun w1_1 ew1_1 => ?_)
  refine t_s (fun g Q => x_lstore_n [some (vR _), some (vL _), none, some (vL _), none, none, none] d141_1 rfl) ?_
  refine t_s (fun g Q => x_iconst d141_2) ?_
  refine t_nm (fun w3_2 ew3_2 => ?_)
  refine t_s (fun g Q => x_istore [some (vR _), some (vL _), none, some (vL _), none, some (vI _), none] d141_3 rfl) ?_
  refine (x_ub (N := nC) (P := fun i3 => ∀ s3_3 : Int, ∀ t3_6 : Option XV, TD mB nB h (d + 8) 141 5 [some (vR (some 2)), some (vL x), none, some (vL s3_3), none, some (vI i3), t3_6] [] Q) w3_2 (by omega) (fun i3 hi3 hj3 ih3 s3_3 t3_6 => ?_)) _ _
  refine t_s (fun g Q => x_iload d141_5 rfl) ?_
  refine t_s (fun g Q => x_aload_n d141_7 rfl) ?_
  refine t_gfR d141_8 cl141 f11_43 (S.F.o rfl (by decide)) (V _ _ rfl) (S.F.r rfl) ?_
  refine t_VE d141_11 cl141 m11_129 kd168 tg168 po168 le168 (by decide) (S.F.o rfl (by decide)) (C168 (S.F.o rfl (by decide)) (V _ _ rfl) S.lc) (fun v4 r4 z4 => ?_)
  try dsimp only at r4
  refine t_b (fun g Q => x_icge (t := 65) d141_14 rfl (by omega)) (by omega) (by omega) (fun c14_5 => ?_) (fun c14_5 => ?_)
  · refine t_s (fun g Q => x_lload_n d141_65 rfl) ?_
    exact t_lret d141_66 rt141 (hQ _ trivial)
  · refine t_s (fun g Q => x_iconst d141_17) ?_
    refine t_nm (fun w18_6 ew18_6 => ?_)
    refine t_s (fun g Q => x_istore [some (vR _), some (vL _), none, some (vL _), none, some (vI _), some (vI _)] d141_18 rfl) ?_
    refine (x_ub (N := 8) (P := fun i7 => ∀ s7_3 : Int, TD mB nB h (d + 8) 141 20 [some (vR (some 2)), some (vL x), none, some (vL s7_3), none, some (vI i3), some (vI i7)] [] Q) w18_6 (by omega) (fun i7 hi7 hj7 ih7 s7_3 => ?_)) _
    refine t_s (fun g Q => x_iload d141_20 rfl) ?_
    refine t_s (fun g Q => x_bipush d141_22 (by decide)) ?_
    refine t_b (fun g Q => x_icgt (t := 47) d141_24 rfl (by omega)) (by omega) (by omega) (fun c24_8 => ?_) (fun c24_8 => ?_)
    · refine t_s (fun g Q => x_lload_n d141_47 rfl) ?_
      refine t_s (fun g Q => x_aload_n d141_48 rfl) ?_
      refine t_s (fun g Q => x_iload d141_49 rfl) ?_
      refine t_VD d141_51 cl141 m11_624 kd151 tg151 po151 le151 (by decide) (S.F.o rfl (by decide)) (C151 S iw (by omega)) (fun v9 r9 z9 => ?_)
      try dsimp only at r9
      refine t_s (fun g Q => x_i2l d141_54) ?_
      refine t_SEL d141_55 cl141 m11_488 kd124 po124 le124 C124 (fun v10 r10 z10 => ?_)
      try dsimp only at r10
      refine t_nmL (fun w58_11 ew58_11 => ?_)
      refine t_s (fun g Q => x_lstore_n [some (vR _), some (vL _), none, some (vL _), none, some (vI _), some (vI _)] d141_58 rfl) ?_
      refine t_s (fun g Q => x_iinc [some (vR _), some (vL _), none, some (vL _), none, some (vI _), some (vI _)] d141_59 rfl rfl) ?_
      refine t_s (fun g Q => x_goto (t := 5) d141_62 rfl) ?_
      exact ih3 (by omega) _ _
    · refine t_s (fun g Q => x_lload_n d141_27 rfl) ?_
      refine t_s (fun g Q => x_aload_n d141_28 rfl) ?_
      refine t_s (fun g Q => x_iload d141_29 rfl) ?_
      refine t_s (fun g Q => x_iload d141_31 rfl) ?_
      refine t_VE d141_33 cl141 m11_621 kd142 tg142 po142 le142 (by decide) (S.F.o rfl (by decide)) (C142 V S f hf (by omega) (by omega)) (fun v12 r12 z12 => ?_)
      try dsimp only at r12
      refine t_s (fun g Q => x_i2l d141_36) ?_
      refine t_SEL d141_37 cl141 m11_488 kd124 po124 le124 C124 (fun v13 r13 z13 => ?_)
      try dsimp only at r13
      refine t_nmL (fun w40_14 ew40_14 => ?_)
      refine t_s (fun g Q => x_lstore_n [some (vR _), some (vL _), none, some (vL _), none, some (vI _), some (vI _)] d141_40 rfl) ?_
      refine t_s (fun g Q => x_iinc [some (vR _), some (vL _), none, some (vL _), none, some (vI _), some (vI _)] d141_41 rfl rfl) ?_
      refine t_s (fun g Q => x_goto (t := 20) d141_44 rfl) ?_
      exact ih7 (by omega) _
theorem C156 {d : Nat} {h : Hp} {x : Int} {mP mC mI mD mB : Nat → Nat} {nP nC nI nD nB : Nat} (S : Hv h mP mC mI mD mB nP nC nI nD nB) : ∃ v : Int, (fun v : Int => True) v ∧ DW mB nB (d + 8) 156 [vR (some 2), vL x] h (vL v) := by
  have V := Vis_DV
  refine TEL_of (fun Q hQ => ?_)
  refine t_ent en156 ?_
  have hits := S.items
  obtain ⟨b, -, hb0⟩ := C158 (D := DV) (d := 0) Vis_DV S
  have hb : ∃ d2, PV DV d2 158 [vR (some 2)] h (vI b) := ⟨_, hb0⟩
  refine t_s (fun g Q => x_lload_n d156_0 rfl) ?_
  refine t_nmL (fun w1_1 ew1_1 => ?_)
  refine t_s (fun g Q => x_lstore_n [some (vR _), some (vL _), none, some (vL _), none, none] d156_1 rfl) ?_
  refine t_s (fun g Q => x_iconst d156_2) ?_
  refine t_nm (fun w3_2 ew3_2 => ?_)
  refine t_s (fun g Q => x_istore [some (vR _), some (vL _), none, some (vL _), none, some (vI _)] d156_3 rfl) ?_
  refine (x_ub (N := 7) (P := fun i3 => ∀ s3_3 : Int, TD mB nB h (d + 8) 156 5 [some (vR (some 2)), some (vL x), none, some (vL s3_3), none, some (vI i3)] [] Q) w3_2 (by omega) (fun i3 hi3 hj3 ih3 s3_3 => ?_)) _
  refine t_s (fun g Q => x_iload d156_5 rfl) ?_
  refine t_s (fun g Q => x_bipush d156_7 (by decide)) ?_
  refine t_b (fun g Q => x_icgt (t := 30) d156_9 rfl (by omega)) (by omega) (by omega) (fun c9_4 => ?_) (fun c9_4 => ?_)
  · refine t_s (fun g Q => x_iconst d156_30) ?_
    refine t_nm (fun w31_5 ew31_5 => ?_)
    refine t_s (fun g Q => x_istore [some (vR _), some (vL _), none, some (vL _), none, some (vI _)] d156_31 rfl) ?_
    refine (x_ub (N := hI h 55 0) (P := fun i6 => ∀ s6_3 : Int, TD mB nB h (d + 8) 156 33 [some (vR (some 2)), some (vL x), none, some (vL s6_3), none, some (vI i6)] [] Q) w31_5 (by omega) (fun i6 hi6 hj6 ih6 s6_3 => ?_)) _
    refine t_s (fun g Q => x_iload d156_33 rfl) ?_
    refine t_s (fun g Q => x_aload_n d156_35 rfl) ?_
    refine t_gfR d156_36 cl156 f11_63 (S.F.o rfl (by decide)) (V _ _ rfl) (S.F.r rfl) ?_
    refine t_gfI d156_39 cl156 f11_392 (by decide) (S.F.o rfl (by decide)) (V _ _ rfl) ?_
    have g7 := S.items
    refine t_b (fun g Q => x_icge (t := 77) d156_42 rfl (by omega)) (by omega) (by omega) (fun c42_8 => ?_) (fun c42_8 => ?_)
    · refine t_s (fun g Q => x_lload_n d156_77 rfl) ?_
      exact t_lret d156_78 rt156 (hQ _ trivial)
    · refine t_s (fun g Q => x_lload_n d156_45 rfl) ?_
      refine t_s (fun g Q => x_aload_n d156_46 rfl) ?_
      refine t_s (fun g Q => x_iload d156_47 rfl) ?_
      refine t_s (fun g Q => x_iconst d156_49) ?_
      refine t_VD d156_50 cl156 m11_633 kd159 tg159 po159 le159 (by decide) (S.F.o rfl (by decide)) (C159 S (by omega) (by omega)) (fun v9 r9 z9 => ?_)
      try dsimp only at r9
      refine t_s (fun g Q => x_i2l d156_53) ?_
      refine t_SEL d156_54 cl156 m11_488 kd124 po124 le124 C124 (fun v10 r10 z10 => ?_)
      try dsimp only at r10
      refine t_nmL (fun w57_11 ew57_11 => ?_)
      refine t_s (fun g Q => x_lstore_n [some (vR _), some (vL _), none, some (vL _), none, some (vI _)] d156_57 rfl) ?_
      refine t_s (fun g Q => x_lload_n d156_58 rfl) ?_
      refine t_s (fun g Q => x_aload_n d156_59 rfl) ?_
      refine t_s (fun g Q => x_iload d156_60 rfl) ?_
      refine t_s (fun g Q => x_iconst d156_62) ?_
      refine t_VD d156_63 cl156 m11_633 kd159 tg159 po159 le159 (by decide) (S.F.o rfl (by decide)) (C159 S (by omega) (by omega)) (fun v12 r12 z12 => ?_)
      try dsimp only at r12
      refine t_s (fun g Q => x_i2l d156_66) ?_
      refine t_SEL d156_67 cl156 m11_488 kd124 po124 le124 C124 (fun v13 r13 z13 => ?_)
      try dsimp only at r13
      refine t_nmL (fun w70_14 ew70_14 => ?_)
      refine t_s (fun g Q => x_lstore_n [some (vR _), some (vL _), none, some (vL _), none, some (vI _)] d156_70 rfl) ?_
      refine t_s (fun g Q => x_iinc [some (vR _), some (vL _), none, some (vL _), none, some (vI _)] d156_71 rfl rfl) ?_
      refine t_s (fun g Q => x_goto (t := 33) d156_74 rfl) ?_
      exact ih6 (by omega) _
  · refine t_s (fun g Q => x_lload_n d156_12 rfl) ?_
    refine t_s (fun g Q => x_aload_n d156_13 rfl) ?_
    refine t_s (fun g Q => x_iload d156_14 rfl) ?_
    refine t_VD d156_16 cl156 m11_630 kd157 tg157 po157 le157 (by decide) (S.F.o rfl (by decide)) (C157 S hb (by omega)) (fun v15 r15 z15 => ?_)
    try dsimp only at r15
    refine t_s (fun g Q => x_i2l d156_19) ?_
    refine t_SEL d156_20 cl156 m11_488 kd124 po124 le124 C124 (fun v16 r16 z16 => ?_)
    try dsimp only at r16
    refine t_nmL (fun w23_17 ew23_17 => ?_)
    refine t_s (fun g Q => x_lstore_n [some (vR _), some (vL _), none, some (vL _), none, some (vI _)] d156_23 rfl) ?_
    refine t_s (fun g Q => x_iinc [some (vR _), some (vL _), none, some (vL _), none, some (vI _)] d156_24 rfl rfl) ?_
    refine t_s (fun g Q => x_goto (t := 5) d156_27 rfl) ?_
    exact ih3 (by omega) _
theorem C123 {d : Nat} {h : Hp} {mP mC mI mD mB : Nat → Nat} {nP nC nI nD nB : Nat} (S : Hv h mP mC mI mD mB nP nC nI nD nB) (iw : ∀ k, k < nI → 1 ≤ hI h (mI k) 0) (SI : Si h mP nP) : ∃ v : Int, (fun v : Int => True) v ∧ DW mB nB (d + 11) 123 [vR (some 2)] h (vL v) := by
  have V := Vis_DV
  refine TEL_of (fun Q hQ => ?_)
  refine t_ent en123 ?_
  have hnp := S.np
  obtain ⟨va, hva⟩ := pick (n := nP) (P := fun k v => ∃ d2, PV DV d2 139 [vR (some 2), vR (some (mP k))] h (vI v)) (0 : Int) (fun k hk => by obtain ⟨v, -, q⟩ := C139 (D := DV) (d := 0) Vis_DV S (Ls.mem S.lp k hk); exact ⟨v, _, q⟩)
  obtain ⟨as, hal⟩ := pick (n := nP) (P := fun k v => ∃ d2, PV DV d2 131 [vR (some 2), vR (some (mP k))] h (vI v)) (0 : Int) (fun k hk => by obtain ⟨v, -, q⟩ := C131 (D := DV) (d := 0) Vis_DV S (Ls.mem S.lp k hk); exact ⟨v, _, q⟩)
  have hsp0 : ∀ k, k < nP → (fun k => hI h (mP k) 1 * hI h (mP k) 2) k = hI h (mP k) 1 * hI h (mP k) 2 := fun k _ => rfl
  obtain ⟨sp, hsp1⟩ : ∃ sp : Nat → Int, sp = fun k => hI h (mP k) 1 * hI h (mP k) 2 := ⟨_, rfl⟩
  rw [← hsp1] at hsp0
  obtain ⟨b, hb⟩ := Bst_ex2 (f := fV sp va (alF as) 6 nP) nP
  refine t_s (fun g Q => x_ldc2 d123_0 cl123 cj11_486) ?_
  refine t_s (fun g Q => x_aload_n d123_3 rfl) ?_
  refine t_gfI d123_4 cl123 f11_372 (by decide) (S.F.o rfl (by decide)) (V _ _ rfl) ?_
  have g1 := S.today
  refine t_s (fun g Q => x_i2l d123_7) ?_
  refine t_SEL d123_8 cl123 m11_488 kd124 po124 le124 C124 (fun v2 r2 z2 => ?_)
  try dsimp only at r2
  refine t_nmL (fun w11_3 ew11_3 => ?_)
  refine t_s (fun g Q => x_lstore_n [some (vR _), some (vL _), none, none] d123_11 rfl) ?_
  refine t_s (fun g Q => x_lload_n d123_12 rfl) ?_
  refine t_s (fun g Q => x_aload_n d123_13 rfl) ?_
  refine t_gfR d123_14 cl123 f11_10 (S.F.o rfl (by decide)) (V _ _ rfl) (S.F.r rfl) ?_
  refine t_gfI d123_17 cl123 f11_118 (by decide) (S.F.o rfl (by decide)) (V _ _ rfl) ?_
  have g4 := S.pl.2.2.1
  refine t_s (fun g Q => x_i2l d123_20) ?_
  refine t_SEL d123_21 cl123 m11_488 kd124 po124 le124 C124 (fun v5 r5 z5 => ?_)
  try dsimp only at r5
  refine t_nmL (fun w24_6 ew24_6 => ?_)
  refine t_s (fun g Q => x_lstore_n [some (vR _), some (vL _), none, none] d123_24 rfl) ?_
  refine t_s (fun g Q => x_aload_n d123_25 rfl) ?_
  refine t_s (fun g Q => x_lload_n d123_26 rfl) ?_
  refine t_VEL d123_27 cl123 m11_492 kd125 tg125 po125 le125 (by decide) (S.F.o rfl (by decide)) (C125 V S) (fun v7 r7 z7 => ?_)
  try dsimp only at r7
  refine t_nmL (fun w30_8 ew30_8 => ?_)
  refine t_s (fun g Q => x_lstore_n [some (vR _), some (vL _), none, none] d123_30 rfl) ?_
  refine t_s (fun g Q => x_aload_n d123_31 rfl) ?_
  refine t_s (fun g Q => x_lload_n d123_32 rfl) ?_
  refine t_VEL d123_33 cl123 m11_496 kd126 tg126 po126 le126 (by decide) (S.F.o rfl (by decide)) (C126 V S) (fun v9 r9 z9 => ?_)
  try dsimp only at r9
  refine t_nmL (fun w36_10 ew36_10 => ?_)
  refine t_s (fun g Q => x_lstore_n [some (vR _), some (vL _), none, none] d123_36 rfl) ?_
  refine t_s (fun g Q => x_aload_n d123_37 rfl) ?_
  refine t_s (fun g Q => x_lload_n d123_38 rfl) ?_
  refine t_VEL d123_39 cl123 m11_499 kd128 tg128 po128 le128 (by decide) (S.F.o rfl (by decide)) (C128 V S) (fun v11 r11 z11 => ?_)
  try dsimp only at r11
  refine t_nmL (fun w42_12 ew42_12 => ?_)
  refine t_s (fun g Q => x_lstore_n [some (vR _), some (vL _), none, none] d123_42 rfl) ?_
  refine t_s (fun g Q => x_aload_n d123_43 rfl) ?_
  refine t_s (fun g Q => x_lload_n d123_44 rfl) ?_
  refine t_VDL d123_45 cl123 m11_502 kd141 tg141 po141 le141 (by decide) (S.F.o rfl (by decide)) (C141 S iw) (fun v13 r13 z13 => ?_)
  try dsimp only at r13
  refine t_nmL (fun w48_14 ew48_14 => ?_)
  refine t_s (fun g Q => x_lstore_n [some (vR _), some (vL _), none, none] d123_48 rfl) ?_
  refine t_s (fun g Q => x_aload_n d123_49 rfl) ?_
  refine t_s (fun g Q => x_lload_n d123_50 rfl) ?_
  refine t_VEL d123_51 cl123 m11_505 kd153 tg153 po153 le153 (by decide) (S.F.o rfl (by decide)) (C153 V S) (fun v15 r15 z15 => ?_)
  try dsimp only at r15
  refine t_nmL (fun w54_16 ew54_16 => ?_)
  refine t_s (fun g Q => x_lstore_n [some (vR _), some (vL _), none, none] d123_54 rfl) ?_
  refine t_s (fun g Q => x_iconst d123_55) ?_
  refine t_nm (fun w56_17 ew56_17 => ?_)
  refine t_s (fun g Q => x_istore_n [some (vR _), some (vL _), none, some (vI _)] d123_56 rfl) ?_
  refine (x_ub (N := 5) (P := fun i18 => ∀ s18_1 : Int, TD mB nB h (d + 11) 123 57 [some (vR (some 2)), some (vL s18_1), none, some (vI i18)] [] Q) w56_17 (by omega) (fun i18 hi18 hj18 ih18 s18_1 => ?_)) _
  refine t_s (fun g Q => x_iload_n d123_57 rfl) ?_
  refine t_s (fun g Q => x_iconst d123_58) ?_
  refine t_b (fun g Q => x_icge (t := 83) d123_59 rfl (by omega)) (by omega) (by omega) (fun c59_19 => ?_) (fun c59_19 => ?_)
  · refine t_s (fun g Q => x_aload_n d123_83 rfl) ?_
    refine t_s (fun g Q => x_lload_n d123_84 rfl) ?_
    refine t_VDL d123_85 cl123 m11_508 kd156 tg156 po156 le156 (by decide) (S.F.o rfl (by decide)) (C156 S) (fun v20 r20 z20 => ?_)
    try dsimp only at r20
    refine t_nmL (fun w88_21 ew88_21 => ?_)
    refine t_s (fun g Q => x_lstore_n [some (vR _), some (vL _), none, some (vI _)] d123_88 rfl) ?_
    refine t_s (fun g Q => x_lload_n d123_89 rfl) ?_
    refine t_s (fun g Q => x_aload_n d123_90 rfl) ?_
    refine t_s (fun g Q => x_bipush d123_91 (by decide)) ?_
    refine t_s (fun g Q => x_iconst d123_93) ?_
    refine t_VD d123_94 cl123 m11_511 kd160 tg160 po160 le160 (by decide) (S.F.o rfl (by decide)) (C160 S sp va as hsp0 hva hal (by omega) (by omega) hb) (fun v22 r22 z22 => ?_)
    try dsimp only at r22
    refine t_s (fun g Q => x_i2l d123_97) ?_
    refine t_SEL d123_98 cl123 m11_488 kd124 po124 le124 C124 (fun v23 r23 z23 => ?_)
    try dsimp only at r23
    refine t_nmL (fun w101_24 ew101_24 => ?_)
    refine t_s (fun g Q => x_lstore_n [some (vR _), some (vL _), none, some (vI _)] d123_101 rfl) ?_
    refine t_s (fun g Q => x_lload_n d123_102 rfl) ?_
    refine t_s (fun g Q => x_aload_n d123_103 rfl) ?_
    refine t_s (fun g Q => x_bipush d123_104 (by decide)) ?_
    refine t_s (fun g Q => x_iconst d123_106) ?_
    refine t_VD d123_107 cl123 m11_511 kd160 tg160 po160 le160 (by decide) (S.F.o rfl (by decide)) (C160 S sp va as hsp0 hva hal (by omega) (by omega) hb) (fun v25 r25 z25 => ?_)
    try dsimp only at r25
    refine t_s (fun g Q => x_i2l d123_110) ?_
    refine t_SEL d123_111 cl123 m11_488 kd124 po124 le124 C124 (fun v26 r26 z26 => ?_)
    try dsimp only at r26
    refine t_nmL (fun w114_27 ew114_27 => ?_)
    refine t_s (fun g Q => x_lstore_n [some (vR _), some (vL _), none, some (vI _)] d123_114 rfl) ?_
    refine t_s (fun g Q => x_lload_n d123_115 rfl) ?_
    refine t_s (fun g Q => x_aload_n d123_116 rfl) ?_
    refine t_VD d123_117 cl123 m11_515 kd162 tg162 po162 le162 (by decide) (S.F.o rfl (by decide)) (C162 S SI) (fun v28 r28 z28 => ?_)
    try dsimp only at r28
    refine t_b (fun g Q => x_ifeq (t := 127) d123_120 rfl (by omega)) (by omega) (by omega) (fun c120_29 => ?_) (fun c120_29 => ?_)
    · refine t_s (fun g Q => x_lconst (z := 0) d123_127 rfl) ?_
      refine t_SEL d123_128 cl123 m11_488 kd124 po124 le124 C124 (fun v30 r30 z30 => ?_)
      try dsimp only at r30
      exact t_lret d123_131 rt123 (hQ _ trivial)
    · refine t_s (fun g Q => x_lconst (z := 1) d123_123 rfl) ?_
      refine t_s (fun g Q => x_goto (t := 128) d123_124 rfl) ?_
      refine t_SEL d123_128 cl123 m11_488 kd124 po124 le124 C124 (fun v31 r31 z31 => ?_)
      try dsimp only at r31
      exact t_lret d123_131 rt123 (hQ _ trivial)
  · refine t_s (fun g Q => x_lload_n d123_62 rfl) ?_
    refine t_s (fun g Q => x_aload_n d123_63 rfl) ?_
    refine t_gfR d123_64 cl123 f11_56 (S.F.o rfl (by decide)) (V _ _ rfl) (S.F.r rfl) ?_
    refine t_gfR d123_67 cl123 f11_389 (S.F.o rfl (by decide)) (V _ _ rfl) (S.F.r rfl) ?_
    refine t_s (fun g Q => x_iload_n d123_70 rfl) ?_
    refine t_iaload d123_71 (S.F.o rfl (by decide)) ⟨by omega, by rw [(S.F.l (a := 50) (n := 5) (by decide) rfl)]; omega⟩ (V _ _ rfl) ?_
    refine t_nm (fun a32 e32 => ?_)
    have b32 : 0 ≤ a32 ∧ a32 ≤ 9 := by rw [e32]; exact (S.a50 _)
    refine t_s (fun g Q => x_i2l d123_72) ?_
    refine t_SEL d123_73 cl123 m11_488 kd124 po124 le124 C124 (fun v33 r33 z33 => ?_)
    try dsimp only at r33
    refine t_nmL (fun w76_34 ew76_34 => ?_)
    refine t_s (fun g Q => x_lstore_n [some (vR _), some (vL _), none, some (vI _)] d123_76 rfl) ?_
    refine t_s (fun g Q => x_iinc [some (vR _), some (vL _), none, some (vI _)] d123_77 rfl rfl) ?_
    refine t_s (fun g Q => x_goto (t := 57) d123_80 rfl) ?_
    exact ih18 (by omega) _
