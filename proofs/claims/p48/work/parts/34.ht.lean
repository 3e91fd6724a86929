theorem C150 {D : Nat → Nat → Bool} {d : Nat} {h : Hp} {x : Int} {mP mC mI mD mB : Nat → Nat} {nP nC nI nD nB : Nat} (V : Vis D) (S : Hv h mP mC mI mD mB nP nC nI nD nB) (f : Nat → Int) (hf : ∀ k, k < nC → ∃ d2, PV D d2 149 [vR (some 2), vR (some (mC k))] h (vI (f k))) (qx : x = 0) : ∃ v : Int, (fun v : Int => v = cntI f nC ∧ 0 ≤ v ∧ v ≤ 12) v ∧ PV D (d + 6) 150 [vR (some 2), vI x] h (vI v) := by
  refine PE_of (fun Q hQ => ?_)
  refine x_ent en150 ?_
  have hnc := S.nc
  refine x_iconst d150_0 ?_
  refine x_nm (fun w1_1 ew1_1 => ?_)
  refine x_istore_n [some (vR _), some (vI _), some (vI _), none, none] d150_1 rfl ?_
  refine x_iconst d150_2 ?_
  refine x_nm (fun w3_2 ew3_2 => ?_)
  refine x_istore_n [some (vR _), some (vI _), some (vI _), some (vI _), none] d150_3 rfl ?_
  refine (x_ub (N := nC) (P := fun i3 => ∀ s3_2 : Int, (s3_2 = cntI f (i3).toNat ∧ 0 ≤ s3_2 ∧ s3_2 ≤ i3) → ∀ t3_4 : Option XV, wp D (d + 6) 150 4 [some (vR (some 2)), some (vI x), some (vI s3_2), some (vI i3), t3_4] [] h Q) w3_2 (by omega) (fun i3 hi3 hj3 ih3 s3_2 hs3_2 t3_4 => ?_)) _ (by subst_vars; exact ⟨rfl, by omega, by omega⟩) _
  refine x_iload_n d150_4 rfl ?_
  refine x_aload_n d150_5 rfl ?_
  refine x_gfR d150_6 cl150 f11_43 (S.F.o rfl (by decide)) (V _ _ rfl) (S.F.r rfl) ?_
  refine x_VE d150_9 cl150 m11_129 kd168 tg168 po168 le168 (by decide) (S.F.o rfl (by decide)) (C168 (S.F.o rfl (by decide)) (V _ _ rfl) S.lc) (fun v4 r4 z4 => ?_)
  try dsimp only at r4
  refine x_icge (t := 55) d150_12 rfl (by omega) (fun c12_5 => ?_) (fun c12_5 => ?_)
  · refine x_iload_n d150_55 rfl ?_
    exact x_iret d150_56 rt150 (hQ _ (by have e9 := hs3_2.1; rw [show i3.toNat = nC by omega] at e9; exact ⟨e9, by omega, by omega⟩))
  · refine x_aload_n d150_15 rfl ?_
    refine x_gfR d150_16 cl150 f11_43 (S.F.o rfl (by decide)) (V _ _ rfl) (S.F.r rfl) ?_
    refine x_iload_n d150_19 rfl ?_
    refine x_VV d150_20 cl150 m11_132 kd173 tg173 po173 le173 (by decide) (S.F.o rfl (by decide)) (C173 (d := d + 2) (S.F.o rfl (by decide)) (V _ _ rfl) (V _ _ rfl) S.lc V (by omega) (by omega)) ?_
    refine x_cast d150_23 cl150 ct11_298 (Cv.ob (Ls.mem S.lc (i3).toNat (by omega))) ?_
    refine x_astore [some (vR _), some (vI _), some (vI _), some (vI _), some (vR _)] d150_26 rfl ?_
    refine x_aload d150_28 rfl ?_
    refine x_gfI d150_30 cl150 f11_338 (by decide) (Cv.ob (Ls.mem S.lc (i3).toNat (by omega))) (V.g (Cv.g (Ls.mem S.lc (i3).toNat (by omega)))) ?_
    have g7 := (Cv.die (Ls.mem S.lc (i3).toNat (by omega)))
    have gdi := (Cv.die (Ls.mem S.lc (i3).toNat (by omega)))
    refine x_iload_n d150_33 rfl ?_
    refine x_icne (t := 49) d150_34 rfl (by omega) (fun c34_8 => ?_) (fun c34_8 => ?_)
    · exfalso; omega
    · refine x_aload_n d150_37 rfl ?_
      refine x_aload d150_38 rfl ?_
      refine x_VE d150_40 cl150 m11_334 kd149 tg149 po149 le149 (by decide) (S.F.o rfl (by decide)) (C149 V S (Ls.mem S.lc (i3).toNat (by omega))) (fun v9 r9 z9 => ?_)
      try dsimp only at r9
      obtain ⟨d9, h9⟩ := hf (i3).toNat (by omega)
      have hw := Sum.inl.inj (PV_det h9 z9)
      have hu := cntI_up f (i3) (by omega)
      rw [hw] at hu
      refine x_ifne (t := 49) d150_43 rfl (by omega) (fun c43_10 => ?_) (fun c43_10 => ?_)
      · refine x_iinc [some (vR _), some (vI _), some (vI _), some (vI _), some (vR _)] d150_49 rfl rfl ?_
        refine x_goto (t := 4) d150_52 rfl ?_
        exact ih3 (by omega) _ (by omega) _
      · refine x_iinc [some (vR _), some (vI _), some (vI _), some (vI _), some (vR _)] d150_46 rfl rfl ?_
        refine x_iinc [some (vR _), some (vI _), some (vI _), some (vI _), some (vR _)] d150_49 rfl rfl ?_
        refine x_goto (t := 4) d150_52 rfl ?_
        exact ih3 (by omega) _ (by omega) _
theorem C155 {D : Nat → Nat → Bool} {d : Nat} {h : Hp} {x : Int} {mP mC mI mD mB : Nat → Nat} {nP nC nI nD nB : Nat} (V : Vis D) (S : Hv h mP mC mI mD mB nP nC nI nD nB) (qx : 0 ≤ x ∧ x < 10) : ∃ v : Int, (fun v : Int => -2147483648 ≤ v ∧ v < 2147483648) v ∧ PV D (d + 6) 155 [vR (some 2), vI x] h (vI v) := by
  refine PE_of (fun Q hQ => ?_)
  refine x_ent en155 ?_
  have hnc := S.nc
  refine x_iconst d155_0 ?_
  refine x_nm (fun w1_1 ew1_1 => ?_)
  refine x_istore_n [some (vR _), some (vI _), some (vI _), none, none, none] d155_1 rfl ?_
  refine x_iconst d155_2 ?_
  refine x_nm (fun w3_2 ew3_2 => ?_)
  refine x_istore_n [some (vR _), some (vI _), some (vI _), some (vI _), none, none] d155_3 rfl ?_
  refine x_iconst d155_4 ?_
  refine x_nm (fun w5_3 ew5_3 => ?_)
  refine x_istore [some (vR _), some (vI _), some (vI _), some (vI _), some (vI _), none] d155_5 rfl ?_
  refine (x_ub (N := nC) (P := fun i4 => ∀ s4_2 : Int, (0 ≤ s4_2 ∧ s4_2 ≤ 4 * i4) → ∀ s4_3 : Int, (0 ≤ s4_3 ∧ s4_3 ≤ 40 * i4) → ∀ t4_5 : Option XV, wp D (d + 6) 155 7 [some (vR (some 2)), some (vI x), some (vI s4_2), some (vI s4_3), some (vI i4), t4_5] [] h Q) w5_3 (by omega) (fun i4 hi4 hj4 ih4 s4_2 hs4_2 s4_3 hs4_3 t4_5 => ?_)) _ (by omega) _ (by omega) _
  refine x_iload d155_7 rfl ?_
  refine x_aload_n d155_9 rfl ?_
  refine x_gfR d155_10 cl155 f11_43 (S.F.o rfl (by decide)) (V _ _ rfl) (S.F.r rfl) ?_
  refine x_VE d155_13 cl155 m11_129 kd168 tg168 po168 le168 (by decide) (S.F.o rfl (by decide)) (C168 (S.F.o rfl (by decide)) (V _ _ rfl) S.lc) (fun v5 r5 z5 => ?_)
  try dsimp only at r5
  refine x_icge (t := 66) d155_16 rfl (by omega) (fun c16_6 => ?_) (fun c16_6 => ?_)
  · refine x_iload_n d155_66 rfl ?_
    refine x_ifne (t := 74) d155_67 rfl (by omega) (fun c67_7 => ?_) (fun c67_7 => ?_)
    · refine x_iload_n d155_74 rfl ?_
      refine x_sipush d155_75 (by decide) ?_
      refine x_imul d155_78 ?_
      refine x_iload_n d155_79 rfl ?_
      have htd := tdiv_rng (a := s4_2 * 1000) (b := s4_3) (by omega) (by omega)
      refine x_idiv d155_80 (by omega) ?_
      exact x_iret d155_81 rt155 (hQ _ (by omega))
    · refine x_iconst d155_70 ?_
      refine x_goto (t := 81) d155_71 rfl ?_
      exact x_iret d155_81 rt155 (hQ _ (by omega))
  · refine x_aload_n d155_19 rfl ?_
    refine x_gfR d155_20 cl155 f11_43 (S.F.o rfl (by decide)) (V _ _ rfl) (S.F.r rfl) ?_
    refine x_iload d155_23 rfl ?_
    refine x_VV d155_25 cl155 m11_132 kd173 tg173 po173 le173 (by decide) (S.F.o rfl (by decide)) (C173 (d := d + 2) (S.F.o rfl (by decide)) (V _ _ rfl) (V _ _ rfl) S.lc V (by omega) (by omega)) ?_
    refine x_cast d155_28 cl155 ct11_298 (Cv.ob (Ls.mem S.lc (i4).toNat (by omega))) ?_
    refine x_astore [some (vR _), some (vI _), some (vI _), some (vI _), some (vI _), some (vR _)] d155_31 rfl ?_
    refine x_aload_n d155_33 rfl ?_
    refine x_aload d155_34 rfl ?_
    refine x_VE d155_36 cl155 m11_334 kd149 tg149 po149 le149 (by decide) (S.F.o rfl (by decide)) (C149 V S (Ls.mem S.lc (i4).toNat (by omega))) (fun v9 r9 z9 => ?_)
    try dsimp only at r9
    refine x_ifne (t := 60) d155_39 rfl (by omega) (fun c39_10 => ?_) (fun c39_10 => ?_)
    · refine x_iinc [some (vR _), some (vI _), some (vI _), some (vI _), some (vI _), some (vR _)] d155_60 rfl rfl ?_
      refine x_goto (t := 7) d155_63 rfl ?_
      exact ih4 (by omega) _ (by omega) _ (by omega) _
    · refine x_iload_n d155_42 rfl ?_
      refine x_aload d155_43 rfl ?_
      refine x_gfR d155_45 cl155 f11_312 (Cv.ob (Ls.mem S.lc (i4).toNat (by omega))) (V.g (Cv.g (Ls.mem S.lc (i4).toNat (by omega)))) (Cv.r1 (Ls.mem S.lc (i4).toNat (by omega))) ?_
      refine x_iload_n d155_48 rfl ?_
      refine x_iaload d155_49 (Cv.o1 (Ls.mem S.lc (i4).toNat (by omega))) ⟨by omega, by rw [(Cv.l1 (Ls.mem S.lc (i4).toNat (by omega)))]; omega⟩ (V.g (by have := Cv.g (Ls.mem S.lc (i4).toNat (by omega)); omega)) ?_
      refine x_nm (fun a11 e11 => ?_)
      have b11 : 0 ≤ a11 ∧ a11 ≤ 4 := by rw [e11]; exact (Cv.stamps (Ls.mem S.lc (i4).toNat (by omega)) _)
      refine x_iadd d155_50 ?_
      refine x_nm (fun w51_12 ew51_12 => ?_)
      refine x_istore_n [some (vR _), some (vI _), some (vI _), some (vI _), some (vI _), some (vR _)] d155_51 rfl ?_
      refine x_iload_n d155_52 rfl ?_
      refine x_aload d155_53 rfl ?_
      refine x_VE d155_55 cl155 m11_331 kd2 tg2 po2 le2 (by have := Cv.g (Ls.mem S.lc (i4).toNat (by omega)); omega) (Cv.ob (Ls.mem S.lc (i4).toNat (by omega))) (C2 (Ls.mem S.lc (i4).toNat (by omega)) V) (fun v13 r13 z13 => ?_)
      try dsimp only at r13
      refine x_iadd d155_58 ?_
      refine x_nm (fun w59_14 ew59_14 => ?_)
      refine x_istore_n [some (vR _), some (vI _), some (vI _), some (vI _), some (vI _), some (vR _)] d155_59 rfl ?_
      refine x_iinc [some (vR _), some (vI _), some (vI _), some (vI _), some (vI _), some (vR _)] d155_60 rfl rfl ?_
      refine x_goto (t := 7) d155_63 rfl ?_
      exact ih4 (by omega) _ (by omega) _ (by omega) _
theorem C154 {D : Nat → Nat → Bool} {d : Nat} {h : Hp} {x y : Int} {mP mC mI mD mB : Nat → Nat} {nP nC nI nD nB : Nat} (V : Vis D) (S : Hv h mP mC mI mD mB nP nC nI nD nB) (qx : 0 ≤ x ∧ x < nI) (qy : y = 0 ∨ y = 1) : ∃ v : Int, (fun v : Int => -2147483648 ≤ v ∧ v < 2147483648) v ∧ PV D (d + 7) 154 [vR (some 2), vI x, vI y] h (vI v) := by
  refine PE_of (fun Q hQ => ?_)
  refine x_ent en154 ?_
  have hnc := S.nc; have hni := S.ni
  refine x_aload_n d154_0 rfl ?_
  refine x_iload_n d154_1 rfl ?_
  refine x_VE d154_2 cl154 m11_309 kd109 tg109 po109 le109 (by decide) (S.F.o rfl (by decide)) (C109 V S (by omega)) (fun v1 r1 z1 => ?_)
  try dsimp only at r1
  refine x_SN d154_5 cl154 m11_112 kd94 po94 le94 (C94 (by omega)) ?_
  refine x_iload_n d154_8 rfl ?_
  refine x_ifeq (t := 18) d154_9 rfl (by omega) (fun c9_3 => ?_) (fun c9_3 => ?_)
  · refine x_iconst d154_18 ?_
    refine x_nm (fun w19_4 ew19_4 => ?_)
    refine x_istore_n [some (vR _), some (vI _), some (vI _), some (vI _), none] d154_19 rfl ?_
    refine x_iconst d154_20 ?_
    refine x_nm (fun w21_5 ew21_5 => ?_)
    refine x_istore [some (vR _), some (vI _), some (vI _), some (vI _), some (vI _)] d154_21 rfl ?_
    refine (x_ub (N := nC) (P := fun i6 => ∀ s6_3 : Int, (0 ≤ s6_3 ∧ s6_3 ≤ 4 * i6) → wp D (d + 7) 154 23 [some (vR (some 2)), some (vI x), some (vI y), some (vI s6_3), some (vI i6)] [] h Q) w21_5 (by omega) (fun i6 hi6 hj6 ih6 s6_3 hs6_3 => ?_)) _ (by omega)
    refine x_iload d154_23 rfl ?_
    refine x_aload_n d154_25 rfl ?_
    refine x_gfR d154_26 cl154 f11_43 (S.F.o rfl (by decide)) (V _ _ rfl) (S.F.r rfl) ?_
    refine x_VE d154_29 cl154 m11_129 kd168 tg168 po168 le168 (by decide) (S.F.o rfl (by decide)) (C168 (S.F.o rfl (by decide)) (V _ _ rfl) S.lc) (fun v7 r7 z7 => ?_)
    try dsimp only at r7
    refine x_icge (t := 61) d154_32 rfl (by omega) (fun c32_8 => ?_) (fun c32_8 => ?_)
    · refine x_iload_n d154_61 rfl ?_
      exact x_iret d154_62 rt154 (hQ _ (by omega))
    · refine x_iload_n d154_35 rfl ?_
      refine x_aload_n d154_36 rfl ?_
      refine x_gfR d154_37 cl154 f11_43 (S.F.o rfl (by decide)) (V _ _ rfl) (S.F.r rfl) ?_
      refine x_iload d154_40 rfl ?_
      refine x_VV d154_42 cl154 m11_132 kd173 tg173 po173 le173 (by decide) (S.F.o rfl (by decide)) (C173 (d := d + 3) (S.F.o rfl (by decide)) (V _ _ rfl) (V _ _ rfl) S.lc V (by omega) (by omega)) ?_
      refine x_cast d154_45 cl154 ct11_298 (Cv.ob (Ls.mem S.lc (i6).toNat (by omega))) ?_
      refine x_gfR d154_48 cl154 f11_312 (Cv.ob (Ls.mem S.lc (i6).toNat (by omega))) (V.g (Cv.g (Ls.mem S.lc (i6).toNat (by omega)))) (Cv.r1 (Ls.mem S.lc (i6).toNat (by omega))) ?_
      refine x_iload_n d154_51 rfl ?_
      refine x_iaload d154_52 (Cv.o1 (Ls.mem S.lc (i6).toNat (by omega))) ⟨by omega, by rw [(Cv.l1 (Ls.mem S.lc (i6).toNat (by omega)))]; omega⟩ (V.g (by have := Cv.g (Ls.mem S.lc (i6).toNat (by omega)); omega)) ?_
      refine x_nm (fun a10 e10 => ?_)
      have b10 : 0 ≤ a10 ∧ a10 ≤ 4 := by rw [e10]; exact (Cv.stamps (Ls.mem S.lc (i6).toNat (by omega)) _)
      refine x_iadd d154_53 ?_
      refine x_nm (fun w54_11 ew54_11 => ?_)
      refine x_istore_n [some (vR _), some (vI _), some (vI _), some (vI _), some (vI _)] d154_54 rfl ?_
      refine x_iinc [some (vR _), some (vI _), some (vI _), some (vI _), some (vI _)] d154_55 rfl rfl ?_
      refine x_goto (t := 23) d154_58 rfl ?_
      exact ih6 (by omega) _ (by omega)
  · refine x_aload_n d154_12 rfl ?_
    refine x_iload_n d154_13 rfl ?_
    refine x_VE d154_14 cl154 m11_347 kd155 tg155 po155 le155 (by decide) (S.F.o rfl (by decide)) (C155 V S (by omega)) (fun v12 r12 z12 => ?_)
    try dsimp only at r12
    exact x_iret d154_17 rt154 (hQ _ (by omega))
theorem C158 {D : Nat → Nat → Bool} {d : Nat} {h : Hp} {mP mC mI mD mB : Nat → Nat} {nP nC nI nD nB : Nat} (V : Vis D) (S : Hv h mP mC mI mD mB nP nC nI nD nB) : ∃ v : Int, (fun v : Int => -2147483648 ≤ v ∧ v < 2147483648) v ∧ PV D (d + 6) 158 [vR (some 2)] h (vI v) := by
  refine PE_of (fun Q hQ => ?_)
  refine x_ent en158 ?_
  have hnc := S.nc; have hnp := S.np; have hits := S.items
  refine x_iconst d158_0 ?_
  refine x_nm (fun w1_1 ew1_1 => ?_)
  refine x_istore_n [some (vR _), some (vI _), none, none] d158_1 rfl ?_
  refine x_iconst d158_2 ?_
  refine x_nm (fun w3_2 ew3_2 => ?_)
  refine x_istore_n [some (vR _), some (vI _), some (vI _), none] d158_3 rfl ?_
  refine (x_ub (N := hI h 55 0) (P := fun i3 => ∀ s3_1 : Int, (-2147483648 ≤ s3_1 ∧ s3_1 < 2147483648) → ∀ t3_3 : Option XV, wp D (d + 6) 158 4 [some (vR (some 2)), some (vI s3_1), some (vI i3), t3_3] [] h Q) w3_2 (by omega) (fun i3 hi3 hj3 ih3 s3_1 hs3_1 t3_3 => ?_)) _ (by omega) _
  refine x_iload_n d158_4 rfl ?_
  refine x_aload_n d158_5 rfl ?_
  refine x_gfR d158_6 cl158 f11_63 (S.F.o rfl (by decide)) (V _ _ rfl) (S.F.r rfl) ?_
  refine x_gfI d158_9 cl158 f11_392 (by decide) (S.F.o rfl (by decide)) (V _ _ rfl) ?_
  have g4 := S.items
  refine x_icge (t := 78) d158_12 rfl (by omega) (fun c12_5 => ?_) (fun c12_5 => ?_)
  · refine x_iload_n d158_78 rfl ?_
    exact x_iret d158_79 rt158 (hQ _ (by omega))
  · refine x_aload_n d158_15 rfl ?_
    refine x_gfR d158_16 cl158 f11_63 (S.F.o rfl (by decide)) (V _ _ rfl) (S.F.r rfl) ?_
    refine x_gfR d158_19 cl158 f11_593 (S.F.o rfl (by decide)) (V _ _ rfl) (S.F.r rfl) ?_
    refine x_iload_n d158_22 rfl ?_
    refine x_iaload d158_23 (S.F.o rfl (by decide)) ⟨by omega, by rw [(S.F.l (a := 57) (n := 8) (by decide) rfl)]; omega⟩ (V _ _ rfl) ?_
    refine x_nm (fun a6 e6 => ?_)
    have b6 : 0 ≤ a6 ∧ a6 ≤ 11 := by rw [e6]; exact (S.a57 _)
    refine x_nm (fun w24_7 ew24_7 => ?_)
    refine x_istore_n [some (vR _), some (vI _), some (vI _), some (vI _)] d158_24 rfl ?_
    refine x_aload_n d158_25 rfl ?_
    refine x_gfR d158_26 cl158 f11_63 (S.F.o rfl (by decide)) (V _ _ rfl) (S.F.r rfl) ?_
    refine x_gfR d158_29 cl158 f11_595 (S.F.o rfl (by decide)) (V _ _ rfl) (S.F.r rfl) ?_
    refine x_iload_n d158_32 rfl ?_
    refine x_baload d158_33 (S.F.o rfl (by decide)) ⟨by omega, by rw [(S.F.l (a := 56) (n := 8) (by decide) rfl)]; omega⟩ (V _ _ rfl) ?_
    refine x_nm (fun a8 e8 => ?_)
    have b8 : 0 ≤ a8 ∧ a8 ≤ 1 := by rw [e8]; exact (S.a56 _)
    refine x_ifeq (t := 58) d158_34 rfl (by omega) (fun c34_9 => ?_) (fun c34_9 => ?_)
    · have hit := S.it (i3).toNat (by omega)
      refine x_aload_n d158_58 rfl ?_
      refine x_iload_n d158_59 rfl ?_
      refine x_VE d158_60 cl158 m11_547 kd140 tg140 po140 le140 (by decide) (S.F.o rfl (by decide)) (C140 V S (by omega)) (fun v10 r10 z10 => ?_)
      try dsimp only at r10
      refine x_ifeq (t := 72) d158_63 rfl (by omega) (fun c63_11 => ?_) (fun c63_11 => ?_)
      · refine x_iinc [some (vR _), some (vI _), some (vI _), some (vI _)] d158_72 rfl rfl ?_
        refine x_goto (t := 4) d158_75 rfl ?_
        exact ih3 (by omega) _ (by omega) _
      · refine x_iload_n d158_66 rfl ?_
        refine x_iconst d158_67 ?_
        refine x_iload_n d158_68 rfl ?_
        refine x_ishlq d158_69 (fun q12 => ?_)
        refine x_iorq d158_70 (fun q13 => ?_)
        refine x_nm (fun w71_14 ew71_14 => ?_)
        refine x_istore_n [some (vR _), some (vI _), some (vI _), some (vI _)] d158_71 rfl ?_
        refine x_iinc [some (vR _), some (vI _), some (vI _), some (vI _)] d158_72 rfl rfl ?_
        refine x_goto (t := 4) d158_75 rfl ?_
        exact ih3 (by omega) _ (by omega) _
    · have hit := S.it (i3).toNat (by omega)
      refine x_aload_n d158_37 rfl ?_
      refine x_aload_n d158_38 rfl ?_
      refine x_gfR d158_39 cl158 f11_43 (S.F.o rfl (by decide)) (V _ _ rfl) (S.F.r rfl) ?_
      refine x_iload_n d158_42 rfl ?_
      refine x_VV d158_43 cl158 m11_132 kd173 tg173 po173 le173 (by decide) (S.F.o rfl (by decide)) (C173 (d := d + 2) (S.F.o rfl (by decide)) (V _ _ rfl) (V _ _ rfl) S.lc V (by omega) (by omega)) ?_
      refine x_cast d158_46 cl158 ct11_298 (Cv.ob (Ls.mem S.lc (w24_7).toNat (by omega))) ?_
      refine x_VE d158_49 cl158 m11_334 kd149 tg149 po149 le149 (by decide) (S.F.o rfl (by decide)) (C149 V S (Ls.mem S.lc (w24_7).toNat (by omega))) (fun v16 r16 z16 => ?_)
      try dsimp only at r16
      refine x_ifeq (t := 72) d158_52 rfl (by omega) (fun c52_17 => ?_) (fun c52_17 => ?_)
      · refine x_iinc [some (vR _), some (vI _), some (vI _), some (vI _)] d158_72 rfl rfl ?_
        refine x_goto (t := 4) d158_75 rfl ?_
        exact ih3 (by omega) _ (by omega) _
      · refine x_goto (t := 66) d158_55 rfl ?_
        refine x_iload_n d158_66 rfl ?_
        refine x_iconst d158_67 ?_
        refine x_iload_n d158_68 rfl ?_
        refine x_ishlq d158_69 (fun q18 => ?_)
        refine x_iorq d158_70 (fun q19 => ?_)
        refine x_nm (fun w71_20 ew71_20 => ?_)
        refine x_istore_n [some (vR _), some (vI _), some (vI _), some (vI _)] d158_71 rfl ?_
        refine x_iinc [some (vR _), some (vI _), some (vI _), some (vI _)] d158_72 rfl rfl ?_
        refine x_goto (t := 4) d158_75 rfl ?_
        exact ih3 (by omega) _ (by omega) _
theorem C133 {D : Nat → Nat → Bool} {d : Nat} {h : Hp} {x : Int} {mP mC mI mD mB : Nat → Nat} {nP nC nI nD nB : Nat} (V : Vis D) (S : Hv h mP mC mI mD mB nP nC nI nD nB) (qx : 0 ≤ x ∧ x < nP) : ∃ v : Int, (fun v : Int => -1 ≤ v ∧ v ≤ 6) v ∧ PV D (d + 4) 133 [vR (some 2), vI x] h (vI v) := by
  refine PE_of (fun Q hQ => ?_)
  refine x_ent en133 ?_
  have hnp := S.np
  refine x_aload_n d133_0 rfl ?_
  refine x_iload_n d133_1 rfl ?_
  refine x_VE d133_2 cl133 m11_173 kd103 tg103 po103 le103 (by decide) (S.F.o rfl (by decide)) (C103 V S (by omega)) (fun v1 r1 z1 => ?_)
  try dsimp only at r1
  refine x_SN d133_5 cl133 m11_112 kd94 po94 le94 (C94 (by omega)) ?_
  refine x_aload_n d133_8 rfl ?_
  refine x_gfR d133_9 cl133 f11_19 (S.F.o rfl (by decide)) (V _ _ rfl) (S.F.r rfl) ?_
  refine x_iload_n d133_12 rfl ?_
  refine x_VV d133_13 cl133 m11_132 kd173 tg173 po173 le173 (by decide) (S.F.o rfl (by decide)) (C173 (d := d + 0) (S.F.o rfl (by decide)) (V _ _ rfl) (V _ _ rfl) S.lp V (by omega) (by omega)) ?_
  refine x_cast d133_16 cl133 ct11_136 (Pc.ob (Ls.mem S.lp (x).toNat (by omega))) ?_
  refine x_VE d133_19 cl133 m11_263 kd24 tg24 po24 le24 (by have := Pc.g (Ls.mem S.lp (x).toNat (by omega)); omega) (Pc.ob (Ls.mem S.lp (x).toNat (by omega))) (C24 (Ls.mem S.lp (x).toNat (by omega)) V) (fun v4 r4 z4 => ?_)
  try dsimp only at r4
  exact x_iret d133_22 rt133 (hQ _ (by omega))
theorem C134 {D : Nat → Nat → Bool} {d : Nat} {h : Hp} {x : Int} {mP mC mI mD mB : Nat → Nat} {nP nC nI nD nB : Nat} (V : Vis D) (S : Hv h mP mC mI mD mB nP nC nI nD nB) (qx : 0 ≤ x ∧ x < nP) : ∃ v : Int, (fun v : Int => -1 ≤ v ∧ v ≤ 5) v ∧ PV D (d + 4) 134 [vR (some 2), vI x] h (vI v) := by
  refine PE_of (fun Q hQ => ?_)
  refine x_ent en134 ?_
  have hnp := S.np
  refine x_aload_n d134_0 rfl ?_
  refine x_iload_n d134_1 rfl ?_
  refine x_VE d134_2 cl134 m11_173 kd103 tg103 po103 le103 (by decide) (S.F.o rfl (by decide)) (C103 V S (by omega)) (fun v1 r1 z1 => ?_)
  try dsimp only at r1
  refine x_SN d134_5 cl134 m11_112 kd94 po94 le94 (C94 (by omega)) ?_
  refine x_aload_n d134_8 rfl ?_
  refine x_gfR d134_9 cl134 f11_49 (S.F.o rfl (by decide)) (V _ _ rfl) (S.F.r rfl) ?_
  refine x_aload_n d134_12 rfl ?_
  refine x_gfR d134_13 cl134 f11_19 (S.F.o rfl (by decide)) (V _ _ rfl) (S.F.r rfl) ?_
  refine x_iload_n d134_16 rfl ?_
  refine x_VV d134_17 cl134 m11_132 kd173 tg173 po173 le173 (by decide) (S.F.o rfl (by decide)) (C173 (d := d + 0) (S.F.o rfl (by decide)) (V _ _ rfl) (V _ _ rfl) S.lp V (by omega) (by omega)) ?_
  refine x_cast d134_20 cl134 ct11_136 (Pc.ob (Ls.mem S.lp (x).toNat (by omega))) ?_
  refine x_VE d134_23 cl134 m11_363 kd12 tg12 po12 le12 (by decide) (S.F.o rfl (by decide)) (C12 V S (Ls.mem S.lp (x).toNat (by omega))) (fun v4 r4 z4 => ?_)
  try dsimp only at r4
  exact x_iret d134_26 rt134 (hQ _ (by omega))
theorem C135 {D : Nat → Nat → Bool} {d : Nat} {h : Hp} {x y : Int} {mP mC mI mD mB : Nat → Nat} {nP nC nI nD nB : Nat} (V : Vis D) (S : Hv h mP mC mI mD mB nP nC nI nD nB) (qx : 0 ≤ x ∧ x < nP) (qy : 0 ≤ y ∧ y ≤ 999) : ∃ v : Int, (fun v : Int => -45 ≤ v ∧ v ≤ 45) v ∧ PV D (d + 3) 135 [vR (some 2), vI x, vI y] h (vI v) := by
  refine PE_of (fun Q hQ => ?_)
  refine x_ent en135 ?_
  have hnp := S.np
  refine x_aload_n d135_0 rfl ?_
  refine x_iload_n d135_1 rfl ?_
  refine x_VE d135_2 cl135 m11_173 kd103 tg103 po103 le103 (by decide) (S.F.o rfl (by decide)) (C103 V S (by omega)) (fun v1 r1 z1 => ?_)
  try dsimp only at r1
  refine x_SN d135_5 cl135 m11_112 kd94 po94 le94 (C94 (by omega)) ?_
  refine x_iload_n d135_8 rfl ?_
  refine x_SE d135_9 cl135 m11_276 kd90 po90 le90 (C90 (by omega)) (fun v3 r3 z3 => ?_)
  try dsimp only at r3
  refine x_SN d135_12 cl135 m11_88 kd84 po84 le84 (C84 (by omega)) ?_
  refine x_aload_n d135_15 rfl ?_
  refine x_gfR d135_16 cl135 f11_56 (S.F.o rfl (by decide)) (V _ _ rfl) (S.F.r rfl) ?_
  refine x_iload_n d135_19 rfl ?_
  refine x_iload_n d135_20 rfl ?_
  refine x_VE d135_21 cl135 m11_379 kd8 tg8 po8 le8 (by decide) (S.F.o rfl (by decide)) (C8 V S (by omega) (by omega) (by omega)) (fun v5 r5 z5 => ?_)
  try dsimp only at r5
  exact x_iret d135_24 rt135 (hQ _ (by omega))
theorem C138 {D : Nat → Nat → Bool} {d : Nat} {h : Hp} {x : Int} {mP mC mI mD mB : Nat → Nat} {nP nC nI nD nB : Nat} (V : Vis D) (S : Hv h mP mC mI mD mB nP nC nI nD nB) (qx : 0 ≤ x ∧ x < nP) : ∃ v : Int, (fun v : Int => 0 ≤ v ∧ v ≤ 20000 ∧ (∀ b : Int, (∃ d2, PV D d2 137 [vR (some 2), vR (some (mP x.toNat))] h (vI b)) → b = 1 → v = 0) ∧ ∃ d2, PV D d2 139 [vR (some 2), vR (some (mP x.toNat))] h (vI v)) v ∧ PV D (d + 4) 138 [vR (some 2), vI x] h (vI v) := by
  refine PE_of (fun Q hQ => ?_)
  refine x_ent en138 ?_
  have hnp := S.np
  refine x_aload_n d138_0 rfl ?_
  refine x_iload_n d138_1 rfl ?_
  refine x_VE d138_2 cl138 m11_173 kd103 tg103 po103 le103 (by decide) (S.F.o rfl (by decide)) (C103 V S (by omega)) (fun v1 r1 z1 => ?_)
  try dsimp only at r1
  refine x_SN d138_5 cl138 m11_112 kd94 po94 le94 (C94 (by omega)) ?_
  refine x_aload_n d138_8 rfl ?_
  refine x_aload_n d138_9 rfl ?_
  refine x_gfR d138_10 cl138 f11_19 (S.F.o rfl (by decide)) (V _ _ rfl) (S.F.r rfl) ?_
  refine x_iload_n d138_13 rfl ?_
  refine x_VV d138_14 cl138 m11_132 kd173 tg173 po173 le173 (by decide) (S.F.o rfl (by decide)) (C173 (d := d + 0) (S.F.o rfl (by decide)) (V _ _ rfl) (V _ _ rfl) S.lp V (by omega) (by omega)) ?_
  refine x_cast d138_17 cl138 ct11_136 (Pc.ob (Ls.mem S.lp (x).toNat (by omega))) ?_
  refine x_VE d138_20 cl138 m11_468 kd139 tg139 po139 le139 (by decide) (S.F.o rfl (by decide)) (C139 V S (Ls.mem S.lp (x).toNat (by omega))) (fun v4 r4 z4 => ?_)
  try dsimp only at r4
  have hr := r4; have hz := z4
  exact x_iret d138_23 rt138 (hQ _ ⟨hr.1, hr.2.1, hr.2.2, _, hz⟩)
theorem C136 {D : Nat → Nat → Bool} {d : Nat} {h : Hp} {x y : Int} {mP mC mI mD mB : Nat → Nat} {nP nC nI nD nB : Nat} (V : Vis D) (S : Hv h mP mC mI mD mB nP nC nI nD nB) (qx : 0 ≤ x ∧ x < nP) (qy : 0 ≤ y ∧ y ≤ 2) : ∃ v : Int, (fun v : Int => -1 ≤ v ∧ v ≤ 30000 ∧ (∀ b : Int, (∃ d2, PV D d2 137 [vR (some 2), vR (some (mP x.toNat))] h (vI b)) → y = 2 → v = b)) v ∧ PV D (d + 4) 136 [vR (some 2), vI x, vI y] h (vI v) := by
  refine PE_of (fun Q hQ => ?_)
  refine x_ent en136 ?_
  have hnp := S.np
  refine x_aload_n d136_0 rfl ?_
  refine x_iload_n d136_1 rfl ?_
  refine x_VE d136_2 cl136 m11_173 kd103 tg103 po103 le103 (by decide) (S.F.o rfl (by decide)) (C103 V S (by omega)) (fun v1 r1 z1 => ?_)
  try dsimp only at r1
  refine x_SN d136_5 cl136 m11_112 kd94 po94 le94 (C94 (by omega)) ?_
  refine x_iload_n d136_8 rfl ?_
  refine x_iconst d136_9 ?_
  refine x_iconst d136_10 ?_
  refine x_SE d136_11 cl136 m11_84 kd83 po83 le83 (C83 (by omega) (by omega) (by omega)) (fun v3 r3 z3 => ?_)
  try dsimp only at r3
  refine x_SN d136_14 cl136 m11_88 kd84 po84 le84 (C84 (by omega)) ?_
  refine x_aload_n d136_17 rfl ?_
  refine x_gfR d136_18 cl136 f11_19 (S.F.o rfl (by decide)) (V _ _ rfl) (S.F.r rfl) ?_
  refine x_iload_n d136_21 rfl ?_
  refine x_VV d136_22 cl136 m11_132 kd173 tg173 po173 le173 (by decide) (S.F.o rfl (by decide)) (C173 (d := d + 0) (S.F.o rfl (by decide)) (V _ _ rfl) (V _ _ rfl) S.lp V (by omega) (by omega)) ?_
  refine x_cast d136_25 cl136 ct11_136 (Pc.ob (Ls.mem S.lp (x).toNat (by omega))) ?_
  refine x_astore_n [some (vR _), some (vI _), some (vI _), some (vR _), none] d136_28 rfl ?_
  refine x_iload_n d136_29 rfl ?_
  refine x_iconst d136_30 ?_
  refine x_icne (t := 48) d136_31 rfl (by omega) (fun c31_6 => ?_) (fun c31_6 => ?_)
  · refine x_aload_n d136_48 rfl ?_
    refine x_gfR d136_49 cl136 f11_70 (S.F.o rfl (by decide)) (V _ _ rfl) (S.F.r rfl) ?_
    refine x_aload_n d136_52 rfl ?_
    refine x_VE d136_53 cl136 m11_457 kd77 tg77 po77 le77 (by decide) (S.F.o rfl (by decide)) (C77 V S (Ls.mem S.lp (x).toNat (by omega))) (fun v7 r7 z7 => ?_)
    try dsimp only at r7
    refine x_nm (fun w56_8 ew56_8 => ?_)
    refine x_istore [some (vR _), some (vI _), some (vI _), some (vR _), some (vI _)] d136_56 rfl ?_
    refine x_iload_n d136_58 rfl ?_
    refine x_ifeq (t := 68) d136_59 rfl (by omega) (fun c59_9 => ?_) (fun c59_9 => ?_)
    · refine x_iload d136_68 rfl ?_
      refine x_goto (t := 83) d136_70 rfl ?_
      exact x_iret d136_83 rt136 (hQ _ (by refine ⟨by omega, by omega, fun b hb h1 => ?_⟩; first | (exfalso; omega) | (obtain ⟨d2, hb⟩ := hb; have hdd := Sum.inl.inj (PV_det hb hz); omega)))
    · refine x_iload d136_62 rfl ?_
      refine x_iconst d136_64 ?_
      refine x_icne (t := 73) d136_65 rfl (by omega) (fun c65_10 => ?_) (fun c65_10 => ?_)
      · refine x_aload_n d136_73 rfl ?_
        refine x_gfR d136_74 cl136 f11_70 (S.F.o rfl (by decide)) (V _ _ rfl) (S.F.r rfl) ?_
        refine x_iload d136_77 rfl ?_
        refine x_aload_n d136_79 rfl ?_
        refine x_VE d136_80 cl136 m11_464 kd78 tg78 po78 le78 (by decide) (S.F.o rfl (by decide)) (C78 V S (Ls.mem S.lp (x).toNat (by omega)) (by omega)) (fun v11 r11 z11 => ?_)
        try dsimp only at r11
        exact x_iret d136_83 rt136 (hQ _ (by refine ⟨by omega, by omega, fun b hb h1 => ?_⟩; first | (exfalso; omega) | (obtain ⟨d2, hb⟩ := hb; have hdd := Sum.inl.inj (PV_det hb hz); omega)))
      · refine x_iload d136_68 rfl ?_
        refine x_goto (t := 83) d136_70 rfl ?_
        exact x_iret d136_83 rt136 (hQ _ (by refine ⟨by omega, by omega, fun b hb h1 => ?_⟩; first | (exfalso; omega) | (obtain ⟨d2, hb⟩ := hb; have hdd := Sum.inl.inj (PV_det hb hz); omega)))
  · refine x_aload_n d136_34 rfl ?_
    refine x_aload_n d136_35 rfl ?_
    refine x_VE d136_36 cl136 m11_460 kd137 tg137 po137 le137 (by decide) (S.F.o rfl (by decide)) (C137 V S (Ls.mem S.lp (x).toNat (by omega))) (fun v12 r12 z12 => ?_)
    try dsimp only at r12
    have hz := z12
    refine x_ifeq (t := 46) d136_39 rfl (by omega) (fun c39_13 => ?_) (fun c39_13 => ?_)
    · refine x_iconst d136_46 ?_
      exact x_iret d136_47 rt136 (hQ _ (by refine ⟨by omega, by omega, fun b hb h1 => ?_⟩; first | (exfalso; omega) | (obtain ⟨d2, hb⟩ := hb; have hdd := Sum.inl.inj (PV_det hb hz); omega)))
    · refine x_iconst d136_42 ?_
      refine x_goto (t := 47) d136_43 rfl ?_
      exact x_iret d136_47 rt136 (hQ _ (by refine ⟨by omega, by omega, fun b hb h1 => ?_⟩; first | (exfalso; omega) | (obtain ⟨d2, hb⟩ := hb; have hdd := Sum.inl.inj (PV_det hb hz); omega)))
theorem C129 {D : Nat → Nat → Bool} {d : Nat} {h : Hp} {x y : Int} {mP mC mI mD mB : Nat → Nat} {nP nC nI nD nB : Nat} (V : Vis D) (S : Hv h mP mC mI mD mB nP nC nI nD nB) (qx : 0 ≤ x ∧ x < nP) (qy : 0 ≤ y ∧ y ≤ 5) : ∃ v : Int, (fun v : Int => (-2147483648 ≤ v ∧ v < 2147483648) ∧ (y = 0 → v = hI h (mP x.toNat) 3) ∧ (y = 1 → v = hI h (mP x.toNat) 1 * hI h (mP x.toNat) 2) ∧ (y = 3 → v = pc32 (plc h (mP x.toNat))) ∧ (y = 4 → CPos (plc h (mP x.toNat)) v)) v ∧ PV D (d + 5) 129 [vR (some 2), vI x, vI y] h (vI v) := by
  refine PE_of (fun Q hQ => ?_)
  refine x_ent en129 ?_
  have hnp := S.np
  refine x_aload_n d129_0 rfl ?_
  refine x_iload_n d129_1 rfl ?_
  refine x_VE d129_2 cl129 m11_173 kd103 tg103 po103 le103 (by decide) (S.F.o rfl (by decide)) (C103 V S (by omega)) (fun v1 r1 z1 => ?_)
  try dsimp only at r1
  refine x_SN d129_5 cl129 m11_112 kd94 po94 le94 (C94 (by omega)) ?_
  refine x_iload_n d129_8 rfl ?_
  refine x_iconst d129_9 ?_
  refine x_iconst d129_10 ?_
  refine x_SE d129_11 cl129 m11_84 kd83 po83 le83 (C83 (by omega) (by omega) (by omega)) (fun v3 r3 z3 => ?_)
  try dsimp only at r3
  refine x_SN d129_14 cl129 m11_88 kd84 po84 le84 (C84 (by omega)) ?_
  refine x_aload_n d129_17 rfl ?_
  refine x_gfR d129_18 cl129 f11_19 (S.F.o rfl (by decide)) (V _ _ rfl) (S.F.r rfl) ?_
  refine x_iload_n d129_21 rfl ?_
  refine x_VV d129_22 cl129 m11_132 kd173 tg173 po173 le173 (by decide) (S.F.o rfl (by decide)) (C173 (d := d + 1) (S.F.o rfl (by decide)) (V _ _ rfl) (V _ _ rfl) S.lp V (by omega) (by omega)) ?_
  refine x_cast d129_25 cl129 ct11_136 (Pc.ob (Ls.mem S.lp (x).toNat (by omega))) ?_
  refine x_astore_n [some (vR _), some (vI _), some (vI _), some (vR _)] d129_28 rfl ?_
  refine x_iload_n d129_29 rfl ?_
  rcases (show y = 0 ∨ y = 1 ∨ y = 2 ∨ y = 3 ∨ y = 4 ∨ y = 5 by omega) with rfl | rfl | rfl | rfl | rfl | rfl
  · refine x_tsw (t := 64) d129_30 (by omega) rfl ?_
    refine x_aload_n d129_64 rfl ?_
    refine x_gfI d129_65 cl129 f11_186 (by decide) (Pc.ob (Ls.mem S.lp (x).toNat (by omega))) (V.g (Pc.g (Ls.mem S.lp (x).toNat (by omega)))) ?_
    have g6 := (Pc.sheet (Ls.mem S.lp (x).toNat (by omega)))
    exact x_iret d129_68 rt129 (hQ _ (by refine ⟨by omega, fun _ => ?_, fun _ => ?_, fun _ => ?_, fun _ => ?_⟩ <;> first | (exfalso; omega) | rfl | exact e73 | exact e101 | (unfold plc; rw [← e92]; exact e95)))
  · refine x_tsw (t := 69) d129_30 (by omega) rfl ?_
    refine x_aload_n d129_69 rfl ?_
    refine x_VE d129_70 cl129 m11_176 kd20 tg20 po20 le20 (by have := Pc.g (Ls.mem S.lp (x).toNat (by omega)); omega) (Pc.ob (Ls.mem S.lp (x).toNat (by omega))) (C20 (Ls.mem S.lp (x).toNat (by omega)) V) (fun v7 r7 z7 => ?_)
    try dsimp only at r7
    have e73 := r7.1
    exact x_iret d129_73 rt129 (hQ _ (by refine ⟨by omega, fun _ => ?_, fun _ => ?_, fun _ => ?_, fun _ => ?_⟩ <;> first | (exfalso; omega) | rfl | exact e73 | exact e101 | (unfold plc; rw [← e92]; exact e95)))
  · refine x_tsw (t := 74) d129_30 (by omega) rfl ?_
    refine x_aload_n d129_74 rfl ?_
    refine x_VE d129_75 cl129 m11_220 kd22 tg22 po22 le22 (by have := Pc.g (Ls.mem S.lp (x).toNat (by omega)); omega) (Pc.ob (Ls.mem S.lp (x).toNat (by omega))) (C22 (Ls.mem S.lp (x).toNat (by omega)) V) (fun v8 r8 z8 => ?_)
    try dsimp only at r8
    exact x_iret d129_78 rt129 (hQ _ (by refine ⟨by omega, fun _ => ?_, fun _ => ?_, fun _ => ?_, fun _ => ?_⟩ <;> first | (exfalso; omega) | rfl | exact e73 | exact e101 | (unfold plc; rw [← e92]; exact e95)))
  · refine x_tsw (t := 79) d129_30 (by omega) rfl ?_
    refine x_aload_n d129_79 rfl ?_
    refine x_gfR d129_80 cl129 f11_25 (S.F.o rfl (by decide)) (V _ _ rfl) (S.F.r rfl) ?_
    refine x_aload_n d129_83 rfl ?_
    refine x_gfI d129_84 cl129 f11_186 (by decide) (Pc.ob (Ls.mem S.lp (x).toNat (by omega))) (V.g (Pc.g (Ls.mem S.lp (x).toNat (by omega)))) ?_
    have g9 := (Pc.sheet (Ls.mem S.lp (x).toNat (by omega)))
    refine x_aaload d129_87 (Nat.lt_of_lt_of_le (by decide) S.F.1) (by rw [(S.F.o (a := 6) (t := 104) rfl (by decide)).2]; decide) ⟨by omega, by rw [(S.F.l (a := 6) (n := 6) (by decide) rfl)]; omega⟩ (V _ _ rfl) (S.F.sh (hI h (mP (x).toNat) 3) (by omega)) ?_
    refine x_aload_n d129_88 rfl ?_
    refine x_VE d129_89 cl129 m11_223 kd74 tg74 po74 le74 (by have := Sh.g (S.sh (hI h (mP (x).toNat) 3).toNat (by omega)); omega) (Sh.ob (S.sh (hI h (mP (x).toNat) 3).toNat (by omega))) (C74 (S.sh (hI h (mP (x).toNat) 3).toNat (by omega)) (Ls.mem S.lp (x).toNat (by omega)) V) (fun v10 r10 z10 => ?_)
    try dsimp only at r10
    have e92 := r10.1
    refine x_SE d129_92 cl129 m11_227 kd186 po186 le186 C186 (fun v11 r11 z11 => ?_)
    try dsimp only at r11
    have e95 := r11.1
    exact x_iret d129_95 rt129 (hQ _ (by refine ⟨by omega, fun _ => ?_, fun _ => ?_, fun _ => ?_, fun _ => ?_⟩ <;> first | (exfalso; omega) | rfl | exact e73 | exact e101 | (unfold plc; rw [← e92]; exact e95)))
  · refine x_tsw (t := 96) d129_30 (by omega) rfl ?_
    refine x_aload_n d129_96 rfl ?_
    refine x_aload_n d129_97 rfl ?_
    refine x_VE d129_98 cl129 m11_233 kd130 tg130 po130 le130 (by decide) (S.F.o rfl (by decide)) (C130 V S (Ls.mem S.lp (x).toNat (by omega))) (fun v12 r12 z12 => ?_)
    try dsimp only at r12
    have e101 := r12.2
    exact x_iret d129_101 rt129 (hQ _ (by refine ⟨by omega, fun _ => ?_, fun _ => ?_, fun _ => ?_, fun _ => ?_⟩ <;> first | (exfalso; omega) | rfl | exact e73 | exact e101 | (unfold plc; rw [← e92]; exact e95)))
  · refine x_tsw (t := 102) d129_30 (by omega) rfl ?_
    refine x_aload_n d129_102 rfl ?_
    refine x_aload_n d129_103 rfl ?_
    refine x_VE d129_104 cl129 m11_236 kd131 tg131 po131 le131 (by decide) (S.F.o rfl (by decide)) (C131 V S (Ls.mem S.lp (x).toNat (by omega))) (fun v13 r13 z13 => ?_)
    try dsimp only at r13
    refine x_SE d129_107 cl129 m11_227 kd186 po186 le186 C186 (fun v14 r14 z14 => ?_)
    try dsimp only at r14
    exact x_iret d129_110 rt129 (hQ _ (by refine ⟨by omega, fun _ => ?_, fun _ => ?_, fun _ => ?_, fun _ => ?_⟩ <;> first | (exfalso; omega) | rfl | exact e73 | exact e101 | (unfold plc; rw [← e92]; exact e95)))
theorem C127 {D : Nat → Nat → Bool} {d : Nat} {h : Hp} {x y : Int} {mP mC mI mD mB : Nat → Nat} {nP nC nI nD nB : Nat} (V : Vis D) (S : Hv h mP mC mI mD mB nP nC nI nD nB) (qx : 0 ≤ x ∧ x ≤ 5) (qy : 0 ≤ y ∧ y ≤ 4) : ∃ v : Int, (fun v : Int => (y ≠ 3 → 0 ≤ v ∧ v ≤ 1000000) ∧ (y = 0 → v = hI h (7 + 5 * x.toNat) 2) ∧ (y = 3 → v = hI h (7 + 5 * x.toNat) 4) ∧ (y = 4 → v = hI h (7 + 5 * x.toNat) 1)) v ∧ PV D (d + 2) 127 [vR (some 2), vI x, vI y] h (vI v) := by
  refine PE_of (fun Q hQ => ?_)
  refine x_ent en127 ?_
  refine x_iload_n d127_0 rfl ?_
  refine x_SE d127_1 cl127 m11_157 kd97 po97 le97 (C97 (by omega)) (fun v1 r1 z1 => ?_)
  try dsimp only at r1
  refine x_ifeq (t := 20) d127_4 rfl (by omega) (fun c4_2 => ?_) (fun c4_2 => ?_)
  · refine x_iconst d127_20 ?_
    refine x_SN d127_21 cl127 m11_88 kd84 po84 le84 (C84 (by omega)) ?_
    refine x_aload_n d127_24 rfl ?_
    refine x_gfR d127_25 cl127 f11_25 (S.F.o rfl (by decide)) (V _ _ rfl) (S.F.r rfl) ?_
    refine x_iload_n d127_28 rfl ?_
    refine x_aaload d127_29 (Nat.lt_of_lt_of_le (by decide) S.F.1) (by rw [(S.F.o (a := 6) (t := 104) rfl (by decide)).2]; decide) ⟨by omega, by rw [(S.F.l (a := 6) (n := 6) (by decide) rfl)]; omega⟩ (V _ _ rfl) (S.F.sh (x) (by omega)) ?_
    refine x_astore_n [some (vR _), some (vI _), some (vI _), some (vR _)] d127_30 rfl ?_
    refine x_iload_n d127_31 rfl ?_
    rcases (show y = 0 ∨ y = 1 ∨ y = 2 ∨ y = 3 ∨ y = 4 by omega) with rfl | rfl | rfl | rfl | rfl
    · refine x_tsw (t := 64) d127_32 (by omega) rfl ?_
      refine x_aload_n d127_64 rfl ?_
      refine x_gfI d127_65 cl127 f11_206 (by decide) (Sh.ob (S.sh (x).toNat (by omega))) (V.s (by have := Sh.n (S.sh (x).toNat (by omega)); omega)) ?_
      have g4 := (Sh.platings (S.sh (x).toNat (by omega)))
      exact x_iret d127_68 rt127 (hQ _ (by refine ⟨fun _ => ?_, fun _ => ?_, fun _ => ?_, fun _ => ?_⟩ <;> first | (exfalso; omega) | rfl | omega))
    · refine x_tsw (t := 69) d127_32 (by omega) rfl ?_
      refine x_aload_n d127_69 rfl ?_
      refine x_gfI d127_70 cl127 f11_209 (by decide) (Sh.ob (S.sh (x).toNat (by omega))) (V.s (by have := Sh.n (S.sh (x).toNat (by omega)); omega)) ?_
      have g5 := (Sh.printings (S.sh (x).toNat (by omega)))
      exact x_iret d127_73 rt127 (hQ _ (by refine ⟨fun _ => ?_, fun _ => ?_, fun _ => ?_, fun _ => ?_⟩ <;> first | (exfalso; omega) | rfl | omega))
    · refine x_tsw (t := 74) d127_32 (by omega) rfl ?_
      refine x_aload_n d127_74 rfl ?_
      refine x_VE d127_75 cl127 m11_212 kd73 tg73 po73 le73 (by have := Sh.g (S.sh (x).toNat (by omega)); omega) (Sh.ob (S.sh (x).toNat (by omega))) (C73 (S.sh (x).toNat (by omega)) V) (fun v6 r6 z6 => ?_)
      try dsimp only at r6
      exact x_iret d127_78 rt127 (hQ _ (by refine ⟨fun _ => ?_, fun _ => ?_, fun _ => ?_, fun _ => ?_⟩ <;> first | (exfalso; omega) | rfl | omega))
    · refine x_tsw (t := 79) d127_32 (by omega) rfl ?_
      refine x_aload_n d127_79 rfl ?_
      refine x_gfI d127_80 cl127 f11_215 (by decide) (Sh.ob (S.sh (x).toNat (by omega))) (V.s (by have := Sh.n (S.sh (x).toNat (by omega)); omega)) ?_
      exact x_iret d127_83 rt127 (hQ _ (by refine ⟨fun _ => ?_, fun _ => ?_, fun _ => ?_, fun _ => ?_⟩ <;> first | (exfalso; omega) | rfl | omega))
    · refine x_tsw (t := 84) d127_32 (by omega) rfl ?_
      refine x_aload_n d127_84 rfl ?_
      refine x_gfI d127_85 cl127 f11_218 (by decide) (Sh.ob (S.sh (x).toNat (by omega))) (V.s (by have := Sh.n (S.sh (x).toNat (by omega)); omega)) ?_
      have g7 := (Sh.size (S.sh (x).toNat (by omega)))
      exact x_iret d127_88 rt127 (hQ _ (by refine ⟨fun _ => ?_, fun _ => ?_, fun _ => ?_, fun _ => ?_⟩ <;> first | (exfalso; omega) | rfl | omega))
  · refine x_iload_n d127_7 rfl ?_
    refine x_iconst d127_8 ?_
    refine x_iconst d127_9 ?_
    refine x_SE d127_10 cl127 m11_84 kd83 po83 le83 (C83 (by omega) (by omega) (by omega)) (fun v8 r8 z8 => ?_)
    try dsimp only at r8
    refine x_ifeq (t := 20) d127_13 rfl (by omega) (fun c13_9 => ?_) (fun c13_9 => ?_)
    · refine x_iconst d127_20 ?_
      refine x_SN d127_21 cl127 m11_88 kd84 po84 le84 (C84 (by omega)) ?_
      refine x_aload_n d127_24 rfl ?_
      refine x_gfR d127_25 cl127 f11_25 (S.F.o rfl (by decide)) (V _ _ rfl) (S.F.r rfl) ?_
      refine x_iload_n d127_28 rfl ?_
      refine x_aaload d127_29 (Nat.lt_of_lt_of_le (by decide) S.F.1) (by rw [(S.F.o (a := 6) (t := 104) rfl (by decide)).2]; decide) ⟨by omega, by rw [(S.F.l (a := 6) (n := 6) (by decide) rfl)]; omega⟩ (V _ _ rfl) (S.F.sh (x) (by omega)) ?_
      refine x_astore_n [some (vR _), some (vI _), some (vI _), some (vR _)] d127_30 rfl ?_
      refine x_iload_n d127_31 rfl ?_
      rcases (show y = 0 ∨ y = 1 ∨ y = 2 ∨ y = 3 ∨ y = 4 by omega) with rfl | rfl | rfl | rfl | rfl
      · refine x_tsw (t := 64) d127_32 (by omega) rfl ?_
        refine x_aload_n d127_64 rfl ?_
        refine x_gfI d127_65 cl127 f11_206 (by decide) (Sh.ob (S.sh (x).toNat (by omega))) (V.s (by have := Sh.n (S.sh (x).toNat (by omega)); omega)) ?_
        have g11 := (Sh.platings (S.sh (x).toNat (by omega)))
        exact x_iret d127_68 rt127 (hQ _ (by refine ⟨fun _ => ?_, fun _ => ?_, fun _ => ?_, fun _ => ?_⟩ <;> first | (exfalso; omega) | rfl | omega))
      · refine x_tsw (t := 69) d127_32 (by omega) rfl ?_
        refine x_aload_n d127_69 rfl ?_
        refine x_gfI d127_70 cl127 f11_209 (by decide) (Sh.ob (S.sh (x).toNat (by omega))) (V.s (by have := Sh.n (S.sh (x).toNat (by omega)); omega)) ?_
        have g12 := (Sh.printings (S.sh (x).toNat (by omega)))
        exact x_iret d127_73 rt127 (hQ _ (by refine ⟨fun _ => ?_, fun _ => ?_, fun _ => ?_, fun _ => ?_⟩ <;> first | (exfalso; omega) | rfl | omega))
      · refine x_tsw (t := 74) d127_32 (by omega) rfl ?_
        refine x_aload_n d127_74 rfl ?_
        refine x_VE d127_75 cl127 m11_212 kd73 tg73 po73 le73 (by have := Sh.g (S.sh (x).toNat (by omega)); omega) (Sh.ob (S.sh (x).toNat (by omega))) (C73 (S.sh (x).toNat (by omega)) V) (fun v13 r13 z13 => ?_)
        try dsimp only at r13
        exact x_iret d127_78 rt127 (hQ _ (by refine ⟨fun _ => ?_, fun _ => ?_, fun _ => ?_, fun _ => ?_⟩ <;> first | (exfalso; omega) | rfl | omega))
      · refine x_tsw (t := 79) d127_32 (by omega) rfl ?_
        refine x_aload_n d127_79 rfl ?_
        refine x_gfI d127_80 cl127 f11_215 (by decide) (Sh.ob (S.sh (x).toNat (by omega))) (V.s (by have := Sh.n (S.sh (x).toNat (by omega)); omega)) ?_
        exact x_iret d127_83 rt127 (hQ _ (by refine ⟨fun _ => ?_, fun _ => ?_, fun _ => ?_, fun _ => ?_⟩ <;> first | (exfalso; omega) | rfl | omega))
      · refine x_tsw (t := 84) d127_32 (by omega) rfl ?_
        refine x_aload_n d127_84 rfl ?_
        refine x_gfI d127_85 cl127 f11_218 (by decide) (Sh.ob (S.sh (x).toNat (by omega))) (V.s (by have := Sh.n (S.sh (x).toNat (by omega)); omega)) ?_
        have g14 := (Sh.size (S.sh (x).toNat (by omega)))
        exact x_iret d127_88 rt127 (hQ _ (by refine ⟨fun _ => ?_, fun _ => ?_, fun _ => ?_, fun _ => ?_⟩ <;> first | (exfalso; omega) | rfl | omega))
    · refine x_iconst d127_16 ?_
      refine x_goto (t := 21) d127_17 rfl ?_
      refine x_SN d127_21 cl127 m11_88 kd84 po84 le84 (C84 (by omega)) ?_
      refine x_aload_n d127_24 rfl ?_
      refine x_gfR d127_25 cl127 f11_25 (S.F.o rfl (by decide)) (V _ _ rfl) (S.F.r rfl) ?_
      refine x_iload_n d127_28 rfl ?_
      refine x_aaload d127_29 (Nat.lt_of_lt_of_le (by decide) S.F.1) (by rw [(S.F.o (a := 6) (t := 104) rfl (by decide)).2]; decide) ⟨by omega, by rw [(S.F.l (a := 6) (n := 6) (by decide) rfl)]; omega⟩ (V _ _ rfl) (S.F.sh (x) (by omega)) ?_
      refine x_astore_n [some (vR _), some (vI _), some (vI _), some (vR _)] d127_30 rfl ?_
      refine x_iload_n d127_31 rfl ?_
      rcases (show y = 0 ∨ y = 1 ∨ y = 2 ∨ y = 3 ∨ y = 4 by omega) with rfl | rfl | rfl | rfl | rfl
      · refine x_tsw (t := 64) d127_32 (by omega) rfl ?_
        refine x_aload_n d127_64 rfl ?_
        refine x_gfI d127_65 cl127 f11_206 (by decide) (Sh.ob (S.sh (x).toNat (by omega))) (V.s (by have := Sh.n (S.sh (x).toNat (by omega)); omega)) ?_
        have g16 := (Sh.platings (S.sh (x).toNat (by omega)))
        exact x_iret d127_68 rt127 (hQ _ (by refine ⟨fun _ => ?_, fun _ => ?_, fun _ => ?_, fun _ => ?_⟩ <;> first | (exfalso; omega) | rfl | omega))
      · refine x_tsw (t := 69) d127_32 (by omega) rfl ?_
        refine x_aload_n d127_69 rfl ?_
        refine x_gfI d127_70 cl127 f11_209 (by decide) (Sh.ob (S.sh (x).toNat (by omega))) (V.s (by have := Sh.n (S.sh (x).toNat (by omega)); omega)) ?_
        have g17 := (Sh.printings (S.sh (x).toNat (by omega)))
        exact x_iret d127_73 rt127 (hQ _ (by refine ⟨fun _ => ?_, fun _ => ?_, fun _ => ?_, fun _ => ?_⟩ <;> first | (exfalso; omega) | rfl | omega))
      · refine x_tsw (t := 74) d127_32 (by omega) rfl ?_
        refine x_aload_n d127_74 rfl ?_
        refine x_VE d127_75 cl127 m11_212 kd73 tg73 po73 le73 (by have := Sh.g (S.sh (x).toNat (by omega)); omega) (Sh.ob (S.sh (x).toNat (by omega))) (C73 (S.sh (x).toNat (by omega)) V) (fun v18 r18 z18 => ?_)
        try dsimp only at r18
        exact x_iret d127_78 rt127 (hQ _ (by refine ⟨fun _ => ?_, fun _ => ?_, fun _ => ?_, fun _ => ?_⟩ <;> first | (exfalso; omega) | rfl | omega))
      · refine x_tsw (t := 79) d127_32 (by omega) rfl ?_
        refine x_aload_n d127_79 rfl ?_
        refine x_gfI d127_80 cl127 f11_215 (by decide) (Sh.ob (S.sh (x).toNat (by omega))) (V.s (by have := Sh.n (S.sh (x).toNat (by omega)); omega)) ?_
        exact x_iret d127_83 rt127 (hQ _ (by refine ⟨fun _ => ?_, fun _ => ?_, fun _ => ?_, fun _ => ?_⟩ <;> first | (exfalso; omega) | rfl | omega))
      · refine x_tsw (t := 84) d127_32 (by omega) rfl ?_
        refine x_aload_n d127_84 rfl ?_
        refine x_gfI d127_85 cl127 f11_218 (by decide) (Sh.ob (S.sh (x).toNat (by omega))) (V.s (by have := Sh.n (S.sh (x).toNat (by omega)); omega)) ?_
        have g19 := (Sh.size (S.sh (x).toNat (by omega)))
        exact x_iret d127_88 rt127 (hQ _ (by refine ⟨fun _ => ?_, fun _ => ?_, fun _ => ?_, fun _ => ?_⟩ <;> first | (exfalso; omega) | rfl | omega))
theorem C142 {D : Nat → Nat → Bool} {d : Nat} {h : Hp} {x y : Int} {mP mC mI mD mB : Nat → Nat} {nP nC nI nD nB : Nat} (V : Vis D) (S : Hv h mP mC mI mD mB nP nC nI nD nB) (f : Nat → Int) (hf : ∀ k, k < nC → ∃ d2, PV D d2 149 [vR (some 2), vR (some (mC k))] h (vI (f k))) (qx : 0 ≤ x ∧ x < nC) (qy : 0 ≤ y ∧ y ≤ 7) : ∃ v : Int, (fun v : Int => True) v ∧ PV D (d + 7) 142 [vR (some 2), vI x, vI y] h (vI v) := by
  refine PE_of (fun Q hQ => ?_)
  refine x_ent en142 ?_
  have hnc := S.nc
  refine x_aload_n d142_0 rfl ?_
  refine x_iload_n d142_1 rfl ?_
  refine x_VE d142_2 cl142 m11_306 kd108 tg108 po108 le108 (by decide) (S.F.o rfl (by decide)) (C108 V S (by omega)) (fun v1 r1 z1 => ?_)
  try dsimp only at r1
  refine x_SN d142_5 cl142 m11_112 kd94 po94 le94 (C94 (by omega)) ?_
  refine x_iload_n d142_8 rfl ?_
  refine x_iconst d142_9 ?_
  refine x_bipush d142_10 (by decide) ?_
  refine x_SE d142_12 cl142 m11_84 kd83 po83 le83 (C83 (by omega) (by omega) (by omega)) (fun v3 r3 z3 => ?_)
  try dsimp only at r3
  refine x_SN d142_15 cl142 m11_88 kd84 po84 le84 (C84 (by omega)) ?_
  refine x_aload_n d142_18 rfl ?_
  refine x_gfR d142_19 cl142 f11_43 (S.F.o rfl (by decide)) (V _ _ rfl) (S.F.r rfl) ?_
  refine x_iload_n d142_22 rfl ?_
  refine x_VV d142_23 cl142 m11_132 kd173 tg173 po173 le173 (by decide) (S.F.o rfl (by decide)) (C173 (d := d + 3) (S.F.o rfl (by decide)) (V _ _ rfl) (V _ _ rfl) S.lc V (by omega) (by omega)) ?_
  refine x_cast d142_26 cl142 ct11_298 (Cv.ob (Ls.mem S.lc (x).toNat (by omega))) ?_
  refine x_astore_n [some (vR _), some (vI _), some (vI _), some (vR _)] d142_29 rfl ?_
  refine x_iload_n d142_30 rfl ?_
  rcases (show y = 0 ∨ y = 1 ∨ y = 2 ∨ y = 3 ∨ y = 4 ∨ y = 5 ∨ y = 6 ∨ y = 7 by omega) with rfl | rfl | rfl | rfl | rfl | rfl | rfl | rfl
  · refine x_tsw (t := 72) d142_31 (by omega) rfl ?_
    refine x_aload_n d142_72 rfl ?_
    refine x_aload_n d142_73 rfl ?_
    refine x_VE d142_74 cl142 m11_322 kd143 tg143 po143 le143 (by decide) (S.F.o rfl (by decide)) (C143 V S (Ls.mem S.lc (x).toNat (by omega))) (fun v6 r6 z6 => ?_)
    try dsimp only at r6
    exact x_iret d142_77 rt142 (hQ _ trivial)
  · refine x_tsw (t := 78) d142_31 (by omega) rfl ?_
    refine x_aload_n d142_78 rfl ?_
    refine x_aload_n d142_79 rfl ?_
    refine x_VE d142_80 cl142 m11_314 kd110 tg110 po110 le110 (by decide) (S.F.o rfl (by decide)) (C110 V S (Ls.mem S.lc (x).toNat (by omega))) (fun v7 r7 z7 => ?_)
    try dsimp only at r7
    exact x_iret d142_83 rt142 (hQ _ trivial)
  · refine x_tsw (t := 84) d142_31 (by omega) rfl ?_
    refine x_aload_n d142_84 rfl ?_
    refine x_aload_n d142_85 rfl ?_
    refine x_VE d142_86 cl142 m11_325 kd147 tg147 po147 le147 (by decide) (S.F.o rfl (by decide)) (C147 V S (Ls.mem S.lc (x).toNat (by omega))) (fun v8 r8 z8 => ?_)
    try dsimp only at r8
    exact x_iret d142_89 rt142 (hQ _ trivial)
  · refine x_tsw (t := 90) d142_31 (by omega) rfl ?_
    refine x_aload_n d142_90 rfl ?_
    refine x_gfI d142_91 cl142 f11_328 (by decide) (Cv.ob (Ls.mem S.lc (x).toNat (by omega))) (V.g (Cv.g (Ls.mem S.lc (x).toNat (by omega)))) ?_
    have g9 := (Cv.day (Ls.mem S.lc (x).toNat (by omega)))
    exact x_iret d142_94 rt142 (hQ _ trivial)
  · refine x_tsw (t := 95) d142_31 (by omega) rfl ?_
    refine x_aload_n d142_95 rfl ?_
    refine x_gfI d142_96 cl142 f11_303 (by decide) (Cv.ob (Ls.mem S.lc (x).toNat (by omega))) (V.g (Cv.g (Ls.mem S.lc (x).toNat (by omega)))) ?_
    have g10 := (Cv.arrived (Ls.mem S.lc (x).toNat (by omega)))
    exact x_iret d142_99 rt142 (hQ _ trivial)
  · refine x_tsw (t := 100) d142_31 (by omega) rfl ?_
    refine x_aload_n d142_100 rfl ?_
    refine x_VE d142_101 cl142 m11_331 kd2 tg2 po2 le2 (by have := Cv.g (Ls.mem S.lc (x).toNat (by omega)); omega) (Cv.ob (Ls.mem S.lc (x).toNat (by omega))) (C2 (Ls.mem S.lc (x).toNat (by omega)) V) (fun v11 r11 z11 => ?_)
    try dsimp only at r11
    exact x_iret d142_104 rt142 (hQ _ trivial)
  · refine x_tsw (t := 105) d142_31 (by omega) rfl ?_
    refine x_aload_n d142_105 rfl ?_
    refine x_aload_n d142_106 rfl ?_
    refine x_VE d142_107 cl142 m11_334 kd149 tg149 po149 le149 (by decide) (S.F.o rfl (by decide)) (C149 V S (Ls.mem S.lc (x).toNat (by omega))) (fun v12 r12 z12 => ?_)
    try dsimp only at r12
    refine x_ifeq (t := 117) d142_110 rfl (by omega) (fun c110_13 => ?_) (fun c110_13 => ?_)
    · refine x_iconst d142_117 ?_
      exact x_iret d142_118 rt142 (hQ _ trivial)
    · refine x_iconst d142_113 ?_
      refine x_goto (t := 118) d142_114 rfl ?_
      exact x_iret d142_118 rt142 (hQ _ trivial)
  · refine x_tsw (t := 119) d142_31 (by omega) rfl ?_
    have gdi := (Cv.die (Ls.mem S.lc (x).toNat (by omega)))
    refine x_aload_n d142_119 rfl ?_
    refine x_aload_n d142_120 rfl ?_
    refine x_gfI d142_121 cl142 f11_338 (by decide) (Cv.ob (Ls.mem S.lc (x).toNat (by omega))) (V.g (Cv.g (Ls.mem S.lc (x).toNat (by omega)))) ?_
    have g14 := (Cv.die (Ls.mem S.lc (x).toNat (by omega)))
    refine x_VE d142_124 cl142 m11_341 kd150 tg150 po150 le150 (by decide) (S.F.o rfl (by decide)) (C150 V S f hf (by omega)) (fun v15 r15 z15 => ?_)
    try dsimp only at r15
    exact x_iret d142_127 rt142 (hQ _ trivial)
