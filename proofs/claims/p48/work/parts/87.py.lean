/-! ===== ENGRAVED, RATED, ITS DIE, ITS ISSUE ===== -/
theorem drw {x : Int} (q : 0 ≤ x ∧ x ≤ 200) : 0 ≤ (43 * x + 31).tmod 107 ∧ (43 * x + 31).tmod 107 ≤ 106 := by
  rw [Int.tmod_eq_emod_of_nonneg (by omega)]; omega
theorem tmd {x k : Int} (q : 0 ≤ x) (hk : 0 < k) : 0 ≤ x.tmod k ∧ x.tmod k < k := by
  rw [Int.tmod_eq_emod_of_nonneg q]; exact ⟨Int.emod_nonneg _ (by omega), Int.emod_lt_of_pos _ hk⟩
theorem C32 {D : Nat → Nat → Bool} {d : Nat} {h : Hp} {x : Int} (qx : 0 ≤ x ∧ x ≤ 200) : ∃ v : Int, (fun v : Int => 0 ≤ v ∧ v ≤ 106) v ∧ PV D (d + 0) 32 [vI x] h (vI v) := by
  refine PE_of (fun Q hQ => ?_)
  refine x_ent en32 ?_
  refine x_bipush d32_0 (by decide) ?_
  refine x_iload_n d32_2 rfl ?_
  refine x_imul d32_3 ?_
  refine x_bipush d32_4 (by decide) ?_
  refine x_iadd d32_6 ?_
  refine x_bipush d32_7 (by decide) ?_
  refine x_irem d32_9 (by omega) ?_
  have hd := drw qx
  exact x_iret d32_10 rt32 (hQ _ (by omega))
theorem C167 {D : Nat → Nat → Bool} {d : Nat} {h : Hp} {r : Int} (V : Vis D) (S : Hu r h) {l : Nat} (hl : isLs l) : ∃ v : Int, (fun v : Int => v = 1) v ∧ PV D (d + 0) 167 [vR (some l)] h (vI v) := by
  refine PE_of (fun Q hQ => ?_)
  refine x_ent en167 ?_
  refine x_aload_n d167_0 rfl ?_
  refine x_gfI d167_1 cl167 f12_48 (by decide) (isLs_o S.1 hl).1 (V _ _ (by rcases hl with q | q | q | q | q <;> subst q <;> rfl)) ?_
  have g1 := (show hI h l 2 = 0 from Hu_z S hl)
  refine x_ifne (t := 11) d167_4 rfl (by omega) (fun c4_2 => ?_) (fun c4_2 => ?_)
  · refine x_iconst d167_11 ?_
    exact x_zret d167_12 rt167 (by omega) (hQ _ (by omega))
  · refine x_iconst d167_7 ?_
    refine x_goto (t := 12) d167_8 rfl ?_
    exact x_zret d167_12 rt167 (by omega) (hQ _ (by omega))
theorem or_1023 {x i : Int} (hx : 0 ≤ x ∧ x ≤ 1023) (hi : 0 ≤ i ∧ i < 10) : 0 ≤ o32 fior x (o32 fshl 1 i) ∧ o32 fior x (o32 fshl 1 i) ≤ 1023 := by
  have hs : 0 ≤ o32 fshl 1 i ∧ o32 fshl 1 i ≤ 512 := by
    rcases (show i = 0 ∨ i = 1 ∨ i = 2 ∨ i = 3 ∨ i = 4 ∨ i = 5 ∨ i = 6 ∨ i = 7 ∨ i = 8 ∨ i = 9 by omega) with rfl | rfl | rfl | rfl | rfl | rfl | rfl | rfl | rfl | rfl <;> decide +kernel
  rw [or_ii (by omega) (by omega)]
  have := Nat.or_lt_two_pow (x := x.toNat) (y := (o32 fshl 1 i).toNat) (n := 10) (by omega) (by omega)
  omega
theorem C33 {d : Nat} {h : Hp} {x y w z : Int} (qx : 0 ≤ x ∧ x < 24) (qy : 0 ≤ y ∧ y < 10) (qw : 0 ≤ w ∧ w < 8) (qz : 0 ≤ z ∧ z < 8) {r : Int} (S : Hu r h) (q60 : hI h 3 2 < 60) {x3 y3 : Int} (hpw : hI h 3 0 = x3 ∧ hI h 3 1 = y3) : PU DA (d + 0) 33 [vR (some 3), vI x, vI y, vI w, vI z] h (fun g => Hu r g ∧ (hI g 3 0 = x3 ∧ hI g 3 1 = y3) ∧ hC g = hC h ∧ hS g = hS h) := by
  refine PU_of (fun Q hQ => ?_)
  have V := Vis_DA
  obtain ⟨c0, s0, hcc, hss⟩ : ∃ c0 s0, hC h = c0 ∧ hS h = s0 := ⟨_, _, rfl, rfl⟩
  obtain ⟨f3, hf3⟩ : ∃ f3, hI h 3 2 = f3 := ⟨_, rfl⟩
  refine x_ent en33 ?_
  refine x_iload_n d33_0 rfl ?_
  refine x_nm (fun w1_1 ew1_1 => ?_)
  refine x_istore [some (vR _), some (vI _), some (vI _), some (vI _), some (vI _), some (vI _)] d33_1 rfl ?_
  refine (x_ub (N := 8) (P := fun i2 => ∀ h : Hp, (Hu r h ∧ hC h = c0 ∧ hS h = s0 ∧ (hI h 3 0 = x3 ∧ hI h 3 1 = y3) ∧ hI h 3 2 = f3) → wp DA (d + 0) 33 3 [some (vR (some 3)), some (vI x), some (vI y), some (vI w), some (vI z), some (vI i2)] [] h Q) w1_1 (by omega) (fun i2 hi2 hj2 ih2 h hh2 => ?_)) _ ⟨S, hcc, hss, hpw, hf3⟩
  obtain ⟨S, hcc, hss, hpw, hf3⟩ := hh2
  refine x_iload d33_3 rfl ?_
  refine x_iload d33_5 rfl ?_
  refine x_icgt (t := 34) d33_7 rfl (by omega) (fun c7_3 => ?_) (fun c7_3 => ?_)
  · refine x_aload_n d33_34 rfl ?_
    refine x_dupR d33_35 ?_
    refine x_gfI d33_36 cl33 f5_22 (by decide) (S.F.o rfl (by decide)) rfl ?_
    have g4 := S.pl.2.2.1
    refine x_iconst d33_39 ?_
    refine x_iadd d33_40 ?_
    refine x_pfI d33_41 cl33 f5_22 (S.F.o rfl (by decide)) rfl (fun q => by cases q) (x_wr (fun g => Hu r g ∧ hC g = c0 ∧ hS g = s0 ∧ (hI g 3 0 = x3 ∧ hI g 3 1 = y3)) ⟨Hu_w S rfl (by omega), hcc, hss, hpw⟩ (fun h q5 => ?_))
    obtain ⟨S, hcc, hss, hpw⟩ := q5
    exact x_ret d33_44 rt33 (hQ _ ⟨S, hpw, by omega, by omega⟩)
  · refine x_aload_n d33_10 rfl ?_
    refine x_gfR d33_11 cl33 f5_9 (S.F.o rfl (by decide)) rfl (S.F.r rfl) ?_
    refine x_iload_n d33_14 rfl ?_
    refine x_bipush d33_15 (by decide) ?_
    refine x_imul d33_17 ?_
    refine x_iload d33_18 rfl ?_
    refine x_iadd d33_20 ?_
    refine x_dup2 d33_21 rfl rfl ?_
    refine x_iaload d33_22 (S.F.o rfl (by decide)) ⟨by omega, by rw [(S.F.l (a := 4) (n := 192) (by decide) rfl)]; omega⟩ rfl ?_
    refine x_nm (fun a6 e6 => ?_)
    have b6 : 0 ≤ a6 ∧ a6 ≤ 1023 := by rw [e6]; exact (S.pl.2.2.2 _)
    refine x_iconst d33_23 ?_
    refine x_iload_n d33_24 rfl ?_
    refine x_ishlq d33_25 (fun q7 => ?_)
    refine x_iorq d33_26 (fun q8 => ?_)
    have hor : 0 ≤ o32 fior a6 (o32 fshl 1 y) ∧ o32 fior a6 (o32 fshl 1 y) ≤ 1023 := or_1023 (by omega) (by omega)
    refine x_iastore d33_27 (by decide) (S.F.o rfl (by decide)) ⟨by omega, by rw [(S.F.l (a := 4) (n := 192) (by decide) rfl)]; omega⟩ rfl (x_wr (fun g => Hu r g ∧ hC g = c0 ∧ hS g = s0 ∧ (hI g 3 0 = x3 ∧ hI g 3 1 = y3) ∧ hI g 3 2 = f3) ⟨Hu_w S rfl hor, hcc, hss, hpw, hf3⟩ (fun h q9 => ?_))
    obtain ⟨S, hcc, hss, hpw, hf3⟩ := q9
    refine x_iinc [some (vR _), some (vI _), some (vI _), some (vI _), some (vI _), some (vI _)] d33_28 rfl rfl ?_
    refine x_goto (t := 3) d33_31 rfl ?_
    exact ih2 (by omega) _ ⟨S, hcc, hss, hpw, hf3⟩
theorem C31 {d : Nat} {h : Hp} {x : Int} (qx : 0 ≤ x ∧ x ≤ 106) {r : Int} (S : Hu r h) {x3 y3 : Int} (hpw : hI h 3 0 = x3 ∧ hI h 3 1 = y3) (p24 : 0 ≤ x3 * y3 ∧ x3 * y3 ≤ 24) : PU DA (d + 1) 31 [vR (some 3), vI x] h (fun g => Hu r g ∧ (hI g 3 0 = x3 ∧ hI g 3 1 = y3) ∧ hC g = hC h ∧ hS g = hS h) := by
  refine PU_of (fun Q hQ => ?_)
  have V := Vis_DA
  obtain ⟨c0, s0, hcc, hss⟩ : ∃ c0 s0, hC h = c0 ∧ hS h = s0 := ⟨_, _, rfl, rfl⟩
  have V := Vis_DA
  refine x_ent en31 ?_
  refine x_iload_n d31_0 rfl ?_
  refine x_nm (fun w1_1 ew1_1 => ?_)
  refine x_istore_n [some (vR _), some (vI _), some (vI _), none, none, none, none, none] d31_1 rfl ?_
  refine x_iconst d31_2 ?_
  refine x_nm (fun w3_2 ew3_2 => ?_)
  refine x_istore_n [some (vR _), some (vI _), some (vI _), some (vI _), none, none, none, none] d31_3 rfl ?_
  refine (x_ub (N := 24) (P := fun i3 => ∀ h : Hp, (Hu r h ∧ hC h = c0 ∧ hS h = s0 ∧ (hI h 3 0 = x3 ∧ hI h 3 1 = y3)) → ∀ s3_2 : Int, (0 ≤ s3_2 ∧ s3_2 ≤ 106) → ∀ t3_4 : Option XV, ∀ t3_5 : Option XV, ∀ t3_6 : Option XV, ∀ t3_7 : Option XV, wp DA (d + 1) 31 4 [some (vR (some 3)), some (vI x), some (vI s3_2), some (vI i3), t3_4, t3_5, t3_6, t3_7] [] h Q) w3_2 (by omega) (fun i3 hi3 hj3 ih3 h hh3 s3_2 hs3_2 t3_4 t3_5 t3_6 t3_7 => ?_)) _ ⟨S, hcc, hss, hpw⟩ _ (by omega) _ _ _ _
  obtain ⟨S, hcc, hss, hpw⟩ := hh3
  refine x_iload_n d31_4 rfl ?_
  refine x_aload_n d31_5 rfl ?_
  refine x_VE d31_6 cl31 m5_31 kd30 tg30 po30 le30 (by decide) (S.F.o rfl (by decide)) (C30u Vis_DA S) (fun v4 r4 z4 => ?_)
  try dsimp only at r4
  have h9 := r4
  rw [hpw.1, hpw.2] at h9
  refine x_icge (t := 101) d31_9 rfl (by omega) (fun c9_5 => ?_) (fun c9_5 => ?_)
  · exact x_ret d31_101 rt31 (hQ _ ⟨S, hpw, by omega, by omega⟩)
  · have hlt : i3 < 24 := by omega
    refine x_iload_n d31_12 rfl ?_
    refine x_SE d31_13 cl31 m5_43 kd32 po32 le32 (C32 (by omega)) (fun v6 r6 z6 => ?_)
    try dsimp only at r6
    refine x_nm (fun w16_7 ew16_7 => ?_)
    refine x_istore_n [some (vR _), some (vI _), some (vI _), some (vI _), _, _, _, _] d31_16 rfl ?_
    refine x_iload_n d31_17 rfl ?_
    refine x_iconst d31_18 ?_
    refine x_irem d31_19 (by omega) ?_
    refine x_nm (fun w20_8 ew20_8 => ?_)
    refine x_istore [some (vR _), some (vI _), some (vI _), some (vI _), some (vI _), _, _, _] d31_20 rfl ?_
    have h20 : 0 ≤ w20_8 ∧ w20_8 < 3 := by rw [ew20_8]; exact tmd (by omega) (by decide)
    refine x_iconst d31_22 ?_
    refine x_nm (fun w23_9 ew23_9 => ?_)
    refine x_istore [some (vR _), some (vI _), some (vI _), some (vI _), some (vI _), some (vI _), _, _] d31_23 rfl ?_
    refine (x_ub (N := 3) (P := fun i10 => ∀ h : Hp, (Hu r h ∧ hC h = c0 ∧ hS h = s0 ∧ (hI h 3 0 = x3 ∧ hI h 3 1 = y3)) → ∀ s10_2 : Int, (0 ≤ s10_2 ∧ s10_2 ≤ 106) → ∀ t10_6 : Option XV, ∀ t10_7 : Option XV, wp DA (d + 1) 31 25 [some (vR (some 3)), some (vI x), some (vI s10_2), some (vI i3), some (vI w20_8), some (vI i10), t10_6, t10_7] [] h Q) w23_9 (by omega) (fun i10 hi10 hj10 ih10 h hh10 s10_2 hs10_2 t10_6 t10_7 => ?_)) _ ⟨S, hcc, hss, hpw⟩ _ (by omega) _ _
    obtain ⟨S, hcc, hss, hpw⟩ := hh10
    refine x_iload d31_25 rfl ?_
    refine x_iload d31_27 rfl ?_
    refine x_icge (t := 95) d31_29 rfl (by omega) (fun c29_11 => ?_) (fun c29_11 => ?_)
    · refine x_iinc [some (vR _), some (vI _), some (vI _), some (vI _), some (vI _), some (vI _), _, _] d31_95 rfl rfl ?_
      refine x_goto (t := 4) d31_98 rfl ?_
      exact ih3 (by omega) _ ⟨S, hcc, hss, hpw⟩ _ (by omega) _ _ _ _
    · refine x_aload_n d31_32 rfl ?_
      refine x_gfI d31_33 cl31 f5_22 (by decide) (S.F.o rfl (by decide)) rfl ?_
      have g12 := S.pl.2.2.1
      refine x_bipush d31_36 (by decide) ?_
      refine x_icge (t := 95) d31_38 rfl (by omega) (fun c38_13 => ?_) (fun c38_13 => ?_)
      · refine x_iinc [some (vR _), some (vI _), some (vI _), some (vI _), some (vI _), some (vI _), _, _] d31_95 rfl rfl ?_
        refine x_goto (t := 4) d31_98 rfl ?_
        exact ih3 (by omega) _ ⟨S, hcc, hss, hpw⟩ _ (by omega) _ _ _ _
      · refine x_iload_n d31_41 rfl ?_
        refine x_SE d31_42 cl31 m5_43 kd32 po32 le32 (C32 (by omega)) (fun v14 r14 z14 => ?_)
        try dsimp only at r14
        refine x_nm (fun w45_15 ew45_15 => ?_)
        refine x_istore_n [some (vR _), some (vI _), some (vI _), some (vI _), some (vI _), some (vI _), _, _] d31_45 rfl ?_
        refine x_iload_n d31_46 rfl ?_
        refine x_bipush d31_47 (by decide) ?_
        refine x_irem d31_49 (by omega) ?_
        refine x_nm (fun w50_16 ew50_16 => ?_)
        refine x_istore [some (vR _), some (vI _), some (vI _), some (vI _), some (vI _), some (vI _), some (vI _), _] d31_50 rfl ?_
        have h50 : 0 ≤ w50_16 ∧ w50_16 < 10 := by rw [ew50_16]; exact tmd (by omega) (by decide)
        refine x_iload_n d31_52 rfl ?_
        refine x_SE d31_53 cl31 m5_43 kd32 po32 le32 (C32 (by omega)) (fun v17 r17 z17 => ?_)
        try dsimp only at r17
        refine x_nm (fun w56_18 ew56_18 => ?_)
        refine x_istore_n [some (vR _), some (vI _), some (vI _), some (vI _), some (vI _), some (vI _), some (vI _), _] d31_56 rfl ?_
        refine x_iload_n d31_57 rfl ?_
        refine x_bipush d31_58 (by decide) ?_
        refine x_irem d31_60 (by omega) ?_
        refine x_nm (fun w61_19 ew61_19 => ?_)
        refine x_istore [some (vR _), some (vI _), some (vI _), some (vI _), some (vI _), some (vI _), some (vI _), some (vI _)] d31_61 rfl ?_
        have h61 : 0 ≤ w61_19 ∧ w61_19 < 8 := by rw [ew61_19]; exact tmd (by omega) (by decide)
        refine x_iload_n d31_63 rfl ?_
        refine x_SE d31_64 cl31 m5_43 kd32 po32 le32 (C32 (by omega)) (fun v20 r20 z20 => ?_)
        try dsimp only at r20
        refine x_nm (fun w67_21 ew67_21 => ?_)
        refine x_istore_n [some (vR _), some (vI _), some (vI _), some (vI _), some (vI _), some (vI _), some (vI _), some (vI _)] d31_67 rfl ?_
        refine x_aload_n d31_68 rfl ?_
        refine x_iload_n d31_69 rfl ?_
        refine x_iload d31_70 rfl ?_
        refine x_iload d31_72 rfl ?_
        refine x_iload d31_74 rfl ?_
        refine x_iload_n d31_76 rfl ?_
        refine x_bipush d31_77 (by decide) ?_
        have h78 := tmd (x := w67_21) (k := 8) (by omega) (by decide)
        refine x_irem d31_79 (by omega) ?_
        refine x_iadd d31_80 ?_
        refine x_bipush d31_81 (by decide) ?_
        refine x_nat d31_83 cl31 m5_47 (by decide) (popN_of (q := [vI _, vI _]) (show mArg 903 = 2 by decide +kernel) rfl rfl) (by exact Nat.le_of_ble_eq_true rfl) (nat_903 (by omega)) ?_
        refine x_nm (fun m83 em83 => ?_)
        try dsimp only at em83
        have hm83 : 0 ≤ m83 ∧ m83 < 8 := by rw [em83]; split <;> omega
        refine x_VU d31_86 cl31 m5_53 kd33 tg33 po33 le33 (by decide) (S.F.o rfl (by decide)) (C33 (by omega) (by omega) (by omega) (by omega) S (by omega) hpw) (fun h q22 => ?_)
        obtain ⟨S, hpw, hc9, hs9⟩ := q22
        have hcc := hc9.trans hcc
        have hss := hs9.trans hss
        refine x_iinc [some (vR _), some (vI _), some (vI _), some (vI _), some (vI _), some (vI _), some (vI _), some (vI _)] d31_89 rfl rfl ?_
        refine x_goto (t := 25) d31_92 rfl ?_
        exact ih10 (by omega) _ ⟨S, hcc, hss, hpw⟩ _ (by omega) _ _
theorem pos24u {r : Int} {h : Hp} (S : Hu r h) : 0 ≤ hI h 3 0 * hI h 3 1 ∧ hI h 3 0 * hI h 3 1 ≤ 24 := by
  have h1 := S.pl.1
  have h2 := S.pl.2.1
  generalize hI h 3 0 = a at h1 ⊢
  generalize hI h 3 1 = b at h2 ⊢
  rcases (show b = 0 ∨ b = 1 ∨ b = 2 ∨ b = 3 ∨ b = 4 by omega) with e | e | e | e | e <;> subst e <;> omega
theorem posp {a b : Int} (h1 : 2 ≤ a) (h2 : 2 ≤ b) : 0 < a * b := Int.mul_pos (by omega) (by omega)
theorem C87 {d : Nat} {h : Hp} {x : Int} (qx : 0 ≤ x ∧ x ≤ 99) {r : Int} (S : Hu r h) (hp2 : 2 ≤ hI h 3 0 ∧ 2 ≤ hI h 3 1) : PW DA (d + 2) 87 [vR (some 2), vI x] h (fun w g => ∃ v : Int, w = vI v ∧ Hu r g ∧ hC g = hC h ∧ hS g = hS h) := by
  refine PW_of (fun Q hQ => ?_)
  have V := Vis_DA
  obtain ⟨c0, s0, hcc, hss⟩ : ∃ c0 s0, hC h = c0 ∧ hS h = s0 := ⟨_, _, rfl, rfl⟩
  have V := Vis_DA
  have hp24 := pos24u S
  have hpos := posp hp2.1 hp2.2
  refine x_ent en87 ?_
  refine x_iload_n d87_0 rfl ?_
  refine x_iconst d87_1 ?_
  refine x_bipush d87_2 (by decide) ?_
  refine x_SE d87_4 cl87 m11_84 kd83 po83 le83 (C83 (by omega) (by omega) (by omega)) (fun v1 r1 z1 => ?_)
  try dsimp only at r1
  refine x_SN d87_7 cl87 m11_88 kd84 po84 le84 (C84 (by omega)) ?_
  refine x_aload_n d87_10 rfl ?_
  refine x_gfR d87_11 cl87 f11_10 (S.F.o rfl (by decide)) rfl (S.F.r rfl) ?_
  refine x_VE d87_14 cl87 m11_104 kd30 tg30 po30 le30 (by decide) (S.F.o rfl (by decide)) (C30u Vis_DA S) (fun v3 r3 z3 => ?_)
  try dsimp only at r3
  refine x_ifle (t := 34) d87_17 rfl (by omega) (fun c17_4 => ?_) (fun c17_4 => ?_)
  · refine x_iconst d87_34 ?_
    refine x_SN d87_35 cl87 m11_122 kd88 po88 le88 (C88 (by omega)) ?_
    refine x_aload_n d87_38 rfl ?_
    refine x_gfR d87_39 cl87 f11_10 (S.F.o rfl (by decide)) rfl (S.F.r rfl) ?_
    refine x_iload_n d87_42 rfl ?_
    refine x_VU d87_43 cl87 m11_149 kd31 tg31 po31 le31 (by decide) (S.F.o rfl (by decide)) (C31 (by omega) S ⟨rfl, rfl⟩ hp24) (fun h q6 => ?_)
    obtain ⟨S, hpw, hc9, hs9⟩ := q6
    have hcc := hc9.trans hcc
    have hss := hs9.trans hss
    refine x_aload_n d87_46 rfl ?_
    refine x_gfR d87_47 cl87 f11_10 (S.F.o rfl (by decide)) rfl (S.F.r rfl) ?_
    refine x_gfI d87_50 cl87 f11_118 (by decide) (S.F.o rfl (by decide)) rfl ?_
    have g7 := S.pl.2.2.1
    exact x_iret d87_53 rt87 (hQ _ _ ⟨S, by omega, by omega⟩)
  · refine x_aload_n d87_20 rfl ?_
    refine x_gfR d87_21 cl87 f11_19 (S.F.o rfl (by decide)) rfl (S.F.r rfl) ?_
    refine x_VE d87_24 cl87 m11_145 kd167 tg167 po167 le167 (by decide) (S.F.o rfl (by decide)) (C167 (l := 5) V S (by unfold isLs; decide)) (fun v24 r24 z24 => ?_)
    try dsimp only at r24
    refine x_ifeq (t := 34) d87_27 rfl (by omega) (fun c27_8 => ?_) (fun c27_8 => ?_)
    · refine x_iconst d87_34 ?_
      refine x_SN d87_35 cl87 m11_122 kd88 po88 le88 (C88 (by omega)) ?_
      refine x_aload_n d87_38 rfl ?_
      refine x_gfR d87_39 cl87 f11_10 (S.F.o rfl (by decide)) rfl (S.F.r rfl) ?_
      refine x_iload_n d87_42 rfl ?_
      refine x_VU d87_43 cl87 m11_149 kd31 tg31 po31 le31 (by decide) (S.F.o rfl (by decide)) (C31 (by omega) S ⟨rfl, rfl⟩ hp24) (fun h q10 => ?_)
      obtain ⟨S, hpw, hc9, hs9⟩ := q10
      have hcc := hc9.trans hcc
      have hss := hs9.trans hss
      refine x_aload_n d87_46 rfl ?_
      refine x_gfR d87_47 cl87 f11_10 (S.F.o rfl (by decide)) rfl (S.F.r rfl) ?_
      refine x_gfI d87_50 cl87 f11_118 (by decide) (S.F.o rfl (by decide)) rfl ?_
      have g11 := S.pl.2.2.1
      exact x_iret d87_53 rt87 (hQ _ _ ⟨S, by omega, by omega⟩)
    · refine x_iconst d87_30 ?_
      refine x_goto (t := 35) d87_31 rfl ?_
      refine x_SN d87_35 cl87 m11_122 kd88 po88 le88 (C88 (by omega)) ?_
      refine x_aload_n d87_38 rfl ?_
      refine x_gfR d87_39 cl87 f11_10 (S.F.o rfl (by decide)) rfl (S.F.r rfl) ?_
      refine x_iload_n d87_42 rfl ?_
      refine x_VU d87_43 cl87 m11_149 kd31 tg31 po31 le31 (by decide) (S.F.o rfl (by decide)) (C31 (by omega) S ⟨rfl, rfl⟩ hp24) (fun h q13 => ?_)
      obtain ⟨S, hpw, hc9, hs9⟩ := q13
      have hcc := hc9.trans hcc
      have hss := hs9.trans hss
      refine x_aload_n d87_46 rfl ?_
      refine x_gfR d87_47 cl87 f11_10 (S.F.o rfl (by decide)) rfl (S.F.r rfl) ?_
      refine x_gfI d87_50 cl87 f11_118 (by decide) (S.F.o rfl (by decide)) rfl ?_
      have g14 := S.pl.2.2.1
      exact x_iret d87_53 rt87 (hQ _ _ ⟨S, by omega, by omega⟩)
theorem C38 {d : Nat} {h : Hp} {x y w z : Int} (qx : 0 ≤ x ∧ x ≤ 999) (qy : 0 ≤ y ∧ y ≤ 2) (qw : 1 ≤ w ∧ w ≤ 4) (qz : 1 ≤ z ∧ z ≤ 99) (S : Hu 0 h) : PW DA (d + 0) 38 [vR (some 37), vI x, vI y, vI w, vI z] h (fun w g => ∃ v : Int, w = vI v ∧ Hu 1 g ∧ hC g = hC h ∧ hS g = hS h) := by
  refine PW_of (fun Q hQ => ?_)
  have V := Vis_DA
  obtain ⟨c0, s0, hcc, hss⟩ : ∃ c0 s0, hC h = c0 ∧ hS h = s0 := ⟨_, _, rfl, rfl⟩
  have hr0 : hI h 37 2 = 0 := by have := S.rates; omega
  refine x_ent en38 ?_
  refine x_aload_n d38_0 rfl ?_
  refine x_gfR d38_1 cl38 f6_18 (S.F.o rfl (by decide)) rfl (S.F.r rfl) ?_
  refine x_aload_n d38_4 rfl ?_
  refine x_gfI d38_5 cl38 f6_46 (by decide) (S.F.o rfl (by decide)) rfl ?_
  have g1 := S.rates
  refine x_iload_n d38_8 rfl ?_
  refine x_iastore d38_9 (by decide) (S.F.o rfl (by decide)) ⟨by omega, by rw [(S.F.l (a := 40) (n := 16) (by decide) rfl)]; omega⟩ rfl (x_wr (fun g => Hu 0 g ∧ hC g = c0 ∧ hS g = s0 ∧ hI g 37 2 = 0) ⟨Hu_w S rfl (by omega), hcc, hss, hr0⟩ (fun h q2 => ?_))
  obtain ⟨S, hcc, hss, hr0⟩ := q2
  refine x_aload_n d38_10 rfl ?_
  refine x_gfR d38_11 cl38 f6_21 (S.F.o rfl (by decide)) rfl (S.F.r rfl) ?_
  refine x_aload_n d38_14 rfl ?_
  refine x_gfI d38_15 cl38 f6_46 (by decide) (S.F.o rfl (by decide)) rfl ?_
  have g3 := S.rates
  refine x_iload_n d38_18 rfl ?_
  refine x_iastore d38_19 (by decide) (S.F.o rfl (by decide)) ⟨by omega, by rw [(S.F.l (a := 41) (n := 16) (by decide) rfl)]; omega⟩ rfl (x_wr (fun g => Hu 0 g ∧ hC g = c0 ∧ hS g = s0 ∧ hI g 37 2 = 0) ⟨Hu_w S rfl (by omega), hcc, hss, hr0⟩ (fun h q4 => ?_))
  obtain ⟨S, hcc, hss, hr0⟩ := q4
  refine x_aload_n d38_20 rfl ?_
  refine x_gfR d38_21 cl38 f6_24 (S.F.o rfl (by decide)) rfl (S.F.r rfl) ?_
  refine x_aload_n d38_24 rfl ?_
  refine x_gfI d38_25 cl38 f6_46 (by decide) (S.F.o rfl (by decide)) rfl ?_
  have g5 := S.rates
  refine x_iload_n d38_28 rfl ?_
  refine x_iastore d38_29 (by decide) (S.F.o rfl (by decide)) ⟨by omega, by rw [(S.F.l (a := 42) (n := 16) (by decide) rfl)]; omega⟩ rfl (x_wr (fun g => Hu 0 g ∧ hC g = c0 ∧ hS g = s0 ∧ hI g 37 2 = 0) ⟨Hu_w S rfl (by omega), hcc, hss, hr0⟩ (fun h q6 => ?_))
  obtain ⟨S, hcc, hss, hr0⟩ := q6
  refine x_aload_n d38_30 rfl ?_
  refine x_gfR d38_31 cl38 f6_27 (S.F.o rfl (by decide)) rfl (S.F.r rfl) ?_
  refine x_aload_n d38_34 rfl ?_
  refine x_gfI d38_35 cl38 f6_46 (by decide) (S.F.o rfl (by decide)) rfl ?_
  have g7 := S.rates
  refine x_iload d38_38 rfl ?_
  refine x_iastore d38_40 (by decide) (S.F.o rfl (by decide)) ⟨by omega, by rw [(S.F.l (a := 43) (n := 16) (by decide) rfl)]; omega⟩ rfl (x_wr (fun g => Hu 0 g ∧ hC g = c0 ∧ hS g = s0 ∧ hI g 37 2 = 0) ⟨Hu_w S rfl (by omega), hcc, hss, hr0⟩ (fun h q8 => ?_))
  obtain ⟨S, hcc, hss, hr0⟩ := q8
  refine x_aload_n d38_41 rfl ?_
  refine x_dupR d38_42 ?_
  refine x_gfI d38_43 cl38 f6_46 (by decide) (S.F.o rfl (by decide)) rfl ?_
  have g9 := S.rates
  refine x_iconst d38_46 ?_
  refine x_iadd d38_47 ?_
  refine x_pfI d38_48 cl38 f6_46 (S.F.o rfl (by decide)) rfl (fun q => by cases q) (x_wr (fun g => Hu 1 g ∧ hC g = c0 ∧ hS g = s0) ⟨Hu_w (Hu_r S (by decide)) rfl (by omega), hcc, hss⟩ (fun h q10 => ?_))
  obtain ⟨S, hcc, hss⟩ := q10
  refine x_aload_n d38_51 rfl ?_
  refine x_gfI d38_52 cl38 f6_46 (by decide) (S.F.o rfl (by decide)) rfl ?_
  have g11 := S.rates
  refine x_iconst d38_55 ?_
  refine x_isub d38_56 ?_
  exact x_iret d38_57 rt38 (hQ _ _ ⟨S, by omega, by omega⟩)
theorem C89 {d : Nat} {h : Hp} {x y w z : Int} (qx : 0 ≤ x ∧ x ≤ 999) (qy : 0 ≤ y ∧ y ≤ 2) (qw : 1 ≤ w ∧ w ≤ 4) (qz : 1 ≤ z ∧ z ≤ 99) (S : Hu 0 h) : PW DA (d + 2) 89 [vR (some 2), vI x, vI y, vI w, vI z] h (fun w g => ∃ v : Int, w = vI v ∧ Hu 1 g ∧ hC g = hC h ∧ hS g = hS h) := by
  refine PW_of (fun Q hQ => ?_)
  have V := Vis_DA
  obtain ⟨c0, s0, hcc, hss⟩ : ∃ c0 s0, hC h = c0 ∧ hS h = s0 := ⟨_, _, rfl, rfl⟩
  refine x_ent en89 ?_
  refine x_iload_n d89_0 rfl ?_
  refine x_SE d89_1 cl89 m11_276 kd90 po90 le90 (C90 (by omega)) (fun v1 r1 z1 => ?_)
  try dsimp only at r1
  refine x_ifeq (t := 40) d89_4 rfl (by omega) (fun c4_2 => ?_) (fun c4_2 => ?_)
  · refine x_iconst d89_40 ?_
    refine x_SN d89_41 cl89 m11_88 kd84 po84 le84 (C84 (by omega)) ?_
    refine x_aload_n d89_44 rfl ?_
    refine x_gfR d89_45 cl89 f11_33 (S.F.o rfl (by decide)) rfl (S.F.r rfl) ?_
    refine x_gfI d89_48 cl89 f11_279 (by decide) (S.F.o rfl (by decide)) rfl ?_
    have g4 := S.rates
    refine x_bipush d89_51 (by decide) ?_
    refine x_icge (t := 60) d89_53 rfl (by omega) (fun c53_5 => ?_) (fun c53_5 => ?_)
    · refine x_iconst d89_60 ?_
      refine x_SN d89_61 cl89 m11_122 kd88 po88 le88 (C88 (by omega)) ?_
      refine x_aload_n d89_64 rfl ?_
      refine x_gfR d89_65 cl89 f11_33 (S.F.o rfl (by decide)) rfl (S.F.r rfl) ?_
      refine x_iload_n d89_68 rfl ?_
      refine x_iload_n d89_69 rfl ?_
      refine x_iload_n d89_70 rfl ?_
      refine x_iload d89_71 rfl ?_
      refine x_VW d89_73 cl89 m11_282 kd38 tg38 po38 le38 (by decide) (S.F.o rfl (by decide)) (C38 (by omega) (by omega) (by omega) (by omega) S) (fun v7 h q7 => ?_)
      obtain ⟨v7, rfl, q7⟩ := q7
      obtain ⟨S, hc9, hs9⟩ := q7
      have hcc := hc9.trans hcc
      have hss := hs9.trans hss
      exact x_iret d89_76 rt89 (hQ _ _ ⟨S, by omega, by omega⟩)
    · refine x_iconst d89_56 ?_
      refine x_goto (t := 61) d89_57 rfl ?_
      refine x_SN d89_61 cl89 m11_122 kd88 po88 le88 (C88 (by omega)) ?_
      refine x_aload_n d89_64 rfl ?_
      refine x_gfR d89_65 cl89 f11_33 (S.F.o rfl (by decide)) rfl (S.F.r rfl) ?_
      refine x_iload_n d89_68 rfl ?_
      refine x_iload_n d89_69 rfl ?_
      refine x_iload_n d89_70 rfl ?_
      refine x_iload d89_71 rfl ?_
      refine x_VW d89_73 cl89 m11_282 kd38 tg38 po38 le38 (by decide) (S.F.o rfl (by decide)) (C38 (by omega) (by omega) (by omega) (by omega) S) (fun v9 h q9 => ?_)
      obtain ⟨v9, rfl, q9⟩ := q9
      obtain ⟨S, hc9, hs9⟩ := q9
      have hcc := hc9.trans hcc
      have hss := hs9.trans hss
      exact x_iret d89_76 rt89 (hQ _ _ ⟨S, by omega, by omega⟩)
  · refine x_iload_n d89_7 rfl ?_
    refine x_iconst d89_8 ?_
    refine x_iconst d89_9 ?_
    refine x_SE d89_10 cl89 m11_84 kd83 po83 le83 (C83 (by omega) (by omega) (by omega)) (fun v10 r10 z10 => ?_)
    try dsimp only at r10
    refine x_ifeq (t := 40) d89_13 rfl (by omega) (fun c13_11 => ?_) (fun c13_11 => ?_)
    · refine x_iconst d89_40 ?_
      refine x_SN d89_41 cl89 m11_88 kd84 po84 le84 (C84 (by omega)) ?_
      refine x_aload_n d89_44 rfl ?_
      refine x_gfR d89_45 cl89 f11_33 (S.F.o rfl (by decide)) rfl (S.F.r rfl) ?_
      refine x_gfI d89_48 cl89 f11_279 (by decide) (S.F.o rfl (by decide)) rfl ?_
      have g13 := S.rates
      refine x_bipush d89_51 (by decide) ?_
      refine x_icge (t := 60) d89_53 rfl (by omega) (fun c53_14 => ?_) (fun c53_14 => ?_)
      · refine x_iconst d89_60 ?_
        refine x_SN d89_61 cl89 m11_122 kd88 po88 le88 (C88 (by omega)) ?_
        refine x_aload_n d89_64 rfl ?_
        refine x_gfR d89_65 cl89 f11_33 (S.F.o rfl (by decide)) rfl (S.F.r rfl) ?_
        refine x_iload_n d89_68 rfl ?_
        refine x_iload_n d89_69 rfl ?_
        refine x_iload_n d89_70 rfl ?_
        refine x_iload d89_71 rfl ?_
        refine x_VW d89_73 cl89 m11_282 kd38 tg38 po38 le38 (by decide) (S.F.o rfl (by decide)) (C38 (by omega) (by omega) (by omega) (by omega) S) (fun v16 h q16 => ?_)
        obtain ⟨v16, rfl, q16⟩ := q16
        obtain ⟨S, hc9, hs9⟩ := q16
        have hcc := hc9.trans hcc
        have hss := hs9.trans hss
        exact x_iret d89_76 rt89 (hQ _ _ ⟨S, by omega, by omega⟩)
      · refine x_iconst d89_56 ?_
        refine x_goto (t := 61) d89_57 rfl ?_
        refine x_SN d89_61 cl89 m11_122 kd88 po88 le88 (C88 (by omega)) ?_
        refine x_aload_n d89_64 rfl ?_
        refine x_gfR d89_65 cl89 f11_33 (S.F.o rfl (by decide)) rfl (S.F.r rfl) ?_
        refine x_iload_n d89_68 rfl ?_
        refine x_iload_n d89_69 rfl ?_
        refine x_iload_n d89_70 rfl ?_
        refine x_iload d89_71 rfl ?_
        refine x_VW d89_73 cl89 m11_282 kd38 tg38 po38 le38 (by decide) (S.F.o rfl (by decide)) (C38 (by omega) (by omega) (by omega) (by omega) S) (fun v18 h q18 => ?_)
        obtain ⟨v18, rfl, q18⟩ := q18
        obtain ⟨S, hc9, hs9⟩ := q18
        have hcc := hc9.trans hcc
        have hss := hs9.trans hss
        exact x_iret d89_76 rt89 (hQ _ _ ⟨S, by omega, by omega⟩)
    · refine x_iload_n d89_16 rfl ?_
      refine x_iconst d89_17 ?_
      refine x_iconst d89_18 ?_
      refine x_SE d89_19 cl89 m11_84 kd83 po83 le83 (C83 (by omega) (by omega) (by omega)) (fun v19 r19 z19 => ?_)
      try dsimp only at r19
      refine x_ifeq (t := 40) d89_22 rfl (by omega) (fun c22_20 => ?_) (fun c22_20 => ?_)
      · refine x_iconst d89_40 ?_
        refine x_SN d89_41 cl89 m11_88 kd84 po84 le84 (C84 (by omega)) ?_
        refine x_aload_n d89_44 rfl ?_
        refine x_gfR d89_45 cl89 f11_33 (S.F.o rfl (by decide)) rfl (S.F.r rfl) ?_
        refine x_gfI d89_48 cl89 f11_279 (by decide) (S.F.o rfl (by decide)) rfl ?_
        have g22 := S.rates
        refine x_bipush d89_51 (by decide) ?_
        refine x_icge (t := 60) d89_53 rfl (by omega) (fun c53_23 => ?_) (fun c53_23 => ?_)
        · refine x_iconst d89_60 ?_
          refine x_SN d89_61 cl89 m11_122 kd88 po88 le88 (C88 (by omega)) ?_
          refine x_aload_n d89_64 rfl ?_
          refine x_gfR d89_65 cl89 f11_33 (S.F.o rfl (by decide)) rfl (S.F.r rfl) ?_
          refine x_iload_n d89_68 rfl ?_
          refine x_iload_n d89_69 rfl ?_
          refine x_iload_n d89_70 rfl ?_
          refine x_iload d89_71 rfl ?_
          refine x_VW d89_73 cl89 m11_282 kd38 tg38 po38 le38 (by decide) (S.F.o rfl (by decide)) (C38 (by omega) (by omega) (by omega) (by omega) S) (fun v25 h q25 => ?_)
          obtain ⟨v25, rfl, q25⟩ := q25
          obtain ⟨S, hc9, hs9⟩ := q25
          have hcc := hc9.trans hcc
          have hss := hs9.trans hss
          exact x_iret d89_76 rt89 (hQ _ _ ⟨S, by omega, by omega⟩)
        · refine x_iconst d89_56 ?_
          refine x_goto (t := 61) d89_57 rfl ?_
          refine x_SN d89_61 cl89 m11_122 kd88 po88 le88 (C88 (by omega)) ?_
          refine x_aload_n d89_64 rfl ?_
          refine x_gfR d89_65 cl89 f11_33 (S.F.o rfl (by decide)) rfl (S.F.r rfl) ?_
          refine x_iload_n d89_68 rfl ?_
          refine x_iload_n d89_69 rfl ?_
          refine x_iload_n d89_70 rfl ?_
          refine x_iload d89_71 rfl ?_
          refine x_VW d89_73 cl89 m11_282 kd38 tg38 po38 le38 (by decide) (S.F.o rfl (by decide)) (C38 (by omega) (by omega) (by omega) (by omega) S) (fun v27 h q27 => ?_)
          obtain ⟨v27, rfl, q27⟩ := q27
          obtain ⟨S, hc9, hs9⟩ := q27
          have hcc := hc9.trans hcc
          have hss := hs9.trans hss
          exact x_iret d89_76 rt89 (hQ _ _ ⟨S, by omega, by omega⟩)
      · refine x_iload d89_25 rfl ?_
        refine x_iconst d89_27 ?_
        refine x_bipush d89_28 (by decide) ?_
        refine x_SE d89_30 cl89 m11_84 kd83 po83 le83 (C83 (by omega) (by omega) (by omega)) (fun v28 r28 z28 => ?_)
        try dsimp only at r28
        refine x_ifeq (t := 40) d89_33 rfl (by omega) (fun c33_29 => ?_) (fun c33_29 => ?_)
        · refine x_iconst d89_40 ?_
          refine x_SN d89_41 cl89 m11_88 kd84 po84 le84 (C84 (by omega)) ?_
          refine x_aload_n d89_44 rfl ?_
          refine x_gfR d89_45 cl89 f11_33 (S.F.o rfl (by decide)) rfl (S.F.r rfl) ?_
          refine x_gfI d89_48 cl89 f11_279 (by decide) (S.F.o rfl (by decide)) rfl ?_
          have g31 := S.rates
          refine x_bipush d89_51 (by decide) ?_
          refine x_icge (t := 60) d89_53 rfl (by omega) (fun c53_32 => ?_) (fun c53_32 => ?_)
          · refine x_iconst d89_60 ?_
            refine x_SN d89_61 cl89 m11_122 kd88 po88 le88 (C88 (by omega)) ?_
            refine x_aload_n d89_64 rfl ?_
            refine x_gfR d89_65 cl89 f11_33 (S.F.o rfl (by decide)) rfl (S.F.r rfl) ?_
            refine x_iload_n d89_68 rfl ?_
            refine x_iload_n d89_69 rfl ?_
            refine x_iload_n d89_70 rfl ?_
            refine x_iload d89_71 rfl ?_
            refine x_VW d89_73 cl89 m11_282 kd38 tg38 po38 le38 (by decide) (S.F.o rfl (by decide)) (C38 (by omega) (by omega) (by omega) (by omega) S) (fun v34 h q34 => ?_)
            obtain ⟨v34, rfl, q34⟩ := q34
            obtain ⟨S, hc9, hs9⟩ := q34
            have hcc := hc9.trans hcc
            have hss := hs9.trans hss
            exact x_iret d89_76 rt89 (hQ _ _ ⟨S, by omega, by omega⟩)
          · refine x_iconst d89_56 ?_
            refine x_goto (t := 61) d89_57 rfl ?_
            refine x_SN d89_61 cl89 m11_122 kd88 po88 le88 (C88 (by omega)) ?_
            refine x_aload_n d89_64 rfl ?_
            refine x_gfR d89_65 cl89 f11_33 (S.F.o rfl (by decide)) rfl (S.F.r rfl) ?_
            refine x_iload_n d89_68 rfl ?_
            refine x_iload_n d89_69 rfl ?_
            refine x_iload_n d89_70 rfl ?_
            refine x_iload d89_71 rfl ?_
            refine x_VW d89_73 cl89 m11_282 kd38 tg38 po38 le38 (by decide) (S.F.o rfl (by decide)) (C38 (by omega) (by omega) (by omega) (by omega) S) (fun v36 h q36 => ?_)
            obtain ⟨v36, rfl, q36⟩ := q36
            obtain ⟨S, hc9, hs9⟩ := q36
            have hcc := hc9.trans hcc
            have hss := hs9.trans hss
            exact x_iret d89_76 rt89 (hQ _ _ ⟨S, by omega, by omega⟩)
        · refine x_iconst d89_36 ?_
          refine x_goto (t := 41) d89_37 rfl ?_
          refine x_SN d89_41 cl89 m11_88 kd84 po84 le84 (C84 (by omega)) ?_
          refine x_aload_n d89_44 rfl ?_
          refine x_gfR d89_45 cl89 f11_33 (S.F.o rfl (by decide)) rfl (S.F.r rfl) ?_
          refine x_gfI d89_48 cl89 f11_279 (by decide) (S.F.o rfl (by decide)) rfl ?_
          have g38 := S.rates
          refine x_bipush d89_51 (by decide) ?_
          refine x_icge (t := 60) d89_53 rfl (by omega) (fun c53_39 => ?_) (fun c53_39 => ?_)
          · refine x_iconst d89_60 ?_
            refine x_SN d89_61 cl89 m11_122 kd88 po88 le88 (C88 (by omega)) ?_
            refine x_aload_n d89_64 rfl ?_
            refine x_gfR d89_65 cl89 f11_33 (S.F.o rfl (by decide)) rfl (S.F.r rfl) ?_
            refine x_iload_n d89_68 rfl ?_
            refine x_iload_n d89_69 rfl ?_
            refine x_iload_n d89_70 rfl ?_
            refine x_iload d89_71 rfl ?_
            refine x_VW d89_73 cl89 m11_282 kd38 tg38 po38 le38 (by decide) (S.F.o rfl (by decide)) (C38 (by omega) (by omega) (by omega) (by omega) S) (fun v41 h q41 => ?_)
            obtain ⟨v41, rfl, q41⟩ := q41
            obtain ⟨S, hc9, hs9⟩ := q41
            have hcc := hc9.trans hcc
            have hss := hs9.trans hss
            exact x_iret d89_76 rt89 (hQ _ _ ⟨S, by omega, by omega⟩)
          · refine x_iconst d89_56 ?_
            refine x_goto (t := 61) d89_57 rfl ?_
            refine x_SN d89_61 cl89 m11_122 kd88 po88 le88 (C88 (by omega)) ?_
            refine x_aload_n d89_64 rfl ?_
            refine x_gfR d89_65 cl89 f11_33 (S.F.o rfl (by decide)) rfl (S.F.r rfl) ?_
            refine x_iload_n d89_68 rfl ?_
            refine x_iload_n d89_69 rfl ?_
            refine x_iload_n d89_70 rfl ?_
            refine x_iload d89_71 rfl ?_
            refine x_VW d89_73 cl89 m11_282 kd38 tg38 po38 le38 (by decide) (S.F.o rfl (by decide)) (C38 (by omega) (by omega) (by omega) (by omega) S) (fun v43 h q43 => ?_)
            obtain ⟨v43, rfl, q43⟩ := q43
            obtain ⟨S, hc9, hs9⟩ := q43
            have hcc := hc9.trans hcc
            have hss := hs9.trans hss
            exact x_iret d89_76 rt89 (hQ _ _ ⟨S, by omega, by omega⟩)
