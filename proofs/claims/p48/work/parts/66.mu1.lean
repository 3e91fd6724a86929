/-! ===== CALLS THAT TELL ===== -/
theorem C40 {d : Nat} {h : Hp} {x : Int} (qx : 0 ≤ x ∧ x ≤ 5) {mP mC mI mD mB : Nat → Nat} {nP nC nI nD nB : Nat} (K : IV h mP mC mI mD mB nP nC nI nD nB) : PU DA (d + 0) 40 [vR (some 37), vI x] h (fun g => IV g mP mC mI mD mB nP nC nI nD nB ∧ hC g = hC h ∧ hS g = hS h) := by
  refine PU_of (fun Q hQ => ?_)
  have V := Vis_DA
  obtain ⟨S, X⟩ := K
  obtain ⟨c0, s0, hcc, hss⟩ : ∃ c0 s0, hC h = c0 ∧ hS h = s0 := ⟨_, _, rfl, rfl⟩
  refine x_ent en40 ?_
  refine x_iconst d40_0 ?_
  refine x_nm (fun w1_1 ew1_1 => ?_)
  refine x_istore_n [some (vR _), some (vI _), some (vI _), none, none] d40_1 rfl ?_
  refine (x_ub (N := 6) (P := fun i2 => ∀ h : Hp, (IV h mP mC mI mD mB nP nC nI nD nB ∧ hC h = c0 ∧ hS h = s0) → ∀ t2_3 : Option XV, ∀ t2_4 : Option XV, wp DA (d + 0) 40 2 [some (vR (some 37)), some (vI x), some (vI i2), t2_3, t2_4] [] h Q) w1_1 (by omega) (fun i2 hi2 hj2 ih2 h hh2 t2_3 t2_4 => ?_)) _ ⟨⟨S, X⟩, hcc, hss⟩ _ _
  obtain ⟨⟨S, X⟩, hcc, hss⟩ := hh2
  refine x_iload_n d40_2 rfl ?_
  refine x_bipush d40_3 (by decide) ?_
  refine x_icge (t := 80) d40_5 rfl (by omega) (fun c5_3 => ?_) (fun c5_3 => ?_)
  · exact x_ret d40_80 rt40 (hQ _ ⟨⟨S, X⟩, by omega, by omega⟩)
  · refine x_iconst d40_8 ?_
    refine x_nm (fun w9_4 ew9_4 => ?_)
    refine x_istore_n [some (vR _), some (vI _), some (vI _), some (vI _), _] d40_9 rfl ?_
    refine (x_ub (N := 6) (P := fun i5 => ∀ h : Hp, (IV h mP mC mI mD mB nP nC nI nD nB ∧ hC h = c0 ∧ hS h = s0) → ∀ t5_4 : Option XV, wp DA (d + 0) 40 10 [some (vR (some 37)), some (vI x), some (vI i2), some (vI i5), t5_4] [] h Q) w9_4 (by omega) (fun i5 hi5 hj5 ih5 h hh5 t5_4 => ?_)) _ ⟨⟨S, X⟩, hcc, hss⟩ _
    obtain ⟨⟨S, X⟩, hcc, hss⟩ := hh5
    refine x_iload_n d40_10 rfl ?_
    refine x_bipush d40_11 (by decide) ?_
    refine x_icge (t := 74) d40_13 rfl (by omega) (fun c13_6 => ?_) (fun c13_6 => ?_)
    · refine x_iinc [some (vR _), some (vI _), some (vI _), some (vI _), _] d40_74 rfl rfl ?_
      refine x_goto (t := 2) d40_77 rfl ?_
      exact ih2 (by omega) _ ⟨⟨S, X⟩, hcc, hss⟩ _ _
    · refine x_aload_n d40_16 rfl ?_
      refine x_gfR d40_17 cl40 f6_15 (S.F.o rfl (by decide)) rfl (S.F.r rfl) ?_
      refine x_iload_n d40_20 rfl ?_
      refine x_bipush d40_21 (by decide) ?_
      refine x_imul d40_23 ?_
      refine x_iload_n d40_24 rfl ?_
      refine x_iadd d40_25 ?_
      refine x_iaload d40_26 (S.F.o rfl (by decide)) ⟨by omega, by rw [(S.F.l (a := 39) (n := 36) (by decide) rfl)]; omega⟩ rfl ?_
      refine x_nm (fun a7 e7 => ?_)
      have b7 : 0 ≤ a7 ∧ a7 ≤ 1000 := by rw [e7]; exact (S.a39 _)
      refine x_aload_n d40_27 rfl ?_
      refine x_gfR d40_28 cl40 f6_15 (S.F.o rfl (by decide)) rfl (S.F.r rfl) ?_
      refine x_iload_n d40_31 rfl ?_
      refine x_bipush d40_32 (by decide) ?_
      refine x_imul d40_34 ?_
      refine x_iload_n d40_35 rfl ?_
      refine x_iadd d40_36 ?_
      refine x_iaload d40_37 (S.F.o rfl (by decide)) ⟨by omega, by rw [(S.F.l (a := 39) (n := 36) (by decide) rfl)]; omega⟩ rfl ?_
      refine x_nm (fun a8 e8 => ?_)
      have b8 : 0 ≤ a8 ∧ a8 ≤ 1000 := by rw [e8]; exact (S.a39 _)
      refine x_iadd d40_38 ?_
      refine x_nm (fun w39_9 ew39_9 => ?_)
      refine x_istore [some (vR _), some (vI _), some (vI _), some (vI _), some (vI _)] d40_39 rfl ?_
      refine x_aload_n d40_41 rfl ?_
      refine x_gfR d40_42 cl40 f6_15 (S.F.o rfl (by decide)) rfl (S.F.r rfl) ?_
      refine x_iload_n d40_45 rfl ?_
      refine x_bipush d40_46 (by decide) ?_
      refine x_imul d40_48 ?_
      refine x_iload_n d40_49 rfl ?_
      refine x_iadd d40_50 ?_
      refine x_aload_n d40_51 rfl ?_
      refine x_gfR d40_52 cl40 f6_15 (S.F.o rfl (by decide)) rfl (S.F.r rfl) ?_
      refine x_iload_n d40_55 rfl ?_
      refine x_bipush d40_56 (by decide) ?_
      refine x_imul d40_58 ?_
      refine x_iload_n d40_59 rfl ?_
      refine x_iadd d40_60 ?_
      refine x_iaload d40_61 (S.F.o rfl (by decide)) ⟨by omega, by rw [(S.F.l (a := 39) (n := 36) (by decide) rfl)]; omega⟩ rfl ?_
      refine x_nm (fun a10 e10 => ?_)
      have b10 : 0 ≤ a10 ∧ a10 ≤ 1000 := by rw [e10]; exact (S.a39 _)
      refine x_iload d40_62 rfl ?_
      refine x_nat d40_64 cl40 m6_40 (by decide) (popN_of (q := [vI _, vI _]) (show mArg 903 = 2 by decide +kernel) rfl rfl) (by exact Nat.le_of_ble_eq_true rfl) (nat_903 (by omega)) ?_
      refine x_nm (fun m64 em64 => ?_)
      try dsimp only at em64
      have hm64 : 0 ≤ m64 ∧ m64 ≤ 1000 := by rw [em64]; split <;> omega
      refine x_iastore d40_67 (by decide) (S.F.o rfl (by decide)) ⟨by omega, by rw [(S.F.l (a := 39) (n := 36) (by decide) rfl)]; omega⟩ rfl (x_wr (fun g => IV g mP mC mI mD mB nP nC nI nD nB ∧ hC g = c0 ∧ hS g = s0) ⟨⟨Hv_r39 S (by omega), EX_f S X rfl⟩, hcc, hss⟩ (fun h q11 => ?_))
      obtain ⟨⟨S, X⟩, hcc, hss⟩ := q11
      refine x_iinc [some (vR _), some (vI _), some (vI _), some (vI _), some (vI _)] d40_68 rfl rfl ?_
      refine x_goto (t := 10) d40_71 rfl ?_
      exact ih5 (by omega) _ ⟨⟨S, X⟩, hcc, hss⟩ _
theorem C39 {d : Nat} {h : Hp} {x y w : Int} (qx : 0 ≤ x ∧ x ≤ 5) (qy : 0 ≤ y ∧ y ≤ 5) (qw : 0 ≤ w ∧ w ≤ 9) {mP mC mI mD mB : Nat → Nat} {nP nC nI nD nB : Nat} (K : IV h mP mC mI mD mB nP nC nI nD nB) : PU DA (d + 1) 39 [vR (some 37), vI x, vI y, vI w] h (fun g => IV g mP mC mI mD mB nP nC nI nD nB ∧ hC g = hC h ∧ hS g = hS h) := by
  refine PU_of (fun Q hQ => ?_)
  have V := Vis_DA
  obtain ⟨S, X⟩ := K
  obtain ⟨c0, s0, hcc, hss⟩ : ∃ c0 s0, hC h = c0 ∧ hS h = s0 := ⟨_, _, rfl, rfl⟩
  refine x_ent en39 ?_
  refine x_aload_n d39_0 rfl ?_
  refine x_gfR d39_1 cl39 f6_9 (S.F.o rfl (by decide)) rfl (S.F.r rfl) ?_
  refine x_iload_n d39_4 rfl ?_
  refine x_bipush d39_5 (by decide) ?_
  refine x_imul d39_7 ?_
  refine x_iload_n d39_8 rfl ?_
  refine x_iadd d39_9 ?_
  refine x_iload_n d39_10 rfl ?_
  refine x_iastore d39_11 (by decide) (S.F.o rfl (by decide)) ⟨by omega, by rw [(S.F.l (a := 38) (n := 36) (by decide) rfl)]; omega⟩ rfl (x_wr (fun g => IV g mP mC mI mD mB nP nC nI nD nB ∧ hC g = c0 ∧ hS g = s0) ⟨⟨Hv_r38 S (by omega), EX_f S X rfl⟩, hcc, hss⟩ (fun h q1 => ?_))
  obtain ⟨⟨S, X⟩, hcc, hss⟩ := q1
  refine x_aload_n d39_12 rfl ?_
  refine x_gfR d39_13 cl39 f6_9 (S.F.o rfl (by decide)) rfl (S.F.r rfl) ?_
  refine x_iload_n d39_16 rfl ?_
  refine x_bipush d39_17 (by decide) ?_
  refine x_imul d39_19 ?_
  refine x_iload_n d39_20 rfl ?_
  refine x_iadd d39_21 ?_
  refine x_iload_n d39_22 rfl ?_
  refine x_iastore d39_23 (by decide) (S.F.o rfl (by decide)) ⟨by omega, by rw [(S.F.l (a := 38) (n := 36) (by decide) rfl)]; omega⟩ rfl (x_wr (fun g => IV g mP mC mI mD mB nP nC nI nD nB ∧ hC g = c0 ∧ hS g = s0) ⟨⟨Hv_r38 S (by omega), EX_f S X rfl⟩, hcc, hss⟩ (fun h q2 => ?_))
  obtain ⟨⟨S, X⟩, hcc, hss⟩ := q2
  refine x_iconst d39_24 ?_
  refine x_nm (fun w25_3 ew25_3 => ?_)
  refine x_istore [some (vR _), some (vI _), some (vI _), some (vI _), some (vI _), none, none] d39_25 rfl ?_
  refine (x_ub (N := 6) (P := fun i4 => ∀ h : Hp, (IV h mP mC mI mD mB nP nC nI nD nB ∧ hC h = c0 ∧ hS h = s0) → ∀ t4_5 : Option XV, ∀ t4_6 : Option XV, wp DA (d + 1) 39 27 [some (vR (some 37)), some (vI x), some (vI y), some (vI w), some (vI i4), t4_5, t4_6] [] h Q) w25_3 (by omega) (fun i4 hi4 hj4 ih4 h hh4 t4_5 t4_6 => ?_)) _ ⟨⟨S, X⟩, hcc, hss⟩ _ _
  obtain ⟨⟨S, X⟩, hcc, hss⟩ := hh4
  refine x_iload d39_27 rfl ?_
  refine x_bipush d39_29 (by decide) ?_
  refine x_icge (t := 108) d39_31 rfl (by omega) (fun c31_5 => ?_) (fun c31_5 => ?_)
  · refine x_iconst d39_108 ?_
    refine x_nm (fun w109_6 ew109_6 => ?_)
    refine x_istore [some (vR _), some (vI _), some (vI _), some (vI _), some (vI _), _, _] d39_109 rfl ?_
    refine (x_ub (N := 6) (P := fun i7 => ∀ h : Hp, (IV h mP mC mI mD mB nP nC nI nD nB ∧ hC h = c0 ∧ hS h = s0) → wp DA (d + 1) 39 111 [some (vR (some 37)), some (vI x), some (vI y), some (vI w), some (vI i7), t4_5, t4_6] [] h Q) w109_6 (by omega) (fun i7 hi7 hj7 ih7 h hh7 => ?_)) _ ⟨⟨S, X⟩, hcc, hss⟩
    obtain ⟨⟨S, X⟩, hcc, hss⟩ := hh7
    refine x_iload d39_111 rfl ?_
    refine x_bipush d39_113 (by decide) ?_
    refine x_icge (t := 130) d39_115 rfl (by omega) (fun c115_8 => ?_) (fun c115_8 => ?_)
    · exact x_ret d39_130 rt39 (hQ _ ⟨⟨S, X⟩, by omega, by omega⟩)
    · refine x_aload_n d39_118 rfl ?_
      refine x_iload d39_119 rfl ?_
      refine x_VU d39_121 cl39 m6_36 kd40 tg40 po40 le40 (by decide) (S.F.o rfl (by decide)) (C40 (by omega) ⟨S, X⟩) (fun h q9 => ?_)
      obtain ⟨⟨S, X⟩, hc9, hs9⟩ := q9
      have hcc := hc9.trans hcc
      have hss := hs9.trans hss
      refine x_iinc [some (vR _), some (vI _), some (vI _), some (vI _), some (vI _), _, _] d39_124 rfl rfl ?_
      refine x_goto (t := 111) d39_127 rfl ?_
      exact ih7 (by omega) _ ⟨⟨S, X⟩, hcc, hss⟩
  · refine x_iconst d39_34 ?_
    refine x_nm (fun w35_10 ew35_10 => ?_)
    refine x_istore [some (vR _), some (vI _), some (vI _), some (vI _), some (vI _), some (vI _), _] d39_35 rfl ?_
    refine (x_ub (N := 6) (P := fun i11 => ∀ h : Hp, (IV h mP mC mI mD mB nP nC nI nD nB ∧ hC h = c0 ∧ hS h = s0) → ∀ t11_6 : Option XV, wp DA (d + 1) 39 37 [some (vR (some 37)), some (vI x), some (vI y), some (vI w), some (vI i4), some (vI i11), t11_6] [] h Q) w35_10 (by omega) (fun i11 hi11 hj11 ih11 h hh11 t11_6 => ?_)) _ ⟨⟨S, X⟩, hcc, hss⟩ _
    obtain ⟨⟨S, X⟩, hcc, hss⟩ := hh11
    refine x_iload d39_37 rfl ?_
    refine x_bipush d39_39 (by decide) ?_
    refine x_icge (t := 102) d39_41 rfl (by omega) (fun c41_12 => ?_) (fun c41_12 => ?_)
    · refine x_iinc [some (vR _), some (vI _), some (vI _), some (vI _), some (vI _), some (vI _), _] d39_102 rfl rfl ?_
      refine x_goto (t := 27) d39_105 rfl ?_
      exact ih4 (by omega) _ ⟨⟨S, X⟩, hcc, hss⟩ _ _
    · refine x_aload_n d39_44 rfl ?_
      refine x_gfR d39_45 cl39 f6_9 (S.F.o rfl (by decide)) rfl (S.F.r rfl) ?_
      refine x_iload d39_48 rfl ?_
      refine x_bipush d39_50 (by decide) ?_
      refine x_imul d39_52 ?_
      refine x_iload d39_53 rfl ?_
      refine x_iadd d39_55 ?_
      refine x_iaload d39_56 (S.F.o rfl (by decide)) ⟨by omega, by rw [(S.F.l (a := 38) (n := 36) (by decide) rfl)]; omega⟩ rfl ?_
      refine x_nm (fun a13 e13 => ?_)
      have b13 : 0 ≤ a13 ∧ a13 ≤ 9 := by rw [e13]; exact (S.a38 _)
      refine x_nm (fun w57_14 ew57_14 => ?_)
      refine x_istore [some (vR _), some (vI _), some (vI _), some (vI _), some (vI _), some (vI _), some (vI _)] d39_57 rfl ?_
      refine x_aload_n d39_59 rfl ?_
      refine x_gfR d39_60 cl39 f6_15 (S.F.o rfl (by decide)) rfl (S.F.r rfl) ?_
      refine x_iload d39_63 rfl ?_
      refine x_bipush d39_65 (by decide) ?_
      refine x_imul d39_67 ?_
      refine x_iload d39_68 rfl ?_
      refine x_iadd d39_70 ?_
      refine x_iload d39_71 rfl ?_
      refine x_iload d39_73 rfl ?_
      refine x_icne (t := 82) d39_75 rfl (by omega) (fun c75_15 => ?_) (fun c75_15 => ?_)
      · refine x_iload d39_82 rfl ?_
        refine x_ifne (t := 93) d39_84 rfl (by omega) (fun c84_16 => ?_) (fun c84_16 => ?_)
        · refine x_iload d39_93 rfl ?_
          refine x_iastore d39_95 (by decide) (S.F.o rfl (by decide)) ⟨by omega, by rw [(S.F.l (a := 39) (n := 36) (by decide) rfl)]; omega⟩ rfl (x_wr (fun g => IV g mP mC mI mD mB nP nC nI nD nB ∧ hC g = c0 ∧ hS g = s0) ⟨⟨Hv_r39 S (by omega), EX_f S X rfl⟩, hcc, hss⟩ (fun h q17 => ?_))
          obtain ⟨⟨S, X⟩, hcc, hss⟩ := q17
          refine x_iinc [some (vR _), some (vI _), some (vI _), some (vI _), some (vI _), some (vI _), some (vI _)] d39_96 rfl rfl ?_
          refine x_goto (t := 37) d39_99 rfl ?_
          exact ih11 (by omega) _ ⟨⟨S, X⟩, hcc, hss⟩ _
        · refine x_sipush d39_87 (by decide) ?_
          refine x_goto (t := 95) d39_90 rfl ?_
          refine x_iastore d39_95 (by decide) (S.F.o rfl (by decide)) ⟨by omega, by rw [(S.F.l (a := 39) (n := 36) (by decide) rfl)]; omega⟩ rfl (x_wr (fun g => IV g mP mC mI mD mB nP nC nI nD nB ∧ hC g = c0 ∧ hS g = s0) ⟨⟨Hv_r39 S (by omega), EX_f S X rfl⟩, hcc, hss⟩ (fun h q18 => ?_))
          obtain ⟨⟨S, X⟩, hcc, hss⟩ := q18
          refine x_iinc [some (vR _), some (vI _), some (vI _), some (vI _), some (vI _), some (vI _), some (vI _)] d39_96 rfl rfl ?_
          refine x_goto (t := 37) d39_99 rfl ?_
          exact ih11 (by omega) _ ⟨⟨S, X⟩, hcc, hss⟩ _
      · refine x_iconst d39_78 ?_
        refine x_goto (t := 95) d39_79 rfl ?_
        refine x_iastore d39_95 (by decide) (S.F.o rfl (by decide)) ⟨by omega, by rw [(S.F.l (a := 39) (n := 36) (by decide) rfl)]; omega⟩ rfl (x_wr (fun g => IV g mP mC mI mD mB nP nC nI nD nB ∧ hC g = c0 ∧ hS g = s0) ⟨⟨Hv_r39 S (by omega), EX_f S X rfl⟩, hcc, hss⟩ (fun h q19 => ?_))
        obtain ⟨⟨S, X⟩, hcc, hss⟩ := q19
        refine x_iinc [some (vR _), some (vI _), some (vI _), some (vI _), some (vI _), some (vI _), some (vI _)] d39_96 rfl rfl ?_
        refine x_goto (t := 37) d39_99 rfl ?_
        exact ih11 (by omega) _ ⟨⟨S, X⟩, hcc, hss⟩ _
theorem C105 {d : Nat} {h : Hp} {x y w : Int} (qx : -2147483648 ≤ x ∧ x < 2147483648) (qy : -2147483648 ≤ y ∧ y < 2147483648) (qw : -2147483648 ≤ w ∧ w < 2147483648) {mP mC mI mD mB : Nat → Nat} {nP nC nI nD nB : Nat} (K : IV h mP mC mI mD mB nP nC nI nD nB) : MX DA (d + 2) 105 [vR (some 2), vI x, vI y, vI w] h (fun w g => ∃ v : Int, w = vI v ∧ MR h g) := by
  refine MX_of (fun Q hQ1 hQ0 => ?_)
  have V := Vis_DA
  obtain ⟨S, X⟩ := K
  obtain ⟨c0, s0, hcc, hss⟩ : ∃ c0 s0, hC h = c0 ∧ hS h = s0 := ⟨_, _, rfl, rfl⟩
  refine x_ent en105 ?_
  refine x_iload_n d105_0 rfl ?_
  refine x_SE d105_1 cl105 m11_266 kd93 po93 le93 (C93 (by omega)) (fun v1 r1 z1 => ?_)
  try dsimp only at r1
  refine x_ifeq (t := 18) d105_4 rfl (by omega) (fun c4_2 => ?_) (fun c4_2 => ?_)
  · refine x_iconst d105_18 ?_
    exact x_ck d105_19 cl105 m11_112 kd94 po94 le94 rfl (fun c => C94 c) (fun c => C94x c) (by omega) (hQ0 _ (by decide)) (fun c => absurd c (by decide))
  · refine x_iload_n d105_7 rfl ?_
    refine x_SE d105_8 cl105 m11_266 kd93 po93 le93 (C93 (by omega)) (fun v4 r4 z4 => ?_)
    try dsimp only at r4
    refine x_ifeq (t := 18) d105_11 rfl (by omega) (fun c11_5 => ?_) (fun c11_5 => ?_)
    · refine x_iconst d105_18 ?_
      exact x_ck d105_19 cl105 m11_112 kd94 po94 le94 rfl (fun c => C94 c) (fun c => C94x c) (by omega) (hQ0 _ (by decide)) (fun c => absurd c (by decide))
    · refine x_iconst d105_14 ?_
      refine x_goto (t := 19) d105_15 rfl ?_
      refine x_SN d105_19 cl105 m11_112 kd94 po94 le94 (C94 (by omega)) ?_
      refine x_iload_n d105_22 rfl ?_
      refine x_iload_n d105_23 rfl ?_
      refine x_iceq (t := 41) d105_24 rfl (by omega) (fun c24_8 => ?_) (fun c24_8 => ?_)
      · refine x_iconst d105_41 ?_
        exact x_ck d105_42 cl105 m11_88 kd84 po84 le84 rfl (fun c => C84 c) (fun c => C84x c) (by omega) (hQ0 _ (by decide)) (fun c => absurd c (by decide))
      · refine x_iload_n d105_27 rfl ?_
        refine x_iconst d105_28 ?_
        refine x_bipush d105_29 (by decide) ?_
        refine x_SE d105_31 cl105 m11_84 kd83 po83 le83 (C83 (by omega) (by omega) (by omega)) (fun v10 r10 z10 => ?_)
        try dsimp only at r10
        refine x_ifeq (t := 41) d105_34 rfl (by omega) (fun c34_11 => ?_) (fun c34_11 => ?_)
        · refine x_iconst d105_41 ?_
          exact x_ck d105_42 cl105 m11_88 kd84 po84 le84 rfl (fun c => C84 c) (fun c => C84x c) (by omega) (hQ0 _ (by decide)) (fun c => absurd c (by decide))
        · refine x_iconst d105_37 ?_
          refine x_goto (t := 42) d105_38 rfl ?_
          refine x_SN d105_42 cl105 m11_88 kd84 po84 le84 (C84 (by omega)) ?_
          refine x_aload_n d105_45 rfl ?_
          refine x_gfR d105_46 cl105 f11_33 (S.F.o rfl (by decide)) rfl (S.F.r rfl) ?_
          refine x_iload_n d105_49 rfl ?_
          refine x_iload_n d105_50 rfl ?_
          refine x_iload_n d105_51 rfl ?_
          refine x_VU d105_52 cl105 m11_269 kd39 tg39 po39 le39 (by decide) (S.F.o rfl (by decide)) (C39 (by omega) (by omega) (by omega) ⟨S, X⟩) (fun h q14 => ?_)
          obtain ⟨⟨S, X⟩, hc9, hs9⟩ := q14
          have hcc := hc9.trans hcc
          have hss := hs9.trans hss
          refine x_aload_n d105_55 rfl ?_
          refine x_gfR d105_56 cl105 f11_33 (S.F.o rfl (by decide)) rfl (S.F.r rfl) ?_
          refine x_iload_n d105_59 rfl ?_
          refine x_iload_n d105_60 rfl ?_
          refine x_VE d105_61 cl105 m11_273 kd41 tg41 po41 le41 (by decide) (S.F.o rfl (by decide)) (C41 V S (by omega) (by omega)) (fun v15 r15 z15 => ?_)
          try dsimp only at r15
          exact x_iret d105_64 rt105 (hQ1 _ _ (MR_of ⟨S, X⟩ (by omega) (by omega)))
theorem C11 {d : Nat} {h : Hp} {x y w : Int} (qx : 0 ≤ x ∧ x < 5) (qy : 0 ≤ y ∧ y < 8) (qw : 0 ≤ w ∧ w ≤ 16) {mP mC mI mD mB : Nat → Nat} {nP nC nI nD nB : Nat} (K : IV h mP mC mI mD mB nP nC nI nD nB) : PU DA (d + 0) 11 [vR (some 47), vI x, vI y, vI w] h (fun g => IV g mP mC mI mD mB nP nC nI nD nB ∧ hC g = hC h ∧ hS g = hS h) := by
  refine PU_of (fun Q hQ => ?_)
  have V := Vis_DA
  obtain ⟨S, X⟩ := K
  obtain ⟨c0, s0, hcc, hss⟩ : ∃ c0 s0, hC h = c0 ∧ hS h = s0 := ⟨_, _, rfl, rfl⟩
  obtain ⟨n0, hn0⟩ : ∃ n0, hI h 47 0 = n0 := ⟨_, rfl⟩
  refine x_ent en11 ?_
  refine x_iload_n d11_0 rfl ?_
  refine x_aload_n d11_1 rfl ?_
  refine x_gfI d11_2 cl11 f3_15 (by decide) (S.F.o rfl (by decide)) rfl ?_
  have g1 := S.hands
  refine x_icne (t := 48) d11_5 rfl (by omega) (fun c5_2 => ?_) (fun c5_2 => ?_)
  · refine x_aload_n d11_48 rfl ?_
    refine x_gfR d11_49 cl11 f3_9 (S.F.o rfl (by decide)) rfl (S.F.r rfl) ?_
    refine x_iload_n d11_52 rfl ?_
    refine x_bipush d11_53 (by decide) ?_
    refine x_imul d11_55 ?_
    refine x_iload_n d11_56 rfl ?_
    refine x_iadd d11_57 ?_
    refine x_iload_n d11_58 rfl ?_
    refine x_iastore d11_59 (by decide) (S.F.o rfl (by decide)) ⟨by omega, by rw [(S.F.l (a := 48) (n := 40) (by decide) rfl)]; omega⟩ rfl (x_wr (fun g => IV g mP mC mI mD mB nP nC nI nD nB ∧ hC g = c0 ∧ hS g = s0) ⟨⟨Hv_r48 S (by omega), EX_f S X rfl⟩, hcc, hss⟩ (fun h q3 => ?_))
    obtain ⟨⟨S, X⟩, hcc, hss⟩ := q3
    exact x_ret d11_60 rt11 (hQ _ ⟨⟨S, X⟩, by omega, by omega⟩)
  · refine x_iconst d11_8 ?_
    refine x_nm (fun w9_4 ew9_4 => ?_)
    refine x_istore [some (vR _), some (vI _), some (vI _), some (vI _), some (vI _)] d11_9 rfl ?_
    refine (x_ub (N := 8) (P := fun i5 => ∀ h : Hp, (IV h mP mC mI mD mB nP nC nI nD nB ∧ hC h = c0 ∧ hS h = s0 ∧ hI h 47 0 = n0) → wp DA (d + 0) 11 11 [some (vR (some 47)), some (vI x), some (vI y), some (vI w), some (vI i5)] [] h Q) w9_4 (by omega) (fun i5 hi5 hj5 ih5 h hh5 => ?_)) _ ⟨⟨S, X⟩, hcc, hss, hn0⟩
    obtain ⟨⟨S, X⟩, hcc, hss, hn0⟩ := hh5
    refine x_iload d11_11 rfl ?_
    refine x_bipush d11_13 (by decide) ?_
    refine x_icge (t := 38) d11_15 rfl (by omega) (fun c15_6 => ?_) (fun c15_6 => ?_)
    · refine x_aload_n d11_38 rfl ?_
      refine x_dupR d11_39 ?_
      refine x_gfI d11_40 cl11 f3_15 (by decide) (S.F.o rfl (by decide)) rfl ?_
      have g7 := S.hands
      refine x_iconst d11_43 ?_
      refine x_iadd d11_44 ?_
      refine x_pfI d11_45 cl11 f3_15 (S.F.o rfl (by decide)) rfl (fun q => by cases q) (x_wr (fun g => IV g mP mC mI mD mB nP nC nI nD nB ∧ hC g = c0 ∧ hS g = s0) ⟨⟨Hv_f47_0 S (by omega), EX_f S X rfl⟩, hcc, hss⟩ (fun h q8 => ?_))
      obtain ⟨⟨S, X⟩, hcc, hss⟩ := q8
      refine x_aload_n d11_48 rfl ?_
      refine x_gfR d11_49 cl11 f3_9 (S.F.o rfl (by decide)) rfl (S.F.r rfl) ?_
      refine x_iload_n d11_52 rfl ?_
      refine x_bipush d11_53 (by decide) ?_
      refine x_imul d11_55 ?_
      refine x_iload_n d11_56 rfl ?_
      refine x_iadd d11_57 ?_
      refine x_iload_n d11_58 rfl ?_
      refine x_iastore d11_59 (by decide) (S.F.o rfl (by decide)) ⟨by omega, by rw [(S.F.l (a := 48) (n := 40) (by decide) rfl)]; omega⟩ rfl (x_wr (fun g => IV g mP mC mI mD mB nP nC nI nD nB ∧ hC g = c0 ∧ hS g = s0) ⟨⟨Hv_r48 S (by omega), EX_f S X rfl⟩, hcc, hss⟩ (fun h q9 => ?_))
      obtain ⟨⟨S, X⟩, hcc, hss⟩ := q9
      exact x_ret d11_60 rt11 (hQ _ ⟨⟨S, X⟩, by omega, by omega⟩)
    · refine x_aload_n d11_18 rfl ?_
      refine x_gfR d11_19 cl11 f3_9 (S.F.o rfl (by decide)) rfl (S.F.r rfl) ?_
      refine x_iload_n d11_22 rfl ?_
      refine x_bipush d11_23 (by decide) ?_
      refine x_imul d11_25 ?_
      refine x_iload d11_26 rfl ?_
      refine x_iadd d11_28 ?_
      refine x_bipush d11_29 (by decide) ?_
      refine x_iastore d11_31 (by decide) (S.F.o rfl (by decide)) ⟨by omega, by rw [(S.F.l (a := 48) (n := 40) (by decide) rfl)]; omega⟩ rfl (x_wr (fun g => IV g mP mC mI mD mB nP nC nI nD nB ∧ hC g = c0 ∧ hS g = s0 ∧ hI g 47 0 = n0) ⟨⟨Hv_r48 S (by omega), EX_f S X rfl⟩, hcc, hss, hn0⟩ (fun h q10 => ?_))
      obtain ⟨⟨S, X⟩, hcc, hss, hn0⟩ := q10
      refine x_iinc [some (vR _), some (vI _), some (vI _), some (vI _), some (vI _)] d11_32 rfl rfl ?_
      refine x_goto (t := 11) d11_35 rfl ?_
      exact ih5 (by omega) _ ⟨⟨S, X⟩, hcc, hss, hn0⟩
theorem C112 {d : Nat} {h : Hp} {x y w : Int} (qx : -2147483648 ≤ x ∧ x < 2147483648) (qy : -2147483648 ≤ y ∧ y < 2147483648) (qw : -2147483648 ≤ w ∧ w < 2147483648) {mP mC mI mD mB : Nat → Nat} {nP nC nI nD nB : Nat} (K : IV h mP mC mI mD mB nP nC nI nD nB) : MX DA (d + 1) 112 [vR (some 2), vI x, vI y, vI w] h (fun w g => ∃ v : Int, w = vI v ∧ MR h g) := by
  refine MX_of (fun Q hQ1 hQ0 => ?_)
  have V := Vis_DA
  obtain ⟨S, X⟩ := K
  obtain ⟨c0, s0, hcc, hss⟩ : ∃ c0 s0, hC h = c0 ∧ hS h = s0 := ⟨_, _, rfl, rfl⟩
  refine x_ent en112 ?_
  refine x_iload_n d112_0 rfl ?_
  refine x_iconst d112_1 ?_
  refine x_aload_n d112_2 rfl ?_
  refine x_gfR d112_3 cl112 f11_49 (S.F.o rfl (by decide)) rfl (S.F.r rfl) ?_
  refine x_gfI d112_6 cl112 f11_350 (by decide) (S.F.o rfl (by decide)) rfl ?_
  have g1 := S.hands
  refine x_SE d112_9 cl112 m11_84 kd83 po83 le83 (C83 (by omega) (by omega) (by omega)) (fun v2 r2 z2 => ?_)
  try dsimp only at r2
  refine x_ck d112_12 cl112 m11_112 kd94 po94 le94 rfl (fun c => C94 c) (fun c => C94x c) (by omega) (hQ0 _ (by decide)) (fun k12_3 => ?_)
  refine x_iload_n d112_15 rfl ?_
  refine x_iconst d112_16 ?_
  refine x_bipush d112_17 (by decide) ?_
  refine x_SE d112_19 cl112 m11_84 kd83 po83 le83 (C83 (by omega) (by omega) (by omega)) (fun v4 r4 z4 => ?_)
  try dsimp only at r4
  refine x_ifeq (t := 39) d112_22 rfl (by omega) (fun c22_5 => ?_) (fun c22_5 => ?_)
  · refine x_iconst d112_39 ?_
    exact x_ck d112_40 cl112 m11_88 kd84 po84 le84 rfl (fun c => C84 c) (fun c => C84x c) (by omega) (hQ0 _ (by decide)) (fun c => absurd c (by decide))
  · refine x_iload_n d112_25 rfl ?_
    refine x_iconst d112_26 ?_
    refine x_bipush d112_27 (by decide) ?_
    refine x_SE d112_29 cl112 m11_84 kd83 po83 le83 (C83 (by omega) (by omega) (by omega)) (fun v7 r7 z7 => ?_)
    try dsimp only at r7
    refine x_ifeq (t := 39) d112_32 rfl (by omega) (fun c32_8 => ?_) (fun c32_8 => ?_)
    · refine x_iconst d112_39 ?_
      exact x_ck d112_40 cl112 m11_88 kd84 po84 le84 rfl (fun c => C84 c) (fun c => C84x c) (by omega) (hQ0 _ (by decide)) (fun c => absurd c (by decide))
    · refine x_iconst d112_35 ?_
      refine x_goto (t := 40) d112_36 rfl ?_
      refine x_SN d112_40 cl112 m11_88 kd84 po84 le84 (C84 (by omega)) ?_
      refine x_iload_n d112_43 rfl ?_
      refine x_iconst d112_44 ?_
      refine x_icge (t := 52) d112_45 rfl (by omega) (fun c45_11 => ?_) (fun c45_11 => ?_)
      · refine x_iconst d112_52 ?_
        exact x_ck d112_53 cl112 m11_122 kd88 po88 le88 rfl (fun c => C88 c) (fun c => C88x c) (by omega) (hQ0 _ (by decide)) (fun c => absurd c (by decide))
      · refine x_iconst d112_48 ?_
        refine x_goto (t := 53) d112_49 rfl ?_
        refine x_SN d112_53 cl112 m11_122 kd88 po88 le88 (C88 (by omega)) ?_
        refine x_aload_n d112_56 rfl ?_
        refine x_gfR d112_57 cl112 f11_49 (S.F.o rfl (by decide)) rfl (S.F.r rfl) ?_
        refine x_iload_n d112_60 rfl ?_
        refine x_iload_n d112_61 rfl ?_
        refine x_iload_n d112_62 rfl ?_
        refine x_VU d112_63 cl112 m11_353 kd11 tg11 po11 le11 (by decide) (S.F.o rfl (by decide)) (C11 (by omega) (by omega) (by omega) ⟨S, X⟩) (fun h q14 => ?_)
        obtain ⟨⟨S, X⟩, hc9, hs9⟩ := q14
        have hcc := hc9.trans hcc
        have hss := hs9.trans hss
        refine x_aload_n d112_66 rfl ?_
        refine x_gfR d112_67 cl112 f11_49 (S.F.o rfl (by decide)) rfl (S.F.r rfl) ?_
        refine x_gfI d112_70 cl112 f11_350 (by decide) (S.F.o rfl (by decide)) rfl ?_
        have g15 := S.hands
        exact x_iret d112_73 rt112 (hQ1 _ _ (MR_of ⟨S, X⟩ (by omega) (by omega)))
theorem C5 {d : Nat} {h : Hp} {x y w z : Int} (qx : 0 ≤ x ∧ x ≤ 11) (qy : 0 ≤ y ∧ y ≤ 4) (qw : 0 ≤ w ∧ w ≤ 999) (qz : z = 0 ∨ z = 1) (hop : hI h 49 1 < 20) {mP mC mI mD mB : Nat → Nat} {nP nC nI nD nB : Nat} (K : IV h mP mC mI mD mB nP nC nI nD nB) : PW DA (d + 0) 5 [vR (some 49), vI x, vI y, vI w, vI z] h (fun w g => ∃ v : Int, w = vI v ∧ (IV g mP mC mI mD mB nP nC nI nD nB ∧ hC g = hC h ∧ hS g = hS h)) := by
  refine PW_of (fun Q hQ => ?_)
  have V := Vis_DA
  obtain ⟨S, X⟩ := K
  obtain ⟨c0, s0, hcc, hss⟩ : ∃ c0 s0, hC h = c0 ∧ hS h = s0 := ⟨_, _, rfl, rfl⟩
  obtain ⟨n0, hn0⟩ : ∃ n0, hI h 49 1 = n0 := ⟨_, rfl⟩
  refine x_ent en5 ?_
  refine x_aload_n d5_0 rfl ?_
  refine x_gfR d5_1 cl5 f2_15 (S.F.o rfl (by decide)) rfl (S.F.r rfl) ?_
  refine x_aload_n d5_4 rfl ?_
  refine x_gfI d5_5 cl5 f2_34 (by decide) (S.F.o rfl (by decide)) rfl ?_
  have g1 := S.opinions
  refine x_iload_n d5_8 rfl ?_
  refine x_iastore d5_9 (by decide) (S.F.o rfl (by decide)) ⟨by omega, by rw [(S.F.l (a := 51) (n := 20) (by decide) rfl)]; omega⟩ rfl (x_wr (fun g => IV g mP mC mI mD mB nP nC nI nD nB ∧ hC g = c0 ∧ hS g = s0 ∧ hI g 49 1 = n0) ⟨⟨Hv_r51 S (by omega), EX_f S X rfl⟩, hcc, hss, hn0⟩ (fun h q2 => ?_))
  obtain ⟨⟨S, X⟩, hcc, hss, hn0⟩ := q2
  refine x_aload_n d5_10 rfl ?_
  refine x_gfR d5_11 cl5 f2_18 (S.F.o rfl (by decide)) rfl (S.F.r rfl) ?_
  refine x_aload_n d5_14 rfl ?_
  refine x_gfI d5_15 cl5 f2_34 (by decide) (S.F.o rfl (by decide)) rfl ?_
  have g3 := S.opinions
  refine x_iload_n d5_18 rfl ?_
  refine x_iastore d5_19 (by decide) (S.F.o rfl (by decide)) ⟨by omega, by rw [(S.F.l (a := 52) (n := 20) (by decide) rfl)]; omega⟩ rfl (x_wr (fun g => IV g mP mC mI mD mB nP nC nI nD nB ∧ hC g = c0 ∧ hS g = s0 ∧ hI g 49 1 = n0) ⟨⟨Hv_r52 S (by omega), EX_f S X rfl⟩, hcc, hss, hn0⟩ (fun h q4 => ?_))
  obtain ⟨⟨S, X⟩, hcc, hss, hn0⟩ := q4
  refine x_aload_n d5_20 rfl ?_
  refine x_gfR d5_21 cl5 f2_21 (S.F.o rfl (by decide)) rfl (S.F.r rfl) ?_
  refine x_aload_n d5_24 rfl ?_
  refine x_gfI d5_25 cl5 f2_34 (by decide) (S.F.o rfl (by decide)) rfl ?_
  have g5 := S.opinions
  refine x_iload_n d5_28 rfl ?_
  refine x_iastore d5_29 (by decide) (S.F.o rfl (by decide)) ⟨by omega, by rw [(S.F.l (a := 53) (n := 20) (by decide) rfl)]; omega⟩ rfl (x_wr (fun g => IV g mP mC mI mD mB nP nC nI nD nB ∧ hC g = c0 ∧ hS g = s0 ∧ hI g 49 1 = n0) ⟨⟨Hv_r53 S (by omega), EX_f S X rfl⟩, hcc, hss, hn0⟩ (fun h q6 => ?_))
  obtain ⟨⟨S, X⟩, hcc, hss, hn0⟩ := q6
  refine x_aload_n d5_30 rfl ?_
  refine x_gfR d5_31 cl5 f2_24 (S.F.o rfl (by decide)) rfl (S.F.r rfl) ?_
  refine x_aload_n d5_34 rfl ?_
  refine x_gfI d5_35 cl5 f2_34 (by decide) (S.F.o rfl (by decide)) rfl ?_
  have g7 := S.opinions
  refine x_iload d5_38 rfl ?_
  refine x_bastore d5_40 (by decide) (S.F.o rfl (by decide)) ⟨by omega, by rw [(S.F.l (a := 54) (n := 20) (by decide) rfl)]; omega⟩ rfl (by omega) (x_wr (fun g => IV g mP mC mI mD mB nP nC nI nD nB ∧ hC g = c0 ∧ hS g = s0 ∧ hI g 49 1 = n0) ⟨⟨Hv_r54 S (by omega), EX_f S X rfl⟩, hcc, hss, hn0⟩ (fun h q8 => ?_))
  obtain ⟨⟨S, X⟩, hcc, hss, hn0⟩ := q8
  refine x_aload_n d5_41 rfl ?_
  refine x_dupR d5_42 ?_
  refine x_gfI d5_43 cl5 f2_34 (by decide) (S.F.o rfl (by decide)) rfl ?_
  have g9 := S.opinions
  refine x_iconst d5_46 ?_
  refine x_iadd d5_47 ?_
  refine x_pfI d5_48 cl5 f2_34 (S.F.o rfl (by decide)) rfl (fun q => by cases q) (x_wr (fun g => IV g mP mC mI mD mB nP nC nI nD nB ∧ hC g = c0 ∧ hS g = s0) ⟨⟨Hv_f49_1 S (by omega), EX_f S X rfl⟩, hcc, hss⟩ (fun h q10 => ?_))
  obtain ⟨⟨S, X⟩, hcc, hss⟩ := q10
  refine x_aload_n d5_51 rfl ?_
  refine x_gfI d5_52 cl5 f2_34 (by decide) (S.F.o rfl (by decide)) rfl ?_
  have g11 := S.opinions
  refine x_iconst d5_55 ?_
  refine x_isub d5_56 ?_
  exact x_iret d5_57 rt5 (hQ _ _ ⟨⟨S, X⟩, by omega, by omega⟩)
theorem C114 {d : Nat} {h : Hp} {x y z : Int} (qx : -2147483648 ≤ x ∧ x < 2147483648) (qy : -2147483648 ≤ y ∧ y < 2147483648) (qz : z = 0 ∨ z = 1) {mP mC mI mD mB : Nat → Nat} {nP nC nI nD nB : Nat} (K : IV h mP mC mI mD mB nP nC nI nD nB) : MX DA (d + 2) 114 [vR (some 2), vI x, vI y, vI z] h (fun w g => ∃ v : Int, w = vI v ∧ MR h g) := by
  refine MX_of (fun Q hQ1 hQ0 => ?_)
  have V := Vis_DA
  obtain ⟨S, X⟩ := K
  obtain ⟨c0, s0, hcc, hss⟩ : ∃ c0 s0, hC h = c0 ∧ hS h = s0 := ⟨_, _, rfl, rfl⟩
  have hnp := S.np
  refine x_ent en114 ?_
  refine x_aload_n d114_0 rfl ?_
  refine x_iload_n d114_1 rfl ?_
  refine x_VE d114_2 cl114 m11_173 kd103 tg103 po103 le103 (by decide) (S.F.o rfl (by decide)) (C103 V S (by omega)) (fun v1 r1 z1 => ?_)
  try dsimp only at r1
  refine x_ck d114_5 cl114 m11_112 kd94 po94 le94 rfl (fun c => C94 c) (fun c => C94x c) (by omega) (hQ0 _ (by decide)) (fun k5_2 => ?_)
  refine x_iload_n d114_8 rfl ?_
  refine x_SE d114_9 cl114 m11_366 kd115 po115 le115 (C115 (by omega)) (fun v3 r3 z3 => ?_)
  try dsimp only at r3
  refine x_ck d114_12 cl114 m11_88 kd84 po84 le84 rfl (fun c => C84 c) (fun c => C84x c) (by omega) (hQ0 _ (by decide)) (fun k12_4 => ?_)
  refine x_aload_n d114_15 rfl ?_
  refine x_gfR d114_16 cl114 f11_56 (S.F.o rfl (by decide)) rfl (S.F.r rfl) ?_
  refine x_gfI d114_19 cl114 f11_369 (by decide) (S.F.o rfl (by decide)) rfl ?_
  have g5 := S.opinions
  refine x_bipush d114_22 (by decide) ?_
  refine x_icge (t := 31) d114_24 rfl (by omega) (fun c24_6 => ?_) (fun c24_6 => ?_)
  · refine x_iconst d114_31 ?_
    exact x_ck d114_32 cl114 m11_122 kd88 po88 le88 rfl (fun c => C88 c) (fun c => C88x c) (by omega) (hQ0 _ (by decide)) (fun c => absurd c (by decide))
  · refine x_iconst d114_27 ?_
    refine x_goto (t := 32) d114_28 rfl ?_
    refine x_SN d114_32 cl114 m11_122 kd88 po88 le88 (C88 (by omega)) ?_
    refine x_aload_n d114_35 rfl ?_
    refine x_gfR d114_36 cl114 f11_56 (S.F.o rfl (by decide)) rfl (S.F.r rfl) ?_
    refine x_iload_n d114_39 rfl ?_
    refine x_iload_n d114_40 rfl ?_
    refine x_aload_n d114_41 rfl ?_
    refine x_gfI d114_42 cl114 f11_372 (by decide) (S.F.o rfl (by decide)) rfl ?_
    have g9 := S.today
    refine x_iload_n d114_45 rfl ?_
    refine x_VW d114_46 cl114 m11_375 kd5 tg5 po5 le5 (by decide) (S.F.o rfl (by decide)) (C5 (by omega) (by omega) (by omega) (by omega) (by omega) ⟨S, X⟩) (fun v10 h q10 => ?_)
    obtain ⟨v10, rfl, q10⟩ := q10
    obtain ⟨⟨S, X⟩, hc9, hs9⟩ := q10
    have hcc := hc9.trans hcc
    have hss := hs9.trans hss
    exact x_iret d114_49 rt114 (hQ1 _ _ (MR_of ⟨S, X⟩ (by omega) (by omega)))
theorem C6 {d : Nat} {h : Hp} {x y w : Int} (qx : -2147483648 ≤ x ∧ x < 2147483648) (qy : -2147483648 ≤ y ∧ y < 2147483648) (qw : -2147483648 ≤ w ∧ w < 2147483648) (hy : 0 ≤ y ∧ y ≤ 999) {mP mC mI mD mB : Nat → Nat} {nP nC nI nD nB : Nat} (K : IV h mP mC mI mD mB nP nC nI nD nB) : PW DA (d + 1) 6 [vR (some 49), vI x, vI y, vI w] h (fun w g => ∃ v : Int, w = vI v ∧ (IV g mP mC mI mD mB nP nC nI nD nB ∧ hC g = hC h ∧ hS g = hS h)) := by
  refine PW_of (fun Q hQ => ?_)
  have V := Vis_DA
  obtain ⟨S, X⟩ := K
  obtain ⟨c0, s0, hcc, hss⟩ : ∃ c0 s0, hC h = c0 ∧ hS h = s0 := ⟨_, _, rfl, rfl⟩
  refine x_ent en6 ?_
  refine x_iconst d6_0 ?_
  refine x_nm (fun w1_1 ew1_1 => ?_)
  refine x_istore [some (vR _), some (vI _), some (vI _), some (vI _), some (vI _), none, none] d6_1 rfl ?_
  refine x_iconst d6_3 ?_
  refine x_nm (fun w4_2 ew4_2 => ?_)
  refine x_istore [some (vR _), some (vI _), some (vI _), some (vI _), some (vI _), some (vI _), none] d6_4 rfl ?_
  refine (x_ub (N := 5) (P := fun i3 => ∀ h : Hp, (IV h mP mC mI mD mB nP nC nI nD nB ∧ hC h = c0 ∧ hS h = s0) → ∀ s3_4 : Int, (0 ≤ s3_4 ∧ s3_4 ≤ i3) → ∀ t3_6 : Option XV, wp DA (d + 1) 6 6 [some (vR (some 49)), some (vI x), some (vI y), some (vI w), some (vI s3_4), some (vI i3), t3_6] [] h Q) w4_2 (by omega) (fun i3 hi3 hj3 ih3 h hh3 s3_4 hs3_4 t3_6 => ?_)) _ ⟨⟨S, X⟩, hcc, hss⟩ _ (by omega) _
  obtain ⟨⟨S, X⟩, hcc, hss⟩ := hh3
  refine x_iload d6_6 rfl ?_
  refine x_iconst d6_8 ?_
  refine x_icge (t := 98) d6_9 rfl (by omega) (fun c9_4 => ?_) (fun c9_4 => ?_)
  · refine x_iload d6_98 rfl ?_
    exact x_iret d6_100 rt6 (hQ _ _ ⟨⟨S, X⟩, by omega, by omega⟩)
  · refine x_aload_n d6_12 rfl ?_
    refine x_iload d6_13 rfl ?_
    refine x_iload_n d6_15 rfl ?_
    refine x_iload_n d6_16 rfl ?_
    refine x_VE d6_17 cl6 m2_38 kd7 tg7 po7 le7 (by decide) (S.F.o rfl (by decide)) (C7 V S (by omega) (by omega) (by omega) (by omega)) (fun v5 r5 z5 => ?_)
    try dsimp only at r5
    refine x_nm (fun w20_6 ew20_6 => ?_)
    refine x_istore [some (vR _), some (vI _), some (vI _), some (vI _), some (vI _), some (vI _), some (vI _)] d6_20 rfl ?_
    refine x_iload d6_22 rfl ?_
    refine x_iconst d6_24 ?_
    refine x_iceq (t := 66) d6_25 rfl (by omega) (fun c25_7 => ?_) (fun c25_7 => ?_)
    · refine x_iload d6_66 rfl ?_
      refine x_iconst d6_68 ?_
      refine x_iceq (t := 92) d6_69 rfl (by omega) (fun c69_8 => ?_) (fun c69_8 => ?_)
      · refine x_iinc [some (vR _), some (vI _), some (vI _), some (vI _), some (vI _), some (vI _), some (vI _)] d6_92 rfl rfl ?_
        refine x_goto (t := 6) d6_95 rfl ?_
        exact ih3 (by omega) _ ⟨⟨S, X⟩, hcc, hss⟩ _ (by omega) _
      · refine x_aload_n d6_72 rfl ?_
        refine x_gfR d6_73 cl6 f2_9 (S.F.o rfl (by decide)) rfl (S.F.r rfl) ?_
        refine x_iload d6_76 rfl ?_
        refine x_aload_n d6_78 rfl ?_
        refine x_gfR d6_79 cl6 f2_9 (S.F.o rfl (by decide)) rfl (S.F.r rfl) ?_
        refine x_iload d6_82 rfl ?_
        refine x_iaload d6_84 (S.F.o rfl (by decide)) ⟨by omega, by rw [(S.F.l (a := 50) (n := 5) (by decide) rfl)]; omega⟩ rfl ?_
        refine x_nm (fun a9 e9 => ?_)
        have b9 : 0 ≤ a9 ∧ a9 ≤ 9 := by rw [e9]; exact (S.a50 _)
        refine x_iconst d6_85 ?_
        refine x_isub d6_86 ?_
        refine x_iconst d6_87 ?_
        refine x_nat d6_88 cl6 m2_48 (by decide) (popN_of (q := [vI _, vI _]) (show mArg 904 = 2 by decide +kernel) rfl rfl) (by exact Nat.le_of_ble_eq_true rfl) (nat_904 (by omega)) ?_
        refine x_nm (fun m88 em88 => ?_)
        try dsimp only at em88
        have hm88 : 0 ≤ m88 ∧ m88 ≤ 9 := by rw [em88]; split <;> omega
        refine x_iastore d6_91 (by decide) (S.F.o rfl (by decide)) ⟨by omega, by rw [(S.F.l (a := 50) (n := 5) (by decide) rfl)]; omega⟩ rfl (x_wr (fun g => IV g mP mC mI mD mB nP nC nI nD nB ∧ hC g = c0 ∧ hS g = s0) ⟨⟨Hv_r50 S (by omega), EX_f S X rfl⟩, hcc, hss⟩ (fun h q10 => ?_))
        obtain ⟨⟨S, X⟩, hcc, hss⟩ := q10
        refine x_iinc [some (vR _), some (vI _), some (vI _), some (vI _), some (vI _), some (vI _), some (vI _)] d6_92 rfl rfl ?_
        refine x_goto (t := 6) d6_95 rfl ?_
        exact ih3 (by omega) _ ⟨⟨S, X⟩, hcc, hss⟩ _ (by omega) _
    · refine x_aload_n d6_28 rfl ?_
      refine x_gfR d6_29 cl6 f2_24 (S.F.o rfl (by decide)) rfl (S.F.r rfl) ?_
      refine x_iload d6_32 rfl ?_
      refine x_baload d6_34 (S.F.o rfl (by decide)) ⟨by omega, by rw [(S.F.l (a := 54) (n := 20) (by decide) rfl)]; omega⟩ rfl ?_
      refine x_nm (fun a11 e11 => ?_)
      have b11 : 0 ≤ a11 ∧ a11 ≤ 1 := by rw [e11]; exact (S.a54 _)
      refine x_iload_n d6_35 rfl ?_
      refine x_icne (t := 66) d6_36 rfl (by omega) (fun c36_12 => ?_) (fun c36_12 => ?_)
      · refine x_iload d6_66 rfl ?_
        refine x_iconst d6_68 ?_
        refine x_iceq (t := 92) d6_69 rfl (by omega) (fun c69_13 => ?_) (fun c69_13 => ?_)
        · refine x_iinc [some (vR _), some (vI _), some (vI _), some (vI _), some (vI _), some (vI _), some (vI _)] d6_92 rfl rfl ?_
          refine x_goto (t := 6) d6_95 rfl ?_
          exact ih3 (by omega) _ ⟨⟨S, X⟩, hcc, hss⟩ _ (by omega) _
        · refine x_aload_n d6_72 rfl ?_
          refine x_gfR d6_73 cl6 f2_9 (S.F.o rfl (by decide)) rfl (S.F.r rfl) ?_
          refine x_iload d6_76 rfl ?_
          refine x_aload_n d6_78 rfl ?_
          refine x_gfR d6_79 cl6 f2_9 (S.F.o rfl (by decide)) rfl (S.F.r rfl) ?_
          refine x_iload d6_82 rfl ?_
          refine x_iaload d6_84 (S.F.o rfl (by decide)) ⟨by omega, by rw [(S.F.l (a := 50) (n := 5) (by decide) rfl)]; omega⟩ rfl ?_
          refine x_nm (fun a14 e14 => ?_)
          have b14 : 0 ≤ a14 ∧ a14 ≤ 9 := by rw [e14]; exact (S.a50 _)
          refine x_iconst d6_85 ?_
          refine x_isub d6_86 ?_
          refine x_iconst d6_87 ?_
          refine x_nat d6_88 cl6 m2_48 (by decide) (popN_of (q := [vI _, vI _]) (show mArg 904 = 2 by decide +kernel) rfl rfl) (by exact Nat.le_of_ble_eq_true rfl) (nat_904 (by omega)) ?_
          refine x_nm (fun m88 em88 => ?_)
          try dsimp only at em88
          have hm88 : 0 ≤ m88 ∧ m88 ≤ 9 := by rw [em88]; split <;> omega
          refine x_iastore d6_91 (by decide) (S.F.o rfl (by decide)) ⟨by omega, by rw [(S.F.l (a := 50) (n := 5) (by decide) rfl)]; omega⟩ rfl (x_wr (fun g => IV g mP mC mI mD mB nP nC nI nD nB ∧ hC g = c0 ∧ hS g = s0) ⟨⟨Hv_r50 S (by omega), EX_f S X rfl⟩, hcc, hss⟩ (fun h q15 => ?_))
          obtain ⟨⟨S, X⟩, hcc, hss⟩ := q15
          refine x_iinc [some (vR _), some (vI _), some (vI _), some (vI _), some (vI _), some (vI _), some (vI _)] d6_92 rfl rfl ?_
          refine x_goto (t := 6) d6_95 rfl ?_
          exact ih3 (by omega) _ ⟨⟨S, X⟩, hcc, hss⟩ _ (by omega) _
      · refine x_aload_n d6_39 rfl ?_
        refine x_gfR d6_40 cl6 f2_9 (S.F.o rfl (by decide)) rfl (S.F.r rfl) ?_
        refine x_iload d6_43 rfl ?_
        refine x_aload_n d6_45 rfl ?_
        refine x_gfR d6_46 cl6 f2_9 (S.F.o rfl (by decide)) rfl (S.F.r rfl) ?_
        refine x_iload d6_49 rfl ?_
        refine x_iaload d6_51 (S.F.o rfl (by decide)) ⟨by omega, by rw [(S.F.l (a := 50) (n := 5) (by decide) rfl)]; omega⟩ rfl ?_
        refine x_nm (fun a16 e16 => ?_)
        have b16 : 0 ≤ a16 ∧ a16 ≤ 9 := by rw [e16]; exact (S.a50 _)
        refine x_iconst d6_52 ?_
        refine x_iadd d6_53 ?_
        refine x_bipush d6_54 (by decide) ?_
        refine x_nat d6_56 cl6 m2_42 (by decide) (popN_of (q := [vI _, vI _]) (show mArg 903 = 2 by decide +kernel) rfl rfl) (by exact Nat.le_of_ble_eq_true rfl) (nat_903 (by omega)) ?_
        refine x_nm (fun m56 em56 => ?_)
        try dsimp only at em56
        have hm56 : 0 ≤ m56 ∧ m56 ≤ 9 := by rw [em56]; split <;> omega
        refine x_iastore d6_59 (by decide) (S.F.o rfl (by decide)) ⟨by omega, by rw [(S.F.l (a := 50) (n := 5) (by decide) rfl)]; omega⟩ rfl (x_wr (fun g => IV g mP mC mI mD mB nP nC nI nD nB ∧ hC g = c0 ∧ hS g = s0) ⟨⟨Hv_r50 S (by omega), EX_f S X rfl⟩, hcc, hss⟩ (fun h q17 => ?_))
        obtain ⟨⟨S, X⟩, hcc, hss⟩ := q17
        refine x_iinc [some (vR _), some (vI _), some (vI _), some (vI _), some (vI _), some (vI _), some (vI _)] d6_60 rfl rfl ?_
        refine x_goto (t := 92) d6_63 rfl ?_
        refine x_iinc [some (vR _), some (vI _), some (vI _), some (vI _), some (vI _), some (vI _), some (vI _)] d6_92 rfl rfl ?_
        refine x_goto (t := 6) d6_95 rfl ?_
        exact ih3 (by omega) _ ⟨⟨S, X⟩, hcc, hss⟩ _ (by omega) _
theorem C116 {d : Nat} {h : Hp} {x z : Int} (qx : -2147483648 ≤ x ∧ x < 2147483648) (qz : z = 0 ∨ z = 1) {mP mC mI mD mB : Nat → Nat} {nP nC nI nD nB : Nat} (K : IV h mP mC mI mD mB nP nC nI nD nB) : MX DA (d + 4) 116 [vR (some 2), vI x, vI z] h (fun w g => ∃ v : Int, w = vI v ∧ MR h g) := by
  refine MX_of (fun Q hQ1 hQ0 => ?_)
  have V := Vis_DA
  obtain ⟨S, X⟩ := K
  obtain ⟨c0, s0, hcc, hss⟩ : ∃ c0 s0, hC h = c0 ∧ hS h = s0 := ⟨_, _, rfl, rfl⟩
  have hnp := S.np
  refine x_ent en116 ?_
  refine x_aload_n d116_0 rfl ?_
  refine x_iload_n d116_1 rfl ?_
  refine x_VE d116_2 cl116 m11_173 kd103 tg103 po103 le103 (by decide) (S.F.o rfl (by decide)) (C103 V S (by omega)) (fun v1 r1 z1 => ?_)
  try dsimp only at r1
  refine x_ck d116_5 cl116 m11_112 kd94 po94 le94 rfl (fun c => C94 c) (fun c => C94x c) (by omega) (hQ0 _ (by decide)) (fun k5_2 => ?_)
  refine x_aload_n d116_8 rfl ?_
  refine x_gfR d116_9 cl116 f11_19 (S.F.o rfl (by decide)) rfl (S.F.r rfl) ?_
  refine x_iload_n d116_12 rfl ?_
  refine x_VV d116_13 cl116 m11_132 kd173 tg173 po173 le173 (by decide) (S.F.o rfl (by decide)) (C173 (d := d + 0) (S.F.o rfl (by decide)) rfl rfl S.lp V (by omega) (by omega)) ?_
  refine x_cast d116_16 cl116 ct11_136 (Pc.ob (Ls.mem S.lp (x).toNat (by omega))) ?_
  refine x_astore_n [some (vR _), some (vI _), some (vI _), some (vR _)] d116_19 rfl ?_
  refine x_aload_n d116_20 rfl ?_
  refine x_gfI d116_21 cl116 f11_382 (by decide) (Pc.ob (Ls.mem S.lp (x).toNat (by omega))) (V.g (Pc.g (Ls.mem S.lp (x).toNat (by omega)))) ?_
  have g4 := (Pc.isTruthTold (Ls.mem S.lp (x).toNat (by omega)))
  refine x_ifne (t := 31) d116_24 rfl (by omega) (fun c24_5 => ?_) (fun c24_5 => ?_)
  · refine x_iconst d116_31 ?_
    exact x_ck d116_32 cl116 m11_122 kd88 po88 le88 rfl (fun c => C88 c) (fun c => C88x c) (by omega) (hQ0 _ (by decide)) (fun c => absurd c (by decide))
  · refine x_iconst d116_27 ?_
    refine x_goto (t := 32) d116_28 rfl ?_
    refine x_SN d116_32 cl116 m11_122 kd88 po88 le88 (C88 (by omega)) ?_
    refine x_aload_n d116_35 rfl ?_
    refine x_iconst d116_36 ?_
    refine x_pfZ d116_37 cl116 f11_382 (Pc.ob (Ls.mem S.lp (x).toNat (by omega))) (V.g (Pc.g (Ls.mem S.lp (x).toNat (by omega)))) (fun q => by cases q) (by omega) (x_wr (fun g => IV g mP mC mI mD mB nP nC nI nD nB ∧ hC g = c0 ∧ hS g = s0) ⟨⟨Hv_pf12 S (Ls.mem S.lp (x).toNat (by omega)) (by omega), EX_p (m := 0) S X (Ls.mem S.lp (x).toNat (by omega)) (by decide) (Or.inr (by decide))⟩, hcc, hss⟩ (fun h q8 => ?_))
    obtain ⟨⟨S, X⟩, hcc, hss⟩ := q8
    refine x_aload_n d116_40 rfl ?_
    refine x_gfR d116_41 cl116 f11_56 (S.F.o rfl (by decide)) rfl (S.F.r rfl) ?_
    refine x_iload_n d116_44 rfl ?_
    refine x_aload_n d116_45 rfl ?_
    refine x_gfI d116_46 cl116 f11_372 (by decide) (S.F.o rfl (by decide)) rfl ?_
    have g9 := S.today
    refine x_iload_n d116_49 rfl ?_
    refine x_VW d116_50 cl116 m11_385 kd6 tg6 po6 le6 (by decide) (S.F.o rfl (by decide)) (C6 (by omega) (by omega) (by omega) (by omega) ⟨S, X⟩) (fun v10 h q10 => ?_)
    obtain ⟨v10, rfl, q10⟩ := q10
    obtain ⟨⟨S, X⟩, hc9, hs9⟩ := q10
    have hcc := hc9.trans hcc
    have hss := hs9.trans hss
    exact x_iret d116_53 rt116 (hQ1 _ _ (MR_of ⟨S, X⟩ (by omega) (by omega)))
theorem C104 {d : Nat} {h : Hp} {x y w z : Int} (qx : -2147483648 ≤ x ∧ x < 2147483648) (qy : -2147483648 ≤ y ∧ y < 2147483648) (qw : -2147483648 ≤ w ∧ w < 2147483648) (qz : z = 200) {mP mC mI mD mB : Nat → Nat} {nP nC nI nD nB : Nat} (K : IV h mP mC mI mD mB nP nC nI nD nB) : MX DA (d + 4) 104 [vR (some 2), vI x, vI y, vI w, vI z] h (fun w g => ∃ v : Int, w = vI v ∧ MR h g) := by
  refine MX_of (fun Q hQ1 hQ0 => ?_)
  have V := Vis_DA
  obtain ⟨S, X⟩ := K
  obtain ⟨c0, s0, hcc, hss⟩ : ∃ c0 s0, hC h = c0 ∧ hS h = s0 := ⟨_, _, rfl, rfl⟩
  have hnp := S.np
  refine x_ent en104 ?_
  refine x_aload_n d104_0 rfl ?_
  refine x_iload_n d104_1 rfl ?_
  refine x_VE d104_2 cl104 m11_173 kd103 tg103 po103 le103 (by decide) (S.F.o rfl (by decide)) (C103 V S (by omega)) (fun v1 r1 z1 => ?_)
  try dsimp only at r1
  refine x_ifeq (t := 21) d104_5 rfl (by omega) (fun c5_2 => ?_) (fun c5_2 => ?_)
  · refine x_iconst d104_21 ?_
    exact x_ck d104_22 cl104 m11_112 kd94 po94 le94 rfl (fun c => C94 c) (fun c => C94x c) (by omega) (hQ0 _ (by decide)) (fun c => absurd c (by decide))
  · refine x_iload_n d104_8 rfl ?_
    refine x_iconst d104_9 ?_
    refine x_iconst d104_10 ?_
    refine x_SE d104_11 cl104 m11_84 kd83 po83 le83 (C83 (by omega) (by omega) (by omega)) (fun v4 r4 z4 => ?_)
    try dsimp only at r4
    refine x_ifeq (t := 21) d104_14 rfl (by omega) (fun c14_5 => ?_) (fun c14_5 => ?_)
    · refine x_iconst d104_21 ?_
      exact x_ck d104_22 cl104 m11_112 kd94 po94 le94 rfl (fun c => C94 c) (fun c => C94x c) (by omega) (hQ0 _ (by decide)) (fun c => absurd c (by decide))
    · refine x_iconst d104_17 ?_
      refine x_goto (t := 22) d104_18 rfl ?_
      refine x_SN d104_22 cl104 m11_112 kd94 po94 le94 (C94 (by omega)) ?_
      refine x_iload_n d104_25 rfl ?_
      refine x_iconst d104_26 ?_
      refine x_bipush d104_27 (by decide) ?_
      refine x_SE d104_29 cl104 m11_84 kd83 po83 le83 (C83 (by omega) (by omega) (by omega)) (fun v8 r8 z8 => ?_)
      try dsimp only at r8
      refine x_ifeq (t := 52) d104_32 rfl (by omega) (fun c32_9 => ?_) (fun c32_9 => ?_)
      · refine x_iconst d104_52 ?_
        exact x_ck d104_53 cl104 m11_88 kd84 po84 le84 rfl (fun c => C84 c) (fun c => C84x c) (by omega) (hQ0 _ (by decide)) (fun c => absurd c (by decide))
      · refine x_iload d104_35 rfl ?_
        refine x_bipush d104_37 (by decide) ?_
        refine x_sipush d104_39 (by decide) ?_
        refine x_SE d104_42 cl104 m11_84 kd83 po83 le83 (C83 (by omega) (by omega) (by omega)) (fun v11 r11 z11 => ?_)
        try dsimp only at r11
        refine x_ifeq (t := 52) d104_45 rfl (by omega) (fun c45_12 => ?_) (fun c45_12 => ?_)
        · refine x_iconst d104_52 ?_
          exact x_ck d104_53 cl104 m11_88 kd84 po84 le84 rfl (fun c => C84 c) (fun c => C84x c) (by omega) (hQ0 _ (by decide)) (fun c => absurd c (by decide))
        · refine x_iconst d104_48 ?_
          refine x_goto (t := 53) d104_49 rfl ?_
          refine x_SN d104_53 cl104 m11_88 kd84 po84 le84 (C84 (by omega)) ?_
          refine x_iload_n d104_56 rfl ?_
          refine x_sipush d104_57 (by decide) ?_
          refine x_imul d104_60 ?_
          refine x_iconst d104_61 ?_
          refine x_imul d104_62 ?_
          refine x_iload d104_63 rfl ?_
          refine x_iconst d104_65 ?_
          have ht1 := tdiv_rng (a := z) (b := 2) (by omega) (by omega)
          refine x_idiv d104_66 (by omega) ?_
          refine x_iadd d104_67 ?_
          refine x_iload d104_68 rfl ?_
          refine x_idiv d104_70 (by omega) ?_
          refine x_nm (fun w71_15 ew71_15 => ?_)
          refine x_istore [some (vR _), some (vI _), some (vI _), some (vI _), some (vI _), some (vI _)] d104_71 rfl ?_
          have hg : 0 ≤ w71_15 ∧ w71_15 ≤ 10000 := by rw [ew71_15, qz, show (200 : Int).tdiv 2 = 100 from rfl, Int.tdiv_eq_ediv_of_nonneg (by omega)]; omega
          refine x_aload_n d104_73 rfl ?_
          refine x_gfR d104_74 cl104 f11_19 (S.F.o rfl (by decide)) rfl (S.F.r rfl) ?_
          refine x_iload_n d104_77 rfl ?_
          refine x_VV d104_78 cl104 m11_132 kd173 tg173 po173 le173 (by decide) (S.F.o rfl (by decide)) (C173 (d := d + 0) (S.F.o rfl (by decide)) rfl rfl S.lp V (by omega) (by omega)) ?_
          refine x_cast d104_81 cl104 ct11_136 (Pc.ob (Ls.mem S.lp (x).toNat (by omega))) ?_
          refine x_gfR d104_84 cl104 f11_260 (Pc.ob (Ls.mem S.lp (x).toNat (by omega))) (V.g (Pc.g (Ls.mem S.lp (x).toNat (by omega)))) (Pc.r4 (Ls.mem S.lp (x).toNat (by omega))) ?_
          refine x_iload_n d104_87 rfl ?_
          refine x_iload d104_88 rfl ?_
          refine x_iastore d104_90 (by have := Pc.g (Ls.mem S.lp (x).toNat (by omega)); omega) (Pc.o4 (Ls.mem S.lp (x).toNat (by omega))) ⟨by omega, by rw [(Pc.l4 (Ls.mem S.lp (x).toNat (by omega)))]; omega⟩ (V.g (by have := Pc.g (Ls.mem S.lp (x).toNat (by omega)); omega)) (x_wr (fun g => IV g mP mC mI mD mB nP nC nI nD nB ∧ hC g = c0 ∧ hS g = s0) ⟨⟨Hv_pr4 S (Ls.mem S.lp (x).toNat (by omega)) (by omega), EX_p (m := 4) S X (Ls.mem S.lp (x).toNat (by omega)) (by decide) (Or.inl (by decide))⟩, hcc, hss⟩ (fun h q17 => ?_))
          obtain ⟨⟨S, X⟩, hcc, hss⟩ := q17
          refine x_iload d104_91 rfl ?_
          exact x_iret d104_93 rt104 (hQ1 _ _ (MR_of ⟨S, X⟩ (by omega) (by omega)))
theorem C113 {d : Nat} {h : Hp} {x y w : Int} (qx : -2147483648 ≤ x ∧ x < 2147483648) (qy : -2147483648 ≤ y ∧ y < 2147483648) (qw : -2147483648 ≤ w ∧ w < 2147483648) {mP mC mI mD mB : Nat → Nat} {nP nC nI nD nB : Nat} (K : IV h mP mC mI mD mB nP nC nI nD nB) : MX DA (d + 4) 113 [vR (some 2), vI x, vI y, vI w] h (fun w g => ∃ v : Int, w = vI v ∧ MR h g) := by
  refine MX_of (fun Q hQ1 hQ0 => ?_)
  have V := Vis_DA
  obtain ⟨S, X⟩ := K
  obtain ⟨c0, s0, hcc, hss⟩ : ∃ c0 s0, hC h = c0 ∧ hS h = s0 := ⟨_, _, rfl, rfl⟩
  have hnp := S.np
  refine x_ent en113 ?_
  refine x_aload_n d113_0 rfl ?_
  refine x_iload_n d113_1 rfl ?_
  refine x_VE d113_2 cl113 m11_173 kd103 tg103 po103 le103 (by decide) (S.F.o rfl (by decide)) (C103 V S (by omega)) (fun v1 r1 z1 => ?_)
  try dsimp only at r1
  refine x_ck d113_5 cl113 m11_112 kd94 po94 le94 rfl (fun c => C94 c) (fun c => C94x c) (by omega) (hQ0 _ (by decide)) (fun k5_2 => ?_)
  refine x_iload_n d113_8 rfl ?_
  refine x_iconst d113_9 ?_
  refine x_bipush d113_10 (by decide) ?_
  refine x_SE d113_12 cl113 m11_84 kd83 po83 le83 (C83 (by omega) (by omega) (by omega)) (fun v3 r3 z3 => ?_)
  try dsimp only at r3
  refine x_ifeq (t := 31) d113_15 rfl (by omega) (fun c15_4 => ?_) (fun c15_4 => ?_)
  · refine x_iconst d113_31 ?_
    exact x_ck d113_32 cl113 m11_88 kd84 po84 le84 rfl (fun c => C84 c) (fun c => C84x c) (by omega) (hQ0 _ (by decide)) (fun c => absurd c (by decide))
  · refine x_iload_n d113_18 rfl ?_
    refine x_iconst d113_19 ?_
    refine x_iconst d113_20 ?_
    refine x_SE d113_21 cl113 m11_84 kd83 po83 le83 (C83 (by omega) (by omega) (by omega)) (fun v6 r6 z6 => ?_)
    try dsimp only at r6
    refine x_ifeq (t := 31) d113_24 rfl (by omega) (fun c24_7 => ?_) (fun c24_7 => ?_)
    · refine x_iconst d113_31 ?_
      exact x_ck d113_32 cl113 m11_88 kd84 po84 le84 rfl (fun c => C84 c) (fun c => C84x c) (by omega) (hQ0 _ (by decide)) (fun c => absurd c (by decide))
    · refine x_iconst d113_27 ?_
      refine x_goto (t := 32) d113_28 rfl ?_
      refine x_SN d113_32 cl113 m11_88 kd84 po84 le84 (C84 (by omega)) ?_
      refine x_aload_n d113_35 rfl ?_
      refine x_gfR d113_36 cl113 f11_19 (S.F.o rfl (by decide)) rfl (S.F.r rfl) ?_
      refine x_iload_n d113_39 rfl ?_
      refine x_VV d113_40 cl113 m11_132 kd173 tg173 po173 le173 (by decide) (S.F.o rfl (by decide)) (C173 (d := d + 0) (S.F.o rfl (by decide)) rfl rfl S.lp V (by omega) (by omega)) ?_
      refine x_cast d113_43 cl113 ct11_136 (Pc.ob (Ls.mem S.lp (x).toNat (by omega))) ?_
      refine x_astore [some (vR _), some (vI _), some (vI _), some (vI _), some (vR _), none] d113_46 rfl ?_
      refine x_aload d113_48 rfl ?_
      refine x_gfR d113_50 cl113 f11_356 (Pc.ob (Ls.mem S.lp (x).toNat (by omega))) (V.g (Pc.g (Ls.mem S.lp (x).toNat (by omega)))) (Pc.r5 (Ls.mem S.lp (x).toNat (by omega))) ?_
      refine x_iload_n d113_53 rfl ?_
      refine x_iaload d113_54 (Pc.o5 (Ls.mem S.lp (x).toNat (by omega))) ⟨by omega, by rw [(Pc.l5 (Ls.mem S.lp (x).toNat (by omega)))]; omega⟩ (V.g (by have := Pc.g (Ls.mem S.lp (x).toNat (by omega)); omega)) ?_
      refine x_nm (fun a11 e11 => ?_)
      have b11 : 0 ≤ a11 ∧ a11 ≤ 2 := by rw [e11]; exact (Pc.marks (Ls.mem S.lp (x).toNat (by omega)) _)
      refine x_nm (fun w55_12 ew55_12 => ?_)
      refine x_istore [some (vR _), some (vI _), some (vI _), some (vI _), some (vR _), some (vI _)] d113_55 rfl ?_
      refine x_aload d113_57 rfl ?_
      refine x_gfR d113_59 cl113 f11_356 (Pc.ob (Ls.mem S.lp (x).toNat (by omega))) (V.g (Pc.g (Ls.mem S.lp (x).toNat (by omega)))) (Pc.r5 (Ls.mem S.lp (x).toNat (by omega))) ?_
      refine x_iload_n d113_62 rfl ?_
      refine x_iload_n d113_63 rfl ?_
      refine x_iastore d113_64 (by have := Pc.g (Ls.mem S.lp (x).toNat (by omega)); omega) (Pc.o5 (Ls.mem S.lp (x).toNat (by omega))) ⟨by omega, by rw [(Pc.l5 (Ls.mem S.lp (x).toNat (by omega)))]; omega⟩ (V.g (by have := Pc.g (Ls.mem S.lp (x).toNat (by omega)); omega)) (x_wr (fun g => IV g mP mC mI mD mB nP nC nI nD nB ∧ hC g = c0 ∧ hS g = s0) ⟨⟨Hv_pr5 S (Ls.mem S.lp (x).toNat (by omega)) (by omega), EX_p (m := 5) S X (Ls.mem S.lp (x).toNat (by omega)) (by decide) (Or.inl (by decide))⟩, hcc, hss⟩ (fun h q13 => ?_))
      obtain ⟨⟨S, X⟩, hcc, hss⟩ := q13
      refine x_iload d113_65 rfl ?_
      exact x_iret d113_67 rt113 (hQ1 _ _ (MR_of ⟨S, X⟩ (by omega) (by omega)))
theorem C121 {d : Nat} {h : Hp} {x y w z u : Int} (qx : -2147483648 ≤ x ∧ x < 2147483648) (qy : -2147483648 ≤ y ∧ y < 2147483648) (qw : -2147483648 ≤ w ∧ w < 2147483648) (qz : -2147483648 ≤ z ∧ z < 2147483648) (qu : -2147483648 ≤ u ∧ u < 2147483648) {mP mC mI mD mB : Nat → Nat} {nP nC nI nD nB : Nat} (K : IV h mP mC mI mD mB nP nC nI nD nB) : MX DA (d + 4) 121 [vR (some 2), vI x, vI y, vI w, vI z, vI u] h (fun w g => ∃ v : Int, w = vI v ∧ MR h g) := by
  refine MX_of (fun Q hQ1 hQ0 => ?_)
  have V := Vis_DA
  obtain ⟨S, X⟩ := K
  obtain ⟨c0, s0, hcc, hss⟩ : ∃ c0 s0, hC h = c0 ∧ hS h = s0 := ⟨_, _, rfl, rfl⟩
  have hnp := S.np
  refine x_ent en121 ?_
  refine x_aload_n d121_0 rfl ?_
  refine x_iload_n d121_1 rfl ?_
  refine x_VE d121_2 cl121 m11_173 kd103 tg103 po103 le103 (by decide) (S.F.o rfl (by decide)) (C103 V S (by omega)) (fun v1 r1 z1 => ?_)
  try dsimp only at r1
  refine x_ck d121_5 cl121 m11_112 kd94 po94 le94 rfl (fun c => C94 c) (fun c => C94x c) (by omega) (hQ0 _ (by decide)) (fun k5_2 => ?_)
  refine x_iload_n d121_8 rfl ?_
  refine x_iload_n d121_9 rfl ?_
  refine x_iload d121_10 rfl ?_
  refine x_SE d121_12 cl121 m11_442 kd120 po120 le120 (C120 (by omega) (by omega) (by omega)) (fun v3 r3 z3 => ?_)
  try dsimp only at r3
  refine x_ifeq (t := 33) d121_15 rfl (by omega) (fun c15_4 => ?_) (fun c15_4 => ?_)
  · refine x_iconst d121_33 ?_
    exact x_ck d121_34 cl121 m11_88 kd84 po84 le84 rfl (fun c => C84 c) (fun c => C84x c) (by omega) (hQ0 _ (by decide)) (fun c => absurd c (by decide))
  · refine x_iload d121_18 rfl ?_
    refine x_iconst d121_20 ?_
    refine x_bipush d121_21 (by decide) ?_
    refine x_SE d121_23 cl121 m11_84 kd83 po83 le83 (C83 (by omega) (by omega) (by omega)) (fun v6 r6 z6 => ?_)
    try dsimp only at r6
    refine x_ifeq (t := 33) d121_26 rfl (by omega) (fun c26_7 => ?_) (fun c26_7 => ?_)
    · refine x_iconst d121_33 ?_
      exact x_ck d121_34 cl121 m11_88 kd84 po84 le84 rfl (fun c => C84 c) (fun c => C84x c) (by omega) (hQ0 _ (by decide)) (fun c => absurd c (by decide))
    · refine x_iconst d121_29 ?_
      refine x_goto (t := 34) d121_30 rfl ?_
      refine x_SN d121_34 cl121 m11_88 kd84 po84 le84 (C84 (by omega)) ?_
      refine x_aload_n d121_37 rfl ?_
      refine x_gfR d121_38 cl121 f11_19 (S.F.o rfl (by decide)) rfl (S.F.r rfl) ?_
      refine x_iload_n d121_41 rfl ?_
      refine x_VV d121_42 cl121 m11_132 kd173 tg173 po173 le173 (by decide) (S.F.o rfl (by decide)) (C173 (d := d + 0) (S.F.o rfl (by decide)) rfl rfl S.lp V (by omega) (by omega)) ?_
      refine x_cast d121_45 cl121 ct11_136 (Pc.ob (Ls.mem S.lp (x).toNat (by omega))) ?_
      refine x_astore [some (vR _), some (vI _), some (vI _), some (vI _), some (vI _), some (vI _), some (vR _)] d121_48 rfl ?_
      refine x_aload d121_50 rfl ?_
      refine x_iconst d121_52 ?_
      refine x_pfZ d121_53 cl121 f11_448 (Pc.ob (Ls.mem S.lp (x).toNat (by omega))) (V.g (Pc.g (Ls.mem S.lp (x).toNat (by omega)))) (fun q => by cases q) (by omega) (x_wr (fun g => IV g mP mC mI mD mB nP nC nI nD nB ∧ hC g = c0 ∧ hS g = s0) ⟨⟨Hv_pf13 S (Ls.mem S.lp (x).toNat (by omega)) (by omega), EX_p (m := 0) S X (Ls.mem S.lp (x).toNat (by omega)) (by decide) (Or.inr (by decide))⟩, hcc, hss⟩ (fun h q11 => ?_))
      obtain ⟨⟨S, X⟩, hcc, hss⟩ := q11
      refine x_aload d121_56 rfl ?_
      refine x_gfR d121_58 cl121 f11_451 (Pc.ob (Ls.mem S.lp (x).toNat (by omega))) (V.g (Pc.g (Ls.mem S.lp (x).toNat (by omega)))) (Pc.r6 (Ls.mem S.lp (x).toNat (by omega))) ?_
      refine x_iconst d121_61 ?_
      refine x_iload_n d121_62 rfl ?_
      refine x_iastore d121_63 (by have := Pc.g (Ls.mem S.lp (x).toNat (by omega)); omega) (Pc.o6 (Ls.mem S.lp (x).toNat (by omega))) ⟨by omega, by rw [(Pc.l6 (Ls.mem S.lp (x).toNat (by omega)))]; omega⟩ (V.g (by have := Pc.g (Ls.mem S.lp (x).toNat (by omega)); omega)) (x_wr (fun g => IV g mP mC mI mD mB nP nC nI nD nB ∧ hC g = c0 ∧ hS g = s0) ⟨⟨Hv_pr6 S (Ls.mem S.lp (x).toNat (by omega)) (by omega), EX_p (m := 6) S X (Ls.mem S.lp (x).toNat (by omega)) (by decide) (Or.inl (by decide))⟩, hcc, hss⟩ (fun h q12 => ?_))
      obtain ⟨⟨S, X⟩, hcc, hss⟩ := q12
      refine x_aload d121_64 rfl ?_
      refine x_gfR d121_66 cl121 f11_451 (Pc.ob (Ls.mem S.lp (x).toNat (by omega))) (V.g (Pc.g (Ls.mem S.lp (x).toNat (by omega)))) (Pc.r6 (Ls.mem S.lp (x).toNat (by omega))) ?_
      refine x_iconst d121_69 ?_
      refine x_iload_n d121_70 rfl ?_
      refine x_iastore d121_71 (by have := Pc.g (Ls.mem S.lp (x).toNat (by omega)); omega) (Pc.o6 (Ls.mem S.lp (x).toNat (by omega))) ⟨by omega, by rw [(Pc.l6 (Ls.mem S.lp (x).toNat (by omega)))]; omega⟩ (V.g (by have := Pc.g (Ls.mem S.lp (x).toNat (by omega)); omega)) (x_wr (fun g => IV g mP mC mI mD mB nP nC nI nD nB ∧ hC g = c0 ∧ hS g = s0) ⟨⟨Hv_pr6 S (Ls.mem S.lp (x).toNat (by omega)) (by omega), EX_p (m := 6) S X (Ls.mem S.lp (x).toNat (by omega)) (by decide) (Or.inl (by decide))⟩, hcc, hss⟩ (fun h q13 => ?_))
      obtain ⟨⟨S, X⟩, hcc, hss⟩ := q13
      refine x_aload d121_72 rfl ?_
      refine x_gfR d121_74 cl121 f11_451 (Pc.ob (Ls.mem S.lp (x).toNat (by omega))) (V.g (Pc.g (Ls.mem S.lp (x).toNat (by omega)))) (Pc.r6 (Ls.mem S.lp (x).toNat (by omega))) ?_
      refine x_iconst d121_77 ?_
      refine x_iload d121_78 rfl ?_
      refine x_iastore d121_80 (by have := Pc.g (Ls.mem S.lp (x).toNat (by omega)); omega) (Pc.o6 (Ls.mem S.lp (x).toNat (by omega))) ⟨by omega, by rw [(Pc.l6 (Ls.mem S.lp (x).toNat (by omega)))]; omega⟩ (V.g (by have := Pc.g (Ls.mem S.lp (x).toNat (by omega)); omega)) (x_wr (fun g => IV g mP mC mI mD mB nP nC nI nD nB ∧ hC g = c0 ∧ hS g = s0) ⟨⟨Hv_pr6 S (Ls.mem S.lp (x).toNat (by omega)) (by omega), EX_p (m := 6) S X (Ls.mem S.lp (x).toNat (by omega)) (by decide) (Or.inl (by decide))⟩, hcc, hss⟩ (fun h q14 => ?_))
      obtain ⟨⟨S, X⟩, hcc, hss⟩ := q14
      refine x_aload d121_81 rfl ?_
      refine x_iload d121_83 rfl ?_
      refine x_pfI d121_85 cl121 f11_454 (Pc.ob (Ls.mem S.lp (x).toNat (by omega))) (V.g (Pc.g (Ls.mem S.lp (x).toNat (by omega)))) (fun q => by cases q) (x_wr (fun g => IV g mP mC mI mD mB nP nC nI nD nB ∧ hC g = c0 ∧ hS g = s0) ⟨⟨Hv_pf15 S (Ls.mem S.lp (x).toNat (by omega)) (by omega), EX_p (m := 0) S X (Ls.mem S.lp (x).toNat (by omega)) (by decide) (Or.inr (by decide))⟩, hcc, hss⟩ (fun h q15 => ?_))
      obtain ⟨⟨S, X⟩, hcc, hss⟩ := q15
      refine x_aload_n d121_88 rfl ?_
      refine x_gfR d121_89 cl121 f11_70 (S.F.o rfl (by decide)) rfl (S.F.r rfl) ?_
      refine x_aload d121_92 rfl ?_
      refine x_VE d121_94 cl121 m11_457 kd77 tg77 po77 le77 (by decide) (S.F.o rfl (by decide)) (C77 V S (Ls.mem S.lp (x).toNat (by omega))) (fun v16 r16 z16 => ?_)
      try dsimp only at r16
      exact x_iret d121_97 rt121 (hQ1 _ _ (MR_of ⟨S, X⟩ (by omega) (by omega)))
theorem C122 {d : Nat} {h : Hp} {x : Int} (qx : -2147483648 ≤ x ∧ x < 2147483648) {mP mC mI mD mB : Nat → Nat} {nP nC nI nD nB : Nat} (K : IV h mP mC mI mD mB nP nC nI nD nB) : MX DA (d + 1) 122 [vR (some 2), vI x] h (fun w g => ∃ v : Int, w = vI v ∧ MR h g) := by
  refine MX_of (fun Q hQ1 hQ0 => ?_)
  have V := Vis_DA
  obtain ⟨S, X⟩ := K
  obtain ⟨c0, s0, hcc, hss⟩ : ∃ c0 s0, hC h = c0 ∧ hS h = s0 := ⟨_, _, rfl, rfl⟩
  refine x_ent en122 ?_
  refine x_iload_n d122_0 rfl ?_
  refine x_iconst d122_1 ?_
  refine x_sipush d122_2 (by decide) ?_
  refine x_SE d122_5 cl122 m11_84 kd83 po83 le83 (C83 (by omega) (by omega) (by omega)) (fun v1 r1 z1 => ?_)
  try dsimp only at r1
  refine x_ck d122_8 cl122 m11_88 kd84 po84 le84 rfl (fun c => C84 c) (fun c => C84x c) (by omega) (hQ0 _ (by decide)) (fun k8_2 => ?_)
  refine x_aload_n d122_11 rfl ?_
  refine x_gfI d122_12 cl122 f11_372 (by decide) (S.F.o rfl (by decide)) rfl ?_
  have g3 := S.today
  refine x_iload_n d122_15 rfl ?_
  refine x_iadd d122_16 ?_
  refine x_sipush d122_17 (by decide) ?_
  refine x_icgt (t := 27) d122_20 rfl (by omega) (fun c20_4 => ?_) (fun c20_4 => ?_)
  · refine x_iconst d122_27 ?_
    exact x_ck d122_28 cl122 m11_122 kd88 po88 le88 rfl (fun c => C88 c) (fun c => C88x c) (by omega) (hQ0 _ (by decide)) (fun c => absurd c (by decide))
  · refine x_iconst d122_23 ?_
    refine x_goto (t := 28) d122_24 rfl ?_
    refine x_SN d122_28 cl122 m11_122 kd88 po88 le88 (C88 (by omega)) ?_
    refine x_aload_n d122_31 rfl ?_
    refine x_dupR d122_32 ?_
    refine x_gfI d122_33 cl122 f11_372 (by decide) (S.F.o rfl (by decide)) rfl ?_
    have g7 := S.today
    refine x_iload_n d122_36 rfl ?_
    refine x_iadd d122_37 ?_
    refine x_pfI d122_38 cl122 f11_372 (S.F.o rfl (by decide)) rfl (fun q => by cases q) (x_wr (fun g => IV g mP mC mI mD mB nP nC nI nD nB ∧ hC g = c0 ∧ hS g = s0) ⟨⟨Hv_f2_11 S (by omega), EX_f S X rfl⟩, hcc, hss⟩ (fun h q8 => ?_))
    obtain ⟨⟨S, X⟩, hcc, hss⟩ := q8
    refine x_aload_n d122_41 rfl ?_
    refine x_gfI d122_42 cl122 f11_372 (by decide) (S.F.o rfl (by decide)) rfl ?_
    have g9 := S.today
    exact x_iret d122_45 rt122 (hQ1 _ _ (MR_of ⟨S, X⟩ (by omega) (by omega)))
theorem C107 {d : Nat} {h : Hp} {x y w : Int} (qx : -2147483648 ≤ x ∧ x < 2147483648) (qy : -2147483648 ≤ y ∧ y < 2147483648) (qw : -2147483648 ≤ w ∧ w < 2147483648) {mP mC mI mD mB : Nat → Nat} {nP nC nI nD nB : Nat} (K : IV h mP mC mI mD mB nP nC nI nD nB) : MX DA (d + 6) 107 [vR (some 2), vI x, vI y, vI w] h (fun w g => ∃ v : Int, w = vI v ∧ MR h g) := by
  refine MX_of (fun Q hQ1 hQ0 => ?_)
  have V := Vis_DA
  obtain ⟨S, X⟩ := K
  obtain ⟨c0, s0, hcc, hss⟩ : ∃ c0 s0, hC h = c0 ∧ hS h = s0 := ⟨_, _, rfl, rfl⟩
  have hnc := S.nc
  have hni := S.ni
  refine x_ent en107 ?_
  refine x_aload_n d107_0 rfl ?_
  refine x_iload_n d107_1 rfl ?_
  refine x_VE d107_2 cl107 m11_306 kd108 tg108 po108 le108 (by decide) (S.F.o rfl (by decide)) (C108 V S (by omega)) (fun v1 r1 z1 => ?_)
  try dsimp only at r1
  refine x_ifeq (t := 20) d107_5 rfl (by omega) (fun c5_2 => ?_) (fun c5_2 => ?_)
  · refine x_iconst d107_20 ?_
    exact x_ck d107_21 cl107 m11_112 kd94 po94 le94 rfl (fun c => C94 c) (fun c => C94x c) (by omega) (hQ0 _ (by decide)) (fun c => absurd c (by decide))
  · refine x_aload_n d107_8 rfl ?_
    refine x_iload_n d107_9 rfl ?_
    refine x_VE d107_10 cl107 m11_309 kd109 tg109 po109 le109 (by decide) (S.F.o rfl (by decide)) (C109 V S (by omega)) (fun v4 r4 z4 => ?_)
    try dsimp only at r4
    refine x_ifeq (t := 20) d107_13 rfl (by omega) (fun c13_5 => ?_) (fun c13_5 => ?_)
    · refine x_iconst d107_20 ?_
      exact x_ck d107_21 cl107 m11_112 kd94 po94 le94 rfl (fun c => C94 c) (fun c => C94x c) (by omega) (hQ0 _ (by decide)) (fun c => absurd c (by decide))
    · refine x_iconst d107_16 ?_
      refine x_goto (t := 21) d107_17 rfl ?_
      refine x_SN d107_21 cl107 m11_112 kd94 po94 le94 (C94 (by omega)) ?_
      refine x_iload_n d107_24 rfl ?_
      refine x_iconst d107_25 ?_
      refine x_iconst d107_26 ?_
      refine x_SE d107_27 cl107 m11_84 kd83 po83 le83 (C83 (by omega) (by omega) (by omega)) (fun v8 r8 z8 => ?_)
      try dsimp only at r8
      refine x_ck d107_30 cl107 m11_88 kd84 po84 le84 rfl (fun c => C84 c) (fun c => C84x c) (by omega) (hQ0 _ (by decide)) (fun k30_9 => ?_)
      refine x_aload_n d107_33 rfl ?_
      refine x_gfR d107_34 cl107 f11_43 (S.F.o rfl (by decide)) rfl (S.F.r rfl) ?_
      refine x_iload_n d107_37 rfl ?_
      refine x_VV d107_38 cl107 m11_132 kd173 tg173 po173 le173 (by decide) (S.F.o rfl (by decide)) (C173 (d := d + 2) (S.F.o rfl (by decide)) rfl rfl S.lc V (by omega) (by omega)) ?_
      refine x_cast d107_41 cl107 ct11_298 (Cv.ob (Ls.mem S.lc (x).toNat (by omega))) ?_
      refine x_astore [some (vR _), some (vI _), some (vI _), some (vI _), some (vR _)] d107_44 rfl ?_
      refine x_aload d107_46 rfl ?_
      refine x_gfR d107_48 cl107 f11_312 (Cv.ob (Ls.mem S.lc (x).toNat (by omega))) (V.g (Cv.g (Ls.mem S.lc (x).toNat (by omega)))) (Cv.r1 (Ls.mem S.lc (x).toNat (by omega))) ?_
      refine x_iload_n d107_51 rfl ?_
      refine x_iload_n d107_52 rfl ?_
      refine x_iastore d107_53 (by have := Cv.g (Ls.mem S.lc (x).toNat (by omega)); omega) (Cv.o1 (Ls.mem S.lc (x).toNat (by omega))) ⟨by omega, by rw [(Cv.l1 (Ls.mem S.lc (x).toNat (by omega)))]; omega⟩ (V.g (by have := Cv.g (Ls.mem S.lc (x).toNat (by omega)); omega)) (x_wr (fun g => IV g mP mC mI mD mB nP nC nI nD nB ∧ hC g = c0 ∧ hS g = s0) ⟨⟨Hv_cr1 S (Ls.mem S.lc (x).toNat (by omega)) (by omega), EX_c (m := 1) S X (Ls.mem S.lc (x).toNat (by omega)) (by decide)⟩, hcc, hss⟩ (fun h q11 => ?_))
      obtain ⟨⟨S, X⟩, hcc, hss⟩ := q11
      refine x_aload_n d107_54 rfl ?_
      refine x_aload d107_55 rfl ?_
      refine x_VE d107_57 cl107 m11_314 kd110 tg110 po110 le110 (by decide) (S.F.o rfl (by decide)) (C110 V S (Ls.mem S.lc (x).toNat (by omega))) (fun v12 r12 z12 => ?_)
      try dsimp only at r12
      exact x_iret d107_60 rt107 (hQ1 _ _ (MR_of ⟨S, X⟩ (by omega) (by omega)))
theorem C111 {d : Nat} {h : Hp} {x y z : Int} (qx : -2147483648 ≤ x ∧ x < 2147483648) (qy : -2147483648 ≤ y ∧ y < 2147483648) (qz : z = 0 ∨ z = 1) {mP mC mI mD mB : Nat → Nat} {nP nC nI nD nB : Nat} (K : IV h mP mC mI mD mB nP nC nI nD nB) : MX DA (d + 4) 111 [vR (some 2), vI x, vI y, vI z] h (fun w g => ∃ v : Int, w = vI v ∧ MR h g) := by
  refine MX_of (fun Q hQ1 hQ0 => ?_)
  have V := Vis_DA
  obtain ⟨S, X⟩ := K
  obtain ⟨c0, s0, hcc, hss⟩ : ∃ c0 s0, hC h = c0 ∧ hS h = s0 := ⟨_, _, rfl, rfl⟩
  have hnc := S.nc
  refine x_ent en111 ?_
  refine x_aload_n d111_0 rfl ?_
  refine x_iload_n d111_1 rfl ?_
  refine x_VE d111_2 cl111 m11_306 kd108 tg108 po108 le108 (by decide) (S.F.o rfl (by decide)) (C108 V S (by omega)) (fun v1 r1 z1 => ?_)
  try dsimp only at r1
  refine x_ck d111_5 cl111 m11_112 kd94 po94 le94 rfl (fun c => C94 c) (fun c => C94x c) (by omega) (hQ0 _ (by decide)) (fun k5_2 => ?_)
  refine x_iload_n d111_8 rfl ?_
  refine x_SE d111_9 cl111 m11_276 kd90 po90 le90 (C90 (by omega)) (fun v3 r3 z3 => ?_)
  try dsimp only at r3
  refine x_ck d111_12 cl111 m11_88 kd84 po84 le84 rfl (fun c => C84 c) (fun c => C84x c) (by omega) (hQ0 _ (by decide)) (fun k12_4 => ?_)
  refine x_aload_n d111_15 rfl ?_
  refine x_gfR d111_16 cl111 f11_43 (S.F.o rfl (by decide)) rfl (S.F.r rfl) ?_
  refine x_iload_n d111_19 rfl ?_
  refine x_VV d111_20 cl111 m11_132 kd173 tg173 po173 le173 (by decide) (S.F.o rfl (by decide)) (C173 (d := d + 0) (S.F.o rfl (by decide)) rfl rfl S.lc V (by omega) (by omega)) ?_
  refine x_cast d111_23 cl111 ct11_298 (Cv.ob (Ls.mem S.lc (x).toNat (by omega))) ?_
  refine x_astore [some (vR _), some (vI _), some (vI _), some (vI _), some (vR _), none] d111_26 rfl ?_
  refine x_aload d111_28 rfl ?_
  refine x_gfI d111_30 cl111 f11_303 (by decide) (Cv.ob (Ls.mem S.lc (x).toNat (by omega))) (V.g (Cv.g (Ls.mem S.lc (x).toNat (by omega)))) ?_
  have g6 := (Cv.arrived (Ls.mem S.lc (x).toNat (by omega)))
  refine x_nm (fun w33_7 ew33_7 => ?_)
  refine x_istore [some (vR _), some (vI _), some (vI _), some (vI _), some (vR _), some (vI _)] d111_33 rfl ?_
  refine x_aload d111_35 rfl ?_
  refine x_iload_n d111_37 rfl ?_
  refine x_pfI d111_38 cl111 f11_303 (Cv.ob (Ls.mem S.lc (x).toNat (by omega))) (V.g (Cv.g (Ls.mem S.lc (x).toNat (by omega)))) (fun q => by cases q) (x_wr (fun g => IV g mP mC mI mD mB nP nC nI nD nB ∧ hC g = c0 ∧ hS g = s0) ⟨⟨Hv_cf5 S (Ls.mem S.lc (x).toNat (by omega)) (by omega), EX_c (m := 0) S X (Ls.mem S.lc (x).toNat (by omega)) (by decide)⟩, hcc, hss⟩ (fun h q8 => ?_))
  obtain ⟨⟨S, X⟩, hcc, hss⟩ := q8
  refine x_aload d111_41 rfl ?_
  refine x_iload_n d111_43 rfl ?_
  refine x_pfZ d111_44 cl111 f11_318 (Cv.ob (Ls.mem S.lc (x).toNat (by omega))) (V.g (Cv.g (Ls.mem S.lc (x).toNat (by omega)))) (fun q => by cases q) (by omega) (x_wr (fun g => IV g mP mC mI mD mB nP nC nI nD nB ∧ hC g = c0 ∧ hS g = s0) ⟨⟨Hv_cf6 S (Ls.mem S.lc (x).toNat (by omega)) (by omega), EX_c (m := 0) S X (Ls.mem S.lc (x).toNat (by omega)) (by decide)⟩, hcc, hss⟩ (fun h q9 => ?_))
  obtain ⟨⟨S, X⟩, hcc, hss⟩ := q9
  refine x_iload d111_47 rfl ?_
  exact x_iret d111_49 rt111 (hQ1 _ _ (MR_of ⟨S, X⟩ (by omega) (by omega)))
