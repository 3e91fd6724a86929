theorem C56 {D : Nat → Nat → Bool} {d : Nat} {h : Hp} {mP mC mI mD mB : Nat → Nat} {nP nC nI nD nB : Nat} (V : Vis D) (S : Hv h mP mC mI mD mB nP nC nI nD nB) (VB : ∀ a j, DB a j = true → D a j = true) : ∃ v : Int, (fun v : Int => -2147483648 ≤ v ∧ v < 2147483648) v ∧ PV D (d + 4) 56 [vR (some 55)] h (vI v) := by
  refine PE_of (fun Q hQ => ?_)
  refine x_ent en56 ?_
  have hnb := S.nb
  refine x_iconst d56_0 ?_
  refine x_nm (fun w1_1 ew1_1 => ?_)
  refine x_istore_n [some (vR _), some (vI _), none] d56_1 rfl ?_
  refine x_iconst d56_2 ?_
  refine x_nm (fun w3_2 ew3_2 => ?_)
  refine x_istore_n [some (vR _), some (vI _), some (vI _)] d56_3 rfl ?_
  refine (x_ub (N := nB) (P := fun i3 => ∀ s3_1 : Int, (-2147483648 ≤ s3_1 ∧ s3_1 < 2147483648) → wp D (d + 4) 56 4 [some (vR (some 55)), some (vI s3_1), some (vI i3)] [] h Q) w3_2 (by omega) (fun i3 hi3 hj3 ih3 s3_1 hs3_1 => ?_)) _ (by omega)
  refine x_iload_n d56_4 rfl ?_
  refine x_aload_n d56_5 rfl ?_
  refine x_gfR d56_6 cl56 f7_25 (S.F.o rfl (by decide)) (VB _ _ rfl) (S.F.r rfl) ?_
  refine x_VE d56_9 cl56 m7_59 kd168 tg168 po168 le168 (by decide) (S.F.o rfl (by decide)) (C168 (S.F.o rfl (by decide)) (VB _ _ rfl) S.lb) (fun v4 r4 z4 => ?_)
  try dsimp only at r4
  refine x_icge (t := 46) d56_12 rfl (by omega) (fun c12_5 => ?_) (fun c12_5 => ?_)
  · refine x_iload_n d56_46 rfl ?_
    exact x_iret d56_47 rt56 (hQ _ (by omega))
  · refine x_aload_n d56_15 rfl ?_
    refine x_iload_n d56_16 rfl ?_
    refine x_VE d56_17 cl56 m7_102 kd57 tg57 po57 le57 (by decide) (S.F.o rfl (by decide)) (C57 V S VB) (fun v6 r6 z6 => ?_)
    try dsimp only at r6
    refine x_ifeq (t := 40) d56_20 rfl (by omega) (fun c20_7 => ?_) (fun c20_7 => ?_)
    · refine x_iinc [some (vR _), some (vI _), some (vI _)] d56_40 rfl rfl ?_
      refine x_goto (t := 4) d56_43 rfl ?_
      exact ih3 (by omega) _ (by omega)
    · refine x_iload_n d56_23 rfl ?_
      refine x_aload_n d56_24 rfl ?_
      refine x_gfR d56_25 cl56 f7_25 (S.F.o rfl (by decide)) (VB _ _ rfl) (S.F.r rfl) ?_
      refine x_iload_n d56_28 rfl ?_
      refine x_VV d56_29 cl56 m7_79 kd173 tg173 po173 le173 (by decide) (S.F.o rfl (by decide)) (C173 (d := d + 0) (S.F.o rfl (by decide)) (VB _ _ rfl) (VB _ _ rfl) S.lb V (by omega) (by omega)) ?_
      refine x_cast d56_32 cl56 ct7_50 (Bi.ob (Ls.mem S.lb (i3).toNat (by omega))) ?_
      refine x_gfI d56_35 cl56 f7_94 (by decide) (Bi.ob (Ls.mem S.lb (i3).toNat (by omega))) (V.g (Bi.g (Ls.mem S.lb (i3).toNat (by omega)))) ?_
      have g9 := (Bi.items (Ls.mem S.lb (i3).toNat (by omega)))
      refine x_iorq d56_38 (fun q10 => ?_)
      refine x_nm (fun w39_11 ew39_11 => ?_)
      refine x_istore_n [some (vR _), some (vI _), some (vI _)] d56_39 rfl ?_
      refine x_iinc [some (vR _), some (vI _), some (vI _)] d56_40 rfl rfl ?_
      refine x_goto (t := 4) d56_43 rfl ?_
      exact ih3 (by omega) _ (by omega)
theorem C58 {D : Nat → Nat → Bool} {d : Nat} {h : Hp} {mP mC mI mD mB : Nat → Nat} {nP nC nI nD nB : Nat} (V : Vis D) (S : Hv h mP mC mI mD mB nP nC nI nD nB) (VB : ∀ a j, DB a j = true → D a j = true) : ∃ v : Int, (fun v : Int => -1 ≤ v ∧ v < 40) v ∧ PV D (d + 2) 58 [vR (some 55)] h (vI v) := by
  refine PE_of (fun Q hQ => ?_)
  refine x_ent en58 ?_
  have hnb := S.nb
  refine x_iconst d58_0 ?_
  refine x_nm (fun w1_1 ew1_1 => ?_)
  refine x_istore_n [some (vR _), some (vI _)] d58_1 rfl ?_
  refine (x_ub (N := nB) (P := fun i2 => wp D (d + 2) 58 2 [some (vR (some 55)), some (vI i2)] [] h Q) w1_1 (by omega) (fun i2 hi2 hj2 ih2 => ?_))
  refine x_iload_n d58_2 rfl ?_
  refine x_aload_n d58_3 rfl ?_
  refine x_gfR d58_4 cl58 f7_25 (S.F.o rfl (by decide)) (VB _ _ rfl) (S.F.r rfl) ?_
  refine x_VE d58_7 cl58 m7_59 kd168 tg168 po168 le168 (by decide) (S.F.o rfl (by decide)) (C168 (S.F.o rfl (by decide)) (VB _ _ rfl) S.lb) (fun v3 r3 z3 => ?_)
  try dsimp only at r3
  refine x_icge (t := 29) d58_10 rfl (by omega) (fun c10_4 => ?_) (fun c10_4 => ?_)
  · refine x_iconst d58_29 ?_
    exact x_iret d58_30 rt58 (hQ _ (by omega))
  · refine x_aload_n d58_13 rfl ?_
    refine x_iload_n d58_14 rfl ?_
    refine x_VE d58_15 cl58 m7_102 kd57 tg57 po57 le57 (by decide) (S.F.o rfl (by decide)) (C57 V S VB) (fun v5 r5 z5 => ?_)
    try dsimp only at r5
    refine x_ifeq (t := 23) d58_18 rfl (by omega) (fun c18_6 => ?_) (fun c18_6 => ?_)
    · refine x_iinc [some (vR _), some (vI _)] d58_23 rfl rfl ?_
      refine x_goto (t := 2) d58_26 rfl ?_
      exact ih2 (by omega) 
    · refine x_iload_n d58_21 rfl ?_
      exact x_iret d58_22 rt58 (hQ _ (by omega))
theorem C65 {D : Nat → Nat → Bool} {d : Nat} {h : Hp} {x : Int} {mP mC mI mD mB : Nat → Nat} {nP nC nI nD nB : Nat} (V : Vis D) (S : Hv h mP mC mI mD mB nP nC nI nD nB) (VB : ∀ a j, DB a j = true → D a j = true) (qx : 0 ≤ x ∧ x < 8) : ∃ v : Int, (fun v : Int => -1 ≤ v ∧ v ≤ 9) v ∧ PV D (d + 5) 65 [vR (some 55), vI x] h (vI v) := by
  refine PE_of (fun Q hQ => ?_)
  refine x_ent en65 ?_
  have hnb := S.nb
  refine x_aload_n d65_0 rfl ?_
  refine x_iload_n d65_1 rfl ?_
  refine x_iconst d65_2 ?_
  refine x_VE d65_3 cl65 m7_125 kd61 tg61 po61 le61 (by decide) (S.F.o rfl (by decide)) (C61 V S VB (by omega) (by omega)) (fun v1 r1 z1 => ?_)
  try dsimp only at r1
  refine x_nm (fun w6_2 ew6_2 => ?_)
  refine x_istore_n [some (vR _), some (vI _), some (vI _)] d65_6 rfl ?_
  refine x_iload_n d65_7 rfl ?_
  refine x_iconst d65_8 ?_
  refine x_icne (t := 16) d65_9 rfl (by omega) (fun c9_3 => ?_) (fun c9_3 => ?_)
  · refine x_aload_n d65_16 rfl ?_
    refine x_gfR d65_17 cl65 f7_25 (S.F.o rfl (by decide)) (VB _ _ rfl) (S.F.r rfl) ?_
    refine x_iload_n d65_20 rfl ?_
    refine x_VV d65_21 cl65 m7_79 kd173 tg173 po173 le173 (by decide) (S.F.o rfl (by decide)) (C173 (d := d + 1) (S.F.o rfl (by decide)) (VB _ _ rfl) (VB _ _ rfl) S.lb V (by omega) (by omega)) ?_
    refine x_cast d65_24 cl65 ct7_50 (Bi.ob (Ls.mem S.lb (w6_2).toNat (by omega))) ?_
    refine x_gfI d65_27 cl65 f7_119 (by decide) (Bi.ob (Ls.mem S.lb (w6_2).toNat (by omega))) (V.g (Bi.g (Ls.mem S.lb (w6_2).toNat (by omega)))) ?_
    have g5 := (Bi.bidder (Ls.mem S.lb (w6_2).toNat (by omega)))
    exact x_iret d65_30 rt65 (hQ _ (by omega))
  · refine x_iconst d65_12 ?_
    refine x_goto (t := 30) d65_13 rfl ?_
    exact x_iret d65_30 rt65 (hQ _ (by omega))
theorem and_or0 {a b c : Int} (h1 : o32 fand a c = 0) (h2 : o32 fand b c = 0) : o32 fand (o32 fior a b) c = 0 := by
  refine B32_inj o32_r (by omega) ?_
  have e1 := congrArg B32 h1
  have e2 := congrArg B32 h2
  rw [B32_and] at e1 e2
  rw [B32_and, B32_or]
  apply BitVec.eq_of_getLsbD_eq
  intro i hi
  have f1 := congrArg (fun q => BitVec.getLsbD q i) e1
  have f2 := congrArg (fun q => BitVec.getLsbD q i) e2
  rw [show B32 0 = 0#32 from rfl] at *
  simp only [BitVec.getLsbD_and, BitVec.getLsbD_or, BitVec.getLsbD_zero] at f1 f2 ⊢
  revert f1 f2
  cases (B32 a).getLsbD i <;> cases (B32 b).getLsbD i <;> cases (B32 c).getLsbD i <;> simp
theorem and_0 {c : Int} : o32 fand 0 c = 0 := by
  refine B32_inj o32_r (by omega) ?_
  rw [B32_and, show B32 0 = 0#32 from rfl, BitVec.zero_and]
theorem C66 {D : Nat → Nat → Bool} {d : Nat} {h : Hp} {mP mC mI mD mB : Nat → Nat} {nP nC nI nD nB : Nat} (V : Vis D) (S : Hv h mP mC mI mD mB nP nC nI nD nB) (VB : ∀ a j, DB a j = true → D a j = true) (hX : ∀ j k : Int, 0 ≤ j → j < k → k < nB → tl (hI h 62 (o32 fshl 1 (hI h 55 0) - 1).toNat) j = 1 → tl (hI h 62 (o32 fshl 1 (hI h 55 0) - 1).toNat) k = 1 → o32 fand (hI h (mB j.toNat) 1) (hI h (mB k.toNat) 1) = 0) : ∃ v : Int, (fun v : Int => v = 1) v ∧ PV D (d + 4) 66 [vR (some 55)] h (vI v) := by
  refine PE_of (fun Q hQ => ?_)
  refine x_ent en66 ?_
  have hnb := S.nb
  refine x_iconst d66_0 ?_
  refine x_nm (fun w1_1 ew1_1 => ?_)
  refine x_istore_n [some (vR _), some (vI _), none] d66_1 rfl ?_
  refine x_iconst d66_2 ?_
  refine x_nm (fun w3_2 ew3_2 => ?_)
  refine x_istore_n [some (vR _), some (vI _), some (vI _)] d66_3 rfl ?_
  refine (x_ub (N := nB) (P := fun i3 => ∀ s3_1 : Int, (∀ k : Int, i3 ≤ k → k < nB → tl (hI h 62 (o32 fshl 1 (hI h 55 0) - 1).toNat) k = 1 → o32 fand s3_1 (hI h (mB k.toNat) 1) = 0) → wp D (d + 4) 66 4 [some (vR (some 55)), some (vI s3_1), some (vI i3)] [] h Q) w3_2 (by omega) (fun i3 hi3 hj3 ih3 s3_1 hs3_1 => ?_)) _ (fun k _ _ _ => by subst_vars; exact and_0)
  refine x_iload_n d66_4 rfl ?_
  refine x_aload_n d66_5 rfl ?_
  refine x_gfR d66_6 cl66 f7_25 (S.F.o rfl (by decide)) (VB _ _ rfl) (S.F.r rfl) ?_
  refine x_VE d66_9 cl66 m7_59 kd168 tg168 po168 le168 (by decide) (S.F.o rfl (by decide)) (C168 (S.F.o rfl (by decide)) (VB _ _ rfl) S.lb) (fun v4 r4 z4 => ?_)
  try dsimp only at r4
  refine x_icge (t := 67) d66_12 rfl (by omega) (fun c12_5 => ?_) (fun c12_5 => ?_)
  · refine x_iconst d66_67 ?_
    exact x_zret d66_68 rt66 (by omega) (hQ _ (by omega))
  · refine x_aload_n d66_15 rfl ?_
    refine x_iload_n d66_16 rfl ?_
    refine x_VE d66_17 cl66 m7_102 kd57 tg57 po57 le57 (by decide) (S.F.o rfl (by decide)) (C57 V S VB) (fun v6 r6 z6 => ?_)
    try dsimp only at r6
    refine x_ifeq (t := 61) d66_20 rfl (by omega) (fun c20_7 => ?_) (fun c20_7 => ?_)
    · have hinv : ∀ k : Int, (i3 + 1) ≤ k → k < nB → tl (hI h 62 (o32 fshl 1 (hI h 55 0) - 1).toNat) k = 1 → o32 fand s3_1 (hI h (mB k.toNat) 1) = 0 := fun k h1 h2 h3 => hs3_1 k (by omega) h2 h3
      refine x_iinc [some (vR _), some (vI _), some (vI _)] d66_61 rfl rfl ?_
      refine x_goto (t := 4) d66_64 rfl ?_
      exact ih3 (by omega) _ hinv
    · refine x_iload_n d66_23 rfl ?_
      refine x_aload_n d66_24 rfl ?_
      refine x_gfR d66_25 cl66 f7_25 (S.F.o rfl (by decide)) (VB _ _ rfl) (S.F.r rfl) ?_
      refine x_iload_n d66_28 rfl ?_
      refine x_VV d66_29 cl66 m7_79 kd173 tg173 po173 le173 (by decide) (S.F.o rfl (by decide)) (C173 (d := d + 0) (S.F.o rfl (by decide)) (VB _ _ rfl) (VB _ _ rfl) S.lb V (by omega) (by omega)) ?_
      refine x_cast d66_32 cl66 ct7_50 (Bi.ob (Ls.mem S.lb (i3).toNat (by omega))) ?_
      refine x_gfI d66_35 cl66 f7_94 (by decide) (Bi.ob (Ls.mem S.lb (i3).toNat (by omega))) (V.g (Bi.g (Ls.mem S.lb (i3).toNat (by omega)))) ?_
      have g9 := (Bi.items (Ls.mem S.lb (i3).toNat (by omega)))
      refine x_iandq d66_38 (fun q10 => ?_)
      have hz0 := hs3_1 i3 (by omega) (by omega) (by omega)
      refine x_ifeq (t := 44) d66_39 rfl (by omega) (fun c39_11 => ?_) (fun c39_11 => ?_)
      · refine x_iload_n d66_44 rfl ?_
        refine x_aload_n d66_45 rfl ?_
        refine x_gfR d66_46 cl66 f7_25 (S.F.o rfl (by decide)) (VB _ _ rfl) (S.F.r rfl) ?_
        refine x_iload_n d66_49 rfl ?_
        refine x_VV d66_50 cl66 m7_79 kd173 tg173 po173 le173 (by decide) (S.F.o rfl (by decide)) (C173 (d := d + 0) (S.F.o rfl (by decide)) (VB _ _ rfl) (VB _ _ rfl) S.lb V (by omega) (by omega)) ?_
        refine x_cast d66_53 cl66 ct7_50 (Bi.ob (Ls.mem S.lb (i3).toNat (by omega))) ?_
        refine x_gfI d66_56 cl66 f7_94 (by decide) (Bi.ob (Ls.mem S.lb (i3).toNat (by omega))) (V.g (Bi.g (Ls.mem S.lb (i3).toNat (by omega)))) ?_
        have g13 := (Bi.items (Ls.mem S.lb (i3).toNat (by omega)))
        refine x_iorq d66_59 (fun q14 => ?_)
        refine x_nm (fun w60_15 ew60_15 => ?_)
        refine x_istore_n [some (vR _), some (vI _), some (vI _)] d66_60 rfl ?_
        have hinv : ∀ k : Int, (i3 + 1) ≤ k → k < nB → tl (hI h 62 (o32 fshl 1 (hI h 55 0) - 1).toNat) k = 1 → o32 fand w60_15 (hI h (mB k.toNat) 1) = 0 := fun k h1 h2 h3 => by rw [ew60_15]; exact and_or0 (hs3_1 k (by omega) h2 h3) (hX (i3) k (by omega) (by omega) h2 (by omega) h3)
        refine x_iinc [some (vR _), some (vI _), some (vI _)] d66_61 rfl rfl ?_
        refine x_goto (t := 4) d66_64 rfl ?_
        exact ih3 (by omega) _ hinv
      · exfalso; omega
