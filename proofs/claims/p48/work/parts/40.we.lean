theorem C164 {D : Nat → Nat → Bool} {d : Nat} {h : Hp} {mP mC mI mD mB : Nat → Nat} {nP nC nI nD nB : Nat} (V : Vis D) (S : Hv h mP mC mI mD mB nP nC nI nD nB) (f : Nat → Int) (hf : ∀ k, k < nC → ∃ d2, PV D d2 149 [vR (some 2), vR (some (mC k))] h (vI (f k))) : ∃ v : Int, (fun v : Int => v = 1) v ∧ PV D (d + 7) 164 [vR (some 2)] h (vI v) := by
  refine PE_of (fun Q hQ => ?_)
  refine x_ent en164 ?_
  have hnc := S.nc; have hnd := S.nd
  refine x_iconst d164_0 ?_
  refine x_nm (fun w1_1 ew1_1 => ?_)
  refine x_istore_n [some (vR _), some (vI _), none, none] d164_1 rfl ?_
  refine x_iconst d164_2 ?_
  refine x_nm (fun w3_2 ew3_2 => ?_)
  refine x_istore_n [some (vR _), some (vI _), some (vI _), none] d164_3 rfl ?_
  refine (x_ub (N := nD) (P := fun i3 => ∀ s3_1 : Int, ((i3 = 0 → s3_1 = 0) ∧ (i3 = 1 → s3_1 = cntI f nC) ∧ 0 ≤ s3_1 ∧ s3_1 ≤ 12) → wp D (d + 7) 164 4 [some (vR (some 2)), some (vI s3_1), some (vI i3), none] [] h Q) w3_2 (by omega) (fun i3 hi3 hj3 ih3 s3_1 hs3_1 => ?_)) _ (by omega)
  refine x_iload_n d164_4 rfl ?_
  refine x_aload_n d164_5 rfl ?_
  refine x_gfR d164_6 cl164 f11_40 (S.F.o rfl (by decide)) (V _ _ rfl) (S.F.r rfl) ?_
  refine x_VE d164_9 cl164 m11_129 kd168 tg168 po168 le168 (by decide) (S.F.o rfl (by decide)) (C168 (S.F.o rfl (by decide)) (V _ _ rfl) S.ld) (fun v4 r4 z4 => ?_)
  try dsimp only at r4
  refine x_icge (t := 29) d164_12 rfl (by omega) (fun c12_5 => ?_) (fun c12_5 => ?_)
  · refine x_iconst d164_29 ?_
    refine x_nm (fun w30_6 ew30_6 => ?_)
    refine x_istore_n [some (vR _), some (vI _), some (vI _), none] d164_30 rfl ?_
    refine x_iconst d164_31 ?_
    refine x_nm (fun w32_7 ew32_7 => ?_)
    refine x_istore_n [some (vR _), some (vI _), some (vI _), some (vI _)] d164_32 rfl ?_
    refine (x_ub (N := nC) (P := fun i8 => ∀ s8_2 : Int, (s8_2 = cntI f (i8).toNat ∧ 0 ≤ s8_2 ∧ s8_2 ≤ i8) → wp D (d + 7) 164 33 [some (vR (some 2)), some (vI s3_1), some (vI s8_2), some (vI i8)] [] h Q) w32_7 (by omega) (fun i8 hi8 hj8 ih8 s8_2 hs8_2 => ?_)) _ (by subst_vars; exact ⟨rfl, by omega, by omega⟩)
    refine x_iload_n d164_33 rfl ?_
    refine x_aload_n d164_34 rfl ?_
    refine x_gfR d164_35 cl164 f11_43 (S.F.o rfl (by decide)) (V _ _ rfl) (S.F.r rfl) ?_
    refine x_VE d164_38 cl164 m11_129 kd168 tg168 po168 le168 (by decide) (S.F.o rfl (by decide)) (C168 (S.F.o rfl (by decide)) (V _ _ rfl) S.lc) (fun v9 r9 z9 => ?_)
    try dsimp only at r9
    refine x_icge (t := 71) d164_41 rfl (by omega) (fun c41_10 => ?_) (fun c41_10 => ?_)
    · have e71 : cntI f (i8).toNat = cntI f nC := by rw [show (i8).toNat = nC by omega]
      refine x_iload_n d164_71 rfl ?_
      refine x_iload_n d164_72 rfl ?_
      refine x_icne (t := 80) d164_73 rfl (by omega) (fun c73_11 => ?_) (fun c73_11 => ?_)
      · exfalso; omega
      · refine x_iconst d164_76 ?_
        refine x_goto (t := 81) d164_77 rfl ?_
        exact x_zret d164_81 rt164 (by omega) (hQ _ (by omega))
    · refine x_aload_n d164_44 rfl ?_
      refine x_aload_n d164_45 rfl ?_
      refine x_gfR d164_46 cl164 f11_43 (S.F.o rfl (by decide)) (V _ _ rfl) (S.F.r rfl) ?_
      refine x_iload_n d164_49 rfl ?_
      refine x_VV d164_50 cl164 m11_132 kd173 tg173 po173 le173 (by decide) (S.F.o rfl (by decide)) (C173 (d := d + 3) (S.F.o rfl (by decide)) (V _ _ rfl) (V _ _ rfl) S.lc V (by omega) (by omega)) ?_
      refine x_cast d164_53 cl164 ct11_298 (Cv.ob (Ls.mem S.lc (i8).toNat (by omega))) ?_
      refine x_VE d164_56 cl164 m11_334 kd149 tg149 po149 le149 (by decide) (S.F.o rfl (by decide)) (C149 V S (Ls.mem S.lc (i8).toNat (by omega))) (fun v13 r13 z13 => ?_)
      try dsimp only at r13
      obtain ⟨d9, h9⟩ := hf (i8).toNat (by omega)
      have hw := Sum.inl.inj (PV_det h9 z13)
      have hu := cntI_up f (i8) (by omega)
      rw [hw] at hu
      refine x_ifne (t := 65) d164_59 rfl (by omega) (fun c59_14 => ?_) (fun c59_14 => ?_)
      · refine x_iinc [some (vR _), some (vI _), some (vI _), some (vI _)] d164_65 rfl rfl ?_
        refine x_goto (t := 33) d164_68 rfl ?_
        exact ih8 (by omega) _ (by omega)
      · refine x_iinc [some (vR _), some (vI _), some (vI _), some (vI _)] d164_62 rfl rfl ?_
        refine x_iinc [some (vR _), some (vI _), some (vI _), some (vI _)] d164_65 rfl rfl ?_
        refine x_goto (t := 33) d164_68 rfl ?_
        exact ih8 (by omega) _ (by omega)
  · refine x_iload_n d164_15 rfl ?_
    refine x_aload_n d164_16 rfl ?_
    refine x_iload_n d164_17 rfl ?_
    refine x_VE d164_18 cl164 m11_341 kd150 tg150 po150 le150 (by decide) (S.F.o rfl (by decide)) (C150 V S f hf (by omega)) (fun v15 r15 z15 => ?_)
    try dsimp only at r15
    refine x_iadd d164_21 ?_
    refine x_nm (fun w22_16 ew22_16 => ?_)
    refine x_istore_n [some (vR _), some (vI _), some (vI _), none] d164_22 rfl ?_
    refine x_iinc [some (vR _), some (vI _), some (vI _), none] d164_23 rfl rfl ?_
    refine x_goto (t := 4) d164_26 rfl ?_
    exact ih3 (by omega) _ (by omega)
