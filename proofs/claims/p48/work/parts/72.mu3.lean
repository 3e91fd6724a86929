/-! ===== COVERS, BIDS, ISSUES ===== -/
theorem Cv_f5 {h : Hp} {p : Nat} {v : Int} (R : Cv h p) (hv : -100 ≤ v ∧ v ≤ 20000) : Cv (sI h p 5 v) p := Cv.mk (h := sI h p 5 v) (p := p) R.g R.n R.t R.t1 R.l1 R.r1 (by rw [hI_nk (by decide)]; exact R.from) (by rw [hI_nk (by decide)]; exact R.to) (by rw [hI_nk (by decide)]; exact R.weight) (by rw [hI_nk (by decide)]; exact R.die) (by rw [hI_nk (by decide)]; exact R.day) (by rw [hI_eq]; exact hv) (by rw [hI_nk (by decide)]; exact R.isTaxed) (Rg_ne R.stamps (by omega))
theorem C106 {d : Nat} {h : Hp} {x y w z u : Int} (qx : -2147483648 ≤ x ∧ x < 2147483648) (qy : -2147483648 ≤ y ∧ y < 2147483648) (qw : -2147483648 ≤ w ∧ w < 2147483648) (qz : -2147483648 ≤ z ∧ z < 2147483648) (qu : -2147483648 ≤ u ∧ u < 2147483648) {mP mC mI mD mB : Nat → Nat} {nP nC nI nD nB : Nat} (K : IV h mP mC mI mD mB nP nC nI nD nB) : MX DA (d + 5) 106 [vR (some 2), vI x, vI y, vI w, vI z, vI u] h (fun w g => ∃ v : Int, w = vI v ∧ MR h g) := by
  refine MX_of (fun Q hQ1 hQ0 => ?_)
  have V := Vis_DA
  obtain ⟨S, X⟩ := K
  obtain ⟨c0, s0, hcc, hss⟩ : ∃ c0 s0, hC h = c0 ∧ hS h = s0 := ⟨_, _, rfl, rfl⟩
  have hnc := S.nc
  have hnd := S.nd
  refine x_ent en106 ?_
  refine x_iload_n d106_0 rfl ?_
  refine x_SE d106_1 cl106 m11_266 kd93 po93 le93 (C93 (by omega)) (fun v1 r1 z1 => ?_)
  try dsimp only at r1
  refine x_ifeq (t := 36) d106_4 rfl (by omega) (fun c4_2 => ?_) (fun c4_2 => ?_)
  · refine x_iconst d106_36 ?_
    exact x_ck d106_37 cl106 m11_112 kd94 po94 le94 rfl (fun c => C94 c) (fun c => C94x c) (by omega) (hQ0 _ (by decide)) (fun c => absurd c (by decide))
  · refine x_iload_n d106_7 rfl ?_
    refine x_SE d106_8 cl106 m11_266 kd93 po93 le93 (C93 (by omega)) (fun v4 r4 z4 => ?_)
    try dsimp only at r4
    refine x_ifeq (t := 36) d106_11 rfl (by omega) (fun c11_5 => ?_) (fun c11_5 => ?_)
    · refine x_iconst d106_36 ?_
      exact x_ck d106_37 cl106 m11_112 kd94 po94 le94 rfl (fun c => C94 c) (fun c => C94x c) (by omega) (hQ0 _ (by decide)) (fun c => absurd c (by decide))
    · refine x_iload d106_14 rfl ?_
      refine x_iconst d106_16 ?_
      refine x_aload_n d106_17 rfl ?_
      refine x_gfR d106_18 cl106 f11_40 (S.F.o rfl (by decide)) rfl (S.F.r rfl) ?_
      refine x_VE d106_21 cl106 m11_129 kd168 tg168 po168 le168 (by decide) (S.F.o rfl (by decide)) (C168 (S.F.o rfl (by decide)) rfl S.ld) (fun v7 r7 z7 => ?_)
      try dsimp only at r7
      refine x_iconst d106_24 ?_
      refine x_isub d106_25 ?_
      refine x_SE d106_26 cl106 m11_84 kd83 po83 le83 (C83 (by omega) (by omega) (by omega)) (fun v8 r8 z8 => ?_)
      try dsimp only at r8
      refine x_ifeq (t := 36) d106_29 rfl (by omega) (fun c29_9 => ?_) (fun c29_9 => ?_)
      · refine x_iconst d106_36 ?_
        exact x_ck d106_37 cl106 m11_112 kd94 po94 le94 rfl (fun c => C94 c) (fun c => C94x c) (by omega) (hQ0 _ (by decide)) (fun c => absurd c (by decide))
      · refine x_iconst d106_32 ?_
        refine x_goto (t := 37) d106_33 rfl ?_
        refine x_SN d106_37 cl106 m11_112 kd94 po94 le94 (C94 (by omega)) ?_
        refine x_iload_n d106_40 rfl ?_
        refine x_iconst d106_41 ?_
        refine x_iconst d106_42 ?_
        refine x_SE d106_43 cl106 m11_84 kd83 po83 le83 (C83 (by omega) (by omega) (by omega)) (fun v12 r12 z12 => ?_)
        try dsimp only at r12
        refine x_ifeq (t := 61) d106_46 rfl (by omega) (fun c46_13 => ?_) (fun c46_13 => ?_)
        · refine x_iconst d106_61 ?_
          exact x_ck d106_62 cl106 m11_88 kd84 po84 le84 rfl (fun c => C84 c) (fun c => C84x c) (by omega) (hQ0 _ (by decide)) (fun c => absurd c (by decide))
        · refine x_iload d106_49 rfl ?_
          refine x_SE d106_51 cl106 m11_276 kd90 po90 le90 (C90 (by omega)) (fun v15 r15 z15 => ?_)
          try dsimp only at r15
          refine x_ifeq (t := 61) d106_54 rfl (by omega) (fun c54_16 => ?_) (fun c54_16 => ?_)
          · refine x_iconst d106_61 ?_
            exact x_ck d106_62 cl106 m11_88 kd84 po84 le84 rfl (fun c => C84 c) (fun c => C84x c) (by omega) (hQ0 _ (by decide)) (fun c => absurd c (by decide))
          · refine x_iconst d106_57 ?_
            refine x_goto (t := 62) d106_58 rfl ?_
            refine x_SN d106_62 cl106 m11_88 kd84 po84 le84 (C84 (by omega)) ?_
            refine x_aload_n d106_65 rfl ?_
            refine x_gfR d106_66 cl106 f11_43 (S.F.o rfl (by decide)) rfl (S.F.r rfl) ?_
            refine x_VE d106_69 cl106 m11_129 kd168 tg168 po168 le168 (by decide) (S.F.o rfl (by decide)) (C168 (S.F.o rfl (by decide)) rfl S.lc) (fun v19 r19 z19 => ?_)
            try dsimp only at r19
            refine x_bipush d106_72 (by decide) ?_
            refine x_icge (t := 81) d106_74 rfl (by omega) (fun c74_20 => ?_) (fun c74_20 => ?_)
            · refine x_iconst d106_81 ?_
              exact x_ck d106_82 cl106 m11_122 kd88 po88 le88 rfl (fun c => C88 c) (fun c => C88x c) (by omega) (hQ0 _ (by decide)) (fun c => absurd c (by decide))
            · refine x_iconst d106_77 ?_
              refine x_goto (t := 82) d106_78 rfl ?_
              refine x_SN d106_82 cl106 m11_122 kd88 po88 le88 (C88 (by omega)) ?_
              obtain ⟨c, hc0⟩ : ∃ c, hN h = c := ⟨_, rfl⟩
              refine x_new d106_85 cl106 nw11_298 ?_
              refine x_dupR d106_88 ?_
              refine x_iload_n d106_89 rfl ?_
              refine x_iload_n d106_90 rfl ?_
              refine x_iload_n d106_91 rfl ?_
              refine x_iload d106_92 rfl ?_
              refine x_iload d106_94 rfl ?_
              refine x_PU d106_96 cl106 m11_300 kd1 po1 le1 (by have := S.F.1; omega) (Ob_new (t := 1) (b := 0) (s := 8)).1 (C1 S.F.1) (fun g q => ?_)
              subst q
              rw [hc0]
              refine x_wr (fun g => IV g mP mC mI mD mB nP nC nI nD nB ∧ Cv g c ∧ hC g = hC h + 2 ∧ hS g = hS h + 18) (by
                obtain ⟨M, GC, hc9, hs9⟩ := mkCv_ok (h := h) (x := x) (y := y) (w := w) (z := z) (u := u) S.F.1 (by omega) (by omega) (by omega) (by omega) (by omega)
                refine ⟨IV_ext M ⟨S, X⟩, hc0 ▸ GC, hc9, hs9⟩) (fun h q => ?_)
              obtain ⟨⟨S, X⟩, GC, hc9, hs9⟩ := q
              have hcp := hcc; have hsp := hss
              obtain ⟨c0, s0, hcc, hss⟩ : ∃ c0 s0, hC h = c0 ∧ hS h = s0 := ⟨_, _, rfl, rfl⟩
              refine x_astore [some (vR _), some (vI _), some (vI _), some (vI _), some (vI _), some (vI _), some (vR _), none] d106_99 rfl ?_
              refine x_aload_n d106_101 rfl ?_
              refine x_gfR d106_102 cl106 f11_33 (S.F.o rfl (by decide)) rfl (S.F.r rfl) ?_
              refine x_iload_n d106_105 rfl ?_
              refine x_iload_n d106_106 rfl ?_
              refine x_VE d106_107 cl106 m11_273 kd41 tg41 po41 le41 (by decide) (S.F.o rfl (by decide)) (C41 V S (by omega) (by omega)) (fun v24 r24 z24 => ?_)
              try dsimp only at r24
              refine x_nm (fun w110_25 ew110_25 => ?_)
              refine x_istore [some (vR _), some (vI _), some (vI _), some (vI _), some (vI _), some (vI _), some (vR _), some (vI _)] d106_110 rfl ?_
              refine x_aload d106_112 rfl ?_
              refine x_iload d106_114 rfl ?_
              refine x_iconst d106_116 ?_
              refine x_icne (t := 125) d106_117 rfl (by omega) (fun c117_26 => ?_) (fun c117_26 => ?_)
              · refine x_iload d106_125 rfl ?_
                refine x_iload d106_127 rfl ?_
                refine x_iadd d106_129 ?_
                refine x_pfI d106_130 cl106 f11_303 (Cv.ob GC) (V.g (Cv.g GC)) (fun q => by cases q) (x_wr (fun g => IV g mP mC mI mD mB nP nC nI nD nB ∧ Cv g c ∧ hC g = c0 ∧ hS g = s0) ⟨⟨Hv_cf5 S GC (by omega), EX_c (m := 0) S X GC (by decide)⟩, Cv_f5 GC (by omega), hcc, hss⟩ (fun h q27 => ?_))
                obtain ⟨⟨S, X⟩, GC, hcc, hss⟩ := q27
                refine x_aload_n d106_133 rfl ?_
                refine x_gfR d106_134 cl106 f11_43 (S.F.o rfl (by decide)) rfl (S.F.r rfl) ?_
                refine x_aload d106_137 rfl ?_
                refine x_VW d106_139 cl106 m11_294 kd169 tg169 po169 le169 (by decide) (S.F.o rfl (by decide)) (C169 S.F (Hv_RW S) X.1.2.2.2 (by unfold isLs; decide) S.lc (by omega) (fun p T => by rw [T.t]; decide) ⟨by have := GC.n; omega, by rw [GC.t]; decide⟩) (fun w9 g q => ?_)
                obtain ⟨v9, rfl, G, hc8, hs8⟩ := q
                refine x_wr (fun g => ∃ mC1 nC1, IV g mP mC1 mI mD mB nP nC1 nI nD nB ∧ hC g ≤ hC h + 1 ∧ hS g ≤ hS h + 70) ⟨_, _, IV_addC ⟨S, X⟩ G GC (by omega), hc8, hs8⟩ (fun h q => ?_)
                obtain ⟨mC, nC, ⟨S, X⟩, hc8, hs8⟩ := q
                refine x_pop d106_142 rfl ?_
                refine x_aload_n d106_143 rfl ?_
                refine x_gfR d106_144 cl106 f11_43 (S.F.o rfl (by decide)) rfl (S.F.r rfl) ?_
                refine x_VE d106_147 cl106 m11_129 kd168 tg168 po168 le168 (by decide) (S.F.o rfl (by decide)) (C168 (S.F.o rfl (by decide)) rfl S.lc) (fun v28 r28 z28 => ?_)
                try dsimp only at r28
                refine x_iconst d106_150 ?_
                refine x_isub d106_151 ?_
                exact x_iret d106_152 rt106 (hQ1 _ _ (MR_of ⟨S, X⟩ (by omega) (by omega)))
              · refine x_iload d106_120 rfl ?_
                refine x_goto (t := 130) d106_122 rfl ?_
                refine x_pfI d106_130 cl106 f11_303 (Cv.ob GC) (V.g (Cv.g GC)) (fun q => by cases q) (x_wr (fun g => IV g mP mC mI mD mB nP nC nI nD nB ∧ Cv g c ∧ hC g = c0 ∧ hS g = s0) ⟨⟨Hv_cf5 S GC (by omega), EX_c (m := 0) S X GC (by decide)⟩, Cv_f5 GC (by omega), hcc, hss⟩ (fun h q29 => ?_))
                obtain ⟨⟨S, X⟩, GC, hcc, hss⟩ := q29
                refine x_aload_n d106_133 rfl ?_
                refine x_gfR d106_134 cl106 f11_43 (S.F.o rfl (by decide)) rfl (S.F.r rfl) ?_
                refine x_aload d106_137 rfl ?_
                refine x_VW d106_139 cl106 m11_294 kd169 tg169 po169 le169 (by decide) (S.F.o rfl (by decide)) (C169 S.F (Hv_RW S) X.1.2.2.2 (by unfold isLs; decide) S.lc (by omega) (fun p T => by rw [T.t]; decide) ⟨by have := GC.n; omega, by rw [GC.t]; decide⟩) (fun w9 g q => ?_)
                obtain ⟨v9, rfl, G, hc8, hs8⟩ := q
                refine x_wr (fun g => ∃ mC1 nC1, IV g mP mC1 mI mD mB nP nC1 nI nD nB ∧ hC g ≤ hC h + 1 ∧ hS g ≤ hS h + 70) ⟨_, _, IV_addC ⟨S, X⟩ G GC (by omega), hc8, hs8⟩ (fun h q => ?_)
                obtain ⟨mC, nC, ⟨S, X⟩, hc8, hs8⟩ := q
                refine x_pop d106_142 rfl ?_
                refine x_aload_n d106_143 rfl ?_
                refine x_gfR d106_144 cl106 f11_43 (S.F.o rfl (by decide)) rfl (S.F.r rfl) ?_
                refine x_VE d106_147 cl106 m11_129 kd168 tg168 po168 le168 (by decide) (S.F.o rfl (by decide)) (C168 (S.F.o rfl (by decide)) rfl S.lc) (fun v30 r30 z30 => ?_)
                try dsimp only at r30
                refine x_iconst d106_150 ?_
                refine x_isub d106_151 ?_
                exact x_iret d106_152 rt106 (hQ1 _ _ (MR_of ⟨S, X⟩ (by omega) (by omega)))
theorem C91 {d : Nat} {h : Hp} {x y w : Int} (qx : -2147483648 ≤ x ∧ x < 2147483648) (qy : -2147483648 ≤ y ∧ y < 2147483648) (qw : -2147483648 ≤ w ∧ w < 2147483648) {mP mC mI mD mB : Nat → Nat} {nP nC nI nD nB : Nat} (K : IV h mP mC mI mD mB nP nC nI nD nB) : MX DA (d + 5) 91 [vR (some 2), vI x, vI y, vI w] h (fun w g => ∃ v : Int, w = vI v ∧ MR h g) := by
  refine MX_of (fun Q hQ1 hQ0 => ?_)
  have V := Vis_DA
  obtain ⟨S, X⟩ := K
  obtain ⟨c0, s0, hcc, hss⟩ : ∃ c0 s0, hC h = c0 ∧ hS h = s0 := ⟨_, _, rfl, rfl⟩
  have hni := S.ni
  refine x_ent en91 ?_
  refine x_iload_n d91_0 rfl ?_
  refine x_iconst d91_1 ?_
  refine x_bipush d91_2 (by decide) ?_
  refine x_SE d91_4 cl91 m11_84 kd83 po83 le83 (C83 (by omega) (by omega) (by omega)) (fun v1 r1 z1 => ?_)
  try dsimp only at r1
  refine x_ifeq (t := 33) d91_7 rfl (by omega) (fun c7_2 => ?_) (fun c7_2 => ?_)
  · refine x_iconst d91_33 ?_
    exact x_ck d91_34 cl91 m11_88 kd84 po84 le84 rfl (fun c => C84 c) (fun c => C84x c) (by omega) (hQ0 _ (by decide)) (fun c => absurd c (by decide))
  · refine x_iload_n d91_10 rfl ?_
    refine x_SE d91_11 cl91 m11_276 kd90 po90 le90 (C90 (by omega)) (fun v4 r4 z4 => ?_)
    try dsimp only at r4
    refine x_ifeq (t := 33) d91_14 rfl (by omega) (fun c14_5 => ?_) (fun c14_5 => ?_)
    · refine x_iconst d91_33 ?_
      exact x_ck d91_34 cl91 m11_88 kd84 po84 le84 rfl (fun c => C84 c) (fun c => C84x c) (by omega) (hQ0 _ (by decide)) (fun c => absurd c (by decide))
    · refine x_iload_n d91_17 rfl ?_
      refine x_SE d91_18 cl91 m11_276 kd90 po90 le90 (C90 (by omega)) (fun v7 r7 z7 => ?_)
      try dsimp only at r7
      refine x_ifeq (t := 33) d91_21 rfl (by omega) (fun c21_8 => ?_) (fun c21_8 => ?_)
      · refine x_iconst d91_33 ?_
        exact x_ck d91_34 cl91 m11_88 kd84 po84 le84 rfl (fun c => C84 c) (fun c => C84x c) (by omega) (hQ0 _ (by decide)) (fun c => absurd c (by decide))
      · refine x_iload_n d91_24 rfl ?_
        refine x_iload_n d91_25 rfl ?_
        refine x_icgt (t := 33) d91_26 rfl (by omega) (fun c26_10 => ?_) (fun c26_10 => ?_)
        · refine x_iconst d91_33 ?_
          exact x_ck d91_34 cl91 m11_88 kd84 po84 le84 rfl (fun c => C84 c) (fun c => C84x c) (by omega) (hQ0 _ (by decide)) (fun c => absurd c (by decide))
        · refine x_iconst d91_29 ?_
          refine x_goto (t := 34) d91_30 rfl ?_
          refine x_SN d91_34 cl91 m11_88 kd84 po84 le84 (C84 (by omega)) ?_
          refine x_aload_n d91_37 rfl ?_
          refine x_gfR d91_38 cl91 f11_37 (S.F.o rfl (by decide)) rfl (S.F.r rfl) ?_
          refine x_VE d91_41 cl91 m11_129 kd168 tg168 po168 le168 (by decide) (S.F.o rfl (by decide)) (C168 (S.F.o rfl (by decide)) rfl S.li) (fun v13 r13 z13 => ?_)
          try dsimp only at r13
          refine x_bipush d91_44 (by decide) ?_
          refine x_icge (t := 53) d91_46 rfl (by omega) (fun c46_14 => ?_) (fun c46_14 => ?_)
          · refine x_iconst d91_53 ?_
            exact x_ck d91_54 cl91 m11_122 kd88 po88 le88 rfl (fun c => C88 c) (fun c => C88x c) (by omega) (hQ0 _ (by decide)) (fun c => absurd c (by decide))
          · refine x_iconst d91_49 ?_
            refine x_goto (t := 54) d91_50 rfl ?_
            refine x_SN d91_54 cl91 m11_122 kd88 po88 le88 (C88 (by omega)) ?_
            refine x_aload_n d91_57 rfl ?_
            refine x_gfR d91_58 cl91 f11_37 (S.F.o rfl (by decide)) rfl (S.F.r rfl) ?_
            obtain ⟨c, hc0⟩ : ∃ c, hN h = c := ⟨_, rfl⟩
            refine x_new d91_61 cl91 nw11_290 ?_
            refine x_dupR d91_64 ?_
            refine x_iload_n d91_65 rfl ?_
            refine x_iload_n d91_66 rfl ?_
            refine x_iload_n d91_67 rfl ?_
            refine x_PU d91_68 cl91 m11_292 kd79 po79 le79 (by have := S.F.1; omega) (Ob_new (t := 10) (b := 0) (s := 3)).1 (C79 S.F.1) (fun g q => ?_)
            subst q
            rw [hc0]
            refine x_wr (fun g => IV g mP mC mI mD mB nP nC nI nD nB ∧ Tm g c ∧ hI g c 0 = x ∧ hC g = hC h + 1 ∧ hS g = hS h + 3) (by
              obtain ⟨M, GC, hc9, hs9⟩ := mkTm_ok (h := h) (x := x) (y := y) (w := w) S.F.1 (by omega) (by omega) (by omega)
              refine ⟨IV_ext M ⟨S, X⟩, hc0 ▸ GC, ?_, hc9, hs9⟩
              rw [← hc0]; simp [mkTm, hI_sI]) (fun h q => ?_)
            obtain ⟨⟨S, X⟩, GC, hw9, hc9, hs9⟩ := q
            have hcp := hcc; have hsp := hss
            obtain ⟨c0, s0, hcc, hss⟩ : ∃ c0 s0, hC h = c0 ∧ hS h = s0 := ⟨_, _, rfl, rfl⟩
            refine x_VW d91_71 cl91 m11_294 kd169 tg169 po169 le169 (by decide) (S.F.o rfl (by decide)) (C169 S.F (Hv_RW S) X.1.2.2.2 (by unfold isLs; decide) S.li (by omega) (fun p T => by rw [T.t]; decide) ⟨by have := GC.n; omega, by rw [GC.t]; decide⟩) (fun w9 g q => ?_)
            obtain ⟨v9, rfl, G, hc8, hs8⟩ := q
            refine x_wr (fun g => ∃ mI1 nI1, IV g mP mC mI1 mD mB nP nC nI1 nD nB ∧ hC g ≤ hC h + 1 ∧ hS g ≤ hS h + 70) ⟨_, _, IV_addI ⟨S, X⟩ G GC (by omega) (by omega), hc8, hs8⟩ (fun h q => ?_)
            obtain ⟨mI, nI, ⟨S, X⟩, hc8, hs8⟩ := q
            refine x_pop d91_74 rfl ?_
            refine x_aload_n d91_75 rfl ?_
            refine x_gfR d91_76 cl91 f11_37 (S.F.o rfl (by decide)) rfl (S.F.r rfl) ?_
            refine x_VE d91_79 cl91 m11_129 kd168 tg168 po168 le168 (by decide) (S.F.o rfl (by decide)) (C168 (S.F.o rfl (by decide)) rfl S.li) (fun v18 r18 z18 => ?_)
            try dsimp only at r18
            refine x_iconst d91_82 ?_
            refine x_isub d91_83 ?_
            exact x_iret d91_84 rt91 (hQ1 _ _ (MR_of ⟨S, X⟩ (by omega) (by omega)))
theorem C50 {d : Nat} {h : Hp} {x y w : Int} (qx : 0 ≤ x ∧ x ≤ 9) (qy : 1 ≤ y ∧ y ≤ 255) (qw : 1 ≤ w ∧ w ≤ 9999) {mP mC mI mD mB : Nat → Nat} {nP nC nI nD nB : Nat} (K : IV h mP mC mI mD mB nP nC nI nD nB) (top : nB < 40) : PW DA (d + 5) 50 [vR (some 55), vI x, vI y, vI w] h (fun v g => ∃ v1 : Int, v = vI v1 ∧ ∃ mB1 nB1, IV g mP mC mI mD mB1 nP nC nI nD nB1 ∧ hC g ≤ hC h + 2 ∧ hS g ≤ hS h + 80) := by
  refine PW_of (fun Q hQ => ?_)
  have V := Vis_DA
  obtain ⟨S, X⟩ := K
  obtain ⟨c0, s0, hcc, hss⟩ : ∃ c0 s0, hC h = c0 ∧ hS h = s0 := ⟨_, _, rfl, rfl⟩
  refine x_ent en50 ?_
  refine x_aload_n d50_0 rfl ?_
  refine x_gfR d50_1 cl50 f7_25 (S.F.o rfl (by decide)) rfl (S.F.r rfl) ?_
  obtain ⟨c, hc0⟩ : ∃ c, hN h = c := ⟨_, rfl⟩
  refine x_new d50_4 cl50 nw7_50 ?_
  refine x_dupR d50_7 ?_
  refine x_iload_n d50_8 rfl ?_
  refine x_iload_n d50_9 rfl ?_
  refine x_iload_n d50_10 rfl ?_
  refine x_PU d50_11 cl50 m7_52 kd0 po0 le0 (by have := S.F.1; omega) (Ob_new (t := 0) (b := 0) (s := 3)).1 (C0 S.F.1) (fun g q => ?_)
  subst q
  rw [hc0]
  refine x_wr (fun g => IV g mP mC mI mD mB nP nC nI nD nB ∧ Bi g c ∧ hC g = hC h + 1 ∧ hS g = hS h + 3) (by
    obtain ⟨M, GC, hc9, hs9⟩ := mkBi_ok (h := h) (x := x) (y := y) (w := w) S.F.1 (by omega) (by omega) (by omega)
    refine ⟨IV_ext M ⟨S, X⟩, hc0 ▸ GC, hc9, hs9⟩) (fun h q => ?_)
  obtain ⟨⟨S, X⟩, GC, hc9, hs9⟩ := q
  have hcp := hcc; have hsp := hss
  obtain ⟨c0, s0, hcc, hss⟩ : ∃ c0 s0, hC h = c0 ∧ hS h = s0 := ⟨_, _, rfl, rfl⟩
  refine x_VW d50_14 cl50 m7_55 kd169 tg169 po169 le169 (by decide) (S.F.o rfl (by decide)) (C169 S.F (Hv_RW S) X.1.2.2.2 (by unfold isLs; decide) S.lb (by omega) (fun p T => by rw [T.t]; decide) ⟨by have := GC.n; omega, by rw [GC.t]; decide⟩) (fun w9 g q => ?_)
  obtain ⟨v9, rfl, G, hc8, hs8⟩ := q
  refine x_wr (fun g => ∃ mB1 nB1, (Hv g mP mC mI mD mB1 nP nC nI nD nB1 ∧ EX0 g mP mI nP nI ∧ TC g ∧ CI0 g) ∧ hC g ≤ hC h + 1 ∧ hS g ≤ hS h + 70) ⟨_, _, IV_addB ⟨S, X⟩ G GC (by omega), hc8, hs8⟩ (fun h q => ?_)
  obtain ⟨mB, nB, ⟨S, X0, XT, XC⟩, hc8, hs8⟩ := q
  refine x_pop d50_17 rfl ?_
  refine x_aload_n d50_18 rfl ?_
  refine x_iconst d50_19 ?_
  refine x_pfZ d50_20 cl50 f7_46 (S.F.o rfl (by decide)) rfl (fun q => by cases q) (by omega) (x_wr (fun g => IV g mP mC mI mD mB nP nC nI nD nB ∧ hC g = hC h ∧ hS g = hS h) ⟨⟨Hv_f55_6 S, EX0_f S X0 (by decide), CI_un XC, TC_w XT (by decide)⟩, rfl, rfl⟩ (fun h q2 => ?_))
  obtain ⟨⟨S, X⟩, hc7, hs7⟩ := q2
  refine x_aload_n d50_23 rfl ?_
  refine x_gfR d50_24 cl50 f7_25 (S.F.o rfl (by decide)) rfl (S.F.r rfl) ?_
  refine x_VE d50_27 cl50 m7_59 kd168 tg168 po168 le168 (by decide) (S.F.o rfl (by decide)) (C168 (S.F.o rfl (by decide)) rfl S.lb) (fun v3 r3 z3 => ?_)
  try dsimp only at r3
  refine x_iconst d50_30 ?_
  refine x_isub d50_31 ?_
  exact x_iret d50_32 rt50 (hQ _ _ ⟨_, _, ⟨S, X⟩, by omega, by omega⟩)
theorem C118 {d : Nat} {h : Hp} {x y w : Int} (qx : -2147483648 ≤ x ∧ x < 2147483648) (qy : -2147483648 ≤ y ∧ y < 2147483648) (qw : -2147483648 ≤ w ∧ w < 2147483648) {mP mC mI mD mB : Nat → Nat} {nP nC nI nD nB : Nat} (K : IV h mP mC mI mD mB nP nC nI nD nB) : MX DA (d + 6) 118 [vR (some 2), vI x, vI y, vI w] h (fun w g => ∃ v : Int, w = vI v ∧ MR h g) := by
  refine MX_of (fun Q hQ1 hQ0 => ?_)
  have V := Vis_DA
  obtain ⟨S, X⟩ := K
  obtain ⟨c0, s0, hcc, hss⟩ : ∃ c0 s0, hC h = c0 ∧ hS h = s0 := ⟨_, _, rfl, rfl⟩
  have hnb := S.nb
  have VB : ∀ a j, DB a j = true → DA a j = true := fun _ _ _ => rfl
  refine x_ent en118 ?_
  refine x_iload_n d118_0 rfl ?_
  refine x_iconst d118_1 ?_
  refine x_bipush d118_2 (by decide) ?_
  refine x_SE d118_4 cl118 m11_84 kd83 po83 le83 (C83 (by omega) (by omega) (by omega)) (fun v1 r1 z1 => ?_)
  try dsimp only at r1
  refine x_ifeq (t := 40) d118_7 rfl (by omega) (fun c7_2 => ?_) (fun c7_2 => ?_)
  · refine x_iconst d118_40 ?_
    exact x_ck d118_41 cl118 m11_88 kd84 po84 le84 rfl (fun c => C84 c) (fun c => C84x c) (by omega) (hQ0 _ (by decide)) (fun c => absurd c (by decide))
  · refine x_iload_n d118_10 rfl ?_
    refine x_iconst d118_11 ?_
    refine x_aload_n d118_12 rfl ?_
    refine x_gfR d118_13 cl118 f11_63 (S.F.o rfl (by decide)) rfl (S.F.r rfl) ?_
    refine x_VE d118_16 cl118 m11_403 kd49 tg49 po49 le49 (by decide) (S.F.o rfl (by decide)) (C49 V S VB) (fun v4 r4 z4 => ?_)
    try dsimp only at r4
    refine x_SE d118_19 cl118 m11_84 kd83 po83 le83 (C83 (by omega) (by omega) (by omega)) (fun v5 r5 z5 => ?_)
    try dsimp only at r5
    refine x_ifeq (t := 40) d118_22 rfl (by omega) (fun c22_6 => ?_) (fun c22_6 => ?_)
    · refine x_iconst d118_40 ?_
      exact x_ck d118_41 cl118 m11_88 kd84 po84 le84 rfl (fun c => C84 c) (fun c => C84x c) (by omega) (hQ0 _ (by decide)) (fun c => absurd c (by decide))
    · refine x_iload_n d118_25 rfl ?_
      refine x_iconst d118_26 ?_
      refine x_sipush d118_27 (by decide) ?_
      refine x_SE d118_30 cl118 m11_84 kd83 po83 le83 (C83 (by omega) (by omega) (by omega)) (fun v8 r8 z8 => ?_)
      try dsimp only at r8
      refine x_ifeq (t := 40) d118_33 rfl (by omega) (fun c33_9 => ?_) (fun c33_9 => ?_)
      · refine x_iconst d118_40 ?_
        exact x_ck d118_41 cl118 m11_88 kd84 po84 le84 rfl (fun c => C84 c) (fun c => C84x c) (by omega) (hQ0 _ (by decide)) (fun c => absurd c (by decide))
      · refine x_iconst d118_36 ?_
        refine x_goto (t := 41) d118_37 rfl ?_
        refine x_SN d118_41 cl118 m11_88 kd84 po84 le84 (C84 (by omega)) ?_
        refine x_aload_n d118_44 rfl ?_
        refine x_gfR d118_45 cl118 f11_63 (S.F.o rfl (by decide)) rfl (S.F.r rfl) ?_
        refine x_gfR d118_48 cl118 f11_406 (S.F.o rfl (by decide)) rfl (S.F.r rfl) ?_
        refine x_VE d118_51 cl118 m11_129 kd168 tg168 po168 le168 (by decide) (S.F.o rfl (by decide)) (C168 (S.F.o rfl (by decide)) rfl S.lb) (fun v12 r12 z12 => ?_)
        try dsimp only at r12
        refine x_bipush d118_54 (by decide) ?_
        refine x_icge (t := 63) d118_56 rfl (by omega) (fun c56_13 => ?_) (fun c56_13 => ?_)
        · refine x_iconst d118_63 ?_
          exact x_ck d118_64 cl118 m11_122 kd88 po88 le88 rfl (fun c => C88 c) (fun c => C88x c) (by omega) (hQ0 _ (by decide)) (fun c => absurd c (by decide))
        · refine x_iconst d118_59 ?_
          refine x_goto (t := 64) d118_60 rfl ?_
          refine x_SN d118_64 cl118 m11_122 kd88 po88 le88 (C88 (by omega)) ?_
          refine x_aload_n d118_67 rfl ?_
          refine x_gfR d118_68 cl118 f11_63 (S.F.o rfl (by decide)) rfl (S.F.r rfl) ?_
          refine x_iload_n d118_71 rfl ?_
          refine x_iload_n d118_72 rfl ?_
          refine x_iload_n d118_73 rfl ?_
          refine x_VW d118_74 cl118 m11_409 kd50 tg50 po50 le50 (by decide) (S.F.o rfl (by decide)) (C50 (by omega) (by omega) (by omega) ⟨S, X⟩ (by omega)) (fun v16 h q16 => ?_)
          obtain ⟨v16, rfl, q16⟩ := q16
          obtain ⟨mB, nB, ⟨S, X⟩, hc9, hs9⟩ := q16
          exact x_iret d118_77 rt118 (hQ1 _ _ (MR_of ⟨S, X⟩ (by omega) (by omega)))
