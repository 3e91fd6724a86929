theorem C61 {D : Nat → Nat → Bool} {d : Nat} {h : Hp} {x y : Int} {mP mC mI mD mB : Nat → Nat} {nP nC nI nD nB : Nat} (V : Vis D) (S : Hv h mP mC mI mD mB nP nC nI nD nB) (VB : ∀ a j, DB a j = true → D a j = true) (qx : 0 ≤ x ∧ x < 8) (qy : -2147483648 ≤ y ∧ y < 2147483648) : ∃ v : Int, (fun v : Int => (-1 ≤ v ∧ v < nB) ∧ (0 ≤ v → hI h (mB (v).toNat) 1 = o32 fshl 1 x ∧ tl (hI h 55 7) v = 1)) v ∧ PV D (d + 4) 61 [vR (some 55), vI x, vI y] h (vI v) := by
  refine PE_of (fun Q hQ => ?_)
  refine x_ent en61 ?_
  have hnb := S.nb
  refine x_iconst d61_0 ?_
  refine x_nm (fun w1_1 ew1_1 => ?_)
  refine x_istore_n [some (vR _), some (vI _), some (vI _), some (vI _), none, none, none] d61_1 rfl ?_
  refine x_iconst d61_2 ?_
  refine x_nm (fun w3_2 ew3_2 => ?_)
  refine x_istore [some (vR _), some (vI _), some (vI _), some (vI _), some (vI _), none, none] d61_3 rfl ?_
  refine (x_ub (N := nB) (P := fun i3 => ∀ s3_3 : Int, ((-1 ≤ s3_3 ∧ s3_3 < i3) ∧ (0 ≤ s3_3 → hI h (mB (s3_3).toNat) 1 = o32 fshl 1 x ∧ tl (hI h 55 7) s3_3 = 1)) → ∀ t3_5 : Option XV, ∀ t3_6 : Option XV, wp D (d + 4) 61 5 [some (vR (some 55)), some (vI x), some (vI y), some (vI s3_3), some (vI i3), t3_5, t3_6] [] h Q) w3_2 (by omega) (fun i3 hi3 hj3 ih3 s3_3 hs3_3 t3_5 t3_6 => ?_)) _ (by omega) _ _
  refine x_iload d61_5 rfl ?_
  refine x_aload_n d61_7 rfl ?_
  refine x_gfR d61_8 cl61 f7_25 (S.F.o rfl (by decide)) (VB _ _ rfl) (S.F.r rfl) ?_
  refine x_VE d61_11 cl61 m7_59 kd168 tg168 po168 le168 (by decide) (S.F.o rfl (by decide)) (C168 (S.F.o rfl (by decide)) (VB _ _ rfl) S.lb) (fun v4 r4 z4 => ?_)
  try dsimp only at r4
  refine x_icge (t := 108) d61_14 rfl (by omega) (fun c14_5 => ?_) (fun c14_5 => ?_)
  · refine x_iload_n d61_108 rfl ?_
    exact x_iret d61_109 rt61 (hQ _ (by omega))
  · refine x_aload_n d61_17 rfl ?_
    refine x_gfR d61_18 cl61 f7_25 (S.F.o rfl (by decide)) (VB _ _ rfl) (S.F.r rfl) ?_
    refine x_iload d61_21 rfl ?_
    refine x_VV d61_23 cl61 m7_79 kd173 tg173 po173 le173 (by decide) (S.F.o rfl (by decide)) (C173 (d := d + 0) (S.F.o rfl (by decide)) (VB _ _ rfl) (VB _ _ rfl) S.lb V (by omega) (by omega)) ?_
    refine x_cast d61_26 cl61 ct7_50 (Bi.ob (Ls.mem S.lb (i3).toNat (by omega))) ?_
    refine x_astore [some (vR _), some (vI _), some (vI _), some (vI _), some (vI _), some (vR _), _] d61_29 rfl ?_
    refine x_aload d61_31 rfl ?_
    refine x_gfI d61_33 cl61 f7_94 (by decide) (Bi.ob (Ls.mem S.lb (i3).toNat (by omega))) (V.g (Bi.g (Ls.mem S.lb (i3).toNat (by omega)))) ?_
    have g7 := (Bi.items (Ls.mem S.lb (i3).toNat (by omega)))
    refine x_iconst d61_36 ?_
    refine x_iload_n d61_37 rfl ?_
    refine x_ishlq d61_38 (fun q8 => ?_)
    refine x_icne (t := 64) d61_39 rfl (by omega) (fun c39_9 => ?_) (fun c39_9 => ?_)
    · refine x_iconst d61_64 ?_
      refine x_nm (fun w65_10 ew65_10 => ?_)
      refine x_istore [some (vR _), some (vI _), some (vI _), some (vI _), some (vI _), some (vR _), some (vI _)] d61_65 rfl ?_
      refine x_iload d61_67 rfl ?_
      refine x_ifeq (t := 102) d61_69 rfl (by omega) (fun c69_11 => ?_) (fun c69_11 => ?_)
      · refine x_iinc [some (vR _), some (vI _), some (vI _), some (vI _), some (vI _), some (vR _), some (vI _)] d61_102 rfl rfl ?_
        refine x_goto (t := 5) d61_105 rfl ?_
        exact ih3 (by omega) _ (by first | omega | (subst_vars; omega)) _ _
      · refine x_iload_n d61_72 rfl ?_
        refine x_iconst d61_73 ?_
        refine x_iceq (t := 99) d61_74 rfl (by omega) (fun c74_12 => ?_) (fun c74_12 => ?_)
        · refine x_iload d61_99 rfl ?_
          refine x_nm (fun w101_13 ew101_13 => ?_)
          refine x_istore_n [some (vR _), some (vI _), some (vI _), some (vI _), some (vI _), some (vR _), some (vI _)] d61_101 rfl ?_
          refine x_iinc [some (vR _), some (vI _), some (vI _), some (vI _), some (vI _), some (vR _), some (vI _)] d61_102 rfl rfl ?_
          refine x_goto (t := 5) d61_105 rfl ?_
          exact ih3 (by omega) _ (by first | omega | (subst_vars; omega)) _ _
        · refine x_aload d61_77 rfl ?_
          refine x_gfI d61_79 cl61 f7_95 (by decide) (Bi.ob (Ls.mem S.lb (i3).toNat (by omega))) (V.g (Bi.g (Ls.mem S.lb (i3).toNat (by omega)))) ?_
          have g14 := (Bi.amount (Ls.mem S.lb (i3).toNat (by omega)))
          refine x_aload_n d61_82 rfl ?_
          refine x_gfR d61_83 cl61 f7_25 (S.F.o rfl (by decide)) (VB _ _ rfl) (S.F.r rfl) ?_
          refine x_iload_n d61_86 rfl ?_
          refine x_VV d61_87 cl61 m7_79 kd173 tg173 po173 le173 (by decide) (S.F.o rfl (by decide)) (C173 (d := d + 0) (S.F.o rfl (by decide)) (VB _ _ rfl) (VB _ _ rfl) S.lb V (by omega) (by omega)) ?_
          refine x_cast d61_90 cl61 ct7_50 (Bi.ob (Ls.mem S.lb (s3_3).toNat (by omega))) ?_
          refine x_gfI d61_93 cl61 f7_95 (by decide) (Bi.ob (Ls.mem S.lb (s3_3).toNat (by omega))) (V.g (Bi.g (Ls.mem S.lb (s3_3).toNat (by omega)))) ?_
          have g16 := (Bi.amount (Ls.mem S.lb (s3_3).toNat (by omega)))
          refine x_icle (t := 102) d61_96 rfl (by omega) (fun c96_17 => ?_) (fun c96_17 => ?_)
          · refine x_iinc [some (vR _), some (vI _), some (vI _), some (vI _), some (vI _), some (vR _), some (vI _)] d61_102 rfl rfl ?_
            refine x_goto (t := 5) d61_105 rfl ?_
            exact ih3 (by omega) _ (by first | omega | (subst_vars; omega)) _ _
          · refine x_iload d61_99 rfl ?_
            refine x_nm (fun w101_18 ew101_18 => ?_)
            refine x_istore_n [some (vR _), some (vI _), some (vI _), some (vI _), some (vI _), some (vR _), some (vI _)] d61_101 rfl ?_
            refine x_iinc [some (vR _), some (vI _), some (vI _), some (vI _), some (vI _), some (vR _), some (vI _)] d61_102 rfl rfl ?_
            refine x_goto (t := 5) d61_105 rfl ?_
            exact ih3 (by omega) _ (by first | omega | (subst_vars; omega)) _ _
    · refine x_aload d61_42 rfl ?_
      refine x_gfI d61_44 cl61 f7_119 (by decide) (Bi.ob (Ls.mem S.lb (i3).toNat (by omega))) (V.g (Bi.g (Ls.mem S.lb (i3).toNat (by omega)))) ?_
      have g19 := (Bi.bidder (Ls.mem S.lb (i3).toNat (by omega)))
      refine x_iload_n d61_47 rfl ?_
      refine x_iceq (t := 64) d61_48 rfl (by omega) (fun c48_20 => ?_) (fun c48_20 => ?_)
      · refine x_iconst d61_64 ?_
        refine x_nm (fun w65_21 ew65_21 => ?_)
        refine x_istore [some (vR _), some (vI _), some (vI _), some (vI _), some (vI _), some (vR _), some (vI _)] d61_65 rfl ?_
        refine x_iload d61_67 rfl ?_
        refine x_ifeq (t := 102) d61_69 rfl (by omega) (fun c69_22 => ?_) (fun c69_22 => ?_)
        · refine x_iinc [some (vR _), some (vI _), some (vI _), some (vI _), some (vI _), some (vR _), some (vI _)] d61_102 rfl rfl ?_
          refine x_goto (t := 5) d61_105 rfl ?_
          exact ih3 (by omega) _ (by first | omega | (subst_vars; omega)) _ _
        · refine x_iload_n d61_72 rfl ?_
          refine x_iconst d61_73 ?_
          refine x_iceq (t := 99) d61_74 rfl (by omega) (fun c74_23 => ?_) (fun c74_23 => ?_)
          · refine x_iload d61_99 rfl ?_
            refine x_nm (fun w101_24 ew101_24 => ?_)
            refine x_istore_n [some (vR _), some (vI _), some (vI _), some (vI _), some (vI _), some (vR _), some (vI _)] d61_101 rfl ?_
            refine x_iinc [some (vR _), some (vI _), some (vI _), some (vI _), some (vI _), some (vR _), some (vI _)] d61_102 rfl rfl ?_
            refine x_goto (t := 5) d61_105 rfl ?_
            exact ih3 (by omega) _ (by first | omega | (subst_vars; omega)) _ _
          · refine x_aload d61_77 rfl ?_
            refine x_gfI d61_79 cl61 f7_95 (by decide) (Bi.ob (Ls.mem S.lb (i3).toNat (by omega))) (V.g (Bi.g (Ls.mem S.lb (i3).toNat (by omega)))) ?_
            have g25 := (Bi.amount (Ls.mem S.lb (i3).toNat (by omega)))
            refine x_aload_n d61_82 rfl ?_
            refine x_gfR d61_83 cl61 f7_25 (S.F.o rfl (by decide)) (VB _ _ rfl) (S.F.r rfl) ?_
            refine x_iload_n d61_86 rfl ?_
            refine x_VV d61_87 cl61 m7_79 kd173 tg173 po173 le173 (by decide) (S.F.o rfl (by decide)) (C173 (d := d + 0) (S.F.o rfl (by decide)) (VB _ _ rfl) (VB _ _ rfl) S.lb V (by omega) (by omega)) ?_
            refine x_cast d61_90 cl61 ct7_50 (Bi.ob (Ls.mem S.lb (s3_3).toNat (by omega))) ?_
            refine x_gfI d61_93 cl61 f7_95 (by decide) (Bi.ob (Ls.mem S.lb (s3_3).toNat (by omega))) (V.g (Bi.g (Ls.mem S.lb (s3_3).toNat (by omega)))) ?_
            have g27 := (Bi.amount (Ls.mem S.lb (s3_3).toNat (by omega)))
            refine x_icle (t := 102) d61_96 rfl (by omega) (fun c96_28 => ?_) (fun c96_28 => ?_)
            · refine x_iinc [some (vR _), some (vI _), some (vI _), some (vI _), some (vI _), some (vR _), some (vI _)] d61_102 rfl rfl ?_
              refine x_goto (t := 5) d61_105 rfl ?_
              exact ih3 (by omega) _ (by first | omega | (subst_vars; omega)) _ _
            · refine x_iload d61_99 rfl ?_
              refine x_nm (fun w101_29 ew101_29 => ?_)
              refine x_istore_n [some (vR _), some (vI _), some (vI _), some (vI _), some (vI _), some (vR _), some (vI _)] d61_101 rfl ?_
              refine x_iinc [some (vR _), some (vI _), some (vI _), some (vI _), some (vI _), some (vR _), some (vI _)] d61_102 rfl rfl ?_
              refine x_goto (t := 5) d61_105 rfl ?_
              exact ih3 (by omega) _ (by first | omega | (subst_vars; omega)) _ _
      · refine x_aload_n d61_51 rfl ?_
        refine x_iload d61_52 rfl ?_
        refine x_VE d61_54 cl61 m7_122 kd62 tg62 po62 le62 (by decide) (S.F.o rfl (by decide)) (C62 V S VB) (fun v30 r30 z30 => ?_)
        try dsimp only at r30
        refine x_ifeq (t := 64) d61_57 rfl (by omega) (fun c57_31 => ?_) (fun c57_31 => ?_)
        · refine x_iconst d61_64 ?_
          refine x_nm (fun w65_32 ew65_32 => ?_)
          refine x_istore [some (vR _), some (vI _), some (vI _), some (vI _), some (vI _), some (vR _), some (vI _)] d61_65 rfl ?_
          refine x_iload d61_67 rfl ?_
          refine x_ifeq (t := 102) d61_69 rfl (by omega) (fun c69_33 => ?_) (fun c69_33 => ?_)
          · refine x_iinc [some (vR _), some (vI _), some (vI _), some (vI _), some (vI _), some (vR _), some (vI _)] d61_102 rfl rfl ?_
            refine x_goto (t := 5) d61_105 rfl ?_
            exact ih3 (by omega) _ (by first | omega | (subst_vars; omega)) _ _
          · refine x_iload_n d61_72 rfl ?_
            refine x_iconst d61_73 ?_
            refine x_iceq (t := 99) d61_74 rfl (by omega) (fun c74_34 => ?_) (fun c74_34 => ?_)
            · refine x_iload d61_99 rfl ?_
              refine x_nm (fun w101_35 ew101_35 => ?_)
              refine x_istore_n [some (vR _), some (vI _), some (vI _), some (vI _), some (vI _), some (vR _), some (vI _)] d61_101 rfl ?_
              refine x_iinc [some (vR _), some (vI _), some (vI _), some (vI _), some (vI _), some (vR _), some (vI _)] d61_102 rfl rfl ?_
              refine x_goto (t := 5) d61_105 rfl ?_
              exact ih3 (by omega) _ (by first | omega | (subst_vars; omega)) _ _
            · refine x_aload d61_77 rfl ?_
              refine x_gfI d61_79 cl61 f7_95 (by decide) (Bi.ob (Ls.mem S.lb (i3).toNat (by omega))) (V.g (Bi.g (Ls.mem S.lb (i3).toNat (by omega)))) ?_
              have g36 := (Bi.amount (Ls.mem S.lb (i3).toNat (by omega)))
              refine x_aload_n d61_82 rfl ?_
              refine x_gfR d61_83 cl61 f7_25 (S.F.o rfl (by decide)) (VB _ _ rfl) (S.F.r rfl) ?_
              refine x_iload_n d61_86 rfl ?_
              refine x_VV d61_87 cl61 m7_79 kd173 tg173 po173 le173 (by decide) (S.F.o rfl (by decide)) (C173 (d := d + 0) (S.F.o rfl (by decide)) (VB _ _ rfl) (VB _ _ rfl) S.lb V (by omega) (by omega)) ?_
              refine x_cast d61_90 cl61 ct7_50 (Bi.ob (Ls.mem S.lb (s3_3).toNat (by omega))) ?_
              refine x_gfI d61_93 cl61 f7_95 (by decide) (Bi.ob (Ls.mem S.lb (s3_3).toNat (by omega))) (V.g (Bi.g (Ls.mem S.lb (s3_3).toNat (by omega)))) ?_
              have g38 := (Bi.amount (Ls.mem S.lb (s3_3).toNat (by omega)))
              refine x_icle (t := 102) d61_96 rfl (by omega) (fun c96_39 => ?_) (fun c96_39 => ?_)
              · refine x_iinc [some (vR _), some (vI _), some (vI _), some (vI _), some (vI _), some (vR _), some (vI _)] d61_102 rfl rfl ?_
                refine x_goto (t := 5) d61_105 rfl ?_
                exact ih3 (by omega) _ (by first | omega | (subst_vars; omega)) _ _
              · refine x_iload d61_99 rfl ?_
                refine x_nm (fun w101_40 ew101_40 => ?_)
                refine x_istore_n [some (vR _), some (vI _), some (vI _), some (vI _), some (vI _), some (vR _), some (vI _)] d61_101 rfl ?_
                refine x_iinc [some (vR _), some (vI _), some (vI _), some (vI _), some (vI _), some (vR _), some (vI _)] d61_102 rfl rfl ?_
                refine x_goto (t := 5) d61_105 rfl ?_
                exact ih3 (by omega) _ (by first | omega | (subst_vars; omega)) _ _
        · refine x_iconst d61_60 ?_
          refine x_goto (t := 65) d61_61 rfl ?_
          refine x_nm (fun w65_41 ew65_41 => ?_)
          refine x_istore [some (vR _), some (vI _), some (vI _), some (vI _), some (vI _), some (vR _), some (vI _)] d61_65 rfl ?_
          refine x_iload d61_67 rfl ?_
          refine x_ifeq (t := 102) d61_69 rfl (by omega) (fun c69_42 => ?_) (fun c69_42 => ?_)
          · refine x_iinc [some (vR _), some (vI _), some (vI _), some (vI _), some (vI _), some (vR _), some (vI _)] d61_102 rfl rfl ?_
            refine x_goto (t := 5) d61_105 rfl ?_
            exact ih3 (by omega) _ (by first | omega | (subst_vars; omega)) _ _
          · refine x_iload_n d61_72 rfl ?_
            refine x_iconst d61_73 ?_
            refine x_iceq (t := 99) d61_74 rfl (by omega) (fun c74_43 => ?_) (fun c74_43 => ?_)
            · refine x_iload d61_99 rfl ?_
              refine x_nm (fun w101_44 ew101_44 => ?_)
              refine x_istore_n [some (vR _), some (vI _), some (vI _), some (vI _), some (vI _), some (vR _), some (vI _)] d61_101 rfl ?_
              refine x_iinc [some (vR _), some (vI _), some (vI _), some (vI _), some (vI _), some (vR _), some (vI _)] d61_102 rfl rfl ?_
              refine x_goto (t := 5) d61_105 rfl ?_
              exact ih3 (by omega) _ (by first | omega | (subst_vars; omega)) _ _
            · refine x_aload d61_77 rfl ?_
              refine x_gfI d61_79 cl61 f7_95 (by decide) (Bi.ob (Ls.mem S.lb (i3).toNat (by omega))) (V.g (Bi.g (Ls.mem S.lb (i3).toNat (by omega)))) ?_
              have g45 := (Bi.amount (Ls.mem S.lb (i3).toNat (by omega)))
              refine x_aload_n d61_82 rfl ?_
              refine x_gfR d61_83 cl61 f7_25 (S.F.o rfl (by decide)) (VB _ _ rfl) (S.F.r rfl) ?_
              refine x_iload_n d61_86 rfl ?_
              refine x_VV d61_87 cl61 m7_79 kd173 tg173 po173 le173 (by decide) (S.F.o rfl (by decide)) (C173 (d := d + 0) (S.F.o rfl (by decide)) (VB _ _ rfl) (VB _ _ rfl) S.lb V (by omega) (by omega)) ?_
              refine x_cast d61_90 cl61 ct7_50 (Bi.ob (Ls.mem S.lb (s3_3).toNat (by omega))) ?_
              refine x_gfI d61_93 cl61 f7_95 (by decide) (Bi.ob (Ls.mem S.lb (s3_3).toNat (by omega))) (V.g (Bi.g (Ls.mem S.lb (s3_3).toNat (by omega)))) ?_
              have g47 := (Bi.amount (Ls.mem S.lb (s3_3).toNat (by omega)))
              refine x_icle (t := 102) d61_96 rfl (by omega) (fun c96_48 => ?_) (fun c96_48 => ?_)
              · refine x_iinc [some (vR _), some (vI _), some (vI _), some (vI _), some (vI _), some (vR _), some (vI _)] d61_102 rfl rfl ?_
                refine x_goto (t := 5) d61_105 rfl ?_
                exact ih3 (by omega) _ (by first | omega | (subst_vars; omega)) _ _
              · refine x_iload d61_99 rfl ?_
                refine x_nm (fun w101_49 ew101_49 => ?_)
                refine x_istore_n [some (vR _), some (vI _), some (vI _), some (vI _), some (vI _), some (vR _), some (vI _)] d61_101 rfl ?_
                refine x_iinc [some (vR _), some (vI _), some (vI _), some (vI _), some (vI _), some (vR _), some (vI _)] d61_102 rfl rfl ?_
                refine x_goto (t := 5) d61_105 rfl ?_
                exact ih3 (by omega) _ (by first | omega | (subst_vars; omega)) _ _
