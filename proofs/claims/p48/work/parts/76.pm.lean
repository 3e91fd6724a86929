theorem C70l {d : Nat} {h : Hp} {s n k : Nat} {ix : Nat → Nat} {fit : Nat → Int} {pr : Int} {tk : Int} {mP mC mI mD mB : Nat → Nat} {nP nC nI nD nB : Nat} (S : Hv h mP mC mI mD mB nP nC nI nD nB) (hs : s < 6) (B : BF s n mP nP ix fit pr h) (n3 : n ≤ 3) (hk : k + 1 = n) (qp : 0 ≤ pr ∧ pr < 8) (hpl : hI h (7 + 5 * s) 2 + 63 ≤ 1000000) : PW DA (d + 3) 70 [vR (some (7 + 5 * s)), vI ((k : Nat) : Int), vI pr, vI tk] h (fun w g => ∃ v : Int, w = vI v ∧ Hv g mP mC mI mD mB nP nC nI nD nB ∧ Pf s n fit k tk 63 h g v) := by
  refine PW_of (fun Q hQ => ?_)
  have V := Vis_DA
  obtain ⟨h0, e0⟩ : ∃ h0, h0 = h := ⟨_, rfl⟩
  have A : Sb s h0 h := e0 ▸ Sb_r
  have S0 : Hv h0 mP mC mI mD mB nP nC nI nD nB := e0 ▸ S
  have B0 : BF s n mP nP ix fit pr h0 := e0 ▸ B
  have hb1 := B.1
  have hpl0 : hI h0 (7 + 5 * s) 2 + 63 ≤ 1000000 := e0 ▸ hpl
  refine x_ent en70 ?_
  refine x_iload_n d70_0 rfl ?_
  refine x_aload_n d70_1 rfl ?_
  refine x_gfI d70_2 cl70 f8_34 (by decide) (Sh.ob (S.sh s hs)) (V.s (by have := Sh.n (S.sh s hs); omega)) ?_
  have g1 := (Sh.size (S.sh s hs))
  refine x_iclt (t := 10) d70_5 rfl (by omega) (fun c5_2 => ?_) (fun c5_2 => ?_)
  · refine x_aload_n d70_10 rfl ?_
    refine x_gfR d70_11 cl70 f8_11 (Sh.ob (S.sh s hs)) (V.s (by have := Sh.n (S.sh s hs); omega)) (Sh.r1 (S.sh s hs)) ?_
    refine x_iload_n d70_14 rfl ?_
    refine x_aaload d70_15 (Sh.o1 (S.sh s hs)).1 (by rw [(Sh.o1 (S.sh s hs)).2]; decide) ⟨by omega, by rw [(Sh.l1 (S.sh s hs))]; omega⟩ (V.s (by omega)) (B.2 (((k : Nat) : Int)).toNat (by omega)).2.1 ?_
    refine x_astore [some (vR _), some (vI _), some (vI _), some (vI _), some (vR _), none, none, none] d70_16 rfl ?_
    refine x_aload d70_18 rfl ?_
    refine x_gfR d70_20 cl70 f8_56 (Pc.ob (Ls.mem S.lp (ix (((k : Nat) : Int)).toNat) (B.2 (((k : Nat) : Int)).toNat (by omega)).1)) (V.g (Pc.g (Ls.mem S.lp (ix (((k : Nat) : Int)).toNat) (B.2 (((k : Nat) : Int)).toNat (by omega)).1))) (Pc.r3 (Ls.mem S.lp (ix (((k : Nat) : Int)).toNat) (B.2 (((k : Nat) : Int)).toNat (by omega)).1)) ?_
    refine x_iload_n d70_23 rfl ?_
    refine x_iaload d70_24 (Pc.o3 (Ls.mem S.lp (ix (((k : Nat) : Int)).toNat) (B.2 (((k : Nat) : Int)).toNat (by omega)).1)) ⟨by omega, by rw [(Pc.l3 (Ls.mem S.lp (ix (((k : Nat) : Int)).toNat) (B.2 (((k : Nat) : Int)).toNat (by omega)).1))]; omega⟩ (V.g (by have := Pc.g (Ls.mem S.lp (ix (((k : Nat) : Int)).toNat) (B.2 (((k : Nat) : Int)).toNat (by omega)).1); omega)) ?_
    refine x_nm (fun a3 e3 => ?_)
    have b3 : 0 ≤ a3 ∧ a3 ≤ 16777215 := by rw [e3]; exact (Pc.fits (Ls.mem S.lp (ix (((k : Nat) : Int)).toNat) (B.2 (((k : Nat) : Int)).toNat (by omega)).1) _)
    refine x_aload d70_25 rfl ?_
    refine x_iload_n d70_27 rfl ?_
    refine x_VE d70_28 cl70 m8_59 kd14 tg14 po14 le14 (by have := Pc.g (Ls.mem S.lp (ix (((k : Nat) : Int)).toNat) (B.2 (((k : Nat) : Int)).toNat (by omega)).1); omega) (Pc.ob (Ls.mem S.lp (ix (((k : Nat) : Int)).toNat) (B.2 (((k : Nat) : Int)).toNat (by omega)).1)) (C14 (Ls.mem S.lp (ix (((k : Nat) : Int)).toNat) (B.2 (((k : Nat) : Int)).toNat (by omega)).1) V) (fun v4 r4 z4 => ?_)
    try dsimp only at r4
    refine x_iconst d70_31 ?_
    refine x_ixorq d70_32 (fun q5 => ?_)
    refine x_iandq d70_33 (fun q6 => ?_)
    refine x_nm (fun w34_7 ew34_7 => ?_)
    refine x_istore [some (vR _), some (vI _), some (vI _), some (vI _), some (vR _), some (vI _), none, none] d70_34 rfl ?_
    have hfit : hI h (mP (ix k) + 3) pr.toNat = fit k := (B.2 k (by omega)).2.2
    have hff : ∀ x, hb w34_7 x → hb (fit k) x := fun x q => by
      obtain ⟨q1, q2, q3⟩ := q
      rw [ew34_7] at q3
      have q4 := ((tb_and (by omega)).mp q3).1
      rw [e3] at q4
      exact ⟨q1, q2, by rw [← hfit]; exact q4⟩
    have hwr : 0 ≤ w34_7 ∧ w34_7 ≤ 16777215 := by rw [ew34_7]; exact and_rng (by omega)
    refine x_iload_n d70_36 rfl ?_
    refine x_aload_n d70_37 rfl ?_
    refine x_gfI d70_38 cl70 f8_34 (by decide) (Sh.ob (S.sh s hs)) (V.s (by have := Sh.n (S.sh s hs); omega)) ?_
    have g8 := (Sh.size (S.sh s hs))
    refine x_iconst d70_41 ?_
    refine x_isub d70_42 ?_
    refine x_icne (t := 54) d70_43 rfl (by omega) (fun c43_9 => ?_) (fun c43_9 => ?_)
    · exfalso; omega
    · refine x_aload_n d70_46 rfl ?_
      refine x_iload d70_47 rfl ?_
      refine x_iload_n d70_49 rfl ?_
      refine x_VW d70_50 cl70 m8_63 kd71 tg71 po71 le71 (by have := Sh.g (S.sh s hs); omega) (Sh.ob (S.sh s hs)) (C71 (fit := fit) (ix := ix) (pr := pr) S hs B n3 hk hwr hff hpl) (fun v10 h q10 => ?_)
      obtain ⟨v10, rfl, q10⟩ := q10
      obtain ⟨S, PB⟩ := q10
      have hr01 := PB.2.1
      exact x_zret d70_53 rt70 (by omega) (hQ _ _ ⟨S, PB⟩)
  · exfalso; omega
theorem C70a {d : Nat} {h : Hp} {s n k : Nat} {ix : Nat → Nat} {fit : Nat → Int} {pr : Int} {tk : Int} {mP mC mI mD mB : Nat → Nat} {nP nC nI nD nB : Nat} (S : Hv h mP mC mI mD mB nP nC nI nD nB) (hs : s < 6) (B : BF s n mP nP ix fit pr h) (n3 : n ≤ 3) (hk : k + 1 < n) (qp : 0 ≤ pr ∧ pr < 8) (hpl : hI h (7 + 5 * s) 2 + 1512 ≤ 1000000) (IH : ∀ {h : Hp} {tk : Int} (_ : Hv h mP mC mI mD mB nP nC nI nD nB) (_ : BF s n mP nP ix fit pr h) (_ : hI h (7 + 5 * s) 2 + 63 ≤ 1000000), PW DA d 70 [vR (some (7 + 5 * s)), vI (((k : Nat) : Int) + 1), vI pr, vI tk] h (fun w g => ∃ v : Int, w = vI v ∧ Hv g mP mC mI mD mB nP nC nI nD nB ∧ Pf s n fit (k + 1) tk 63 h g v)) : PW DA (d + 1) 70 [vR (some (7 + 5 * s)), vI ((k : Nat) : Int), vI pr, vI tk] h (fun w g => ∃ v : Int, w = vI v ∧ Hv g mP mC mI mD mB nP nC nI nD nB ∧ Pf s n fit k tk 1512 h g v) := by
  refine PW_of (fun Q hQ => ?_)
  have V := Vis_DA
  obtain ⟨h0, e0⟩ : ∃ h0, h0 = h := ⟨_, rfl⟩
  have A : Sb s h0 h := e0 ▸ Sb_r
  have S0 : Hv h0 mP mC mI mD mB nP nC nI nD nB := e0 ▸ S
  have B0 : BF s n mP nP ix fit pr h0 := e0 ▸ B
  have hb1 := B.1
  have hpl0 : hI h0 (7 + 5 * s) 2 + 1512 ≤ 1000000 := e0 ▸ hpl
  refine x_ent en70 ?_
  refine x_iload_n d70_0 rfl ?_
  refine x_aload_n d70_1 rfl ?_
  refine x_gfI d70_2 cl70 f8_34 (by decide) (Sh.ob (S.sh s hs)) (V.s (by have := Sh.n (S.sh s hs); omega)) ?_
  have g1 := (Sh.size (S.sh s hs))
  refine x_iclt (t := 10) d70_5 rfl (by omega) (fun c5_2 => ?_) (fun c5_2 => ?_)
  · refine x_aload_n d70_10 rfl ?_
    refine x_gfR d70_11 cl70 f8_11 (Sh.ob (S.sh s hs)) (V.s (by have := Sh.n (S.sh s hs); omega)) (Sh.r1 (S.sh s hs)) ?_
    refine x_iload_n d70_14 rfl ?_
    refine x_aaload d70_15 (Sh.o1 (S.sh s hs)).1 (by rw [(Sh.o1 (S.sh s hs)).2]; decide) ⟨by omega, by rw [(Sh.l1 (S.sh s hs))]; omega⟩ (V.s (by omega)) (B.2 (((k : Nat) : Int)).toNat (by omega)).2.1 ?_
    refine x_astore [some (vR _), some (vI _), some (vI _), some (vI _), some (vR _), none, none, none] d70_16 rfl ?_
    refine x_aload d70_18 rfl ?_
    refine x_gfR d70_20 cl70 f8_56 (Pc.ob (Ls.mem S.lp (ix (((k : Nat) : Int)).toNat) (B.2 (((k : Nat) : Int)).toNat (by omega)).1)) (V.g (Pc.g (Ls.mem S.lp (ix (((k : Nat) : Int)).toNat) (B.2 (((k : Nat) : Int)).toNat (by omega)).1))) (Pc.r3 (Ls.mem S.lp (ix (((k : Nat) : Int)).toNat) (B.2 (((k : Nat) : Int)).toNat (by omega)).1)) ?_
    refine x_iload_n d70_23 rfl ?_
    refine x_iaload d70_24 (Pc.o3 (Ls.mem S.lp (ix (((k : Nat) : Int)).toNat) (B.2 (((k : Nat) : Int)).toNat (by omega)).1)) ⟨by omega, by rw [(Pc.l3 (Ls.mem S.lp (ix (((k : Nat) : Int)).toNat) (B.2 (((k : Nat) : Int)).toNat (by omega)).1))]; omega⟩ (V.g (by have := Pc.g (Ls.mem S.lp (ix (((k : Nat) : Int)).toNat) (B.2 (((k : Nat) : Int)).toNat (by omega)).1); omega)) ?_
    refine x_nm (fun a3 e3 => ?_)
    have b3 : 0 ≤ a3 ∧ a3 ≤ 16777215 := by rw [e3]; exact (Pc.fits (Ls.mem S.lp (ix (((k : Nat) : Int)).toNat) (B.2 (((k : Nat) : Int)).toNat (by omega)).1) _)
    refine x_aload d70_25 rfl ?_
    refine x_iload_n d70_27 rfl ?_
    refine x_VE d70_28 cl70 m8_59 kd14 tg14 po14 le14 (by have := Pc.g (Ls.mem S.lp (ix (((k : Nat) : Int)).toNat) (B.2 (((k : Nat) : Int)).toNat (by omega)).1); omega) (Pc.ob (Ls.mem S.lp (ix (((k : Nat) : Int)).toNat) (B.2 (((k : Nat) : Int)).toNat (by omega)).1)) (C14 (Ls.mem S.lp (ix (((k : Nat) : Int)).toNat) (B.2 (((k : Nat) : Int)).toNat (by omega)).1) V) (fun v4 r4 z4 => ?_)
    try dsimp only at r4
    refine x_iconst d70_31 ?_
    refine x_ixorq d70_32 (fun q5 => ?_)
    refine x_iandq d70_33 (fun q6 => ?_)
    refine x_nm (fun w34_7 ew34_7 => ?_)
    refine x_istore [some (vR _), some (vI _), some (vI _), some (vI _), some (vR _), some (vI _), none, none] d70_34 rfl ?_
    have hfit : hI h (mP (ix k) + 3) pr.toNat = fit k := (B.2 k (by omega)).2.2
    have hff : ∀ x, hb w34_7 x → hb (fit k) x := fun x q => by
      obtain ⟨q1, q2, q3⟩ := q
      rw [ew34_7] at q3
      have q4 := ((tb_and (by omega)).mp q3).1
      rw [e3] at q4
      exact ⟨q1, q2, by rw [← hfit]; exact q4⟩
    have hwr : 0 ≤ w34_7 ∧ w34_7 ≤ 16777215 := by rw [ew34_7]; exact and_rng (by omega)
    refine x_iload_n d70_36 rfl ?_
    refine x_aload_n d70_37 rfl ?_
    refine x_gfI d70_38 cl70 f8_34 (by decide) (Sh.ob (S.sh s hs)) (V.s (by have := Sh.n (S.sh s hs); omega)) ?_
    have g8 := (Sh.size (S.sh s hs))
    refine x_iconst d70_41 ?_
    refine x_isub d70_42 ?_
    refine x_icne (t := 54) d70_43 rfl (by omega) (fun c43_9 => ?_) (fun c43_9 => ?_)
    · refine x_iconst d70_54 ?_
      refine x_nm (fun w55_10 ew55_10 => ?_)
      refine x_istore [some (vR _), some (vI _), some (vI _), some (vI _), some (vR _), some (vI _), some (vI _), none] d70_55 rfl ?_
      refine x_iconst d70_57 ?_
      refine x_nm (fun w58_11 ew58_11 => ?_)
      refine x_istore [some (vR _), some (vI _), some (vI _), some (vI _), some (vR _), some (vI _), some (vI _), some (vI _)] d70_58 rfl ?_
      refine (x_ub (N := 24) (P := fun i12 => ∀ h : Hp, (Hv h mP mC mI mD mB nP nC nI nD nB) → ∀ s12_6 : Int, ((s12_6 = 0 ∨ s12_6 = 1) ∧ Pf s n fit k tk (63 * i12) h0 h s12_6) → wp DA (d + 1) 70 60 [some (vR (some (7 + 5 * s))), some (vI ((k : Nat) : Int)), some (vI pr), some (vI tk), some (vR (some (mP (ix (((k : Nat) : Int)).toNat)))), some (vI w34_7), some (vI s12_6), some (vI i12)] [] h Q) w58_11 (by omega) (fun i12 hi12 hj12 ih12 h hh12 s12_6 hs12_6 => ?_)) _ S _ (by subst_vars; exact ⟨Or.inl rfl, Pf_U Pf_0 (by omega)⟩)
      have S := hh12
      refine x_iload d70_60 rfl ?_
      refine x_bipush d70_62 (by decide) ?_
      refine x_icge (t := 127) d70_64 rfl (by omega) (fun c64_13 => ?_) (fun c64_13 => ?_)
      · refine x_iload d70_127 rfl ?_
        exact x_zret d70_129 rt70 (by omega) (hQ _ _ (by rw [← e0]; exact ⟨S, Pf_U hs12_6.2 (by omega)⟩))
      · have B := BF_Sb S0 hs B0 hs12_6.2.1
        refine x_iload d70_67 rfl ?_
        refine x_iload d70_69 rfl ?_
        refine x_SE d70_71 cl70 m8_67 kd86 po86 le86 C86 (fun v14 r14 z14 => ?_)
        try dsimp only at r14
        refine x_ifeq (t := 121) d70_74 rfl (by omega) (fun c74_15 => ?_) (fun c74_15 => ?_)
        · have hinv : (s12_6 = 0 ∨ s12_6 = 1) ∧ Pf s n fit k tk (63 * (i12 + 1)) h0 h s12_6 := ⟨hs12_6.1, Pf_U hs12_6.2 (by omega)⟩
          refine x_iinc [some (vR _), some (vI _), some (vI _), some (vI _), some (vR _), some (vI _), some (vI _), some (vI _)] d70_121 rfl rfl ?_
          refine x_goto (t := 60) d70_124 rfl ?_
          exact ih12 (by omega) _ S _ hinv
        · refine x_aload_n d70_77 rfl ?_
          refine x_gfR d70_78 cl70 f8_31 (Sh.ob (S.sh s hs)) (V.s (by have := Sh.n (S.sh s hs); omega)) (Sh.r4 (S.sh s hs)) ?_
          refine x_iload_n d70_81 rfl ?_
          refine x_iload d70_82 rfl ?_
          refine x_iastore d70_84 (by have := Sh.g (S.sh s hs); omega) (Sh.o4 (S.sh s hs)) ⟨by omega, by rw [(Sh.l4 (S.sh s hs))]; omega⟩ (V.s (by have := Sh.n (S.sh s hs); omega)) (x_wr (fun g => Hv g mP mC mI mD mB nP nC nI nD nB ∧ Pf s n fit k tk (63 * i12) h0 g s12_6) ⟨Hv_sr4 S hs, Pf_c hs12_6.2 (Sb_w Sb_r (by unfold Wsh; omega)) (hI_ne (by omega)) (hI_ne (by omega)) (fun q _ => hI_ne (by omega))⟩ (fun h q16 => ?_))
          obtain ⟨S, PA⟩ := q16
          have B := BF_Sb S0 hs B0 PA.1
          refine x_aload_n d70_85 rfl ?_
          refine x_iload_n d70_86 rfl ?_
          refine x_iconst d70_87 ?_
          refine x_iadd d70_88 ?_
          refine x_iload_n d70_89 rfl ?_
          refine x_iload_n d70_90 rfl ?_
          refine x_aload d70_91 rfl ?_
          refine x_iload d70_93 rfl ?_
          refine x_VE d70_95 cl70 m8_70 kd16 tg16 po16 le16 (by have := Pc.g (Ls.mem S.lp (ix (((k : Nat) : Int)).toNat) (B.2 (((k : Nat) : Int)).toNat (by omega)).1); omega) (Pc.ob (Ls.mem S.lp (ix (((k : Nat) : Int)).toNat) (B.2 (((k : Nat) : Int)).toNat (by omega)).1)) (C16 (Ls.mem S.lp (ix (((k : Nat) : Int)).toNat) (B.2 (((k : Nat) : Int)).toNat (by omega)).1) V (by omega)) (fun v17 r17 z17 => ?_)
          try dsimp only at r17
          refine x_iorq d70_98 (fun q18 => ?_)
          refine x_VW d70_99 cl70 m8_52 kd70 tg70 po70 le70 (by omega) (Sh.ob (S.sh s hs)) (IH S B (by have := PA.2.2.1; omega)) (fun w9 h q => ?_)
          obtain ⟨r1, rfl, S, PB⟩ := q
          have hr1 := PB.2.1
          refine x_ifeq (t := 121) d70_102 rfl (by omega) (fun c102_19 => ?_) (fun c102_19 => ?_)
          · have PB0 := PB
            rw [show r1 = 0 by omega] at PB0
            have hinv : (s12_6 = 0 ∨ s12_6 = 1) ∧ Pf s n fit k tk (63 * (i12 + 1)) h0 h s12_6 := ⟨hs12_6.1, Pf_U (Pf_n PA PB0 (by omega)) (by omega)⟩
            refine x_iinc [some (vR _), some (vI _), some (vI _), some (vI _), some (vR _), some (vI _), some (vI _), some (vI _)] d70_121 rfl rfl ?_
            refine x_goto (t := 60) d70_124 rfl ?_
            exact ih12 (by omega) _ S _ hinv
          · have PB1 := PB
            rw [show r1 = 1 by omega] at PB1
            have hf9 := (hff i12 ⟨by omega, by omega, by omega⟩).2.2
            have B := BF_Sb S0 hs B0 (Sb_t PA.1 PB.1)
            refine x_aload_n d70_105 rfl ?_
            refine x_gfR d70_106 cl70 f8_24 (Sh.ob (S.sh s hs)) (V.s (by have := Sh.n (S.sh s hs); omega)) (Sh.r2 (S.sh s hs)) ?_
            refine x_iload_n d70_109 rfl ?_
            refine x_dup2 d70_110 rfl rfl ?_
            refine x_iaload d70_111 (Sh.o2 (S.sh s hs)) ⟨by omega, by rw [(Sh.l2 (S.sh s hs))]; omega⟩ (V.s (by have := Sh.n (S.sh s hs); omega)) ?_
            refine x_nm (fun a20 e20 => ?_)
            have b20 : 0 ≤ a20 ∧ a20 ≤ 16777215 := by rw [e20]; exact (Sh.places (S.sh s hs) _)
            refine x_iconst d70_112 ?_
            refine x_iload d70_113 rfl ?_
            refine x_ishlq d70_115 (fun q21 => ?_)
            refine x_iorq d70_116 (fun q22 => ?_)
            refine x_iastore d70_117 (by have := Sh.g (S.sh s hs); omega) (Sh.o2 (S.sh s hs)) ⟨by omega, by rw [(Sh.l2 (S.sh s hs))]; omega⟩ (V.s (by have := Sh.n (S.sh s hs); omega)) (x_wr (fun g => Hv g mP mC mI mD mB nP nC nI nD nB ∧ Pf s n fit k tk (63 * i12 + 63) h0 g 1) ⟨Hv_sr2 S hs (or_rng (by omega) (shl_rng (by omega))), Pf_y PA PB1 (by omega) ⟨by omega, by omega⟩ (by rw [e20]; rfl) hf9 (fun c c1 c2 c3 => ⟨fun w => c3 ((tb_or (by omega)).mpr (Or.inl w)), fun w => c3 ((tb_or (by omega)).mpr (Or.inr (by rw [← w]; exact r17.2)))⟩)⟩ (fun h q23 => ?_))
            obtain ⟨S, PY⟩ := q23
            refine x_iconst d70_118 ?_
            refine x_nm (fun w119_24 ew119_24 => ?_)
            refine x_istore [some (vR _), some (vI _), some (vI _), some (vI _), some (vR _), some (vI _), some (vI _), some (vI _)] d70_119 rfl ?_
            have hinv : (w119_24 = 0 ∨ w119_24 = 1) ∧ Pf s n fit k tk (63 * (i12 + 1)) h0 h w119_24 := by rw [ew119_24]; exact ⟨Or.inr rfl, Pf_U PY (by omega)⟩
            refine x_iinc [some (vR _), some (vI _), some (vI _), some (vI _), some (vR _), some (vI _), some (vI _), some (vI _)] d70_121 rfl rfl ?_
            refine x_goto (t := 60) d70_124 rfl ?_
            exact ih12 (by omega) _ S _ hinv
    · exfalso; omega
  · exfalso; omega
theorem C70b {d : Nat} {h : Hp} {s n k : Nat} {ix : Nat → Nat} {fit : Nat → Int} {pr : Int} {tk : Int} {mP mC mI mD mB : Nat → Nat} {nP nC nI nD nB : Nat} (S : Hv h mP mC mI mD mB nP nC nI nD nB) (hs : s < 6) (B : BF s n mP nP ix fit pr h) (n3 : n ≤ 3) (hk : k + 1 < n) (qp : 0 ≤ pr ∧ pr < 8) (hpl : hI h (7 + 5 * s) 2 + 36288 ≤ 1000000) (IH : ∀ {h : Hp} {tk : Int} (_ : Hv h mP mC mI mD mB nP nC nI nD nB) (_ : BF s n mP nP ix fit pr h) (_ : hI h (7 + 5 * s) 2 + 1512 ≤ 1000000), PW DA d 70 [vR (some (7 + 5 * s)), vI (((k : Nat) : Int) + 1), vI pr, vI tk] h (fun w g => ∃ v : Int, w = vI v ∧ Hv g mP mC mI mD mB nP nC nI nD nB ∧ Pf s n fit (k + 1) tk 1512 h g v)) : PW DA (d + 1) 70 [vR (some (7 + 5 * s)), vI ((k : Nat) : Int), vI pr, vI tk] h (fun w g => ∃ v : Int, w = vI v ∧ Hv g mP mC mI mD mB nP nC nI nD nB ∧ Pf s n fit k tk 36288 h g v) := by
  refine PW_of (fun Q hQ => ?_)
  have V := Vis_DA
  obtain ⟨h0, e0⟩ : ∃ h0, h0 = h := ⟨_, rfl⟩
  have A : Sb s h0 h := e0 ▸ Sb_r
  have S0 : Hv h0 mP mC mI mD mB nP nC nI nD nB := e0 ▸ S
  have B0 : BF s n mP nP ix fit pr h0 := e0 ▸ B
  have hb1 := B.1
  have hpl0 : hI h0 (7 + 5 * s) 2 + 36288 ≤ 1000000 := e0 ▸ hpl
  refine x_ent en70 ?_
  refine x_iload_n d70_0 rfl ?_
  refine x_aload_n d70_1 rfl ?_
  refine x_gfI d70_2 cl70 f8_34 (by decide) (Sh.ob (S.sh s hs)) (V.s (by have := Sh.n (S.sh s hs); omega)) ?_
  have g1 := (Sh.size (S.sh s hs))
  refine x_iclt (t := 10) d70_5 rfl (by omega) (fun c5_2 => ?_) (fun c5_2 => ?_)
  · refine x_aload_n d70_10 rfl ?_
    refine x_gfR d70_11 cl70 f8_11 (Sh.ob (S.sh s hs)) (V.s (by have := Sh.n (S.sh s hs); omega)) (Sh.r1 (S.sh s hs)) ?_
    refine x_iload_n d70_14 rfl ?_
    refine x_aaload d70_15 (Sh.o1 (S.sh s hs)).1 (by rw [(Sh.o1 (S.sh s hs)).2]; decide) ⟨by omega, by rw [(Sh.l1 (S.sh s hs))]; omega⟩ (V.s (by omega)) (B.2 (((k : Nat) : Int)).toNat (by omega)).2.1 ?_
    refine x_astore [some (vR _), some (vI _), some (vI _), some (vI _), some (vR _), none, none, none] d70_16 rfl ?_
    refine x_aload d70_18 rfl ?_
    refine x_gfR d70_20 cl70 f8_56 (Pc.ob (Ls.mem S.lp (ix (((k : Nat) : Int)).toNat) (B.2 (((k : Nat) : Int)).toNat (by omega)).1)) (V.g (Pc.g (Ls.mem S.lp (ix (((k : Nat) : Int)).toNat) (B.2 (((k : Nat) : Int)).toNat (by omega)).1))) (Pc.r3 (Ls.mem S.lp (ix (((k : Nat) : Int)).toNat) (B.2 (((k : Nat) : Int)).toNat (by omega)).1)) ?_
    refine x_iload_n d70_23 rfl ?_
    refine x_iaload d70_24 (Pc.o3 (Ls.mem S.lp (ix (((k : Nat) : Int)).toNat) (B.2 (((k : Nat) : Int)).toNat (by omega)).1)) ⟨by omega, by rw [(Pc.l3 (Ls.mem S.lp (ix (((k : Nat) : Int)).toNat) (B.2 (((k : Nat) : Int)).toNat (by omega)).1))]; omega⟩ (V.g (by have := Pc.g (Ls.mem S.lp (ix (((k : Nat) : Int)).toNat) (B.2 (((k : Nat) : Int)).toNat (by omega)).1); omega)) ?_
    refine x_nm (fun a3 e3 => ?_)
    have b3 : 0 ≤ a3 ∧ a3 ≤ 16777215 := by rw [e3]; exact (Pc.fits (Ls.mem S.lp (ix (((k : Nat) : Int)).toNat) (B.2 (((k : Nat) : Int)).toNat (by omega)).1) _)
    refine x_aload d70_25 rfl ?_
    refine x_iload_n d70_27 rfl ?_
    refine x_VE d70_28 cl70 m8_59 kd14 tg14 po14 le14 (by have := Pc.g (Ls.mem S.lp (ix (((k : Nat) : Int)).toNat) (B.2 (((k : Nat) : Int)).toNat (by omega)).1); omega) (Pc.ob (Ls.mem S.lp (ix (((k : Nat) : Int)).toNat) (B.2 (((k : Nat) : Int)).toNat (by omega)).1)) (C14 (Ls.mem S.lp (ix (((k : Nat) : Int)).toNat) (B.2 (((k : Nat) : Int)).toNat (by omega)).1) V) (fun v4 r4 z4 => ?_)
    try dsimp only at r4
    refine x_iconst d70_31 ?_
    refine x_ixorq d70_32 (fun q5 => ?_)
    refine x_iandq d70_33 (fun q6 => ?_)
    refine x_nm (fun w34_7 ew34_7 => ?_)
    refine x_istore [some (vR _), some (vI _), some (vI _), some (vI _), some (vR _), some (vI _), none, none] d70_34 rfl ?_
    have hfit : hI h (mP (ix k) + 3) pr.toNat = fit k := (B.2 k (by omega)).2.2
    have hff : ∀ x, hb w34_7 x → hb (fit k) x := fun x q => by
      obtain ⟨q1, q2, q3⟩ := q
      rw [ew34_7] at q3
      have q4 := ((tb_and (by omega)).mp q3).1
      rw [e3] at q4
      exact ⟨q1, q2, by rw [← hfit]; exact q4⟩
    have hwr : 0 ≤ w34_7 ∧ w34_7 ≤ 16777215 := by rw [ew34_7]; exact and_rng (by omega)
    refine x_iload_n d70_36 rfl ?_
    refine x_aload_n d70_37 rfl ?_
    refine x_gfI d70_38 cl70 f8_34 (by decide) (Sh.ob (S.sh s hs)) (V.s (by have := Sh.n (S.sh s hs); omega)) ?_
    have g8 := (Sh.size (S.sh s hs))
    refine x_iconst d70_41 ?_
    refine x_isub d70_42 ?_
    refine x_icne (t := 54) d70_43 rfl (by omega) (fun c43_9 => ?_) (fun c43_9 => ?_)
    · refine x_iconst d70_54 ?_
      refine x_nm (fun w55_10 ew55_10 => ?_)
      refine x_istore [some (vR _), some (vI _), some (vI _), some (vI _), some (vR _), some (vI _), some (vI _), none] d70_55 rfl ?_
      refine x_iconst d70_57 ?_
      refine x_nm (fun w58_11 ew58_11 => ?_)
      refine x_istore [some (vR _), some (vI _), some (vI _), some (vI _), some (vR _), some (vI _), some (vI _), some (vI _)] d70_58 rfl ?_
      refine (x_ub (N := 24) (P := fun i12 => ∀ h : Hp, (Hv h mP mC mI mD mB nP nC nI nD nB) → ∀ s12_6 : Int, ((s12_6 = 0 ∨ s12_6 = 1) ∧ Pf s n fit k tk (1512 * i12) h0 h s12_6) → wp DA (d + 1) 70 60 [some (vR (some (7 + 5 * s))), some (vI ((k : Nat) : Int)), some (vI pr), some (vI tk), some (vR (some (mP (ix (((k : Nat) : Int)).toNat)))), some (vI w34_7), some (vI s12_6), some (vI i12)] [] h Q) w58_11 (by omega) (fun i12 hi12 hj12 ih12 h hh12 s12_6 hs12_6 => ?_)) _ S _ (by subst_vars; exact ⟨Or.inl rfl, Pf_U Pf_0 (by omega)⟩)
      have S := hh12
      refine x_iload d70_60 rfl ?_
      refine x_bipush d70_62 (by decide) ?_
      refine x_icge (t := 127) d70_64 rfl (by omega) (fun c64_13 => ?_) (fun c64_13 => ?_)
      · refine x_iload d70_127 rfl ?_
        exact x_zret d70_129 rt70 (by omega) (hQ _ _ (by rw [← e0]; exact ⟨S, Pf_U hs12_6.2 (by omega)⟩))
      · have B := BF_Sb S0 hs B0 hs12_6.2.1
        refine x_iload d70_67 rfl ?_
        refine x_iload d70_69 rfl ?_
        refine x_SE d70_71 cl70 m8_67 kd86 po86 le86 C86 (fun v14 r14 z14 => ?_)
        try dsimp only at r14
        refine x_ifeq (t := 121) d70_74 rfl (by omega) (fun c74_15 => ?_) (fun c74_15 => ?_)
        · have hinv : (s12_6 = 0 ∨ s12_6 = 1) ∧ Pf s n fit k tk (1512 * (i12 + 1)) h0 h s12_6 := ⟨hs12_6.1, Pf_U hs12_6.2 (by omega)⟩
          refine x_iinc [some (vR _), some (vI _), some (vI _), some (vI _), some (vR _), some (vI _), some (vI _), some (vI _)] d70_121 rfl rfl ?_
          refine x_goto (t := 60) d70_124 rfl ?_
          exact ih12 (by omega) _ S _ hinv
        · refine x_aload_n d70_77 rfl ?_
          refine x_gfR d70_78 cl70 f8_31 (Sh.ob (S.sh s hs)) (V.s (by have := Sh.n (S.sh s hs); omega)) (Sh.r4 (S.sh s hs)) ?_
          refine x_iload_n d70_81 rfl ?_
          refine x_iload d70_82 rfl ?_
          refine x_iastore d70_84 (by have := Sh.g (S.sh s hs); omega) (Sh.o4 (S.sh s hs)) ⟨by omega, by rw [(Sh.l4 (S.sh s hs))]; omega⟩ (V.s (by have := Sh.n (S.sh s hs); omega)) (x_wr (fun g => Hv g mP mC mI mD mB nP nC nI nD nB ∧ Pf s n fit k tk (1512 * i12) h0 g s12_6) ⟨Hv_sr4 S hs, Pf_c hs12_6.2 (Sb_w Sb_r (by unfold Wsh; omega)) (hI_ne (by omega)) (hI_ne (by omega)) (fun q _ => hI_ne (by omega))⟩ (fun h q16 => ?_))
          obtain ⟨S, PA⟩ := q16
          have B := BF_Sb S0 hs B0 PA.1
          refine x_aload_n d70_85 rfl ?_
          refine x_iload_n d70_86 rfl ?_
          refine x_iconst d70_87 ?_
          refine x_iadd d70_88 ?_
          refine x_iload_n d70_89 rfl ?_
          refine x_iload_n d70_90 rfl ?_
          refine x_aload d70_91 rfl ?_
          refine x_iload d70_93 rfl ?_
          refine x_VE d70_95 cl70 m8_70 kd16 tg16 po16 le16 (by have := Pc.g (Ls.mem S.lp (ix (((k : Nat) : Int)).toNat) (B.2 (((k : Nat) : Int)).toNat (by omega)).1); omega) (Pc.ob (Ls.mem S.lp (ix (((k : Nat) : Int)).toNat) (B.2 (((k : Nat) : Int)).toNat (by omega)).1)) (C16 (Ls.mem S.lp (ix (((k : Nat) : Int)).toNat) (B.2 (((k : Nat) : Int)).toNat (by omega)).1) V (by omega)) (fun v17 r17 z17 => ?_)
          try dsimp only at r17
          refine x_iorq d70_98 (fun q18 => ?_)
          refine x_VW d70_99 cl70 m8_52 kd70 tg70 po70 le70 (by omega) (Sh.ob (S.sh s hs)) (IH S B (by have := PA.2.2.1; omega)) (fun w9 h q => ?_)
          obtain ⟨r1, rfl, S, PB⟩ := q
          have hr1 := PB.2.1
          refine x_ifeq (t := 121) d70_102 rfl (by omega) (fun c102_19 => ?_) (fun c102_19 => ?_)
          · have PB0 := PB
            rw [show r1 = 0 by omega] at PB0
            have hinv : (s12_6 = 0 ∨ s12_6 = 1) ∧ Pf s n fit k tk (1512 * (i12 + 1)) h0 h s12_6 := ⟨hs12_6.1, Pf_U (Pf_n PA PB0 (by omega)) (by omega)⟩
            refine x_iinc [some (vR _), some (vI _), some (vI _), some (vI _), some (vR _), some (vI _), some (vI _), some (vI _)] d70_121 rfl rfl ?_
            refine x_goto (t := 60) d70_124 rfl ?_
            exact ih12 (by omega) _ S _ hinv
          · have PB1 := PB
            rw [show r1 = 1 by omega] at PB1
            have hf9 := (hff i12 ⟨by omega, by omega, by omega⟩).2.2
            have B := BF_Sb S0 hs B0 (Sb_t PA.1 PB.1)
            refine x_aload_n d70_105 rfl ?_
            refine x_gfR d70_106 cl70 f8_24 (Sh.ob (S.sh s hs)) (V.s (by have := Sh.n (S.sh s hs); omega)) (Sh.r2 (S.sh s hs)) ?_
            refine x_iload_n d70_109 rfl ?_
            refine x_dup2 d70_110 rfl rfl ?_
            refine x_iaload d70_111 (Sh.o2 (S.sh s hs)) ⟨by omega, by rw [(Sh.l2 (S.sh s hs))]; omega⟩ (V.s (by have := Sh.n (S.sh s hs); omega)) ?_
            refine x_nm (fun a20 e20 => ?_)
            have b20 : 0 ≤ a20 ∧ a20 ≤ 16777215 := by rw [e20]; exact (Sh.places (S.sh s hs) _)
            refine x_iconst d70_112 ?_
            refine x_iload d70_113 rfl ?_
            refine x_ishlq d70_115 (fun q21 => ?_)
            refine x_iorq d70_116 (fun q22 => ?_)
            refine x_iastore d70_117 (by have := Sh.g (S.sh s hs); omega) (Sh.o2 (S.sh s hs)) ⟨by omega, by rw [(Sh.l2 (S.sh s hs))]; omega⟩ (V.s (by have := Sh.n (S.sh s hs); omega)) (x_wr (fun g => Hv g mP mC mI mD mB nP nC nI nD nB ∧ Pf s n fit k tk (1512 * i12 + 1512) h0 g 1) ⟨Hv_sr2 S hs (or_rng (by omega) (shl_rng (by omega))), Pf_y PA PB1 (by omega) ⟨by omega, by omega⟩ (by rw [e20]; rfl) hf9 (fun c c1 c2 c3 => ⟨fun w => c3 ((tb_or (by omega)).mpr (Or.inl w)), fun w => c3 ((tb_or (by omega)).mpr (Or.inr (by rw [← w]; exact r17.2)))⟩)⟩ (fun h q23 => ?_))
            obtain ⟨S, PY⟩ := q23
            refine x_iconst d70_118 ?_
            refine x_nm (fun w119_24 ew119_24 => ?_)
            refine x_istore [some (vR _), some (vI _), some (vI _), some (vI _), some (vR _), some (vI _), some (vI _), some (vI _)] d70_119 rfl ?_
            have hinv : (w119_24 = 0 ∨ w119_24 = 1) ∧ Pf s n fit k tk (1512 * (i12 + 1)) h0 h w119_24 := by rw [ew119_24]; exact ⟨Or.inr rfl, Pf_U PY (by omega)⟩
            refine x_iinc [some (vR _), some (vI _), some (vI _), some (vI _), some (vR _), some (vI _), some (vI _), some (vI _)] d70_121 rfl rfl ?_
            refine x_goto (t := 60) d70_124 rfl ?_
            exact ih12 (by omega) _ S _ hinv
    · exfalso; omega
  · exfalso; omega
/-- all of it, from the first piece on -/
theorem C70 {d : Nat} {h : Hp} {s n : Nat} {ix : Nat → Nat} {fit : Nat → Int} {pr tk : Int} {mP mC mI mD mB : Nat → Nat} {nP nC nI nD nB : Nat} (S : Hv h mP mC mI mD mB nP nC nI nD nB) (hs : s < 6) (B : BF s n mP nP ix fit pr h) (n3 : 1 ≤ n ∧ n ≤ 3) (qp : 0 ≤ pr ∧ pr < 8) (hpl : hI h (7 + 5 * s) 2 + 36288 ≤ 1000000) : PW DA (d + 5) 70 [vR (some (7 + 5 * s)), vI 0, vI pr, vI tk] h (fun w g => ∃ v : Int, w = vI v ∧ Hv g mP mC mI mD mB nP nC nI nD nB ∧ Pf s n fit 0 tk 36288 h g v) := by
  have up : ∀ {U : Int} {e : Nat}, U ≤ 36288 → PW DA e 70 [vR (some (7 + 5 * s)), vI 0, vI pr, vI tk] h (fun w g => ∃ v : Int, w = vI v ∧ Hv g mP mC mI mD mB nP nC nI nD nB ∧ Pf s n fit 0 tk U h g v) → e ≤ d + 5 → PW DA (d + 5) 70 [vR (some (7 + 5 * s)), vI 0, vI pr, vI tk] h (fun w g => ∃ v : Int, w = vI v ∧ Hv g mP mC mI mD mB nP nC nI nD nB ∧ Pf s n fit 0 tk 36288 h g v) := by
    intro U e hU q he
    have q := wp_dep (d + 5 - e) q
    rw [show e + (d + 5 - e) = d + 5 by omega] at q
    refine wp_mono q (fun r k => ?_)
    obtain ⟨v, k1, v2, k2, k3, k4⟩ := k
    exact ⟨v, k1, v2, k2, k3, Pf_U k4 hU⟩
  rcases (show n = 1 ∨ n = 2 ∨ n = 3 by omega) with w | w | w
  · subst w
    exact up (by decide) (C70l (d := d) (k := 0) S hs B (by decide) (by decide) qp (by omega)) (by omega)
  · subst w
    exact up (by decide) (C70a (d := d + 3) (k := 0) S hs B (by decide) (by decide) qp (by omega) (fun S B p => C70l (d := d) (k := 1) S hs B (by decide) (by decide) qp p)) (by omega)
  · subst w
    exact up (by decide) (C70b (d := d + 4) (k := 0) S hs B (by decide) (by decide) qp (by omega) (fun S B p => C70a (d := d + 3) (k := 1) S hs B (by decide) (by decide) qp (by omega) (fun S B p => C70l (d := d) (k := 2) S hs B (by decide) (by decide) qp p))) (by omega)
