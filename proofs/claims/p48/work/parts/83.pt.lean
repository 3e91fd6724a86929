/-! ===== PIECES ARE TOLD ===== -/
theorem Mv_alc {h : Hp} {t l s : Nat} : Mv h (alc h t l s) (fun _ => False) :=
  ⟨⟨Nat.le_succ _, fun a ha => ⟨by rw [hT_alc, if_neg (by omega)], by rw [hL_alc, if_neg (by omega)]⟩⟩, fun _ _ q => q.elim, fun a ha _ j => ⟨by rw [hI_alc, if_neg (by omega)], by rw [hR_alc, if_neg (by omega)]⟩⟩
theorem pos24 {h : Hp} {mP mC mI mD mB : Nat → Nat} {nP nC nI nD nB : Nat} (S : Hv h mP mC mI mD mB nP nC nI nD nB) : hI h 3 0 * hI h 3 1 ≤ 24 := by
  have h1 := S.pl.1
  have h2 := S.pl.2.1
  generalize hI h 3 0 = a at h1 ⊢
  generalize hI h 3 1 = b at h2 ⊢
  rcases (show b = 0 ∨ b = 1 ∨ b = 2 ∨ b = 3 ∨ b = 4 by omega) with e | e | e | e | e <;> subst e <;> omega
theorem C95 {d : Nat} {h : Hp} {x y w z : Int} (qx : -2147483648 ≤ x ∧ x < 2147483648) (qy : -2147483648 ≤ y ∧ y < 2147483648) (qw : -2147483648 ≤ w ∧ w < 2147483648) (qz : z = 0 ∨ z = 1) {mP mC mI mD mB : Nat → Nat} {nP nC nI nD nB : Nat} (K : IV h mP mC mI mD mB nP nC nI nD nB) : MX DA (d + 8) 95 [vR (some 2), vI x, vI y, vI w, vI z] h (fun w g => ∃ v : Int, w = vI v ∧ MR h g) := by
  refine MX_of (fun Q hQ1 hQ0 => ?_)
  have V := Vis_DA
  obtain ⟨S, X⟩ := K
  obtain ⟨c0, s0, hcc, hss⟩ : ∃ c0 s0, hC h = c0 ∧ hS h = s0 := ⟨_, _, rfl, rfl⟩
  have hnp := S.np
  refine x_ent en95 ?_
  refine x_iload_n d95_0 rfl ?_
  refine x_iload_n d95_1 rfl ?_
  refine x_SE d95_2 cl95 m11_153 kd96 po96 le96 (C96 (by omega) (by omega)) (fun v1 r1 z1 => ?_)
  try dsimp only at r1
  refine x_ifeq (t := 19) d95_5 rfl (by omega) (fun c5_2 => ?_) (fun c5_2 => ?_)
  · refine x_iconst d95_19 ?_
    exact x_ck d95_20 cl95 m11_88 kd84 po84 le84 rfl (fun c => C84 c) (fun c => C84x c) (by omega) (hQ0 _ (by decide)) (fun c => absurd c (by decide))
  · refine x_iload_n d95_8 rfl ?_
    refine x_SE d95_9 cl95 m11_157 kd97 po97 le97 (C97 (by omega)) (fun v4 r4 z4 => ?_)
    try dsimp only at r4
    refine x_ifeq (t := 19) d95_12 rfl (by omega) (fun c12_5 => ?_) (fun c12_5 => ?_)
    · refine x_iconst d95_19 ?_
      exact x_ck d95_20 cl95 m11_88 kd84 po84 le84 rfl (fun c => C84 c) (fun c => C84x c) (by omega) (hQ0 _ (by decide)) (fun c => absurd c (by decide))
    · refine x_iconst d95_15 ?_
      refine x_goto (t := 20) d95_16 rfl ?_
      refine x_SN d95_20 cl95 m11_88 kd84 po84 le84 (C84 (by omega)) ?_
      refine x_aload_n d95_23 rfl ?_
      refine x_gfR d95_24 cl95 f11_10 (S.F.o rfl (by decide)) rfl (S.F.r rfl) ?_
      refine x_VE d95_27 cl95 m11_104 kd30 tg30 po30 le30 (by decide) (S.F.o rfl (by decide)) (C30 V S) (fun v8 r8 z8 => ?_)
      try dsimp only at r8
      refine x_ifle (t := 45) d95_30 rfl (by omega) (fun c30_9 => ?_) (fun c30_9 => ?_)
      · refine x_iconst d95_45 ?_
        exact x_ck d95_46 cl95 m11_122 kd88 po88 le88 rfl (fun c => C88 c) (fun c => C88x c) (by omega) (hQ0 _ (by decide)) (fun c => absurd c (by decide))
      · refine x_aload_n d95_33 rfl ?_
        refine x_iload_n d95_34 rfl ?_
        refine x_VE d95_35 cl95 m11_160 kd98 tg98 po98 le98 (by decide) (S.F.o rfl (by decide)) (C98 V S (by omega)) (fun v11 r11 z11 => ?_)
        try dsimp only at r11
        refine x_ifeq (t := 45) d95_38 rfl (by omega) (fun c38_12 => ?_) (fun c38_12 => ?_)
        · refine x_iconst d95_45 ?_
          exact x_ck d95_46 cl95 m11_122 kd88 po88 le88 rfl (fun c => C88 c) (fun c => C88x c) (by omega) (hQ0 _ (by decide)) (fun c => absurd c (by decide))
        · refine x_iconst d95_41 ?_
          refine x_goto (t := 46) d95_42 rfl ?_
          refine x_SN d95_46 cl95 m11_122 kd88 po88 le88 (C88 (by omega)) ?_
          obtain ⟨c, hc0⟩ : ∃ c, hN h = c := ⟨_, rfl⟩
          obtain ⟨h0, e0⟩ : ∃ h0, h0 = h := ⟨_, rfl⟩
          have K0 : IV h0 mP mC mI mD mB nP nC nI nD nB := e0 ▸ ⟨S, X⟩
          have hc1 : hN h0 = c := e0 ▸ hc0
          have hcC : hC h0 = c0 := e0 ▸ hcc
          have hsS : hS h0 = s0 := e0 ▸ hss
          have e3 : hI h0 3 0 = hI h 3 0 ∧ hI h0 3 1 = hI h 3 1 ∧ ∀ s, hI h0 (7 + 5 * s) 1 = hI h (7 + 5 * s) 1 := by rw [e0]; exact ⟨rfl, rfl, fun _ => rfl⟩
          refine x_new d95_49 cl95 nw11_136 (x_wrR (fun g r => g = alc h0 4 0 16 ∧ r = c ∧ IV g mP mC mI mD mB nP nC nI nD nB) ⟨by rw [e0], hc0, IV_ext Mv_alc ⟨S, X⟩⟩ (fun h r15 q15 => ?_))
          obtain ⟨G0, hr, S, X⟩ := q15
          rw [hr]
          refine x_dupR d95_52 ?_
          refine x_aload_n d95_53 rfl ?_
          refine x_gfR d95_54 cl95 f11_19 (S.F.o rfl (by decide)) rfl (S.F.r rfl) ?_
          refine x_VE d95_57 cl95 m11_129 kd168 tg168 po168 le168 (by decide) (S.F.o rfl (by decide)) (C168 (S.F.o rfl (by decide)) rfl S.lp) (fun v16 r16 z16 => ?_)
          try dsimp only at r16
          refine x_iload_n d95_60 rfl ?_
          refine x_iload_n d95_61 rfl ?_
          refine x_iload_n d95_62 rfl ?_
          refine x_iload d95_63 rfl ?_
          refine x_PU d95_65 cl95 m11_163 kd17 po17 le17 (by have := S.F.1; have := K0.1.F.1; omega) (by rw [G0, hN_alc]; omega) (by rw [G0]; exact C17 (by have := K0.1.F.1; omega) hc1 (by omega)) (fun g q => ?_)
          refine x_wr (fun g => (IV g mP mC mI mD mB nP nC nI nD nB ∧ Pc g c ∧ hI g c 1 = x ∧ hI g c 2 = y ∧ hI g c 3 = w) ∧ (hI g 3 0 = hI h0 3 0 ∧ hI g 3 1 = hI h0 3 1 ∧ ∀ s, s < 6 → hI g (7 + 5 * s) 1 = hI h0 (7 + 5 * s) 1) ∧ hC g = c0 + 7 ∧ hS g = s0 + 57) (by
            obtain ⟨f, f1, f2⟩ := q
            obtain ⟨M, GP, hf, hc9, hs9⟩ := mkP3_ok (x := v16) (y := x) (w := y) (z := w) (u := z) f1 (by have := K0.1.F.1; omega) (by have := K0.1.np; omega) (by omega) (by omega) (by omega) (by omega)
            have F0 := K0.1.F
            rw [f2]
            refine ⟨⟨IV_ext M K0, GP, hf⟩, ⟨M.i (by have := F0.1; omega) (F0.o (a := 3) rfl (by decide)).2 (by decide) 0, M.i (by have := F0.1; omega) (F0.o (a := 3) rfl (by decide)).2 (by decide) 1, fun s hs => ?_⟩, by omega, by omega⟩
            have T := K0.1.sh s hs
            exact M.i (by have := T.n; have := T.f; omega) T.t (by decide) 1) (fun h q => ?_)
          obtain ⟨⟨⟨S, X⟩, GP, hy9, hw9, hz9⟩, ⟨hW, hH, hsz⟩, hcc, hss⟩ := q
          have fr : ∀ k, k < nP → mP k ≠ c := fun k hk => by have := (Ls.mem K0.1.lp k hk).n; omega
          refine x_astore [some (vR _), some (vI _), some (vI _), some (vI _), some (vI _), some (vR _)] d95_68 rfl ?_
          refine x_aload_n d95_70 rfl ?_
          refine x_aload d95_71 rfl ?_
          refine x_VU d95_73 cl95 m11_166 kd99 tg99 po99 le99 (by decide) (S.F.o rfl (by decide)) (C99 (s := (w).toNat) (z := hI h (7 + 5 * (w).toNat) 1) ⟨S, X⟩ GP (by omega) (by omega) (by omega) fr rfl (by have h1 := hsz (w).toNat (by omega); have h2 := e3.2.2 (w).toNat; have h3 := ((S.sh (w).toNat (by omega)).size); omega)) (fun h q => ?_)
          obtain ⟨m9, em9, K9, hc9, hs9⟩ := q
          have GP : Pc h c := by have := Ls.mem K9.1.lp nP (by omega); rw [em9] at this; exact this
          refine x_aload d95_76 rfl ?_
          refine x_gfI d95_78 cl95 f11_170 (by decide) (Pc.ob GP) (V.g (Pc.g GP)) ?_
          have g17 := (Pc.number GP)
          exact x_iret d95_81 rt95 (hQ1 _ _ (MR_of K9 (by omega) (by omega)))
theorem C100 {d : Nat} {h : Hp} {x y w z u : Int} (qx : -2147483648 ≤ x ∧ x < 2147483648) (qy : -2147483648 ≤ y ∧ y < 2147483648) (qw : -2147483648 ≤ w ∧ w < 2147483648) (qz : -2147483648 ≤ z ∧ z < 2147483648) (qu : -2147483648 ≤ u ∧ u < 2147483648) {mP mC mI mD mB : Nat → Nat} {nP nC nI nD nB : Nat} (K : IV h mP mC mI mD mB nP nC nI nD nB) : MX DA (d + 8) 100 [vR (some 2), vI x, vI y, vI w, vI z, vI u] h (fun w g => ∃ v : Int, w = vI v ∧ MR h g) := by
  refine MX_of (fun Q hQ1 hQ0 => ?_)
  have V := Vis_DA
  obtain ⟨S, X⟩ := K
  obtain ⟨c0, s0, hcc, hss⟩ : ∃ c0 s0, hC h = c0 ∧ hS h = s0 := ⟨_, _, rfl, rfl⟩
  have hnp := S.np
  have hpos9 := pos24 S
  refine x_ent en100 ?_
  refine x_iload_n d100_0 rfl ?_
  refine x_iload_n d100_1 rfl ?_
  refine x_SE d100_2 cl100 m11_153 kd96 po96 le96 (C96 (by omega) (by omega)) (fun v1 r1 z1 => ?_)
  try dsimp only at r1
  refine x_nm (fun w5_2 ew5_2 => ?_)
  refine x_istore [some (vR _), some (vI _), some (vI _), some (vI _), some (vI _), some (vI _), some (vI _), none] d100_5 rfl ?_
  refine x_aload_n d100_7 rfl ?_
  refine x_gfR d100_8 cl100 f11_10 (S.F.o rfl (by decide)) rfl (S.F.r rfl) ?_
  refine x_iload_n d100_11 rfl ?_
  refine x_VE d100_12 cl100 m11_108 kd35 tg35 po35 le35 (by decide) (S.F.o rfl (by decide)) (C35 V S (by omega)) (fun v3 r3 z3 => ?_)
  try dsimp only at r3
  refine x_ifeq (t := 40) d100_15 rfl (by omega) (fun c15_4 => ?_) (fun c15_4 => ?_)
  · refine x_iconst d100_40 ?_
    exact x_ck d100_41 cl100 m11_112 kd94 po94 le94 rfl (fun c => C94 c) (fun c => C94x c) (by omega) (hQ0 _ (by decide)) (fun c => absurd c (by decide))
  · refine x_iload d100_18 rfl ?_
    refine x_ifeq (t := 36) d100_20 rfl (by omega) (fun c20_6 => ?_) (fun c20_6 => ?_)
    · refine x_iconst d100_36 ?_
      refine x_goto (t := 41) d100_37 rfl ?_
      refine x_SN d100_41 cl100 m11_112 kd94 po94 le94 (C94 (by omega)) ?_
      refine x_iload d100_44 rfl ?_
      refine x_ifeq (t := 69) d100_46 rfl (by omega) (fun c46_8 => ?_) (fun c46_8 => ?_)
      · refine x_iconst d100_69 ?_
        exact x_ck d100_70 cl100 m11_88 kd84 po84 le84 rfl (fun c => C84 c) (fun c => C84x c) (by omega) (hQ0 _ (by decide)) (fun c => absurd c (by decide))
      · exfalso; omega
    · refine x_aload_n d100_23 rfl ?_
      refine x_gfR d100_24 cl100 f11_10 (S.F.o rfl (by decide)) rfl (S.F.r rfl) ?_
      refine x_iload_n d100_27 rfl ?_
      refine x_iload_n d100_28 rfl ?_
      refine x_iload_n d100_29 rfl ?_
      refine x_VE d100_30 cl100 m11_189 kd34 tg34 po34 le34 (by decide) (S.F.o rfl (by decide)) (C34 V S (by omega) (by omega) (by omega)) (fun v10 r10 z10 => ?_)
      try dsimp only at r10
      refine x_ifeq (t := 40) d100_33 rfl (by omega) (fun c33_11 => ?_) (fun c33_11 => ?_)
      · refine x_iconst d100_40 ?_
        exact x_ck d100_41 cl100 m11_112 kd94 po94 le94 rfl (fun c => C94 c) (fun c => C94x c) (by omega) (hQ0 _ (by decide)) (fun c => absurd c (by decide))
      · refine x_iconst d100_36 ?_
        refine x_goto (t := 41) d100_37 rfl ?_
        refine x_SN d100_41 cl100 m11_112 kd94 po94 le94 (C94 (by omega)) ?_
        refine x_iload d100_44 rfl ?_
        refine x_ifeq (t := 69) d100_46 rfl (by omega) (fun c46_14 => ?_) (fun c46_14 => ?_)
        · refine x_iconst d100_69 ?_
          exact x_ck d100_70 cl100 m11_88 kd84 po84 le84 rfl (fun c => C84 c) (fun c => C84x c) (by omega) (hQ0 _ (by decide)) (fun c => absurd c (by decide))
        · obtain ⟨t1, t2, t3, t4, t5⟩ := r10.2 (by omega)
          refine x_iload d100_49 rfl ?_
          refine x_SE d100_51 cl100 m11_115 kd101 po101 le101 (C101 (by omega)) (fun v16 r16 z16 => ?_)
          try dsimp only at r16
          refine x_ifeq (t := 69) d100_54 rfl (by omega) (fun c54_17 => ?_) (fun c54_17 => ?_)
          · refine x_iconst d100_69 ?_
            exact x_ck d100_70 cl100 m11_88 kd84 po84 le84 rfl (fun c => C84 c) (fun c => C84x c) (by omega) (hQ0 _ (by decide)) (fun c => absurd c (by decide))
          · refine x_iload d100_57 rfl ?_
            refine x_SE d100_59 cl100 m11_157 kd97 po97 le97 (C97 (by omega)) (fun v19 r19 z19 => ?_)
            try dsimp only at r19
            refine x_ifeq (t := 69) d100_62 rfl (by omega) (fun c62_20 => ?_) (fun c62_20 => ?_)
            · refine x_iconst d100_69 ?_
              exact x_ck d100_70 cl100 m11_88 kd84 po84 le84 rfl (fun c => C84 c) (fun c => C84x c) (by omega) (hQ0 _ (by decide)) (fun c => absurd c (by decide))
            · refine x_iconst d100_65 ?_
              refine x_goto (t := 70) d100_66 rfl ?_
              refine x_SN d100_70 cl100 m11_88 kd84 po84 le84 (C84 (by omega)) ?_
              refine x_aload_n d100_73 rfl ?_
              refine x_iload d100_74 rfl ?_
              refine x_VE d100_76 cl100 m11_160 kd98 tg98 po98 le98 (by decide) (S.F.o rfl (by decide)) (C98 V S (by omega)) (fun v23 r23 z23 => ?_)
              try dsimp only at r23
              refine x_ck d100_79 cl100 m11_122 kd88 po88 le88 rfl (fun c => C88 c) (fun c => C88x c) (by omega) (hQ0 _ (by decide)) (fun k79_24 => ?_)
              obtain ⟨c, hc0⟩ : ∃ c, hN h = c := ⟨_, rfl⟩
              obtain ⟨h0, e0⟩ : ∃ h0, h0 = h := ⟨_, rfl⟩
              have K0 : IV h0 mP mC mI mD mB nP nC nI nD nB := e0 ▸ ⟨S, X⟩
              have hc1 : hN h0 = c := e0 ▸ hc0
              have hcC : hC h0 = c0 := e0 ▸ hcc
              have hsS : hS h0 = s0 := e0 ▸ hss
              have e3 : hI h0 3 0 = hI h 3 0 ∧ hI h0 3 1 = hI h 3 1 ∧ ∀ s, hI h0 (7 + 5 * s) 1 = hI h (7 + 5 * s) 1 := by rw [e0]; exact ⟨rfl, rfl, fun _ => rfl⟩
              refine x_new d100_82 cl100 nw11_136 (x_wrR (fun g r => g = alc h0 4 0 16 ∧ r = c ∧ IV g mP mC mI mD mB nP nC nI nD nB) ⟨by rw [e0], hc0, IV_ext Mv_alc ⟨S, X⟩⟩ (fun h r25 q25 => ?_))
              obtain ⟨G0, hr, S, X⟩ := q25
              rw [hr]
              refine x_dupR d100_85 ?_
              refine x_aload_n d100_86 rfl ?_
              refine x_gfR d100_87 cl100 f11_19 (S.F.o rfl (by decide)) rfl (S.F.r rfl) ?_
              refine x_VE d100_90 cl100 m11_129 kd168 tg168 po168 le168 (by decide) (S.F.o rfl (by decide)) (C168 (S.F.o rfl (by decide)) rfl S.lp) (fun v26 r26 z26 => ?_)
              try dsimp only at r26
              refine x_iload_n d100_93 rfl ?_
              refine x_iload_n d100_94 rfl ?_
              refine x_iload d100_95 rfl ?_
              refine x_iconst d100_97 ?_
              refine x_PU d100_98 cl100 m11_163 kd17 po17 le17 (by have := S.F.1; have := K0.1.F.1; omega) (by rw [G0, hN_alc]; omega) (by rw [G0]; exact C17 (by have := K0.1.F.1; omega) hc1 (by omega)) (fun g q => ?_)
              refine x_wr (fun g => (IV g mP mC mI mD mB nP nC nI nD nB ∧ Pc g c ∧ hI g c 1 = x ∧ hI g c 2 = y ∧ hI g c 3 = u) ∧ (hI g 3 0 = hI h0 3 0 ∧ hI g 3 1 = hI h0 3 1 ∧ ∀ s, s < 6 → hI g (7 + 5 * s) 1 = hI h0 (7 + 5 * s) 1) ∧ hC g = c0 + 7 ∧ hS g = s0 + 57) (by
                obtain ⟨f, f1, f2⟩ := q
                obtain ⟨M, GP, hf, hc9, hs9⟩ := mkP3_ok (x := v26) (y := x) (w := y) (z := u) (u := (0)) f1 (by have := K0.1.F.1; omega) (by have := K0.1.np; omega) (by omega) (by omega) (by omega) (by omega)
                have F0 := K0.1.F
                rw [f2]
                refine ⟨⟨IV_ext M K0, GP, hf⟩, ⟨M.i (by have := F0.1; omega) (F0.o (a := 3) rfl (by decide)).2 (by decide) 0, M.i (by have := F0.1; omega) (F0.o (a := 3) rfl (by decide)).2 (by decide) 1, fun s hs => ?_⟩, by omega, by omega⟩
                have T := K0.1.sh s hs
                exact M.i (by have := T.n; have := T.f; omega) T.t (by decide) 1) (fun h q => ?_)
              obtain ⟨⟨⟨S, X⟩, GP, hy9, hw9, hz9⟩, ⟨hW, hH, hsz⟩, hcc, hss⟩ := q
              have fr : ∀ k, k < nP → mP k ≠ c := fun k hk => by have := (Ls.mem K0.1.lp k hk).n; omega
              refine x_astore [some (vR _), some (vI _), some (vI _), some (vI _), some (vI _), some (vI _), some (vI _), some (vR _)] d100_101 rfl ?_
              refine x_aload d100_103 rfl ?_
              refine x_aload_n d100_105 rfl ?_
              refine x_gfR d100_106 cl100 f11_10 (S.F.o rfl (by decide)) rfl (S.F.r rfl) ?_
              refine x_iload_n d100_109 rfl ?_
              refine x_iload d100_110 rfl ?_
              refine x_VU d100_112 cl100 m11_192 kd21 tg21 po21 le21 (by have := GP.g; omega) GP.ob (C21 ⟨S, X⟩ GP ⟨by omega, by omega⟩ ⟨by omega, by omega⟩ ⟨hW.trans e3.1, hH.trans e3.2.1, hy9, hw9⟩ t1 t4 t5) (fun h q => ?_)
              obtain ⟨⟨S, X⟩, A9, GP⟩ := q
              have a7 := A9.2.2.2.2.2.2
              have gg := GP.g
              have hz9 : hI h c 3 = u := by rw [a7 _ _ (by omega)]; exact hz9
              have hsz : ∀ s, s < 6 → hI h (7 + 5 * s) 1 = hI h0 (7 + 5 * s) 1 := fun s hs => by rw [a7 _ _ (by omega)]; exact hsz s hs
              have hcc : hC h = c0 + 7 := by rw [A9.2.1]; exact hcc
              have hss : hS h = s0 + 57 := by rw [A9.2.2.1]; exact hss
              refine x_aload_n d100_115 rfl ?_
              refine x_aload d100_116 rfl ?_
              refine x_VU d100_118 cl100 m11_166 kd99 tg99 po99 le99 (by decide) (S.F.o rfl (by decide)) (C99 (s := (u).toNat) (z := hI h (7 + 5 * (u).toNat) 1) ⟨S, X⟩ GP (by omega) (by omega) (by omega) fr rfl (by have h1 := hsz (u).toNat (by omega); have h2 := e3.2.2 (u).toNat; have h3 := ((S.sh (u).toNat (by omega)).size); omega)) (fun h q => ?_)
              obtain ⟨m9, em9, K9, hc9, hs9⟩ := q
              have GP : Pc h c := by have := Ls.mem K9.1.lp nP (by omega); rw [em9] at this; exact this
              refine x_aload d100_121 rfl ?_
              refine x_gfI d100_123 cl100 f11_170 (by decide) (Pc.ob GP) (V.g (Pc.g GP)) ?_
              have g27 := (Pc.number GP)
              exact x_iret d100_126 rt100 (hQ1 _ _ (MR_of K9 (by omega) (by omega)))
theorem C102 {d : Nat} {h : Hp} {x y w z : Int} (qx : -2147483648 ≤ x ∧ x < 2147483648) (qy : -2147483648 ≤ y ∧ y < 2147483648) (qw : -2147483648 ≤ w ∧ w < 2147483648) (qz : z = 0 ∨ z = 1) {mP mC mI mD mB : Nat → Nat} {nP nC nI nD nB : Nat} (K : IV h mP mC mI mD mB nP nC nI nD nB) : MX DA (d + 7) 102 [vR (some 2), vI x, vI y, vI w, vI z] h (fun w g => ∃ v : Int, w = vI v ∧ MR h g) := by
  refine MX_of (fun Q hQ1 hQ0 => ?_)
  have V := Vis_DA
  obtain ⟨S, X⟩ := K
  obtain ⟨c0, s0, hcc, hss⟩ : ∃ c0 s0, hC h = c0 ∧ hS h = s0 := ⟨_, _, rfl, rfl⟩
  have hnp := S.np
  refine x_ent en102 ?_
  refine x_aload_n d102_0 rfl ?_
  refine x_iload_n d102_1 rfl ?_
  refine x_VE d102_2 cl102 m11_173 kd103 tg103 po103 le103 (by decide) (S.F.o rfl (by decide)) (C103 V S (by omega)) (fun v1 r1 z1 => ?_)
  try dsimp only at r1
  refine x_ifeq (t := 36) d102_5 rfl (by omega) (fun c5_2 => ?_) (fun c5_2 => ?_)
  · refine x_iconst d102_36 ?_
    exact x_ck d102_37 cl102 m11_112 kd94 po94 le94 rfl (fun c => C94 c) (fun c => C94x c) (by omega) (hQ0 _ (by decide)) (fun c => absurd c (by decide))
  · refine x_iload_n d102_8 rfl ?_
    refine x_iconst d102_9 ?_
    refine x_aload_n d102_10 rfl ?_
    refine x_gfR d102_11 cl102 f11_19 (S.F.o rfl (by decide)) rfl (S.F.r rfl) ?_
    refine x_iload_n d102_14 rfl ?_
    refine x_VV d102_15 cl102 m11_132 kd173 tg173 po173 le173 (by decide) (S.F.o rfl (by decide)) (C173 (d := d + 3) (S.F.o rfl (by decide)) rfl rfl S.lp V (by omega) (by omega)) ?_
    refine x_cast d102_18 cl102 ct11_136 (Pc.ob (Ls.mem S.lp (x).toNat (by omega))) ?_
    refine x_VE d102_21 cl102 m11_176 kd20 tg20 po20 le20 (by have := Pc.g (Ls.mem S.lp (x).toNat (by omega)); omega) (Pc.ob (Ls.mem S.lp (x).toNat (by omega))) (C20 (Ls.mem S.lp (x).toNat (by omega)) V) (fun v5 r5 z5 => ?_)
    try dsimp only at r5
    refine x_iconst d102_24 ?_
    refine x_isub d102_25 ?_
    refine x_SE d102_26 cl102 m11_84 kd83 po83 le83 (C83 (by omega) (by omega) (by omega)) (fun v6 r6 z6 => ?_)
    try dsimp only at r6
    refine x_ifeq (t := 36) d102_29 rfl (by omega) (fun c29_7 => ?_) (fun c29_7 => ?_)
    · refine x_iconst d102_36 ?_
      exact x_ck d102_37 cl102 m11_112 kd94 po94 le94 rfl (fun c => C94 c) (fun c => C94x c) (by omega) (hQ0 _ (by decide)) (fun c => absurd c (by decide))
    · refine x_iconst d102_32 ?_
      refine x_goto (t := 37) d102_33 rfl ?_
      refine x_SN d102_37 cl102 m11_112 kd94 po94 le94 (C94 (by omega)) ?_
      refine x_iload_n d102_40 rfl ?_
      refine x_iconst d102_41 ?_
      refine x_sipush d102_42 (by decide) ?_
      refine x_SE d102_45 cl102 m11_84 kd83 po83 le83 (C83 (by omega) (by omega) (by omega)) (fun v10 r10 z10 => ?_)
      try dsimp only at r10
      refine x_ck d102_48 cl102 m11_88 kd84 po84 le84 rfl (fun c => C84 c) (fun c => C84x c) (by omega) (hQ0 _ (by decide)) (fun k48_11 => ?_)
      refine x_aload_n d102_51 rfl ?_
      refine x_gfR d102_52 cl102 f11_19 (S.F.o rfl (by decide)) rfl (S.F.r rfl) ?_
      refine x_iload_n d102_55 rfl ?_
      refine x_VV d102_56 cl102 m11_132 kd173 tg173 po173 le173 (by decide) (S.F.o rfl (by decide)) (C173 (d := d + 3) (S.F.o rfl (by decide)) rfl rfl S.lp V (by omega) (by omega)) ?_
      refine x_cast d102_59 cl102 ct11_136 (Pc.ob (Ls.mem S.lp (x).toNat (by omega))) ?_
      refine x_astore [some (vR _), some (vI _), some (vI _), some (vI _), some (vI _), some (vR _), none] d102_62 rfl ?_
      refine x_aload d102_64 rfl ?_
      refine x_gfR d102_66 cl102 f11_179 (Pc.ob (Ls.mem S.lp (x).toNat (by omega))) (V.g (Pc.g (Ls.mem S.lp (x).toNat (by omega)))) (Pc.r1 (Ls.mem S.lp (x).toNat (by omega))) ?_
      refine x_iload_n d102_69 rfl ?_
      refine x_iaload d102_70 (Pc.o1 (Ls.mem S.lp (x).toNat (by omega))) ⟨by omega, by rw [(Pc.l1 (Ls.mem S.lp (x).toNat (by omega)))]; omega⟩ (V.g (by have := Pc.g (Ls.mem S.lp (x).toNat (by omega)); omega)) ?_
      refine x_nm (fun a13 e13 => ?_)
      have b13 : 0 ≤ a13 ∧ a13 ≤ 1023 := by rw [e13]; exact (Pc.seen (Ls.mem S.lp (x).toNat (by omega)) _)
      refine x_nm (fun w71_14 ew71_14 => ?_)
      refine x_istore [some (vR _), some (vI _), some (vI _), some (vI _), some (vI _), some (vR _), some (vI _)] d102_71 rfl ?_
      refine x_aload d102_73 rfl ?_
      refine x_gfR d102_75 cl102 f11_179 (Pc.ob (Ls.mem S.lp (x).toNat (by omega))) (V.g (Pc.g (Ls.mem S.lp (x).toNat (by omega)))) (Pc.r1 (Ls.mem S.lp (x).toNat (by omega))) ?_
      refine x_iload_n d102_78 rfl ?_
      refine x_iload_n d102_79 rfl ?_
      refine x_iastore d102_80 (by have := Pc.g (Ls.mem S.lp (x).toNat (by omega)); omega) (Pc.o1 (Ls.mem S.lp (x).toNat (by omega))) ⟨by omega, by rw [(Pc.l1 (Ls.mem S.lp (x).toNat (by omega)))]; omega⟩ (V.g (by have := Pc.g (Ls.mem S.lp (x).toNat (by omega)); omega)) (x_wr (fun g => IV g mP mC mI mD mB nP nC nI nD nB ∧ hC g = c0 ∧ hS g = s0) ⟨⟨Hv_pr1 S (Ls.mem S.lp (x).toNat (by omega)) (by omega), EX_p (m := 1) S X (Ls.mem S.lp (x).toNat (by omega)) (by decide) (Or.inl (by decide))⟩, hcc, hss⟩ (fun h q15 => ?_))
      obtain ⟨⟨S, X⟩, hcc, hss⟩ := q15
      refine x_aload d102_81 rfl ?_
      refine x_gfR d102_83 cl102 f11_182 (Pc.ob (Ls.mem S.lp (x).toNat (by omega))) (V.g (Pc.g (Ls.mem S.lp (x).toNat (by omega)))) (Pc.r2 (Ls.mem S.lp (x).toNat (by omega))) ?_
      refine x_iload_n d102_86 rfl ?_
      refine x_iload d102_87 rfl ?_
      refine x_bastore d102_89 (by have := Pc.g (Ls.mem S.lp (x).toNat (by omega)); omega) (Pc.o2 (Ls.mem S.lp (x).toNat (by omega))) ⟨by omega, by rw [(Pc.l2 (Ls.mem S.lp (x).toNat (by omega)))]; omega⟩ (V.g (by have := Pc.g (Ls.mem S.lp (x).toNat (by omega)); omega)) (by omega) (x_wr (fun g => IV g mP mC mI mD mB nP nC nI nD nB ∧ hC g = c0 ∧ hS g = s0) ⟨⟨Hv_pr2 S (Ls.mem S.lp (x).toNat (by omega)) (by omega), EX_p (m := 2) S X (Ls.mem S.lp (x).toNat (by omega)) (by decide) (Or.inl (by decide))⟩, hcc, hss⟩ (fun h q16 => ?_))
      obtain ⟨⟨S, X⟩, hcc, hss⟩ := q16
      refine x_aload d102_90 rfl ?_
      refine x_aload_n d102_92 rfl ?_
      refine x_gfR d102_93 cl102 f11_10 (S.F.o rfl (by decide)) rfl (S.F.r rfl) ?_
      obtain ⟨s9, es9⟩ : ∃ s9 : Nat, hI h (mP (x).toNat) 3 = s9 := ⟨(hI h (mP (x).toNat) 3).toNat, by have := ((Ls.mem S.lp (x).toNat (by omega))).sheet; omega⟩
      refine x_VU d102_96 cl102 m11_138 kd18 tg18 po18 le18 (by have := Pc.g (Ls.mem S.lp (x).toNat (by omega)); omega) (Pc.ob (Ls.mem S.lp (x).toNat (by omega))) (C18 S (Ls.mem S.lp (x).toNat (by omega))) (fun h q => ?_)
      obtain ⟨S9, A9, P9⟩ := q
      have X9 := Xs_SF (fun k hk => Ls.mem S.lp k hk) (fun k hk => Ls.mem S.li k hk) (fun k hk => Ls.mem S.lb k hk) (Ls.mem S.lp (x).toNat (by omega)) es9 (Xs_EX X) A9
      have es9 : hI h (mP (x).toNat) 3 = s9 := by rw [A9.2.2.2.2.2.2 _ _ (by omega)]; exact es9
      have S := S9
      have hcc : hC h = c0 := A9.2.1.trans hcc
      have hss : hS h = s0 := A9.2.2.1.trans hss
      refine x_aload_n d102_99 rfl ?_
      refine x_gfR d102_100 cl102 f11_25 (S.F.o rfl (by decide)) rfl (S.F.r rfl) ?_
      refine x_aload d102_103 rfl ?_
      refine x_gfI d102_105 cl102 f11_186 (by decide) (Pc.ob (Ls.mem S.lp (x).toNat (by omega))) (V.g (Pc.g (Ls.mem S.lp (x).toNat (by omega)))) ?_
      have g17 := (Pc.sheet (Ls.mem S.lp (x).toNat (by omega)))
      refine x_aaload d102_108 (Nat.lt_of_lt_of_le (by decide) S.F.1) (by rw [(S.F.o (a := 6) (t := 104) rfl (by decide)).2]; decide) ⟨by omega, by rw [(S.F.l (a := 6) (n := 6) (by decide) rfl)]; omega⟩ rfl (S.F.sh (hI h (mP (x).toNat) 3) (by omega)) ?_
      rw [show (hI h (mP (x).toNat) 3).toNat = s9 by omega]
      refine x_VU d102_109 cl102 m11_142 kd69 tg69 po69 le69 (by omega) (Sh.ob (S.sh s9 (by omega))) (C69i S (by omega) X9) (fun h q => ?_)
      obtain ⟨K9, hc9, hs9⟩ := q
      refine x_iload d102_112 rfl ?_
      exact x_iret d102_114 rt102 (hQ1 _ _ (MR_of K9 (by omega) (by omega)))
