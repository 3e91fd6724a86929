theorem nbt_le (x : Nat) : ∀ n, nbt x n ≤ n := by
  intro n
  induction n with
  | zero => exact Nat.le_refl 0
  | succ n ih => unfold nbt; split <;> omega
set_option maxHeartbeats 16000000 in
theorem C178 {d : Nat} {h : Hp} {mP mC mI mD mB : Nat → Nat} {nP nC nI nD nB : Nat} (S : Hv h mP mC mI mD mB nP nC nI nD nB) (iw : ∀ k, k < nI → 1 ≤ hI h (mI k) 0) (SI : Si h mP nP) (K0 : CI h mB nB) (hsz : szH h 6 = nP) : ∃ v : Int, (fun v : Int => v = 1) v ∧ DW mB nB (d + 12) 178 [vR (some 2)] h (vI v) := by
  have V := Vis_DV
  refine TE_of (fun Q hQ => ?_)
  refine t_ent en178 ?_
  have hnp := S.np
  have hnc := S.nc
  obtain ⟨b, -, hb0⟩ := C158 (D := DV) (d := 0) Vis_DV S
  have hb : ∃ d2, PV DV d2 158 [vR (some 2)] h (vI b) := ⟨_, hb0⟩
  obtain ⟨va, hva⟩ := pick (n := nP) (P := fun k v => ∃ d2, PV DV d2 139 [vR (some 2), vR (some (mP k))] h (vI v)) (0 : Int) (fun k hk => by obtain ⟨v, -, q⟩ := C139 (D := DV) (d := 0) Vis_DV S (Ls.mem S.lp k hk); exact ⟨v, _, q⟩)
  obtain ⟨as, hal⟩ := pick (n := nP) (P := fun k v => ∃ d2, PV DV d2 131 [vR (some 2), vR (some (mP k))] h (vI v)) (0 : Int) (fun k hk => by obtain ⟨v, -, q⟩ := C131 (D := DV) (d := 0) Vis_DV S (Ls.mem S.lp k hk); exact ⟨v, _, q⟩)
  have hsp0 : ∀ k, k < nP → (fun k => hI h (mP k) 1 * hI h (mP k) 2) k = hI h (mP k) 1 * hI h (mP k) 2 := fun k _ => rfl
  obtain ⟨sp, hsp1⟩ : ∃ sp : Nat → Int, sp = fun k => hI h (mP k) 1 * hI h (mP k) 2 := ⟨_, rfl⟩
  rw [← hsp1] at hsp0
  obtain ⟨b8, hb8⟩ := Bst_ex2 (f := fV sp va (alF as) 8 nP) nP
  obtain ⟨b9, hb9⟩ := Bst_ex2 (f := fV sp va (alF as) 9 nP) nP
  have hvr := var_of S hva
  have hspr := spr_of S hsp0
  have hf89 := Bst_fV (L := 8) (M := 9) (by omega) (by omega) (fun j hj => (hvr j hj).1) hb8 hb9
  have hf99 := Bst_fV (L := 9) (M := 9) (by omega) (by omega) (fun j hj => (hvr j hj).1) hb9 hb9
  have hb9l := hb9.1
  have h12 : 2 ^ nP ≤ 2 ^ 12 := Nat.pow_le_pow_right (by omega) hnp
  have hfr9 := fV_rng (sp := sp) (va := va) (al := alF as) (L := 9) nP (var_of S hva) b9
  have hfr8 := fV_rng (sp := sp) (va := va) (al := alF as) (L := 8) nP (var_of S hva) b8
  rw [sB_sM nP b9 hb9l, sB_sM nP b9 hb9l] at hf99
  have hsc := tAll_C (all := mxF h) (nb := nB) (cn := cnF h mB b) (it := itF h mB) (am := amF h mB) S.nb nB (Nat.le_refl _) (mxF h)
  have hs6 : (6 : Int).toNat = 6 := rfl
  refine t_s (fun g Q => x_aload_n d178_0 rfl) ?_
  refine t_VDL d178_1 cl178 m13_110 kd123 tg123 po123 le123 (by decide) (S.F.o rfl (by decide)) (C123 S iw SI) (fun v1 r1 z1 => ?_)
  try dsimp only at r1
  refine t_nmL (fun w4_2 ew4_2 => ?_)
  refine t_s (fun g Q => x_lstore_n [some (vR _), some (vL _), none, none, none, none, none, none, none, none] d178_4 rfl) ?_
  refine t_s (fun g Q => x_aload_n d178_5 rfl) ?_
  refine t_VD d178_6 cl178 m13_114 kd162 tg162 po162 le162 (by decide) (S.F.o rfl (by decide)) (C162 S SI) (fun v3 r3 z3 => ?_)
  try dsimp only at r3
  refine t_b (fun g Q => x_ifeq (t := 33) d178_9 rfl (by omega)) (by omega) (by omega) (fun c9_4 => ?_) (fun c9_4 => ?_)
  · refine t_s (fun g Q => x_iconst d178_33) ?_
    exact t_zret d178_34 rt178 (by omega) (hQ _ (by omega))
  · refine t_s (fun g Q => x_aload_n d178_12 rfl) ?_
    refine t_s (fun g Q => x_iconst d178_13) ?_
    refine t_VD d178_14 cl178 m13_118 kd157 tg157 po157 le157 (by decide) (S.F.o rfl (by decide)) (C157 S hb (by omega)) (fun v5 r5 z5 => ?_)
    try dsimp only at r5
    have hg4 := r5.2.2 rfl
    refine t_b (fun g Q => x_iflt (t := 33) d178_17 rfl (by omega)) (by omega) (by omega) (fun c17_6 => ?_) (fun c17_6 => ?_)
    · refine t_s (fun g Q => x_iconst d178_33) ?_
      exact t_zret d178_34 rt178 (by omega) (hQ _ (by omega))
    · refine t_s (fun g Q => x_aload_n d178_20 rfl) ?_
      refine t_s (fun g Q => x_iconst d178_21) ?_
      refine t_VD d178_22 cl178 m13_118 kd157 tg157 po157 le157 (by decide) (S.F.o rfl (by decide)) (C157 S hb (by omega)) (fun v7 r7 z7 => ?_)
      try dsimp only at r7
      have hg1 := r7.1 rfl
      refine t_s (fun g Q => x_aload_n d178_25 rfl) ?_
      refine t_s (fun g Q => x_iconst d178_26) ?_
      refine t_VD d178_27 cl178 m13_118 kd157 tg157 po157 le157 (by decide) (S.F.o rfl (by decide)) (C157 S hb (by omega)) (fun v8 r8 z8 => ?_)
      try dsimp only at r8
      have hg5 := r8.2.1 rfl
      have hrg := (TN_r (b := b) (fun k hk => Ls.mem S.lb k hk) S.nb (Nat.le_refl _) (mxF h)).2.1
      have hnl := nbt_le (TN h mB nB b nB).2.2.2 40
      unfold TN at hg1 hg5 hrg hnl
      refine t_b (fun g Q => x_icle (t := 35) d178_30 rfl (by omega)) (by omega) (by omega) (fun c30_9 => ?_) (fun c30_9 => ?_)
      · refine t_s (fun g Q => x_iconst d178_35) ?_
        refine t_nm (fun w36_10 ew36_10 => ?_)
        refine t_s (fun g Q => x_istore_n [some (vR _), some (vL _), none, some (vI _), none, none, none, none, none, none] d178_36 rfl) ?_
        refine t_s (fun g Q => x_iconst d178_37) ?_
        refine t_nm (fun w38_11 ew38_11 => ?_)
        refine t_s (fun g Q => x_istore [some (vR _), some (vL _), none, some (vI _), some (vI _), none, none, none, none, none] d178_38 rfl) ?_
        refine (x_ub (N := 6) (P := fun i12 => ∀ s12_3 : Int, (s12_3 = szH h (i12).toNat ∧ 0 ≤ s12_3 ∧ s12_3 ≤ 3 * i12) → TD mB nB h (d + 12) 178 40 [some (vR (some 2)), some (vL w4_2), none, some (vI s12_3), some (vI i12), none, none, none, none, none] [] Q) w38_11 (by omega) (fun i12 hi12 hj12 ih12 s12_3 hs12_3 => ?_)) _ (by subst_vars; exact ⟨rfl, by omega, by omega⟩)
        refine t_s (fun g Q => x_iload d178_40 rfl) ?_
        refine t_s (fun g Q => x_bipush d178_42 (by decide)) ?_
        refine t_b (fun g Q => x_icge (t := 63) d178_44 rfl (by omega)) (by omega) (by omega) (fun c44_13 => ?_) (fun c44_13 => ?_)
        · have hpn : s12_3 = nP := by rw [show (nP : Int) = szH h 6 from hsz.symm]; have e9 := hs12_3.1; rw [show (i12).toNat = 6 by omega] at e9; exact e9
          refine t_s (fun g Q => x_aload_n d178_63 rfl) ?_
          refine t_s (fun g Q => x_bipush d178_64 (by decide)) ?_
          refine t_s (fun g Q => x_iconst d178_66) ?_
          refine t_VD d178_67 cl178 m13_124 kd160 tg160 po160 le160 (by decide) (S.F.o rfl (by decide)) (C160 S sp va as hsp0 hva hal (by omega) (by omega) hb9) (fun v14 r14 z14 => ?_)
          try dsimp only at r14
          refine t_nm (fun w70_15 ew70_15 => ?_)
          refine t_s (fun g Q => x_istore [some (vR _), some (vL _), none, some (vI _), some (vI _), none, none, none, none, none] d178_70 rfl) ?_
          refine t_s (fun g Q => x_iconst d178_72) ?_
          refine t_nm (fun w73_16 ew73_16 => ?_)
          refine t_s (fun g Q => x_istore [some (vR _), some (vL _), none, some (vI _), some (vI _), some (vI _), none, none, none, none] d178_73 rfl) ?_
          refine t_s (fun g Q => x_bipush d178_75 (by decide)) ?_
          refine t_nm (fun w77_17 ew77_17 => ?_)
          refine t_s (fun g Q => x_istore [some (vR _), some (vL _), none, some (vI _), some (vI _), some (vI _), some (vI _), none, none, none] d178_77 rfl) ?_
          refine t_s (fun g Q => x_iconst d178_79) ?_
          refine t_nm (fun w80_18 ew80_18 => ?_)
          refine t_s (fun g Q => x_istore [some (vR _), some (vL _), none, some (vI _), some (vI _), some (vI _), some (vI _), some (vI _), none, none] d178_80 rfl) ?_
          refine (x_ub (N := nP) (P := fun i19 => ∀ s19_5 : Int, (s19_5 = sM va b9 (i19).toNat ∧ 0 ≤ s19_5 ∧ s19_5 ≤ 20000 * i19) → ∀ s19_6 : Int, (s19_6 = 9 - sM sp b9 (i19).toNat ∧ -9 * i19 ≤ s19_6 ∧ s19_6 ≤ 9) → ∀ t19_8 : Option XV, ∀ t19_9 : Option XV, TD mB nB h (d + 12) 178 82 [some (vR (some 2)), some (vL w4_2), none, some (vI s12_3), some (vI w70_15), some (vI s19_5), some (vI s19_6), some (vI i19), t19_8, t19_9] [] Q) w80_18 (by omega) (fun i19 hi19 hj19 ih19 s19_5 hs19_5 s19_6 hs19_6 t19_8 t19_9 => ?_)) _ (by subst_vars; exact ⟨rfl, by omega, by omega⟩) _ (by subst_vars; exact ⟨rfl, by omega, by omega⟩) _ _
          refine t_s (fun g Q => x_iload d178_82 rfl) ?_
          refine t_s (fun g Q => x_iload_n d178_84 rfl) ?_
          refine t_b (fun g Q => x_icge (t := 277) d178_85 rfl (by omega)) (by omega) (by omega) (fun c85_20 => ?_) (fun c85_20 => ?_)
          · have e277 : (i19).toNat = nP := by omega
            have hv277 := hs19_5; rw [e277] at hv277
            have hr277 := hs19_6; rw [e277] at hr277
            have e278 : w70_15 = ((b9 : Nat) : Int) := by omega
            have hsn := shr_nil hb9l hnp
            refine t_s (fun g Q => x_iload d178_277 rfl) ?_
            refine t_s (fun g Q => x_iload_n d178_279 rfl) ?_
            refine t_s (fun g Q => x_ishr d178_280) ?_
            refine t_o32 (fun q21 => ?_)
            rw [hpn, e278, hsn]
            refine t_b (fun g Q => x_ifne (t := 326) d178_281 rfl (by omega)) (by omega) (by omega) (fun c281_22 => ?_) (fun c281_22 => ?_)
            · refine t_s (fun g Q => x_iconst d178_326) ?_
              exact t_zret d178_327 rt178 (by omega) (hQ _ (by omega))
            · refine t_s (fun g Q => x_iload d178_284 rfl) ?_
              refine t_s (fun g Q => x_aload_n d178_286 rfl) ?_
              refine t_s (fun g Q => x_bipush d178_287 (by decide)) ?_
              refine t_s (fun g Q => x_iconst d178_289) ?_
              refine t_VD d178_290 cl178 m13_124 kd160 tg160 po160 le160 (by decide) (S.F.o rfl (by decide)) (C160 S sp va as hsp0 hva hal (by omega) (by omega) hb9) (fun v23 r23 z23 => ?_)
              try dsimp only at r23
              refine t_b (fun g Q => x_icne (t := 326) d178_293 rfl (by omega)) (by omega) (by omega) (fun c293_24 => ?_) (fun c293_24 => ?_)
              · refine t_s (fun g Q => x_iconst d178_326) ?_
                exact t_zret d178_327 rt178 (by omega) (hQ _ (by omega))
              · refine t_s (fun g Q => x_iload d178_296 rfl) ?_
                refine t_b (fun g Q => x_iflt (t := 326) d178_298 rfl (by omega)) (by omega) (by omega) (fun c298_25 => ?_) (fun c298_25 => ?_)
                · refine t_s (fun g Q => x_iconst d178_326) ?_
                  exact t_zret d178_327 rt178 (by omega) (hQ _ (by omega))
                · refine t_s (fun g Q => x_aload_n d178_301 rfl) ?_
                  refine t_s (fun g Q => x_bipush d178_302 (by decide)) ?_
                  refine t_s (fun g Q => x_iconst d178_304) ?_
                  refine t_VD d178_305 cl178 m13_124 kd160 tg160 po160 le160 (by decide) (S.F.o rfl (by decide)) (C160 S sp va as hsp0 hva hal (by omega) (by omega) hb8) (fun v26 r26 z26 => ?_)
                  try dsimp only at r26
                  refine t_s (fun g Q => x_iload d178_308 rfl) ?_
                  refine t_b (fun g Q => x_icgt (t := 326) d178_310 rfl (by omega)) (by omega) (by omega) (fun c310_27 => ?_) (fun c310_27 => ?_)
                  · refine t_s (fun g Q => x_iconst d178_326) ?_
                    exact t_zret d178_327 rt178 (by omega) (hQ _ (by omega))
                  · refine t_s (fun g Q => x_aload_n d178_313 rfl) ?_
                    refine t_VDL d178_314 cl178 m13_110 kd123 tg123 po123 le123 (by decide) (S.F.o rfl (by decide)) (C123 S iw SI) (fun v28 r28 z28 => ?_)
                    try dsimp only at r28
                    refine t_s (fun g Q => x_lload_n d178_317 rfl) ?_
                    refine t_s (fun g Q => x_lcmp d178_318) ?_
                    refine t_cmp (fun q29 => ?_)
                    rw [show v28 = w4_2 from by have e9 := DW_det K0 z28 z1; rw [ew4_2]; simpa using e9, cmpZ_self]
                    refine t_b (fun g Q => x_ifne (t := 326) d178_319 rfl (by omega)) (by omega) (by omega) (fun c319_30 => ?_) (fun c319_30 => ?_)
                    · refine t_s (fun g Q => x_iconst d178_326) ?_
                      exact t_zret d178_327 rt178 (by omega) (hQ _ (by omega))
                    · refine t_s (fun g Q => x_iconst d178_322) ?_
                      refine t_s (fun g Q => x_goto (t := 327) d178_323 rfl) ?_
                      exact t_zret d178_327 rt178 (by omega) (hQ _ (by omega))
          · have hP := Ls.mem S.lp (i19).toNat (by omega)
            have hshr := hP.sheet
            refine t_s (fun g Q => x_aload_n d178_88 rfl) ?_
            refine t_s (fun g Q => x_iload d178_89 rfl) ?_
            refine t_s (fun g Q => x_iconst d178_91) ?_
            refine t_VE d178_92 cl178 m13_127 kd129 tg129 po129 le129 (by decide) (S.F.o rfl (by decide)) (C129 V S (by omega) (by omega)) (fun v31 r31 z31 => ?_)
            try dsimp only at r31
            refine t_nm (fun w95_32 ew95_32 => ?_)
            refine t_s (fun g Q => x_istore [some (vR _), some (vL _), none, some (vI _), some (vI _), some (vI _), some (vI _), some (vI _), some (vI _), _] d178_95 rfl) ?_
            have hsh : w95_32 = hI h (mP (i19).toNat) 3 := by rw [ew95_32]; exact r31.2.1 rfl
            refine t_s (fun g Q => x_aload_n d178_97 rfl) ?_
            refine t_s (fun g Q => x_iload d178_98 rfl) ?_
            refine t_s (fun g Q => x_iconst d178_100) ?_
            refine t_VE d178_101 cl178 m13_127 kd129 tg129 po129 le129 (by decide) (S.F.o rfl (by decide)) (C129 V S (by omega) (by omega)) (fun v33 r33 z33 => ?_)
            try dsimp only at r33
            refine t_nm (fun w104_34 ew104_34 => ?_)
            refine t_s (fun g Q => x_istore [some (vR _), some (vL _), none, some (vI _), some (vI _), some (vI _), some (vI _), some (vI _), some (vI _), some (vI _)] d178_104 rfl) ?_
            have hcp : CPos (plc h (mP (i19).toNat)) w104_34 := by rw [ew104_34]; exact r33.2.2.2.2 rfl
            refine C178a S (by omega) hcp (C178b S (by omega) hsh SI (C178c S (by omega) (C178d S (by omega) hsh hcp SI (C178e S (by omega) (C178f S (by omega) ?_)))))
            clear hcp hsh
            have hsp9 := hsp0 (i19).toNat (by omega)
            have hspr9 := hspr (i19).toNat (by omega)
            have hvr9 := hvr (i19).toNat (by omega)
            have hmv := sM_up va b9 i19 (by omega)
            have hms := sM_up sp b9 i19 (by omega)
            refine t_s (fun g Q => x_iload d178_235 rfl) ?_
            refine t_s (fun g Q => x_iload d178_237 rfl) ?_
            refine t_s (fun g Q => x_ishr d178_239) ?_
            refine t_o32 (fun q35 => ?_)
            refine t_s (fun g Q => x_iconst d178_240) ?_
            refine t_s (fun g Q => x_iand d178_241) ?_
            refine t_o32 (fun q36 => ?_)
            have hbt := bit_zero (b := b9) (k := (i19).toNat) (w := w70_15) (i := i19) (by omega) (by omega) (by omega) (by omega)
            refine t_b (fun g Q => x_ifne (t := 248) d178_242 rfl (by omega)) (by omega) (by omega) (fun c242_37 => ?_) (fun c242_37 => ?_)
            · have hb1 : b9.testBit (i19).toNat = true := by cases w9 : b9.testBit (i19).toNat with | true => rfl | false => (have := hbt.mpr w9; omega)
              rw [hb1, if_pos rfl] at hmv hms
              refine t_s (fun g Q => x_iload d178_248 rfl) ?_
              refine t_s (fun g Q => x_aload_n d178_250 rfl) ?_
              refine t_s (fun g Q => x_iload d178_251 rfl) ?_
              refine t_VE d178_253 cl178 m13_130 kd138 tg138 po138 le138 (by decide) (S.F.o rfl (by decide)) (C138 V S (by omega)) (fun v38 r38 z38 => ?_)
              try dsimp only at r38
              have hv9 : v38 = va (i19).toNat := by obtain ⟨d9, q9⟩ := r38.2.2.2; obtain ⟨d8, q8⟩ := hva (i19).toNat (by omega); exact Sum.inl.inj (PV_det q9 q8)
              refine t_s (fun g Q => x_iadd d178_256) ?_
              refine t_nm (fun w257_39 ew257_39 => ?_)
              refine t_s (fun g Q => x_istore [some (vR _), some (vL _), none, some (vI _), some (vI _), some (vI _), some (vI _), some (vI _), some (vI _), some (vI _)] d178_257 rfl) ?_
              refine t_s (fun g Q => x_iload d178_259 rfl) ?_
              refine t_s (fun g Q => x_aload_n d178_261 rfl) ?_
              refine t_s (fun g Q => x_iload d178_262 rfl) ?_
              refine t_s (fun g Q => x_iconst d178_264) ?_
              refine t_VE d178_265 cl178 m13_127 kd129 tg129 po129 le129 (by decide) (S.F.o rfl (by decide)) (C129 V S (by omega) (by omega)) (fun v40 r40 z40 => ?_)
              try dsimp only at r40
              have hs9 := r40.2.2.1 rfl; rw [← hsp9] at hs9
              refine t_s (fun g Q => x_isub d178_268) ?_
              refine t_nm (fun w269_41 ew269_41 => ?_)
              refine t_s (fun g Q => x_istore [some (vR _), some (vL _), none, some (vI _), some (vI _), some (vI _), some (vI _), some (vI _), some (vI _), some (vI _)] d178_269 rfl) ?_
              refine t_s (fun g Q => x_iinc [some (vR _), some (vL _), none, some (vI _), some (vI _), some (vI _), some (vI _), some (vI _), some (vI _), some (vI _)] d178_271 rfl rfl) ?_
              refine t_s (fun g Q => x_goto (t := 82) d178_274 rfl) ?_
              exact ih19 (by omega) _ (by omega) _ (by omega) _ _
            · rw [hbt.mp (by omega)] at hmv hms
              rw [if_neg (by decide)] at hmv hms
              refine t_s (fun g Q => x_goto (t := 271) d178_245 rfl) ?_
              refine t_s (fun g Q => x_iinc [some (vR _), some (vL _), none, some (vI _), some (vI _), some (vI _), some (vI _), some (vI _), some (vI _), some (vI _)] d178_271 rfl rfl) ?_
              refine t_s (fun g Q => x_goto (t := 82) d178_274 rfl) ?_
              exact ih19 (by omega) _ (by omega) _ (by omega) _ _
        · refine t_s (fun g Q => x_iload_n d178_47 rfl) ?_
          refine t_s (fun g Q => x_aload_n d178_48 rfl) ?_
          refine t_s (fun g Q => x_iload d178_49 rfl) ?_
          refine t_s (fun g Q => x_iconst d178_51) ?_
          refine t_VE d178_52 cl178 m13_121 kd127 tg127 po127 le127 (by decide) (S.F.o rfl (by decide)) (C127 V S (by omega) (by omega)) (fun v42 r42 z42 => ?_)
          try dsimp only at r42
          have hup := szH_up h i12 (by omega)
          have hsz9 := (S.sh (i12).toNat (by omega)).size
          have hpl := r42.2.2.2 rfl
          refine t_s (fun g Q => x_iadd d178_55) ?_
          refine t_nm (fun w56_43 ew56_43 => ?_)
          refine t_s (fun g Q => x_istore_n [some (vR _), some (vL _), none, some (vI _), some (vI _), none, none, none, none, none] d178_56 rfl) ?_
          refine t_s (fun g Q => x_iinc [some (vR _), some (vL _), none, some (vI _), some (vI _), none, none, none, none, none] d178_57 rfl rfl) ?_
          refine t_s (fun g Q => x_goto (t := 40) d178_60 rfl) ?_
          exact ih12 (by omega) _ (by omega)
      · refine t_s (fun g Q => x_iconst d178_33) ?_
        exact t_zret d178_34 rt178 (by omega) (hQ _ (by omega))
