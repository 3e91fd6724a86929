/-! ===== WHAT THE LAW ASKS ===== -/
theorem t_o32 {mB : Nat → Nat} {nB : Nat} {d y pc : Nat} {ls : XL} {st : List XV} {h : Hp} {P : XV → Prop} {f : Int32 → Int32 → Int32} {a b : Int} (kk : (-2147483648 ≤ o32 f a b ∧ o32 f a b < 2147483648) → TD mB nB h d y pc ls (vI (o32 f a b) :: st) P) : TD mB nB h d y pc ls (vI (o32 f a b) :: st) P := kk o32_r
theorem t_cmp {mB : Nat → Nat} {nB : Nat} {d y pc : Nat} {ls : XL} {st : List XV} {h : Hp} {P : XV → Prop} {a b : Int} (kk : (-1 ≤ cmpZ a b ∧ cmpZ a b ≤ 1) → TD mB nB h d y pc ls (vI (cmpZ a b) :: st) P) : TD mB nB h d y pc ls (vI (cmpZ a b) :: st) P := kk cmpZ_r
theorem cmpZ_self {a : Int} : cmpZ a a = 0 := by
  unfold cmpZ
  rw [if_neg (Int.lt_irrefl _), if_pos rfl]
theorem tb_on {s n : Int} (q : tb s n = 1) : o32 fand (o32 fshr s n) 1 ≠ 0 := by
  unfold tb at q
  split at q
  · cases q
  · assumption
theorem bit_nat {b k : Nat} (hb : b < 2147483648) (hk : k < 32) : tb ((b : Nat) : Int) ((k : Nat) : Int) = if b.testBit k then 1 else 0 := by
  have e := tb_iff (s := ((b : Nat) : Int)) hk
  have e2 : (B32 ((b : Nat) : Int)).getLsbD k = b.testBit k := by
    rw [BitVec.getLsbD, B32_nat (by omega)]; rfl
  rw [e2] at e
  cases w : b.testBit k with
  | true => rw [w] at e; exact e.mpr rfl
  | false =>
    rw [w] at e
    rcases tb01 (s := ((b : Nat) : Int)) (n := ((k : Nat) : Int)) with q | q
    · exact q
    · have := e.mp q; cases this
theorem bit_zero {b k : Nat} {w i : Int} (hb : b < 2147483648) (hk : k < 32) (e1 : w = ((b : Nat) : Int)) (e2 : i = ((k : Nat) : Int)) : o32 fand (o32 fshr w i) 1 = 0 ↔ b.testBit k = false := by
  subst e1 e2
  have h := bit_nat hb hk
  unfold tb at h
  generalize hx : o32 fand (o32 fshr ((b : Nat) : Int) ((k : Nat) : Int)) 1 = X at h ⊢
  cases w9 : b.testBit k with
  | true =>
    rw [w9] at h
    by_cases q : X = 0
    · rw [if_pos q] at h; cases h
    · exact ⟨fun e => absurd e q, fun e => by cases e⟩
  | false =>
    rw [w9] at h
    by_cases q : X = 0
    · exact ⟨fun _ => rfl, fun _ => q⟩
    · rw [if_neg q] at h; cases h
theorem shr_nil {b n : Nat} (hb : b < 2 ^ n) (hn : n ≤ 12) : o32 fshr ((b : Nat) : Int) ((n : Nat) : Int) = 0 := by
  have h12 : 2 ^ n ≤ 2 ^ 12 := Nat.pow_le_pow_right (by omega) hn
  refine B32_inj o32_r (by omega) ?_
  rw [B32_shr (by omega)]
  have hm : (B32 ((b : Nat) : Int)).msb = false := by
    rw [BitVec.msb_eq_false_iff_two_mul_lt, B32_nat (by omega)]
    omega
  rw [BitVec.sshiftRight_eq_of_msb_false hm]
  apply BitVec.eq_of_toNat_eq
  rw [BitVec.toNat_ushiftRight, B32_nat (by omega), Nat.shiftRight_eq_div_pow]
  rw [Nat.div_eq_of_lt (by omega)]
  rfl
theorem sB_sM {f : Nat → Int} : ∀ k s, s < 2 ^ k → sB f k s = sM f s k := by
  intro k
  induction k with
  | zero => intro s _; rfl
  | succ k ih =>
    intro s hs
    unfold sB sM
    have hp := Nat.pow_succ (n := 2) (m := k)
    by_cases c : s < 2 ^ k
    · rw [if_pos c, ih s c, Nat.testBit_lt_two_pow c]
      simp
    · rw [if_neg c, ih (s - 2 ^ k) (by omega)]
      have hb : s.testBit k = true := by
        rw [show s = 2 ^ k + (s - 2 ^ k) by omega, Nat.testBit_two_pow_add_eq, Nat.testBit_lt_two_pow (by omega)]; rfl
      rw [hb, if_pos rfl]
      have e := sM_congr (f := f) (g := f) (s := s) k (fun _ _ _ => rfl)
      have e2 : sM f (s - 2 ^ k) k = sM f s k := by
        have key : ∀ m, m ≤ k → sM f (s - 2 ^ k) m = sM f s m := by
          intro m
          induction m with
          | zero => intro _; rfl
          | succ m ihm =>
            intro hm
            unfold sM
            rw [ihm (by omega)]
            have : (s - 2 ^ k).testBit m = s.testBit m := by
              conv => rhs; rw [show s = 2 ^ k + (s - 2 ^ k) by omega]
              rw [Nat.testBit_two_pow_add_gt (by omega)]
            rw [this]
        exact key k (Nat.le_refl k)
      rw [e2]
theorem sM_up (f : Nat → Int) (s : Nat) (i : Int) (q : 0 ≤ i) : sM f s (i + 1).toNat = sM f s i.toNat + (if s.testBit i.toNat then f i.toNat else 0) := by
  rw [show (i + 1).toNat = i.toNat + 1 by omega]; rfl
/-- how many PIECES the first SHEETS have -/
def szH (h : Hp) : Nat → Int
  | 0 => 0
  | n + 1 => szH h n + hI h (7 + 5 * n) 1
theorem szH_up (h : Hp) (i : Int) (q : 0 ≤ i) : szH h (i + 1).toNat = szH h i.toNat + hI h (7 + 5 * i.toNat) 1 := by
  rw [show (i + 1).toNat = i.toNat + 1 by omega]; rfl
set_option maxHeartbeats 16000000 in
theorem C178 {d : Nat} {h : Hp} {mP mC mI mD mB : Nat → Nat} {nP nC nI nD nB : Nat} (S : Hv h mP mC mI mD mB nP nC nI nD nB) (iw : ∀ k, k < nI → 1 ≤ hI h (mI k) 0) (SI : Si h mP nP) (K0 : CI h mB nB) (hsz : szH h 6 = nP) : ∃ v : Int, (fun v : Int => v = 1) v ∧ DW mB nB (d + 12) 178 [vR (some 2)] h (vI v) := by
  have V := Vis_DV
  refine TE_of (fun Q hQ => ?_)
  refine t_ent en178 ?_
  have hnp := S.np
  have hnc := S.nc
  obtain ⟨b, -, hb0⟩ := C158 (D := DV) (d := 0) Vis_DV S
  have hb : ∃ d2, PV DV d2 158 [vR (some 2)] h (vI b) := ⟨_, hb0⟩
  obtain ⟨va, hva⟩ := pick (n := nP) (P := fun k v => ∃ d2, PV DV d2 139 [vR (some 2), vR (some (mP k))] h (vI v)) (0 : Int) (fun k hk => by obtain ⟨v, -, q⟩ := C139 (D := DV) (d := 0) Vis_DV S (Ls.mem S.lp k hk); exact ⟨v, _, q⟩)
  obtain ⟨as, hal⟩ := pick (n := nP) (P := fun k v => ∃ d2, PV DV d2 131 [vR (some 2), vR (some (mP k))] h (vI v)) (0 : Int) (fun k hk => by obtain ⟨v, -, q⟩ := C131 (D := DV) (d := 0) Vis_DV S (Ls.mem S.lp k hk); exact ⟨v, _, q⟩)
  have hsp0 : ∀ k, k < nP → (fun k => hI h (mP k) 1 * hI h (mP k) 2) k = hI h (mP k) 1 * hI h (mP k) 2 := fun k _ => rfl
  obtain ⟨sp, hsp1⟩ : ∃ sp : Nat → Int, sp = fun k => hI h (mP k) 1 * hI h (mP k) 2 := ⟨_, rfl⟩
  rw [← hsp1] at hsp0
  obtain ⟨b8, hb8⟩ := Bst_ex2 (f := fV sp va (alF as) 8 nP) nP
  obtain ⟨b9, hb9⟩ := Bst_ex2 (f := fV sp va (alF as) 9 nP) nP
  have hvr := var_of S hva
  have hspr := spr_of S hsp0
  have hf89 := Bst_fV (L := 8) (M := 9) (by omega) (by omega) (fun j hj => (hvr j hj).1) hb8 hb9
  have hf99 := Bst_fV (L := 9) (M := 9) (by omega) (by omega) (fun j hj => (hvr j hj).1) hb9 hb9
  have hb9l := hb9.1
  have h12 : 2 ^ nP ≤ 2 ^ 12 := Nat.pow_le_pow_right (by omega) hnp
  have hfr9 := fV_rng (sp := sp) (va := va) (al := alF as) (L := 9) nP (var_of S hva) b9
  have hfr8 := fV_rng (sp := sp) (va := va) (al := alF as) (L := 8) nP (var_of S hva) b8
  rw [sB_sM nP b9 hb9l, sB_sM nP b9 hb9l] at hf99
  have hsc := tAll_C (all := mxF h) (nb := nB) (cn := cnF h mB b) (it := itF h mB) (am := amF h mB) S.nb nB (Nat.le_refl _) (mxF h)
  have hs6 : (6 : Int).toNat = 6 := rfl
  refine t_s (fun g Q => x_aload_n d178_0 rfl) ?_
  refine t_VDL d178_1 cl178 m13_110 kd123 tg123 po123 le123 (by decide) (S.F.o rfl (by decide)) (C123 S iw SI) (fun v1 r1 z1 => ?_)
  try dsimp only at r1
  refine t_nmL (fun w4_2 ew4_2 => ?_)
  refine t_s (fun g Q => x_lstore_n [some (vR _), some (vL _), none, none, none, none, none, none, none, none] d178_4 rfl) ?_
  refine t_s (fun g Q => x_aload_n d178_5 rfl) ?_
  refine t_VD d178_6 cl178 m13_114 kd162 tg162 po162 le162 (by decide) (S.F.o rfl (by decide)) (C162 S SI) (fun v3 r3 z3 => ?_)
  try dsimp only at r3
  refine t_b (fun g Q => x_ifeq (t := 33) d178_9 rfl (by omega)) (by omega) (by omega) (fun c9_4 => ?_) (fun c9_4 => ?_)
  · refine t_s (fun g Q => x_iconst d178_33) ?_
    exact t_zret d178_34 rt178 (by omega) (hQ _ (by omega))
  · refine t_s (fun g Q => x_aload_n d178_12 rfl) ?_
    refine t_s (fun g Q => x_iconst d178_13) ?_
    refine t_VD d178_14 cl178 m13_118 kd157 tg157 po157 le157 (by decide) (S.F.o rfl (by decide)) (C157 S hb (by omega)) (fun v5 r5 z5 => ?_)
    try dsimp only at r5
    have hg4 := r5.2.2 rfl
    refine t_b (fun g Q => x_iflt (t := 33) d178_17 rfl (by omega)) (by omega) (by omega) (fun c17_6 => ?_) (fun c17_6 => ?_)
    · refine t_s (fun g Q => x_iconst d178_33) ?_
      exact t_zret d178_34 rt178 (by omega) (hQ _ (by omega))
    · refine t_s (fun g Q => x_aload_n d178_20 rfl) ?_
      refine t_s (fun g Q => x_iconst d178_21) ?_
      refine t_VD d178_22 cl178 m13_118 kd157 tg157 po157 le157 (by decide) (S.F.o rfl (by decide)) (C157 S hb (by omega)) (fun v7 r7 z7 => ?_)
      try dsimp only at r7
      have hg1 := r7.1 rfl
      refine t_s (fun g Q => x_aload_n d178_25 rfl) ?_
      refine t_s (fun g Q => x_iconst d178_26) ?_
      refine t_VD d178_27 cl178 m13_118 kd157 tg157 po157 le157 (by decide) (S.F.o rfl (by decide)) (C157 S hb (by omega)) (fun v8 r8 z8 => ?_)
      try dsimp only at r8
      have hg5 := r8.2.1 rfl
      unfold TN at hg1 hg5
      refine t_b (fun g Q => x_icle (t := 35) d178_30 rfl (by omega)) (by omega) (by omega) (fun c30_9 => ?_) (fun c30_9 => ?_)
      · refine t_s (fun g Q => x_iconst d178_35) ?_
        refine t_nm (fun w36_10 ew36_10 => ?_)
        refine t_s (fun g Q => x_istore_n [some (vR _), some (vL _), none, some (vI _), none, none, none, none, none, none] d178_36 rfl) ?_
        refine t_s (fun g Q => x_iconst d178_37) ?_
        refine t_nm (fun w38_11 ew38_11 => ?_)
        refine t_s (fun g Q => x_istore [some (vR _), some (vL _), none, some (vI _), some (vI _), none, none, none, none, none] d178_38 rfl) ?_
        refine (x_ub (N := 6) (P := fun i12 => ∀ s12_3 : Int, (s12_3 = szH h (i12).toNat ∧ 0 ≤ s12_3 ∧ s12_3 ≤ 3 * i12) → TD mB nB h (d + 12) 178 40 [some (vR (some 2)), some (vL w4_2), none, some (vI s12_3), some (vI i12), none, none, none, none, none] [] Q) w38_11 (by omega) (fun i12 hi12 hj12 ih12 s12_3 hs12_3 => ?_)) _ (by subst_vars; exact ⟨rfl, by omega, by omega⟩)
        refine t_s (fun g Q => x_iload d178_40 rfl) ?_
        refine t_s (fun g Q => x_bipush d178_42 (by decide)) ?_
        refine t_b (fun g Q => x_icge (t := 63) d178_44 rfl (by omega)) (by omega) (by omega) (fun c44_13 => ?_) (fun c44_13 => ?_)
        · have hpn : s12_3 = nP := by rw [show (nP : Int) = szH h 6 from hsz.symm]; have e9 := hs12_3.1; rw [show (i12).toNat = 6 by omega] at e9; exact e9
          refine t_s (fun g Q => x_aload_n d178_63 rfl) ?_
          refine t_s (fun g Q => x_bipush d178_64 (by decide)) ?_
          refine t_s (fun g Q => x_iconst d178_66) ?_
          refine t_VD d178_67 cl178 m13_124 kd160 tg160 po160 le160 (by decide) (S.F.o rfl (by decide)) (C160 S sp va as hsp0 hva hal (by omega) (by omega) hb9) (fun v14 r14 z14 => ?_)
          try dsimp only at r14
          refine t_nm (fun w70_15 ew70_15 => ?_)
          refine t_s (fun g Q => x_istore [some (vR _), some (vL _), none, some (vI _), some (vI _), none, none, none, none, none] d178_70 rfl) ?_
          refine t_s (fun g Q => x_iconst d178_72) ?_
          refine t_nm (fun w73_16 ew73_16 => ?_)
          refine t_s (fun g Q => x_istore [some (vR _), some (vL _), none, some (vI _), some (vI _), some (vI _), none, none, none, none] d178_73 rfl) ?_
          refine t_s (fun g Q => x_bipush d178_75 (by decide)) ?_
          refine t_nm (fun w77_17 ew77_17 => ?_)
          refine t_s (fun g Q => x_istore [some (vR _), some (vL _), none, some (vI _), some (vI _), some (vI _), some (vI _), none, none, none] d178_77 rfl) ?_
          refine t_s (fun g Q => x_iconst d178_79) ?_
          refine t_nm (fun w80_18 ew80_18 => ?_)
          refine t_s (fun g Q => x_istore [some (vR _), some (vL _), none, some (vI _), some (vI _), some (vI _), some (vI _), some (vI _), none, none] d178_80 rfl) ?_
          refine (x_ub (N := nP) (P := fun i19 => ∀ s19_5 : Int, (s19_5 = sM va b9 (i19).toNat ∧ 0 ≤ s19_5 ∧ s19_5 ≤ 20000 * i19) → ∀ s19_6 : Int, (s19_6 = 9 - sM sp b9 (i19).toNat ∧ -9 * i19 ≤ s19_6 ∧ s19_6 ≤ 9) → ∀ t19_8 : Option XV, ∀ t19_9 : Option XV, TD mB nB h (d + 12) 178 82 [some (vR (some 2)), some (vL w4_2), none, some (vI s12_3), some (vI w70_15), some (vI s19_5), some (vI s19_6), some (vI i19), t19_8, t19_9] [] Q) w80_18 (by omega) (fun i19 hi19 hj19 ih19 s19_5 hs19_5 s19_6 hs19_6 t19_8 t19_9 => ?_)) _ (by subst_vars; exact ⟨rfl, by omega, by omega⟩) _ (by subst_vars; exact ⟨rfl, by omega, by omega⟩) _ _
          refine t_s (fun g Q => x_iload d178_82 rfl) ?_
          refine t_s (fun g Q => x_iload_n d178_84 rfl) ?_
          refine t_b (fun g Q => x_icge (t := 277) d178_85 rfl (by omega)) (by omega) (by omega) (fun c85_20 => ?_) (fun c85_20 => ?_)
          · have e277 : (i19).toNat = nP := by omega
            have hv277 := hs19_5; rw [e277] at hv277
            have hr277 := hs19_6; rw [e277] at hr277
            have e278 : w70_15 = ((b9 : Nat) : Int) := by omega
            have hsn := shr_nil hb9l hnp
            refine t_s (fun g Q => x_iload d178_277 rfl) ?_
            refine t_s (fun g Q => x_iload_n d178_279 rfl) ?_
            refine t_s (fun g Q => x_ishr d178_280) ?_
            refine t_o32 (fun q21 => ?_)
            rw [hpn, e278, hsn]
            refine t_b (fun g Q => x_ifne (t := 326) d178_281 rfl (by omega)) (by omega) (by omega) (fun c281_22 => ?_) (fun c281_22 => ?_)
            · refine t_s (fun g Q => x_iconst d178_326) ?_
              exact t_zret d178_327 rt178 (by omega) (hQ _ (by omega))
            · refine t_s (fun g Q => x_iload d178_284 rfl) ?_
              refine t_s (fun g Q => x_aload_n d178_286 rfl) ?_
              refine t_s (fun g Q => x_bipush d178_287 (by decide)) ?_
              refine t_s (fun g Q => x_iconst d178_289) ?_
              refine t_VD d178_290 cl178 m13_124 kd160 tg160 po160 le160 (by decide) (S.F.o rfl (by decide)) (C160 S sp va as hsp0 hva hal (by omega) (by omega) hb9) (fun v23 r23 z23 => ?_)
              try dsimp only at r23
              refine t_b (fun g Q => x_icne (t := 326) d178_293 rfl (by omega)) (by omega) (by omega) (fun c293_24 => ?_) (fun c293_24 => ?_)
              · refine t_s (fun g Q => x_iconst d178_326) ?_
                exact t_zret d178_327 rt178 (by omega) (hQ _ (by omega))
              · refine t_s (fun g Q => x_iload d178_296 rfl) ?_
                refine t_b (fun g Q => x_iflt (t := 326) d178_298 rfl (by omega)) (by omega) (by omega) (fun c298_25 => ?_) (fun c298_25 => ?_)
                · refine t_s (fun g Q => x_iconst d178_326) ?_
                  exact t_zret d178_327 rt178 (by omega) (hQ _ (by omega))
                · refine t_s (fun g Q => x_aload_n d178_301 rfl) ?_
                  refine t_s (fun g Q => x_bipush d178_302 (by decide)) ?_
                  refine t_s (fun g Q => x_iconst d178_304) ?_
                  refine t_VD d178_305 cl178 m13_124 kd160 tg160 po160 le160 (by decide) (S.F.o rfl (by decide)) (C160 S sp va as hsp0 hva hal (by omega) (by omega) hb8) (fun v26 r26 z26 => ?_)
                  try dsimp only at r26
                  refine t_s (fun g Q => x_iload d178_308 rfl) ?_
                  refine t_b (fun g Q => x_icgt (t := 326) d178_310 rfl (by omega)) (by omega) (by omega) (fun c310_27 => ?_) (fun c310_27 => ?_)
                  · refine t_s (fun g Q => x_iconst d178_326) ?_
                    exact t_zret d178_327 rt178 (by omega) (hQ _ (by omega))
                  · refine t_s (fun g Q => x_aload_n d178_313 rfl) ?_
                    refine t_VDL d178_314 cl178 m13_110 kd123 tg123 po123 le123 (by decide) (S.F.o rfl (by decide)) (C123 S iw SI) (fun v28 r28 z28 => ?_)
                    try dsimp only at r28
                    refine t_s (fun g Q => x_lload_n d178_317 rfl) ?_
                    refine t_s (fun g Q => x_lcmp d178_318) ?_
                    refine t_cmp (fun q29 => ?_)
                    rw [show v28 = w4_2 from by have e9 := DW_det K0 z28 z1; rw [ew4_2]; simpa using e9, cmpZ_self]
                    refine t_b (fun g Q => x_ifne (t := 326) d178_319 rfl (by omega)) (by omega) (by omega) (fun c319_30 => ?_) (fun c319_30 => ?_)
                    · refine t_s (fun g Q => x_iconst d178_326) ?_
                      exact t_zret d178_327 rt178 (by omega) (hQ _ (by omega))
                    · refine t_s (fun g Q => x_iconst d178_322) ?_
                      refine t_s (fun g Q => x_goto (t := 327) d178_323 rfl) ?_
                      exact t_zret d178_327 rt178 (by omega) (hQ _ (by omega))
          · have hP := Ls.mem S.lp (i19).toNat (by omega)
            have hshr := hP.sheet
            have hSI := SI (i19).toNat (by omega)
            have hplr : 0 ≤ plc h (mP (i19).toNat) ∧ plc h (mP (i19).toNat) ≤ 16777215 := (S.sh (hI h (mP (i19).toNat) 3).toNat (by omega)).places _
            have hpz : plc h (mP (i19).toNat) = 0 → pc32 (plc h (mP (i19).toNat)) = 0 := fun e9 => by rw [e9]; exact pc32_zero
            have hpp : plc h (mP (i19).toNat) ≠ 0 → 1 ≤ pc32 (plc h (mP (i19).toNat)) := fun e9 => pc32_pos (by omega)
            obtain ⟨b7, hb7, q7⟩ := C137 (D := DV) (d := 0) Vis_DV S hP
            have hsp9 := hsp0 (i19).toNat (by omega)
            have hspr9 := hspr (i19).toNat (by omega)
            have hvr9 := hvr (i19).toNat (by omega)
            have hmv := sM_up va b9 i19 (by omega)
            have hms := sM_up sp b9 i19 (by omega)
            refine t_s (fun g Q => x_aload_n d178_88 rfl) ?_
            refine t_s (fun g Q => x_iload d178_89 rfl) ?_
            refine t_s (fun g Q => x_iconst d178_91) ?_
            refine t_VE d178_92 cl178 m13_127 kd129 tg129 po129 le129 (by decide) (S.F.o rfl (by decide)) (C129 V S (by omega) (by omega)) (fun v31 r31 z31 => ?_)
            try dsimp only at r31
            refine t_nm (fun w95_32 ew95_32 => ?_)
            refine t_s (fun g Q => x_istore [some (vR _), some (vL _), none, some (vI _), some (vI _), some (vI _), some (vI _), some (vI _), some (vI _), _] d178_95 rfl) ?_
            have hsh : w95_32 = hI h (mP (i19).toNat) 3 := by rw [ew95_32]; exact r31.2.1 rfl
            refine t_s (fun g Q => x_aload_n d178_97 rfl) ?_
            refine t_s (fun g Q => x_iload d178_98 rfl) ?_
            refine t_s (fun g Q => x_iconst d178_100) ?_
            refine t_VE d178_101 cl178 m13_127 kd129 tg129 po129 le129 (by decide) (S.F.o rfl (by decide)) (C129 V S (by omega) (by omega)) (fun v33 r33 z33 => ?_)
            try dsimp only at r33
            refine t_nm (fun w104_34 ew104_34 => ?_)
            refine t_s (fun g Q => x_istore [some (vR _), some (vL _), none, some (vI _), some (vI _), some (vI _), some (vI _), some (vI _), some (vI _), some (vI _)] d178_104 rfl) ?_
            have J135 : TD mB nB h (d + 12) 178 135 [some (vR (some 2)), some (vL w4_2), none, some (vI s12_3), some (vI w70_15), some (vI s19_5), some (vI s19_6), some (vI i19), some (vI w95_32), some (vI w104_34)] [] Q := by
              have J168 : TD mB nB h (d + 12) 178 168 [some (vR (some 2)), some (vL w4_2), none, some (vI s12_3), some (vI w70_15), some (vI s19_5), some (vI s19_6), some (vI i19), some (vI w95_32), some (vI w104_34)] [] Q := by
                have J179 : TD mB nB h (d + 12) 178 179 [some (vR (some 2)), some (vL w4_2), none, some (vI s12_3), some (vI w70_15), some (vI s19_5), some (vI s19_6), some (vI i19), some (vI w95_32), some (vI w104_34)] [] Q := by
                  have J201 : TD mB nB h (d + 12) 178 201 [some (vR (some 2)), some (vL w4_2), none, some (vI s12_3), some (vI w70_15), some (vI s19_5), some (vI s19_6), some (vI i19), some (vI w95_32), some (vI w104_34)] [] Q := by
                    have J221 : TD mB nB h (d + 12) 178 221 [some (vR (some 2)), some (vL w4_2), none, some (vI s12_3), some (vI w70_15), some (vI s19_5), some (vI s19_6), some (vI i19), some (vI w95_32), some (vI w104_34)] [] Q := by
                      have J235 : TD mB nB h (d + 12) 178 235 [some (vR (some 2)), some (vL w4_2), none, some (vI s12_3), some (vI w70_15), some (vI s19_5), some (vI s19_6), some (vI i19), some (vI w95_32), some (vI w104_34)] [] Q := by
                        refine t_s (fun g Q => x_iload d178_235 rfl) ?_
                        refine t_s (fun g Q => x_iload d178_237 rfl) ?_
                        refine t_s (fun g Q => x_ishr d178_239) ?_
                        refine t_o32 (fun q35 => ?_)
                        refine t_s (fun g Q => x_iconst d178_240) ?_
                        refine t_s (fun g Q => x_iand d178_241) ?_
                        refine t_o32 (fun q36 => ?_)
                        have hbt := bit_zero (b := b9) (k := (i19).toNat) (w := w70_15) (i := i19) (by omega) (by omega) (by omega) (by omega)
                        refine t_b (fun g Q => x_ifne (t := 248) d178_242 rfl (by omega)) (by omega) (by omega) (fun c242_37 => ?_) (fun c242_37 => ?_)
                        · have hb1 : b9.testBit (i19).toNat = true := by cases w9 : b9.testBit (i19).toNat with | true => rfl | false => (have := hbt.mpr w9; omega)
                          rw [hb1, if_pos rfl] at hmv hms
                          refine t_s (fun g Q => x_iload d178_248 rfl) ?_
                          refine t_s (fun g Q => x_aload_n d178_250 rfl) ?_
                          refine t_s (fun g Q => x_iload d178_251 rfl) ?_
                          refine t_VE d178_253 cl178 m13_130 kd138 tg138 po138 le138 (by decide) (S.F.o rfl (by decide)) (C138 V S (by omega)) (fun v38 r38 z38 => ?_)
                          try dsimp only at r38
                          have hv9 : v38 = va (i19).toNat := by obtain ⟨d9, q9⟩ := r38.2.2.2; obtain ⟨d8, q8⟩ := hva (i19).toNat (by omega); exact Sum.inl.inj (PV_det q9 q8)
                          refine t_s (fun g Q => x_iadd d178_256) ?_
                          refine t_nm (fun w257_39 ew257_39 => ?_)
                          refine t_s (fun g Q => x_istore [some (vR _), some (vL _), none, some (vI _), some (vI _), some (vI _), some (vI _), some (vI _), some (vI _), some (vI _)] d178_257 rfl) ?_
                          refine t_s (fun g Q => x_iload d178_259 rfl) ?_
                          refine t_s (fun g Q => x_aload_n d178_261 rfl) ?_
                          refine t_s (fun g Q => x_iload d178_262 rfl) ?_
                          refine t_s (fun g Q => x_iconst d178_264) ?_
                          refine t_VE d178_265 cl178 m13_127 kd129 tg129 po129 le129 (by decide) (S.F.o rfl (by decide)) (C129 V S (by omega) (by omega)) (fun v40 r40 z40 => ?_)
                          try dsimp only at r40
                          have hs9 := r40.2.2.1 rfl; rw [← hsp9] at hs9
                          refine t_s (fun g Q => x_isub d178_268) ?_
                          refine t_nm (fun w269_41 ew269_41 => ?_)
                          refine t_s (fun g Q => x_istore [some (vR _), some (vL _), none, some (vI _), some (vI _), some (vI _), some (vI _), some (vI _), some (vI _), some (vI _)] d178_269 rfl) ?_
                          refine t_s (fun g Q => x_iinc [some (vR _), some (vL _), none, some (vI _), some (vI _), some (vI _), some (vI _), some (vI _), some (vI _), some (vI _)] d178_271 rfl rfl) ?_
                          refine t_s (fun g Q => x_goto (t := 82) d178_274 rfl) ?_
                          exact ih19 (by omega) _ (by omega) _ (by omega) _ _
                        · rw [hbt.mp (by omega)] at hmv hms
                          rw [if_neg (by decide)] at hmv hms
                          refine t_s (fun g Q => x_goto (t := 271) d178_245 rfl) ?_
                          refine t_s (fun g Q => x_iinc [some (vR _), some (vL _), none, some (vI _), some (vI _), some (vI _), some (vI _), some (vI _), some (vI _), some (vI _)] d178_271 rfl rfl) ?_
                          refine t_s (fun g Q => x_goto (t := 82) d178_274 rfl) ?_
                          exact ih19 (by omega) _ (by omega) _ (by omega) _ _
                      refine t_s (fun g Q => x_aload_n d178_221 rfl) ?_
                      refine t_s (fun g Q => x_iload d178_222 rfl) ?_
                      refine t_s (fun g Q => x_iconst d178_224) ?_
                      refine t_VE d178_225 cl178 m13_136 kd135 tg135 po135 le135 (by decide) (S.F.o rfl (by decide)) (C135 V S (by omega) (by omega)) (fun v42 r42 z42 => ?_)
                      try dsimp only at r42
                      refine t_s (fun g Q => x_bipush d178_228 (by decide)) ?_
                      refine t_b (fun g Q => x_icge (t := 235) d178_230 rfl (by omega)) (by omega) (by omega) (fun c230_43 => ?_) (fun c230_43 => ?_)
                      · exact J235
                      · refine t_s (fun g Q => x_iconst d178_233) ?_
                        exact t_zret d178_234 rt178 (by omega) (hQ _ (by omega))
                    refine t_s (fun g Q => x_aload_n d178_201 rfl) ?_
                    refine t_s (fun g Q => x_iload d178_202 rfl) ?_
                    refine t_s (fun g Q => x_iconst d178_204) ?_
                    refine t_VE d178_205 cl178 m13_133 kd136 tg136 po136 le136 (by decide) (S.F.o rfl (by decide)) (C136 V S (by omega) (by omega)) (fun v44 r44 z44 => ?_)
                    try dsimp only at r44
                    have hnr := r44.2.2 b7 ⟨_, q7⟩ rfl
                    refine t_s (fun g Q => x_iconst d178_208) ?_
                    refine t_b (fun g Q => x_icne (t := 221) d178_209 rfl (by omega)) (by omega) (by omega) (fun c209_45 => ?_) (fun c209_45 => ?_)
                    · exact J221
                    · refine t_s (fun g Q => x_aload_n d178_212 rfl) ?_
                      refine t_s (fun g Q => x_iload d178_213 rfl) ?_
                      refine t_VE d178_215 cl178 m13_130 kd138 tg138 po138 le138 (by decide) (S.F.o rfl (by decide)) (C138 V S (by omega)) (fun v46 r46 z46 => ?_)
                      try dsimp only at r46
                      have hvz := r46.2.2.1 b7 ⟨_, q7⟩
                      refine t_b (fun g Q => x_ifgt (t := 233) d178_218 rfl (by omega)) (by omega) (by omega) (fun c218_47 => ?_) (fun c218_47 => ?_)
                      · refine t_s (fun g Q => x_iconst d178_233) ?_
                        exact t_zret d178_234 rt178 (by omega) (hQ _ (by omega))
                      · exact J221
                  refine t_s (fun g Q => x_iload d178_179 rfl) ?_
                  refine t_b (fun g Q => x_iflt (t := 201) d178_181 rfl (by omega)) (by omega) (by omega) (fun c181_48 => ?_) (fun c181_48 => ?_)
                  · exact J201
                  · refine t_s (fun g Q => x_aload_n d178_184 rfl) ?_
                    refine t_s (fun g Q => x_iload d178_185 rfl) ?_
                    refine t_s (fun g Q => x_iconst d178_187) ?_
                    refine t_VE d178_188 cl178 m13_121 kd127 tg127 po127 le127 (by decide) (S.F.o rfl (by decide)) (C127 V S (by omega) (by omega)) (fun v49 r49 z49 => ?_)
                    try dsimp only at r49
                    have hcv := r49.2.2.1 rfl; rw [hsh] at hcv
                    have hct := CPos_tb hcp (by omega)
                    have hon := tb_on (hSI.2.2 w104_34 (by omega) (by omega) hct.1 hct.2.1)
                    rw [← hcv] at hon
                    refine t_s (fun g Q => x_iload d178_191 rfl) ?_
                    refine t_s (fun g Q => x_ishr d178_193) ?_
                    refine t_o32 (fun q50 => ?_)
                    refine t_s (fun g Q => x_iconst d178_194) ?_
                    refine t_s (fun g Q => x_iand d178_195) ?_
                    refine t_o32 (fun q51 => ?_)
                    refine t_b (fun g Q => x_ifne (t := 201) d178_196 rfl (by omega)) (by omega) (by omega) (fun c196_52 => ?_) (fun c196_52 => ?_)
                    · exact J201
                    · refine t_s (fun g Q => x_iconst d178_199) ?_
                      exact t_zret d178_200 rt178 (by omega) (hQ _ (by omega))
                refine t_s (fun g Q => x_aload_n d178_168 rfl) ?_
                refine t_s (fun g Q => x_iload d178_169 rfl) ?_
                refine t_VE d178_171 cl178 m13_130 kd138 tg138 po138 le138 (by decide) (S.F.o rfl (by decide)) (C138 V S (by omega)) (fun v53 r53 z53 => ?_)
                try dsimp only at r53
                refine t_b (fun g Q => x_ifge (t := 179) d178_174 rfl (by omega)) (by omega) (by omega) (fun c174_54 => ?_) (fun c174_54 => ?_)
                · exact J179
                · refine t_s (fun g Q => x_iconst d178_177) ?_
                  exact t_zret d178_178 rt178 (by omega) (hQ _ (by omega))
              refine t_s (fun g Q => x_aload_n d178_135 rfl) ?_
              refine t_s (fun g Q => x_iload d178_136 rfl) ?_
              refine t_s (fun g Q => x_iconst d178_138) ?_
              refine t_VE d178_139 cl178 m13_121 kd127 tg127 po127 le127 (by decide) (S.F.o rfl (by decide)) (C127 V S (by omega) (by omega)) (fun v55 r55 z55 => ?_)
              try dsimp only at r55
              have hpl142 := r55.2.1 rfl
              rw [hsh] at hpl142
              refine t_b (fun g Q => x_ifne (t := 149) d178_142 rfl (by omega)) (by omega) (by omega) (fun c142_56 => ?_) (fun c142_56 => ?_)
              · refine t_s (fun g Q => x_iconst d178_149) ?_
                refine t_s (fun g Q => x_aload_n d178_150 rfl) ?_
                refine t_s (fun g Q => x_iload d178_151 rfl) ?_
                refine t_s (fun g Q => x_iconst d178_153) ?_
                refine t_VE d178_154 cl178 m13_127 kd129 tg129 po129 le129 (by decide) (S.F.o rfl (by decide)) (C129 V S (by omega) (by omega)) (fun v57 r57 z57 => ?_)
                try dsimp only at r57
                have hd157 := r57.2.2.2.1 rfl
                refine t_b (fun g Q => x_ifne (t := 164) d178_157 rfl (by omega)) (by omega) (by omega) (fun c157_58 => ?_) (fun c157_58 => ?_)
                · refine t_s (fun g Q => x_iconst d178_164) ?_
                  refine t_b (fun g Q => x_icne (t := 177) d178_165 rfl (by omega)) (by omega) (by omega) (fun c165_59 => ?_) (fun c165_59 => ?_)
                  · refine t_s (fun g Q => x_iconst d178_177) ?_
                    exact t_zret d178_178 rt178 (by omega) (hQ _ (by omega))
                  · exact J168
                · refine t_s (fun g Q => x_iconst d178_160) ?_
                  refine t_s (fun g Q => x_goto (t := 165) d178_161 rfl) ?_
                  refine t_b (fun g Q => x_icne (t := 177) d178_165 rfl (by omega)) (by omega) (by omega) (fun c165_60 => ?_) (fun c165_60 => ?_)
                  · refine t_s (fun g Q => x_iconst d178_177) ?_
                    exact t_zret d178_178 rt178 (by omega) (hQ _ (by omega))
                  · exact J168
              · refine t_s (fun g Q => x_iconst d178_145) ?_
                refine t_s (fun g Q => x_goto (t := 150) d178_146 rfl) ?_
                refine t_s (fun g Q => x_aload_n d178_150 rfl) ?_
                refine t_s (fun g Q => x_iload d178_151 rfl) ?_
                refine t_s (fun g Q => x_iconst d178_153) ?_
                refine t_VE d178_154 cl178 m13_127 kd129 tg129 po129 le129 (by decide) (S.F.o rfl (by decide)) (C129 V S (by omega) (by omega)) (fun v61 r61 z61 => ?_)
                try dsimp only at r61
                have hd157 := r61.2.2.2.1 rfl
                refine t_b (fun g Q => x_ifne (t := 164) d178_157 rfl (by omega)) (by omega) (by omega) (fun c157_62 => ?_) (fun c157_62 => ?_)
                · refine t_s (fun g Q => x_iconst d178_164) ?_
                  refine t_b (fun g Q => x_icne (t := 177) d178_165 rfl (by omega)) (by omega) (by omega) (fun c165_63 => ?_) (fun c165_63 => ?_)
                  · refine t_s (fun g Q => x_iconst d178_177) ?_
                    exact t_zret d178_178 rt178 (by omega) (hQ _ (by omega))
                  · exact J168
                · refine t_s (fun g Q => x_iconst d178_160) ?_
                  refine t_s (fun g Q => x_goto (t := 165) d178_161 rfl) ?_
                  refine t_b (fun g Q => x_icne (t := 177) d178_165 rfl (by omega)) (by omega) (by omega) (fun c165_64 => ?_) (fun c165_64 => ?_)
                  · refine t_s (fun g Q => x_iconst d178_177) ?_
                    exact t_zret d178_178 rt178 (by omega) (hQ _ (by omega))
                  · exact J168
            have hcp : CPos (plc h (mP (i19).toNat)) w104_34 := by rw [ew104_34]; exact r33.2.2.2.2 rfl
            have hce := CPos_ge hplr hcp
            have hcr := hcp.1
            refine t_s (fun g Q => x_aload_n d178_106 rfl) ?_
            refine t_s (fun g Q => x_iload d178_107 rfl) ?_
            refine t_s (fun g Q => x_iconst d178_109) ?_
            refine t_VE d178_110 cl178 m13_127 kd129 tg129 po129 le129 (by decide) (S.F.o rfl (by decide)) (C129 V S (by omega) (by omega)) (fun v65 r65 z65 => ?_)
            try dsimp only at r65
            have hd113 := r65.2.2.2.1 rfl
            refine t_s (fun g Q => x_iconst d178_113) ?_
            refine t_b (fun g Q => x_icne (t := 121) d178_114 rfl (by omega)) (by omega) (by omega) (fun c114_66 => ?_) (fun c114_66 => ?_)
            · refine t_s (fun g Q => x_iconst d178_121) ?_
              refine t_s (fun g Q => x_iload d178_122 rfl) ?_
              refine t_b (fun g Q => x_iflt (t := 131) d178_124 rfl (by omega)) (by omega) (by omega) (fun c124_67 => ?_) (fun c124_67 => ?_)
              · refine t_s (fun g Q => x_iconst d178_131) ?_
                refine t_b (fun g Q => x_icne (t := 177) d178_132 rfl (by omega)) (by omega) (by omega) (fun c132_68 => ?_) (fun c132_68 => ?_)
                · refine t_s (fun g Q => x_iconst d178_177) ?_
                  exact t_zret d178_178 rt178 (by omega) (hQ _ (by omega))
                · exact J135
              · refine t_s (fun g Q => x_iconst d178_127) ?_
                refine t_s (fun g Q => x_goto (t := 132) d178_128 rfl) ?_
                refine t_b (fun g Q => x_icne (t := 177) d178_132 rfl (by omega)) (by omega) (by omega) (fun c132_69 => ?_) (fun c132_69 => ?_)
                · refine t_s (fun g Q => x_iconst d178_177) ?_
                  exact t_zret d178_178 rt178 (by omega) (hQ _ (by omega))
                · exact J135
            · refine t_s (fun g Q => x_iconst d178_117) ?_
              refine t_s (fun g Q => x_goto (t := 122) d178_118 rfl) ?_
              refine t_s (fun g Q => x_iload d178_122 rfl) ?_
              refine t_b (fun g Q => x_iflt (t := 131) d178_124 rfl (by omega)) (by omega) (by omega) (fun c124_70 => ?_) (fun c124_70 => ?_)
              · refine t_s (fun g Q => x_iconst d178_131) ?_
                refine t_b (fun g Q => x_icne (t := 177) d178_132 rfl (by omega)) (by omega) (by omega) (fun c132_71 => ?_) (fun c132_71 => ?_)
                · refine t_s (fun g Q => x_iconst d178_177) ?_
                  exact t_zret d178_178 rt178 (by omega) (hQ _ (by omega))
                · exact J135
              · refine t_s (fun g Q => x_iconst d178_127) ?_
                refine t_s (fun g Q => x_goto (t := 132) d178_128 rfl) ?_
                refine t_b (fun g Q => x_icne (t := 177) d178_132 rfl (by omega)) (by omega) (by omega) (fun c132_72 => ?_) (fun c132_72 => ?_)
                · refine t_s (fun g Q => x_iconst d178_177) ?_
                  exact t_zret d178_178 rt178 (by omega) (hQ _ (by omega))
                · exact J135
        · refine t_s (fun g Q => x_iload_n d178_47 rfl) ?_
          refine t_s (fun g Q => x_aload_n d178_48 rfl) ?_
          refine t_s (fun g Q => x_iload d178_49 rfl) ?_
          refine t_s (fun g Q => x_iconst d178_51) ?_
          refine t_VE d178_52 cl178 m13_121 kd127 tg127 po127 le127 (by decide) (S.F.o rfl (by decide)) (C127 V S (by omega) (by omega)) (fun v73 r73 z73 => ?_)
          try dsimp only at r73
          have hup := szH_up h i12 (by omega)
          have hsz9 := (S.sh (i12).toNat (by omega)).size
          have hpl := r73.2.2.2 rfl
          refine t_s (fun g Q => x_iadd d178_55) ?_
          refine t_nm (fun w56_74 ew56_74 => ?_)
          refine t_s (fun g Q => x_istore_n [some (vR _), some (vL _), none, some (vI _), some (vI _), none, none, none, none, none] d178_56 rfl) ?_
          refine t_s (fun g Q => x_iinc [some (vR _), some (vL _), none, some (vI _), some (vI _), none, none, none, none, none] d178_57 rfl rfl) ?_
          refine t_s (fun g Q => x_goto (t := 40) d178_60 rfl) ?_
          exact ih12 (by omega) _ (by omega)
      · refine t_s (fun g Q => x_iconst d178_33) ?_
        exact t_zret d178_34 rt178 (by omega) (hQ _ (by omega))
