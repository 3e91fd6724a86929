theorem C54 {D : Nat → Nat → Bool} {d : Nat} {h : Hp} {mP mC mI mD mB : Nat → Nat} {nP nC nI nD nB : Nat} (V : Vis D) (S : Hv h mP mC mI mD mB nP nC nI nD nB) (VB : ∀ a j, DB a j = true → D a j = true) : ∃ v : Int, (fun v : Int => v = hI h 60 (o32 fshl 1 (hI h 55 0) - 1).toNat) v ∧ PV D (d + 1) 54 [vR (some 55)] h (vI v) := by
  refine PE_of (fun Q hQ => ?_)
  refine x_ent en54 ?_
  refine x_aload_n d54_0 rfl ?_
  refine x_gfR d54_1 cl54 f7_29 (S.F.o rfl (by decide)) (VB _ _ rfl) (S.F.r rfl) ?_
  refine x_aload_n d54_4 rfl ?_
  refine x_VE d54_5 cl54 m7_91 kd49 tg49 po49 le49 (by decide) (S.F.o rfl (by decide)) (C49 V S VB) (fun v1 r1 z1 => ?_)
  try dsimp only at r1
  rw [r1.1]; have hal := all_rng S.items
  refine x_iaload d54_8 (S.F.o rfl (by decide)) ⟨by omega, by rw [(S.F.l (a := 60) (n := 256) (by decide) rfl)]; omega⟩ (VB _ _ rfl) ?_
  exact x_iret d54_9 rt54 (hQ _ rfl)
theorem C55 {D : Nat → Nat → Bool} {d : Nat} {h : Hp} {mP mC mI mD mB : Nat → Nat} {nP nC nI nD nB : Nat} (V : Vis D) (S : Hv h mP mC mI mD mB nP nC nI nD nB) (VB : ∀ a j, DB a j = true → D a j = true) : ∃ v : Int, (fun v : Int => v = hI h 61 (o32 fshl 1 (hI h 55 0) - 1).toNat) v ∧ PV D (d + 1) 55 [vR (some 55)] h (vI v) := by
  refine PE_of (fun Q hQ => ?_)
  refine x_ent en55 ?_
  refine x_aload_n d55_0 rfl ?_
  refine x_gfR d55_1 cl55 f7_32 (S.F.o rfl (by decide)) (VB _ _ rfl) (S.F.r rfl) ?_
  refine x_aload_n d55_4 rfl ?_
  refine x_VE d55_5 cl55 m7_91 kd49 tg49 po49 le49 (by decide) (S.F.o rfl (by decide)) (C49 V S VB) (fun v1 r1 z1 => ?_)
  try dsimp only at r1
  rw [r1.1]; have hal := all_rng S.items
  refine x_iaload d55_8 (S.F.o rfl (by decide)) ⟨by omega, by rw [(S.F.l (a := 61) (n := 256) (by decide) rfl)]; omega⟩ (VB _ _ rfl) ?_
  exact x_iret d55_9 rt55 (hQ _ rfl)
/-- the prices of the first items together -/
def sPr (f : Nat → Int) : Nat → Int
  | 0 => 0
  | n + 1 => sPr f n + (if f n = -1 then 0 else f n)
theorem sPr_up (f : Nat → Int) (i : Int) (h : 0 ≤ i) : sPr f (i + 1).toNat = sPr f i.toNat + (if f i.toNat = -1 then 0 else f i.toNat) := by
  rw [show (i + 1).toNat = i.toNat + 1 by omega]; rfl
theorem C59 {D : Nat → Nat → Bool} {d : Nat} {h : Hp} {mP mC mI mD mB : Nat → Nat} {nP nC nI nD nB : Nat} (V : Vis D) (S : Hv h mP mC mI mD mB nP nC nI nD nB) (VB : ∀ a j, DB a j = true → D a j = true) (pr : Nat → Int) (hpr : ∀ i : Int, 0 ≤ i → i < hI h 55 0 → ∃ d2, PV D d2 60 [vR (some 55), vI i] h (vI (pr i.toNat))) : ∃ v : Int, (fun v : Int => v = hI h 60 (o32 fshl 1 (hI h 55 0) - 1).toNat - sPr pr (hI h 55 0).toNat) v ∧ PV D (d + 6) 59 [vR (some 55)] h (vI v) := by
  refine PE_of (fun Q hQ => ?_)
  refine x_ent en59 ?_
  have hit := S.items
  refine x_iconst d59_0 ?_
  refine x_nm (fun w1_1 ew1_1 => ?_)
  refine x_istore_n [some (vR _), some (vI _), none, none] d59_1 rfl ?_
  refine x_iconst d59_2 ?_
  refine x_nm (fun w3_2 ew3_2 => ?_)
  refine x_istore_n [some (vR _), some (vI _), some (vI _), none] d59_3 rfl ?_
  refine (x_ub (N := hI h 55 0) (P := fun i3 => ∀ s3_1 : Int, (s3_1 = sPr pr (i3).toNat ∧ 0 ≤ s3_1 ∧ s3_1 ≤ 9999 * i3) → ∀ t3_3 : Option XV, wp D (d + 6) 59 4 [some (vR (some 55)), some (vI s3_1), some (vI i3), t3_3] [] h Q) w3_2 (by omega) (fun i3 hi3 hj3 ih3 s3_1 hs3_1 t3_3 => ?_)) _ (by subst_vars; exact ⟨rfl, by omega, by omega⟩) _
  refine x_iload_n d59_4 rfl ?_
  refine x_aload_n d59_5 rfl ?_
  refine x_gfI d59_6 cl59 f7_39 (by decide) (S.F.o rfl (by decide)) (VB _ _ rfl) ?_
  have g4 := S.items
  refine x_icge (t := 37) d59_9 rfl (by omega) (fun c9_5 => ?_) (fun c9_5 => ?_)
  · have e37 : sPr pr (i3).toNat = sPr pr (hI h 55 0).toNat := by rw [show (i3) = hI h 55 0 by omega]
    refine x_aload_n d59_37 rfl ?_
    refine x_VE d59_38 cl59 m7_116 kd54 tg54 po54 le54 (by decide) (S.F.o rfl (by decide)) (C54 V S VB) (fun v6 r6 z6 => ?_)
    try dsimp only at r6
    refine x_iload_n d59_41 rfl ?_
    refine x_isub d59_42 ?_
    exact x_iret d59_43 rt59 (hQ _ (by omega))
  · refine x_aload_n d59_12 rfl ?_
    refine x_iload_n d59_13 rfl ?_
    refine x_VE d59_14 cl59 m7_112 kd60 tg60 po60 le60 (by decide) (S.F.o rfl (by decide)) (C60 V S VB (by omega)) (fun v7 r7 z7 => ?_)
    try dsimp only at r7
    obtain ⟨d9, h9⟩ := hpr (i3) (by omega) (by omega)
    have hw := Sum.inl.inj (PV_det h9 z7)
    have hu := sPr_up pr (i3) (by omega)
    rw [hw] at hu
    have hrr := r7.1; have hrs := r7.2.1
    refine x_nm (fun w17_8 ew17_8 => ?_)
    refine x_istore_n [some (vR _), some (vI _), some (vI _), some (vI _)] d59_17 rfl ?_
    refine x_iload_n d59_18 rfl ?_
    refine x_iload_n d59_19 rfl ?_
    refine x_iconst d59_20 ?_
    refine x_icne (t := 28) d59_21 rfl (by omega) (fun c21_9 => ?_) (fun c21_9 => ?_)
    · refine x_iload_n d59_28 rfl ?_
      refine x_iadd d59_29 ?_
      refine x_nm (fun w30_10 ew30_10 => ?_)
      refine x_istore_n [some (vR _), some (vI _), some (vI _), some (vI _)] d59_30 rfl ?_
      refine x_iinc [some (vR _), some (vI _), some (vI _), some (vI _)] d59_31 rfl rfl ?_
      refine x_goto (t := 4) d59_34 rfl ?_
      exact ih3 (by omega) _ (by omega) _
    · refine x_iconst d59_24 ?_
      refine x_goto (t := 29) d59_25 rfl ?_
      refine x_iadd d59_29 ?_
      refine x_nm (fun w30_11 ew30_11 => ?_)
      refine x_istore_n [some (vR _), some (vI _), some (vI _), some (vI _)] d59_30 rfl ?_
      refine x_iinc [some (vR _), some (vI _), some (vI _), some (vI _)] d59_31 rfl rfl ?_
      refine x_goto (t := 4) d59_34 rfl ?_
      exact ih3 (by omega) _ (by omega) _
