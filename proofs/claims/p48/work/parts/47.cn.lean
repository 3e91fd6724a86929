/-- the reserves of the ITEMS of a set together; whether a BID counts -/
def rsv (f : Nat → Int) (t : Int) : Nat → Int
  | 0 => 0
  | n + 1 => rsv f t n + (if tb t n = 1 then f n else 0)
def cnE (items : Int) (f : Nat → Int) (t a b : Int) : Int := if rsv f t items.toNat ≤ a ∧ o32 fand t b = 0 then 1 else 0
theorem rsv_up (f : Nat → Int) (t i : Int) (h : 0 ≤ i) : rsv f t (i + 1).toNat = rsv f t i.toNat + (if tb t i = 1 then f i.toNat else 0) := by
  rw [show (i + 1).toNat = i.toNat + 1 by omega]
  unfold rsv
  rw [show ((i.toNat : Nat) : Int) = i by omega]
  cases i.toNat <;> rfl
theorem C52 {D : Nat → Nat → Bool} {d : Nat} {h : Hp} {mP mC mI mD mB : Nat → Nat} {nP nC nI nD nB : Nat} (V : Vis D) (S : Hv h mP mC mI mD mB nP nC nI nD nB) (VA : ∀ a j, D a j = true) {b : Nat} (Bb : Bi h b) : ∃ v : Int, (fun v : Int => v = cnE (hI h 55 0) (hI h 58) (hI h b 1) (hI h b 2) (hI h 55 5) ∧ (v = 0 ∨ v = 1)) v ∧ PV D (d + 1) 52 [vR (some 55), vR (some b)] h (vI v) := by
  refine PE_of (fun Q hQ => ?_)
  refine x_ent en52 ?_
  have hits := S.items
  refine x_iconst d52_0 ?_
  refine x_nm (fun w1_1 ew1_1 => ?_)
  refine x_istore_n [some (vR _), some (vR _), some (vI _), none] d52_1 rfl ?_
  refine x_iconst d52_2 ?_
  refine x_nm (fun w3_2 ew3_2 => ?_)
  refine x_istore_n [some (vR _), some (vR _), some (vI _), some (vI _)] d52_3 rfl ?_
  refine (x_ub (N := hI h 55 0) (P := fun i3 => ∀ s3_2 : Int, (s3_2 = rsv (hI h 58) (hI h b 1) (i3).toNat ∧ 0 ≤ s3_2 ∧ s3_2 ≤ 9999 * i3) → wp D (d + 1) 52 4 [some (vR (some 55)), some (vR (some b)), some (vI s3_2), some (vI i3)] [] h Q) w3_2 (by omega) (fun i3 hi3 hj3 ih3 s3_2 hs3_2 => ?_)) _ (by subst_vars; exact ⟨rfl, by omega, by omega⟩)
  refine x_iload_n d52_4 rfl ?_
  refine x_aload_n d52_5 rfl ?_
  refine x_gfI d52_6 cl52 f7_39 (by decide) (S.F.o rfl (by decide)) (VA _ _) ?_
  have g4 := S.items
  refine x_icge (t := 38) d52_9 rfl (by omega) (fun c9_5 => ?_) (fun c9_5 => ?_)
  · have hfin : s3_2 = rsv (hI h 58) (hI h b 1) (hI h 55 0).toNat := by rw [show (hI h 55 0).toNat = (i3).toNat by omega]; exact hs3_2.1
    have hamt := Bb.amount
    refine x_aload_n d52_38 rfl ?_
    refine x_gfI d52_39 cl52 f7_95 (by decide) (Bi.ob Bb) (V.g (Bi.g Bb)) ?_
    have g6 := (Bi.amount Bb)
    refine x_iload_n d52_42 rfl ?_
    refine x_iclt (t := 62) d52_43 rfl (by omega) (fun c43_7 => ?_) (fun c43_7 => ?_)
    · refine x_iconst d52_62 ?_
      exact x_zret d52_63 rt52 (by omega) (hQ _ (by unfold cnE; first | exact ⟨(if_pos (by omega)).symm, by omega⟩ | exact ⟨(if_neg (by omega)).symm, by omega⟩))
    · refine x_aload_n d52_46 rfl ?_
      refine x_gfI d52_47 cl52 f7_94 (by decide) (Bi.ob Bb) (V.g (Bi.g Bb)) ?_
      have g8 := (Bi.items Bb)
      refine x_aload_n d52_50 rfl ?_
      refine x_gfI d52_51 cl52 f7_63 (by decide) (S.F.o rfl (by decide)) (VA _ _) ?_
      refine x_iandq d52_54 (fun q9 => ?_)
      refine x_ifne (t := 62) d52_55 rfl (by omega) (fun c55_10 => ?_) (fun c55_10 => ?_)
      · refine x_iconst d52_62 ?_
        exact x_zret d52_63 rt52 (by omega) (hQ _ (by unfold cnE; first | exact ⟨(if_pos (by omega)).symm, by omega⟩ | exact ⟨(if_neg (by omega)).symm, by omega⟩))
      · refine x_iconst d52_58 ?_
        refine x_goto (t := 63) d52_59 rfl ?_
        exact x_zret d52_63 rt52 (by omega) (hQ _ (by unfold cnE; first | exact ⟨(if_pos (by omega)).symm, by omega⟩ | exact ⟨(if_neg (by omega)).symm, by omega⟩))
  · have hup := rsv_up (hI h 58) (hI h b 1) i3 (by omega)
    refine x_iload_n d52_12 rfl ?_
    refine x_aload_n d52_13 rfl ?_
    refine x_gfI d52_14 cl52 f7_94 (by decide) (Bi.ob Bb) (V.g (Bi.g Bb)) ?_
    have g11 := (Bi.items Bb)
    refine x_SE d52_17 cl52 m7_98 kd86 po86 le86 C86 (fun v12 r12 z12 => ?_)
    try dsimp only at r12
    refine x_ifeq (t := 32) d52_20 rfl (by omega) (fun c20_13 => ?_) (fun c20_13 => ?_)
    · have hinv : s3_2 = rsv (hI h 58) (hI h b 1) ((i3 + 1)).toNat ∧ 0 ≤ s3_2 ∧ s3_2 ≤ 9999 * (i3 + 1) := by rw [if_neg (by omega)] at hup; omega
      refine x_iinc [some (vR _), some (vR _), some (vI _), some (vI _)] d52_32 rfl rfl ?_
      refine x_goto (t := 4) d52_35 rfl ?_
      exact ih3 (by omega) _ hinv
    · refine x_iload_n d52_23 rfl ?_
      refine x_aload_n d52_24 rfl ?_
      refine x_gfR d52_25 cl52 f7_19 (S.F.o rfl (by decide)) (VA _ _) (S.F.r rfl) ?_
      refine x_iload_n d52_28 rfl ?_
      refine x_iaload d52_29 (S.F.o rfl (by decide)) ⟨by omega, by rw [(S.F.l (a := 58) (n := 8) (by decide) rfl)]; omega⟩ (VA _ _) ?_
      refine x_nm (fun a14 e14 => ?_)
      have b14 : 0 ≤ a14 ∧ a14 ≤ 9999 := by rw [e14]; exact (S.a58 _)
      refine x_iadd d52_30 ?_
      refine x_nm (fun w31_15 ew31_15 => ?_)
      refine x_istore_n [some (vR _), some (vR _), some (vI _), some (vI _)] d52_31 rfl ?_
      have hinv : w31_15 = rsv (hI h 58) (hI h b 1) ((i3 + 1)).toNat ∧ 0 ≤ w31_15 ∧ w31_15 ≤ 9999 * (i3 + 1) := by rw [if_pos (by omega)] at hup; omega
      refine x_iinc [some (vR _), some (vR _), some (vI _), some (vI _)] d52_32 rfl rfl ?_
      refine x_goto (t := 4) d52_35 rfl ?_
      exact ih3 (by omega) _ hinv
