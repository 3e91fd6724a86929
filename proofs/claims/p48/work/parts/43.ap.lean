theorem C60 {D : Nat → Nat → Bool} {d : Nat} {h : Hp} {x : Int} {mP mC mI mD mB : Nat → Nat} {nP nC nI nD nB : Nat} (V : Vis D) (S : Hv h mP mC mI mD mB nP nC nI nD nB) (VB : ∀ a j, DB a j = true → D a j = true) (qx : 0 ≤ x ∧ x < 8) : ∃ v : Int, (fun v : Int => -1 ≤ v ∧ v ≤ 9999 ∧ (v ≠ -1 → ∃ k : Int, 0 ≤ k ∧ k < nB ∧ hI h (mB k.toNat) 1 = o32 fshl 1 x ∧ tl (hI h 55 7) k = 1 ∧ (v ≤ hI h (mB k.toNat) 2 ∨ v ≤ hI h 58 x.toNat ∨ v ≤ 1))) v ∧ PV D (d + 5) 60 [vR (some 55), vI x] h (vI v) := by
  refine PE_of (fun Q hQ => ?_)
  refine x_ent en60 ?_
  have hnb := S.nb
  refine x_aload_n d60_0 rfl ?_
  refine x_iload_n d60_1 rfl ?_
  refine x_iconst d60_2 ?_
  refine x_VE d60_3 cl60 m7_125 kd61 tg61 po61 le61 (by decide) (S.F.o rfl (by decide)) (C61 V S VB (by omega) (by omega)) (fun v1 r1 z1 => ?_)
  try dsimp only at r1
  refine x_nm (fun w6_2 ew6_2 => ?_)
  refine x_istore_n [some (vR _), some (vI _), some (vI _), none, none] d60_6 rfl ?_
  refine x_iload_n d60_7 rfl ?_
  refine x_iconst d60_8 ?_
  refine x_icne (t := 14) d60_9 rfl (by omega) (fun c9_3 => ?_) (fun c9_3 => ?_)
  · have hb : hI h (mB (w6_2).toNat) 1 = o32 fshl 1 x ∧ tl (hI h 55 7) w6_2 = 1 := by rw [ew6_2]; exact r1.2 (by omega)
    have hbb : ∃ k : Int, k = w6_2 := ⟨_, rfl⟩
    obtain ⟨kb, hkb⟩ := hbb
    rw [← hkb] at hb
    have hamt := (Bi.amount (Ls.mem S.lb (w6_2).toNat (by omega)))
    have hmk : hI h (mB (w6_2).toNat) 2 = hI h (mB (kb).toNat) 2 := by rw [hkb]
    refine x_aload_n d60_14 rfl ?_
    refine x_iload_n d60_15 rfl ?_
    refine x_aload_n d60_16 rfl ?_
    refine x_gfR d60_17 cl60 f7_25 (S.F.o rfl (by decide)) (VB _ _ rfl) (S.F.r rfl) ?_
    refine x_iload_n d60_20 rfl ?_
    refine x_VV d60_21 cl60 m7_79 kd173 tg173 po173 le173 (by decide) (S.F.o rfl (by decide)) (C173 (d := d + 1) (S.F.o rfl (by decide)) (VB _ _ rfl) (VB _ _ rfl) S.lb V (by omega) (by omega)) ?_
    refine x_cast d60_24 cl60 ct7_50 (Bi.ob (Ls.mem S.lb (w6_2).toNat (by omega))) ?_
    refine x_gfI d60_27 cl60 f7_119 (by decide) (Bi.ob (Ls.mem S.lb (w6_2).toNat (by omega))) (V.g (Bi.g (Ls.mem S.lb (w6_2).toNat (by omega)))) ?_
    have g5 := (Bi.bidder (Ls.mem S.lb (w6_2).toNat (by omega)))
    refine x_VE d60_30 cl60 m7_125 kd61 tg61 po61 le61 (by decide) (S.F.o rfl (by decide)) (C61 V S VB (by omega) (by omega)) (fun v6 r6 z6 => ?_)
    try dsimp only at r6
    refine x_nm (fun w33_7 ew33_7 => ?_)
    refine x_istore_n [some (vR _), some (vI _), some (vI _), some (vI _), none] d60_33 rfl ?_
    refine x_iload_n d60_34 rfl ?_
    refine x_iconst d60_35 ?_
    refine x_icne (t := 50) d60_36 rfl (by omega) (fun c36_8 => ?_) (fun c36_8 => ?_)
    · refine x_aload_n d60_50 rfl ?_
      refine x_gfR d60_51 cl60 f7_25 (S.F.o rfl (by decide)) (VB _ _ rfl) (S.F.r rfl) ?_
      refine x_iload_n d60_54 rfl ?_
      refine x_VV d60_55 cl60 m7_79 kd173 tg173 po173 le173 (by decide) (S.F.o rfl (by decide)) (C173 (d := d + 1) (S.F.o rfl (by decide)) (VB _ _ rfl) (VB _ _ rfl) S.lb V (by omega) (by omega)) ?_
      refine x_cast d60_58 cl60 ct7_50 (Bi.ob (Ls.mem S.lb (w33_7).toNat (by omega))) ?_
      refine x_gfI d60_61 cl60 f7_95 (by decide) (Bi.ob (Ls.mem S.lb (w33_7).toNat (by omega))) (V.g (Bi.g (Ls.mem S.lb (w33_7).toNat (by omega)))) ?_
      have g10 := (Bi.amount (Ls.mem S.lb (w33_7).toNat (by omega)))
      refine x_nm (fun w64_11 ew64_11 => ?_)
      refine x_istore [some (vR _), some (vI _), some (vI _), some (vI _), some (vI _)] d60_64 rfl ?_
      refine x_iload d60_66 rfl ?_
      refine x_iload d60_68 rfl ?_
      refine x_SE d60_70 cl60 m7_134 kd63 po63 le63 (C63 (by omega)) (fun v12 r12 z12 => ?_)
      try dsimp only at r12
      refine x_iadd d60_73 ?_
      refine x_aload_n d60_74 rfl ?_
      refine x_gfR d60_75 cl60 f7_25 (S.F.o rfl (by decide)) (VB _ _ rfl) (S.F.r rfl) ?_
      refine x_iload_n d60_78 rfl ?_
      refine x_VV d60_79 cl60 m7_79 kd173 tg173 po173 le173 (by decide) (S.F.o rfl (by decide)) (C173 (d := d + 1) (S.F.o rfl (by decide)) (VB _ _ rfl) (VB _ _ rfl) S.lb V (by omega) (by omega)) ?_
      refine x_cast d60_82 cl60 ct7_50 (Bi.ob (Ls.mem S.lb (w6_2).toNat (by omega))) ?_
      refine x_gfI d60_85 cl60 f7_95 (by decide) (Bi.ob (Ls.mem S.lb (w6_2).toNat (by omega))) (V.g (Bi.g (Ls.mem S.lb (w6_2).toNat (by omega)))) ?_
      have g14 := (Bi.amount (Ls.mem S.lb (w6_2).toNat (by omega)))
      refine x_nat d60_88 cl60 m7_137 (by decide) (popN_of (q := [vI _, vI _]) (show mArg 903 = 2 by decide +kernel) rfl rfl) (by exact Nat.le_of_ble_eq_true rfl) (nat_903 (by omega)) ?_
      refine x_nm (fun m88 em88 => ?_)
      try dsimp only at em88
      exact x_iret d60_91 rt60 (hQ _ (by first | exact ⟨by omega, by omega, fun q => absurd rfl q⟩ | exact ⟨by omega, by omega, fun _ => ⟨kb, by omega, by omega, hb.1, hb.2, by omega⟩⟩))
    · refine x_aload_n d60_39 rfl ?_
      refine x_gfR d60_40 cl60 f7_19 (S.F.o rfl (by decide)) (VB _ _ rfl) (S.F.r rfl) ?_
      refine x_iload_n d60_43 rfl ?_
      refine x_iaload d60_44 (S.F.o rfl (by decide)) ⟨by omega, by rw [(S.F.l (a := 58) (n := 8) (by decide) rfl)]; omega⟩ (VB _ _ rfl) ?_
      refine x_nm (fun a15 e15 => ?_)
      have b15 : 0 ≤ a15 ∧ a15 ≤ 9999 := by rw [e15]; exact (S.a58 _)
      refine x_iconst d60_45 ?_
      refine x_nat d60_46 cl60 m7_129 (by decide) (popN_of (q := [vI _, vI _]) (show mArg 904 = 2 by decide +kernel) rfl rfl) (by exact Nat.le_of_ble_eq_true rfl) (nat_904 (by omega)) ?_
      refine x_nm (fun m46 em46 => ?_)
      try dsimp only at em46
      exact x_iret d60_49 rt60 (hQ _ (by first | exact ⟨by omega, by omega, fun q => absurd rfl q⟩ | exact ⟨by omega, by omega, fun _ => ⟨kb, by omega, by omega, hb.1, hb.2, by omega⟩⟩))
  · refine x_iconst d60_12 ?_
    exact x_iret d60_13 rt60 (hQ _ (by first | exact ⟨by omega, by omega, fun q => absurd rfl q⟩ | exact ⟨by omega, by omega, fun _ => ⟨kb, by omega, by omega, hb.1, hb.2, by omega⟩⟩))
