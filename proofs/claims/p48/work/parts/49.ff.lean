theorem C152 {D : Nat → Nat → Bool} {d : Nat} {h : Hp} {x y : Int} {mP mC mI mD mB : Nat → Nat} {nP nC nI nD nB : Nat} (V : Vis D) (S : Hv h mP mC mI mD mB nP nC nI nD nB) (iw : ∀ k : Nat, k < nI → 1 ≤ hI h (mI k) 0) (W : ∀ j : Nat, (j : Int) < x → D 66 j = true) (R : ∀ j : Nat, (j : Int) < x → 0 ≤ hI h 66 j ∧ hI h 66 j ≤ 1000) (qx : 1 ≤ x ∧ x ≤ 99) (qy : -2147483648 ≤ y ∧ y < 2147483648) : ∃ v : Int, (fun v : Int => 0 ≤ v ∧ v ≤ 1001) v ∧ PV D (d + 4) 152 [vR (some 2), vI x, vI y] h (vI v) := by
  refine PE_of (fun Q hQ => ?_)
  refine x_ent en152 ?_
  have hni := S.ni
  refine x_sipush d152_0 (by decide) ?_
  refine x_nm (fun w3_1 ew3_1 => ?_)
  refine x_istore_n [some (vR _), some (vI _), some (vI _), some (vI _), none, none] d152_3 rfl ?_
  refine x_iconst d152_4 ?_
  refine x_nm (fun w5_2 ew5_2 => ?_)
  refine x_istore [some (vR _), some (vI _), some (vI _), some (vI _), some (vI _), none] d152_5 rfl ?_
  refine (x_ub (N := nI) (P := fun i3 => ∀ s3_3 : Int, (0 ≤ s3_3 ∧ s3_3 ≤ 1000) → ∀ t3_5 : Option XV, wp D (d + 4) 152 7 [some (vR (some 2)), some (vI x), some (vI y), some (vI s3_3), some (vI i3), t3_5] [] h Q) w5_2 (by omega) (fun i3 hi3 hj3 ih3 s3_3 hs3_3 t3_5 => ?_)) _ (by omega) _
  refine x_iload d152_7 rfl ?_
  refine x_aload_n d152_9 rfl ?_
  refine x_gfR d152_10 cl152 f11_37 (S.F.o rfl (by decide)) (V _ _ rfl) (S.F.r rfl) ?_
  refine x_VE d152_13 cl152 m11_129 kd168 tg168 po168 le168 (by decide) (S.F.o rfl (by decide)) (C168 (S.F.o rfl (by decide)) (V _ _ rfl) S.li) (fun v4 r4 z4 => ?_)
  try dsimp only at r4
  refine x_icge (t := 76) d152_16 rfl (by omega) (fun c16_5 => ?_) (fun c16_5 => ?_)
  · refine x_iload_n d152_76 rfl ?_
    exact x_iret d152_77 rt152 (hQ _ (by omega))
  · refine x_aload_n d152_19 rfl ?_
    refine x_gfR d152_20 cl152 f11_37 (S.F.o rfl (by decide)) (V _ _ rfl) (S.F.r rfl) ?_
    refine x_iload d152_23 rfl ?_
    refine x_VV d152_25 cl152 m11_132 kd173 tg173 po173 le173 (by decide) (S.F.o rfl (by decide)) (C173 (d := d + 0) (S.F.o rfl (by decide)) (V _ _ rfl) (V _ _ rfl) S.li V (by omega) (by omega)) ?_
    refine x_cast d152_28 cl152 ct11_290 (Tm.ob (Ls.mem S.li (i3).toNat (by omega))) ?_
    refine x_astore [some (vR _), some (vI _), some (vI _), some (vI _), some (vI _), some (vR _)] d152_31 rfl ?_
    refine x_aload d152_33 rfl ?_
    refine x_gfI d152_35 cl152 f11_556 (by decide) (Tm.ob (Ls.mem S.li (i3).toNat (by omega))) (V.g (Tm.g (Ls.mem S.li (i3).toNat (by omega)))) ?_
    have g7 := (Tm.what (Ls.mem S.li (i3).toNat (by omega)))
    refine x_iload_n d152_38 rfl ?_
    refine x_icgt (t := 70) d152_39 rfl (by omega) (fun c39_8 => ?_) (fun c39_8 => ?_)
    · refine x_iinc [some (vR _), some (vI _), some (vI _), some (vI _), some (vI _), some (vR _)] d152_70 rfl rfl ?_
      refine x_goto (t := 7) d152_73 rfl ?_
      exact ih3 (by omega) _ (by omega) _
    · refine x_aload d152_42 rfl ?_
      refine x_iload_n d152_44 rfl ?_
      refine x_VE d152_45 cl152 m11_583 kd80 tg80 po80 le80 (by have := Tm.g (Ls.mem S.li (i3).toNat (by omega)); omega) (Tm.ob (Ls.mem S.li (i3).toNat (by omega))) (C80 (Ls.mem S.li (i3).toNat (by omega)) V (by omega)) (fun v9 r9 z9 => ?_)
      try dsimp only at r9
      refine x_ifeq (t := 70) d152_48 rfl (by omega) (fun c48_10 => ?_) (fun c48_10 => ?_)
      · refine x_iinc [some (vR _), some (vI _), some (vI _), some (vI _), some (vI _), some (vR _)] d152_70 rfl rfl ?_
        refine x_goto (t := 7) d152_73 rfl ?_
        exact ih3 (by omega) _ (by omega) _
      · refine x_iload_n d152_51 rfl ?_
        refine x_aload_n d152_52 rfl ?_
        refine x_gfR d152_53 cl152 f11_74 (S.F.o rfl (by decide)) (V _ _ rfl) (S.F.r rfl) ?_
        refine x_iload_n d152_56 rfl ?_
        refine x_aload d152_57 rfl ?_
        refine x_gfI d152_59 cl152 f11_556 (by decide) (Tm.ob (Ls.mem S.li (i3).toNat (by omega))) (V.g (Tm.g (Ls.mem S.li (i3).toNat (by omega)))) ?_
        have g11 := (Tm.what (Ls.mem S.li (i3).toNat (by omega)))
        have hiw := iw (i3).toNat (by omega)
        refine x_isub d152_62 ?_
        refine x_iaload d152_63 (S.F.o rfl (by decide)) ⟨by omega, by rw [(S.F.l (a := 66) (n := 100) (by decide) rfl)]; omega⟩ (W _ (by omega)) ?_
        refine x_nm (fun a12 e12 => ?_)
        have b12 : 0 ≤ a12 ∧ a12 ≤ 1000 := by rw [e12]; exact (R _ (by omega))
        refine x_iconst d152_64 ?_
        refine x_iadd d152_65 ?_
        refine x_nat d152_66 cl152 m11_588 (by decide) (popN_of (q := [vI _, vI _]) (show mArg 903 = 2 by decide +kernel) rfl rfl) (by exact Nat.le_of_ble_eq_true rfl) (nat_903 (by omega)) ?_
        refine x_nm (fun m66 em66 => ?_)
        try dsimp only at em66
        refine x_nm (fun w69_13 ew69_13 => ?_)
        refine x_istore_n [some (vR _), some (vI _), some (vI _), some (vI _), some (vI _), some (vR _)] d152_69 rfl ?_
        refine x_iinc [some (vR _), some (vI _), some (vI _), some (vI _), some (vI _), some (vR _)] d152_70 rfl rfl ?_
        refine x_goto (t := 7) d152_73 rfl ?_
        exact ih3 (by omega) _ (by omega) _
