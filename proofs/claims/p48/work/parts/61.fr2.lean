theorem DQ_of {mB : Nat → Nat} {nB d z : Nat} {as : List XV} {h0 h : Hp} {v : Int} (k : ∀ Q : XO × Hp → Prop, (∀ (w : Int) (g : Hp), (w = v ∧ Agr DV h0 g ∧ CI g mB nB) → Q (.inl (some (vI w)), g)) → wp DA d z 0 (ent z as) [] h Q) : wp DA d z 0 (ent z as) [] h (fun r => r.1 = .inl (some (vI v)) ∧ Agr DV h0 r.2 ∧ CI r.2 mB nB) := k _ (fun w g q => by
  obtain ⟨rfl, A, K⟩ := q
  exact ⟨rfl, A, K⟩)
theorem C151 {d : Nat} {h0 : Hp} {x : Int} {mP mC mI mD mB : Nat → Nat} {nP nC nI nD nB : Nat} (S0 : Hv h0 mP mC mI mD mB nP nC nI nD nB) (iw0 : ∀ k, k < nI → 1 ≤ hI h0 (mI k) 0) (qx : 0 ≤ x ∧ x < nC) : ∃ v : Int, (fun v : Int => True) v ∧ DW mB nB (d + 7) 151 [vR (some 2), vI x] h0 (vI v) := by
  have hnc := S0.nc
  obtain ⟨p, hp, zp⟩ := C147 (D := DV) (d := 0) Vis_DV S0 (Ls.mem S0.lc x.toNat (by omega))
  refine ⟨if p = -1 then -1 else if fw h0 mI nI (hI h0 (mC x.toNat) 4) p.toNat < 1000 then fw h0 mI nI (hI h0 (mC x.toNat) 4) p.toNat else -1, trivial, ?_⟩
  intro h A K
  have V := Vis_DA
  have S := Hv_agr A S0
  have m69 : ∀ k, k < nB → 69 ≤ mB k := fun k hk => (Ls.mem S.lb k hk).g
  refine DQ_of (fun Q hQ => ?_)
  refine x_ent en151 ?_
  refine x_aload_n d151_0 rfl ?_
  refine x_iload_n d151_1 rfl ?_
  refine x_VE d151_2 cl151 m11_306 kd108 tg108 po108 le108 (by decide) (S.F.o rfl (by decide)) (C108 V S (by omega)) (fun v1 r1 z1 => ?_)
  try dsimp only at r1
  refine x_SN d151_5 cl151 m11_112 kd94 po94 le94 (C94 (by omega)) ?_
  refine x_aload_n d151_8 rfl ?_
  refine x_gfR d151_9 cl151 f11_43 (S.F.o rfl (by decide)) (V _ _ rfl) (S.F.r rfl) ?_
  refine x_iload_n d151_12 rfl ?_
  refine x_VV d151_13 cl151 m11_132 kd173 tg173 po173 le173 (by decide) (S.F.o rfl (by decide)) (C173 (d := d + 3) (S.F.o rfl (by decide)) rfl rfl S.lc V (by omega) (by omega)) ?_
  refine x_cast d151_16 cl151 ct11_298 (Cv.ob (Ls.mem S.lc (x).toNat (by omega))) ?_
  refine x_astore_n [some (vR _), some (vI _), some (vR _), none, none] d151_19 rfl ?_
  refine x_aload_n d151_20 rfl ?_
  refine x_aload_n d151_21 rfl ?_
  refine x_VE d151_22 cl151 m11_325 kd147 tg147 po147 le147 (by decide) (S.F.o rfl (by decide)) (C147 V S (Ls.mem S.lc (x).toNat (by omega))) (fun v4 r4 z4 => ?_)
  try dsimp only at r4
  refine x_nm (fun w25_5 ew25_5 => ?_)
  refine x_istore_n [some (vR _), some (vI _), some (vR _), some (vI _), none] d151_25 rfl ?_
  have ep : v4 = p := Sum.inl.inj (PV_det z4 (PV_sub DV_DA (PV_loc A zp)))
  refine x_iload_n d151_26 rfl ?_
  refine x_iconst d151_27 ?_
  refine x_iceq (t := 37) d151_28 rfl (by omega) (fun c28_6 => ?_) (fun c28_6 => ?_)
  · refine x_iconst d151_37 ?_
    exact x_iret d151_38 rt151 (hQ _ _ (by exact ⟨by first | (rw [if_pos (by omega)]) | (rw [if_neg (by omega), if_neg (by omega)]) | (rw [if_neg (by omega), if_pos (by omega)]; omega), A, K⟩))
  · refine x_iload_n d151_31 rfl ?_
    refine x_bipush d151_32 (by decide) ?_
    refine x_icle (t := 39) d151_34 rfl (by omega) (fun c34_7 => ?_) (fun c34_7 => ?_)
    · refine x_aload_n d151_39 rfl ?_
      refine x_gfR d151_40 cl151 f11_74 (S.F.o rfl (by decide)) (V _ _ rfl) (S.F.r rfl) ?_
      refine x_iconst d151_43 ?_
      refine x_iconst d151_44 ?_
      refine x_iastore d151_45 (by decide) (S.F.o rfl (by decide)) ⟨by omega, by rw [(S.F.l (a := 66) (n := 100) (by decide) rfl)]; omega⟩ rfl (x_wr (fun g => Hv g mP mC mI mD mB nP nC nI nD nB ∧ Agr DV h0 g ∧ CI g mB nB ∧ hI g 66 0 = 0) ⟨Hv_r66 S, Agr_w A rfl, CI_w K m69 (by omega), hI_eq⟩ (fun h q8 => ?_))
      obtain ⟨S, A, K, z0⟩ := q8
      refine x_iconst d151_46 ?_
      refine x_nm (fun w47_9 ew47_9 => ?_)
      refine x_istore [some (vR _), some (vI _), some (vR _), some (vI _), some (vI _)] d151_47 rfl ?_
      refine (x_ub (N := p + 1) (P := fun i10 => ∀ h : Hp, (Hv h mP mC mI mD mB nP nC nI nD nB ∧ Agr DV h0 h ∧ CI h mB nB ∧ (∀ j : Nat, (j : Int) < i10 → hI h 66 j = fw h0 mI nI (hI h0 (mC x.toNat) 4) j ∧ 0 ≤ fw h0 mI nI (hI h0 (mC x.toNat) 4) j ∧ fw h0 mI nI (hI h0 (mC x.toNat) 4) j ≤ 1000)) → wp DA (d + 7) 151 49 [some (vR (some 2)), some (vI x), some (vR (some (mC (x).toNat))), some (vI w25_5), some (vI i10)] [] h Q) w47_9 (by omega) (fun i10 hi10 hj10 ih10 h hh10 => ?_)) _ ⟨S, A, K, fun j hj => by rw [show j = 0 by omega]; exact ⟨z0, by show (0 : Int) ≤ 0; omega, by show (0 : Int) ≤ 1000; omega⟩⟩
      obtain ⟨S, A, K, H⟩ := hh10
      refine x_iload d151_49 rfl ?_
      refine x_iload_n d151_51 rfl ?_
      refine x_icgt (t := 78) d151_52 rfl (by omega) (fun c52_11 => ?_) (fun c52_11 => ?_)
      · refine x_aload_n d151_78 rfl ?_
        refine x_gfR d151_79 cl151 f11_74 (S.F.o rfl (by decide)) (V _ _ rfl) (S.F.r rfl) ?_
        refine x_iload_n d151_82 rfl ?_
        refine x_iaload d151_83 (S.F.o rfl (by decide)) ⟨by omega, by rw [(S.F.l (a := 66) (n := 100) (by decide) rfl)]; omega⟩ rfl ?_
        have hf9 := H p.toNat (by omega)
        have ew3 : (w25_5).toNat = p.toNat := by omega
        rw [ew3]
        refine x_sipush d151_84 (by decide) ?_
        refine x_icge (t := 99) d151_87 rfl (by omega) (fun c87_12 => ?_) (fun c87_12 => ?_)
        · refine x_iconst d151_99 ?_
          exact x_iret d151_100 rt151 (hQ _ _ (by exact ⟨by first | (rw [if_pos (by omega)]) | (rw [if_neg (by omega), if_neg (by omega)]) | (rw [if_neg (by omega), if_pos (by omega)]; omega), A, K⟩))
        · refine x_aload_n d151_90 rfl ?_
          refine x_gfR d151_91 cl151 f11_74 (S.F.o rfl (by decide)) (V _ _ rfl) (S.F.r rfl) ?_
          refine x_iload_n d151_94 rfl ?_
          refine x_iaload d151_95 (S.F.o rfl (by decide)) ⟨by omega, by rw [(S.F.l (a := 66) (n := 100) (by decide) rfl)]; omega⟩ rfl ?_
          have hf9 := H p.toNat (by omega)
          have ew3 : (w25_5).toNat = p.toNat := by omega
          rw [ew3]
          refine x_goto (t := 100) d151_96 rfl ?_
          exact x_iret d151_100 rt151 (hQ _ _ (by exact ⟨by first | (rw [if_pos (by omega)]) | (rw [if_neg (by omega), if_neg (by omega)]) | (rw [if_neg (by omega), if_pos (by omega)]; omega), A, K⟩))
      · refine x_aload_n d151_55 rfl ?_
        refine x_gfR d151_56 cl151 f11_74 (S.F.o rfl (by decide)) (V _ _ rfl) (S.F.r rfl) ?_
        refine x_iload d151_59 rfl ?_
        have iw : ∀ k, k < nI → 1 ≤ hI h (mI k) 0 := fun k hk => by rw [A.i (DV_ge (Ls.mem S.li k hk).g)]; exact iw0 k hk
        have R6 : ∀ j : Nat, (j : Int) < i10 → 0 ≤ hI h 66 j ∧ hI h 66 j ≤ 1000 := fun j hj => by have := H j hj; omega
        refine x_aload_n d151_61 rfl ?_
        refine x_iload d151_62 rfl ?_
        refine x_aload_n d151_64 rfl ?_
        refine x_gfI d151_65 cl151 f11_328 (by decide) (Cv.ob (Ls.mem S.lc (x).toNat (by omega))) (V.g (Cv.g (Ls.mem S.lc (x).toNat (by omega)))) ?_
        have g13 := (Cv.day (Ls.mem S.lc (x).toNat (by omega)))
        refine x_VE d151_68 cl151 m11_344 kd152 tg152 po152 le152 (by decide) (S.F.o rfl (by decide)) (C152s V S iw (fun _ _ => rfl) R6 (by omega) (by omega)) (fun v14 r14 z14 => ?_)
        try dsimp only at r14
        have hv : v14 = fw h0 mI nI (hI h0 (mC x.toNat) 4) (i10).toNat := by
          rw [r14.1, ffE_congr (g := h0) (G := fw h0 mI nI (hI h0 (mC x.toNat) 4)) nI (fun k hk => ⟨iw k hk, (A.i (DV_ge (Ls.mem S.li k hk).g)).symm, (A.i (DV_ge (Ls.mem S.li k hk).g)).symm, (A.i (DV_ge (Ls.mem S.li k hk).g)).symm⟩) (fun j hj => (H j hj).1)]
          have e := fw_s (y := hI h0 (mC x.toNat) 4) iw0 ((i10).toNat - 1)
          rw [show (i10).toNat - 1 + 1 = (i10).toNat by omega, show (((i10).toNat : Nat) : Int) = i10 by omega] at e
          rw [e, A.i (DV_ge (Ls.mem S.lc x.toNat (by omega)).g)]
        refine x_iastore d151_71 (by decide) (S.F.o rfl (by decide)) ⟨by omega, by rw [(S.F.l (a := 66) (n := 100) (by decide) rfl)]; omega⟩ rfl (x_wr (fun g => Hv g mP mC mI mD mB nP nC nI nD nB ∧ Agr DV h0 g ∧ CI g mB nB ∧ (∀ j : Nat, (j : Int) < i10 + 1 → hI g 66 j = fw h0 mI nI (hI h0 (mC x.toNat) 4) j ∧ 0 ≤ fw h0 mI nI (hI h0 (mC x.toNat) 4) j ∧ fw h0 mI nI (hI h0 (mC x.toNat) 4) j ≤ 1000)) ⟨Hv_r66 S, Agr_w A rfl, CI_w K m69 (by omega), fun j hj => by rw [hI_row]; by_cases e : j = (i10).toNat; (rw [if_pos e, e]; exact ⟨hv, by omega, by omega⟩); (rw [if_neg e]; exact H j (by omega))⟩ (fun h q15 => ?_))
        obtain ⟨S, A, K, H⟩ := q15
        refine x_iinc [some (vR _), some (vI _), some (vR _), some (vI _), some (vI _)] d151_72 rfl rfl ?_
        refine x_goto (t := 49) d151_75 rfl ?_
        exact ih10 (by omega) _ ⟨S, A, K, H⟩
    · exfalso; omega
