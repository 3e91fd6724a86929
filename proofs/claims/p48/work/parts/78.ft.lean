/-! ===== WHERE A PIECE FITS ===== -/
theorem Pc_r1 {h : Hp} {p j : Nat} {v : Int} (R : Pc h p) (hv : 0 ≤ v ∧ v ≤ 1023) : Pc (sI h (p + 1) j v) p := Pc.mk (h := sI h (p + 1) j v) (p := p) R.g R.n R.t R.t1 R.l1 R.r1 R.t2 R.l2 R.r2 R.t3 R.l3 R.r3 R.t4 R.l4 R.r4 R.t5 R.l5 R.r5 R.t6 R.l6 R.r6 (by rw [hI_ne (by omega)]; exact R.number) (by rw [hI_ne (by omega)]; exact R.wide) (by rw [hI_ne (by omega)]; exact R.high) (by rw [hI_ne (by omega)]; exact R.sheet) (by rw [hI_ne (by omega)]; exact R.isTop) (by rw [hI_ne (by omega)]; exact R.place) (by rw [hI_ne (by omega)]; exact R.plateWide) (by rw [hI_ne (by omega)]; exact R.isTruthTold) (by rw [hI_ne (by omega)]; exact R.hasShade) (by rw [hI_ne (by omega)]; exact R.light) (Rg_eq R.seen hv) (Rg_ne R.isClear (by omega)) (Rg_ne R.fits (by omega)) (Rg_ne R.gauges (by omega)) (Rg_ne R.marks (by omega)) (Rg_ne R.shade (by omega))
theorem Pc_r2 {h : Hp} {p j : Nat} {v : Int} (R : Pc h p) (hv : 0 ≤ v ∧ v ≤ 1) : Pc (sI h (p + 2) j v) p := Pc.mk (h := sI h (p + 2) j v) (p := p) R.g R.n R.t R.t1 R.l1 R.r1 R.t2 R.l2 R.r2 R.t3 R.l3 R.r3 R.t4 R.l4 R.r4 R.t5 R.l5 R.r5 R.t6 R.l6 R.r6 (by rw [hI_ne (by omega)]; exact R.number) (by rw [hI_ne (by omega)]; exact R.wide) (by rw [hI_ne (by omega)]; exact R.high) (by rw [hI_ne (by omega)]; exact R.sheet) (by rw [hI_ne (by omega)]; exact R.isTop) (by rw [hI_ne (by omega)]; exact R.place) (by rw [hI_ne (by omega)]; exact R.plateWide) (by rw [hI_ne (by omega)]; exact R.isTruthTold) (by rw [hI_ne (by omega)]; exact R.hasShade) (by rw [hI_ne (by omega)]; exact R.light) (Rg_ne R.seen (by omega)) (Rg_eq R.isClear hv) (Rg_ne R.fits (by omega)) (Rg_ne R.gauges (by omega)) (Rg_ne R.marks (by omega)) (Rg_ne R.shade (by omega))
theorem Pc_r3 {h : Hp} {p j : Nat} {v : Int} (R : Pc h p) (hv : 0 ≤ v ∧ v ≤ 16777215) : Pc (sI h (p + 3) j v) p := Pc.mk (h := sI h (p + 3) j v) (p := p) R.g R.n R.t R.t1 R.l1 R.r1 R.t2 R.l2 R.r2 R.t3 R.l3 R.r3 R.t4 R.l4 R.r4 R.t5 R.l5 R.r5 R.t6 R.l6 R.r6 (by rw [hI_ne (by omega)]; exact R.number) (by rw [hI_ne (by omega)]; exact R.wide) (by rw [hI_ne (by omega)]; exact R.high) (by rw [hI_ne (by omega)]; exact R.sheet) (by rw [hI_ne (by omega)]; exact R.isTop) (by rw [hI_ne (by omega)]; exact R.place) (by rw [hI_ne (by omega)]; exact R.plateWide) (by rw [hI_ne (by omega)]; exact R.isTruthTold) (by rw [hI_ne (by omega)]; exact R.hasShade) (by rw [hI_ne (by omega)]; exact R.light) (Rg_ne R.seen (by omega)) (Rg_ne R.isClear (by omega)) (Rg_eq R.fits hv) (Rg_ne R.gauges (by omega)) (Rg_ne R.marks (by omega)) (Rg_ne R.shade (by omega))
theorem Pc_f5 {h : Hp} {p : Nat} {v : Int} (R : Pc h p) (hv : 0 ≤ v ∧ v ≤ 2) : Pc (sI h p 5 v) p := Pc.mk (h := sI h p 5 v) (p := p) R.g R.n R.t R.t1 R.l1 R.r1 R.t2 R.l2 R.r2 R.t3 R.l3 R.r3 R.t4 R.l4 R.r4 R.t5 R.l5 R.r5 R.t6 R.l6 R.r6 (by rw [hI_nk (by decide)]; exact R.number) (by rw [hI_nk (by decide)]; exact R.wide) (by rw [hI_nk (by decide)]; exact R.high) (by rw [hI_nk (by decide)]; exact R.sheet) (by rw [hI_nk (by decide)]; exact R.isTop) (by rw [hI_eq]; exact hv) (by rw [hI_nk (by decide)]; exact R.plateWide) (by rw [hI_nk (by decide)]; exact R.isTruthTold) (by rw [hI_nk (by decide)]; exact R.hasShade) (by rw [hI_nk (by decide)]; exact R.light) (Rg_ne R.seen (by omega)) (Rg_ne R.isClear (by omega)) (Rg_ne R.fits (by omega)) (Rg_ne R.gauges (by omega)) (Rg_ne R.marks (by omega)) (Rg_ne R.shade (by omega))
theorem Pc_f9 {h : Hp} {p : Nat} {v : Int} (R : Pc h p) (hv : 0 ≤ v ∧ v ≤ 6) : Pc (sI h p 9 v) p := Pc.mk (h := sI h p 9 v) (p := p) R.g R.n R.t R.t1 R.l1 R.r1 R.t2 R.l2 R.r2 R.t3 R.l3 R.r3 R.t4 R.l4 R.r4 R.t5 R.l5 R.r5 R.t6 R.l6 R.r6 (by rw [hI_nk (by decide)]; exact R.number) (by rw [hI_nk (by decide)]; exact R.wide) (by rw [hI_nk (by decide)]; exact R.high) (by rw [hI_nk (by decide)]; exact R.sheet) (by rw [hI_nk (by decide)]; exact R.isTop) (by rw [hI_nk (by decide)]; exact R.place) (by rw [hI_eq]; exact hv) (by rw [hI_nk (by decide)]; exact R.isTruthTold) (by rw [hI_nk (by decide)]; exact R.hasShade) (by rw [hI_nk (by decide)]; exact R.light) (Rg_ne R.seen (by omega)) (Rg_ne R.isClear (by omega)) (Rg_ne R.fits (by omega)) (Rg_ne R.gauges (by omega)) (Rg_ne R.marks (by omega)) (Rg_ne R.shade (by omega))
theorem there_rng {W H x a b t : Int} (hW : 1 ≤ W ∧ W ≤ 6) (hH : 0 ≤ H ∧ H ≤ 4) (hx : 0 ≤ x) (h1 : x.tmod W + a ≤ W) (h2 : x.tdiv W + b ≤ H) (ha : 1 ≤ a ∧ a ≤ 3) (hb : 1 ≤ b ∧ b ≤ 3) (ht : 0 ≤ t ∧ t < a * b) : 0 ≤ x + t.tdiv a * W + t.tmod a ∧ x + t.tdiv a * W + t.tmod a < 24 := by
  rw [Int.tdiv_eq_ediv_of_nonneg ht.1, Int.tmod_eq_emod_of_nonneg ht.1]
  rw [Int.tmod_eq_emod_of_nonneg hx] at h1
  rw [Int.tdiv_eq_ediv_of_nonneg hx] at h2
  rcases (show a = 1 ∨ a = 2 ∨ a = 3 by omega) with e | e | e <;> subst e <;>
  rcases (show W = 1 ∨ W = 2 ∨ W = 3 ∨ W = 4 ∨ W = 5 ∨ W = 6 by omega) with e | e | e | e | e | e <;> subst e <;>
  rcases (show b = 1 ∨ b = 2 ∨ b = 3 by omega) with e | e | e <;> subst e <;> omega
/-- the same but for where p fits -/
def SF (p : Nat) (h g : Hp) : Prop := hN g = hN h ∧ hC g = hC h ∧ hS g = hS h ∧ hT g = hT h ∧ hL g = hL h ∧ hR g = hR h ∧ ∀ a j, ¬ ((a = p ∧ j = 9) ∨ a = p + 3) → hI g a j = hI h a j
theorem SF_r {p : Nat} {h : Hp} : SF p h h := ⟨rfl, rfl, rfl, rfl, rfl, rfl, fun _ _ _ => rfl⟩
theorem SF_w {p : Nat} {h g : Hp} {a k : Nat} {v : Int} (A : SF p h g) (w : (a = p ∧ k = 9) ∨ a = p + 3) : SF p h (sI g a k v) := by
  obtain ⟨a1, a2, a3, a4, a5, a6, a7⟩ := A
  refine ⟨a1, a2, a3, a4, a5, a6, fun b j q => ?_⟩
  rw [← a7 b j q, hI_sI, if_neg]
  rintro ⟨rfl, rfl⟩
  exact q w
/-- the same but for what is seen of p -/
def SN (p : Nat) (h g : Hp) : Prop := hN g = hN h ∧ hC g = hC h ∧ hS g = hS h ∧ hT g = hT h ∧ hL g = hL h ∧ hR g = hR h ∧ ∀ a j, ¬ (a = p + 1 ∨ a = p + 2) → hI g a j = hI h a j
theorem SN_r {p : Nat} {h : Hp} : SN p h h := ⟨rfl, rfl, rfl, rfl, rfl, rfl, fun _ _ _ => rfl⟩
theorem SN_w {p : Nat} {h g : Hp} {a k : Nat} {v : Int} (A : SN p h g) (w : a = p + 1 ∨ a = p + 2) : SN p h (sI g a k v) := by
  obtain ⟨a1, a2, a3, a4, a5, a6, a7⟩ := A
  refine ⟨a1, a2, a3, a4, a5, a6, fun b j q => ?_⟩
  rw [← a7 b j q, hI_sI, if_neg]
  rintro ⟨rfl, rfl⟩
  exact q w
theorem C19 {D : Nat → Nat → Bool} {d : Nat} {h : Hp} {x y : Int} {mP mC mI mD mB : Nat → Nat} {nP nC nI nD nB : Nat} (V : Vis D) (S : Hv h mP mC mI mD mB nP nC nI nD nB) {p : Nat} (P : Pc h p) (qx : 0 ≤ x ∧ x < 24) (qy : 0 ≤ y ∧ y < 8) : ∃ v : Int, (fun v : Int => v = 0 ∨ v = 1) v ∧ PV D (d + 3) 19 [vR (some p), vR (some 3), vI x, vI y] h (vI v) := by
  refine PE_of (fun Q hQ => ?_)
  refine x_ent en19 ?_
  have hw := P.wide
  have hh := P.high
  have hp0 := S.pl.1
  have hp1 := S.pl.2.1
  refine x_aload_n d19_0 rfl ?_
  refine x_iload_n d19_1 rfl ?_
  refine x_aload_n d19_2 rfl ?_
  refine x_gfI d19_3 cl19 f4_35 (by decide) (Pc.ob P) (V.g (Pc.g P)) ?_
  have g1 := (Pc.wide P)
  refine x_aload_n d19_6 rfl ?_
  refine x_gfI d19_7 cl19 f4_38 (by decide) (Pc.ob P) (V.g (Pc.g P)) ?_
  have g2 := (Pc.high P)
  refine x_VE d19_10 cl19 m4_75 kd34 tg34 po34 le34 (by decide) (S.F.o rfl (by decide)) (C34 V S (by omega) (by omega) (by omega)) (fun v3 r3 z3 => ?_)
  try dsimp only at r3
  refine x_ifeq (t := 31) d19_13 rfl (by omega) (fun c13_4 => ?_) (fun c13_4 => ?_)
  · refine x_iconst d19_31 ?_
    exact x_zret d19_32 rt19 (by omega) (hQ _ (by omega))
  · refine x_aload_n d19_16 rfl ?_
    refine x_gfI d19_17 cl19 f4_44 (by decide) (Pc.ob P) (V.g (Pc.g P)) ?_
    have g5 := (Pc.isTop P)
    refine x_ifeq (t := 33) d19_20 rfl (by omega) (fun c20_6 => ?_) (fun c20_6 => ?_)
    · obtain ⟨t1, t2, t3, t4, t5⟩ := r3.2 (by omega)
      refine x_iconst d19_33 ?_
      refine x_nm (fun w34_7 ew34_7 => ?_)
      refine x_istore [some (vR _), some (vR _), some (vI _), some (vI _), some (vI _), none, none] d19_34 rfl ?_
      refine (x_ub (N := 9) (P := fun i8 => ∀ t8_5 : Option XV, ∀ t8_6 : Option XV, wp D (d + 3) 19 36 [some (vR (some p)), some (vR (some 3)), some (vI x), some (vI y), some (vI i8), t8_5, t8_6] [] h Q) w34_7 (by omega) (fun i8 hi8 hj8 ih8 t8_5 t8_6 => ?_)) _ _
      refine x_iload d19_36 rfl ?_
      refine x_aload_n d19_38 rfl ?_
      refine x_VE d19_39 cl19 m4_54 kd20 tg20 po20 le20 (by have := Pc.g P; omega) (Pc.ob P) (C20 P V) (fun v9 r9 z9 => ?_)
      try dsimp only at r9
      refine x_icge (t := 123) d19_42 rfl (by omega) (fun c42_10 => ?_) (fun c42_10 => ?_)
      · refine x_iconst d19_123 ?_
        exact x_zret d19_124 rt19 (by omega) (hQ _ (by omega))
      · refine x_iload_n d19_45 rfl ?_
        refine x_iload d19_46 rfl ?_
        refine x_aload_n d19_48 rfl ?_
        refine x_gfI d19_49 cl19 f4_35 (by decide) (Pc.ob P) (V.g (Pc.g P)) ?_
        have g11 := (Pc.wide P)
        refine x_idiv d19_52 (by omega) ?_
        refine x_aload_n d19_53 rfl ?_
        refine x_gfI d19_54 cl19 f4_58 (by decide) (S.F.o rfl (by decide)) (V _ _ rfl) ?_
        have g12 := S.pl.1
        refine x_imul d19_57 ?_
        refine x_iadd d19_58 ?_
        refine x_iload d19_59 rfl ?_
        refine x_aload_n d19_61 rfl ?_
        refine x_gfI d19_62 cl19 f4_35 (by decide) (Pc.ob P) (V.g (Pc.g P)) ?_
        have g13 := (Pc.wide P)
        refine x_irem d19_65 (by omega) ?_
        refine x_iadd d19_66 ?_
        refine x_nm (fun w67_14 ew67_14 => ?_)
        refine x_istore [some (vR _), some (vR _), some (vI _), some (vI _), some (vI _), some (vI _), _] d19_67 rfl ?_
        have ht9 := there_rng (W := hI h 3 0) (H := hI h 3 1) (x := x) (a := hI h p 1) (b := hI h p 2) (t := i8) (by omega) (by omega) (by omega) t4 t5 (by omega) (by omega) (by omega)
        have hw9 : 0 ≤ w67_14 ∧ w67_14 < 24 := by rw [ew67_14]; exact ht9
        refine x_aload_n d19_69 rfl ?_
        refine x_iload d19_70 rfl ?_
        refine x_iload_n d19_72 rfl ?_
        refine x_VE d19_73 cl19 m4_61 kd36 tg36 po36 le36 (by decide) (S.F.o rfl (by decide)) (C36 V S (by omega) (by omega)) (fun v15 r15 z15 => ?_)
        try dsimp only at r15
        refine x_nm (fun w76_16 ew76_16 => ?_)
        refine x_istore [some (vR _), some (vR _), some (vI _), some (vI _), some (vI _), some (vI _), some (vI _)] d19_76 rfl ?_
        refine x_aload_n d19_78 rfl ?_
        refine x_gfR d19_79 cl19 f4_9 (Pc.ob P) (V.g (Pc.g P)) (Pc.r1 P) ?_
        refine x_iload d19_82 rfl ?_
        refine x_iaload d19_84 (Pc.o1 P) ⟨by omega, by rw [(Pc.l1 P)]; omega⟩ (V.g (by have := Pc.g P; omega)) ?_
        refine x_nm (fun a17 e17 => ?_)
        have b17 : 0 ≤ a17 ∧ a17 ≤ 1023 := by rw [e17]; exact (Pc.seen P _)
        refine x_iload d19_85 rfl ?_
        refine x_iconst d19_87 ?_
        refine x_ixorq d19_88 (fun q18 => ?_)
        refine x_iandq d19_89 (fun q19 => ?_)
        refine x_ifne (t := 115) d19_90 rfl (by omega) (fun c90_20 => ?_) (fun c90_20 => ?_)
        · refine x_iconst d19_115 ?_
          exact x_zret d19_116 rt19 (by omega) (hQ _ (by omega))
        · refine x_aload_n d19_93 rfl ?_
          refine x_gfR d19_94 cl19 f4_15 (Pc.ob P) (V.g (Pc.g P)) (Pc.r2 P) ?_
          refine x_iload d19_97 rfl ?_
          refine x_baload d19_99 (Pc.o2 P) ⟨by omega, by rw [(Pc.l2 P)]; omega⟩ (V.g (by have := Pc.g P; omega)) ?_
          refine x_nm (fun a21 e21 => ?_)
          have b21 : 0 ≤ a21 ∧ a21 ≤ 1 := by rw [e21]; exact (Pc.isClear P _)
          refine x_ifeq (t := 117) d19_100 rfl (by omega) (fun c100_22 => ?_) (fun c100_22 => ?_)
          · refine x_iinc [some (vR _), some (vR _), some (vI _), some (vI _), some (vI _), some (vI _), some (vI _)] d19_117 rfl rfl ?_
            refine x_goto (t := 36) d19_120 rfl ?_
            exact ih8 (by omega) _ _
          · refine x_aload_n d19_103 rfl ?_
            refine x_gfR d19_104 cl19 f4_9 (Pc.ob P) (V.g (Pc.g P)) (Pc.r1 P) ?_
            refine x_iload d19_107 rfl ?_
            refine x_iaload d19_109 (Pc.o1 P) ⟨by omega, by rw [(Pc.l1 P)]; omega⟩ (V.g (by have := Pc.g P; omega)) ?_
            refine x_nm (fun a23 e23 => ?_)
            have b23 : 0 ≤ a23 ∧ a23 ≤ 1023 := by rw [e23]; exact (Pc.seen P _)
            refine x_iload d19_110 rfl ?_
            refine x_iceq (t := 117) d19_112 rfl (by omega) (fun c112_24 => ?_) (fun c112_24 => ?_)
            · refine x_iinc [some (vR _), some (vR _), some (vI _), some (vI _), some (vI _), some (vI _), some (vI _)] d19_117 rfl rfl ?_
              refine x_goto (t := 36) d19_120 rfl ?_
              exact ih8 (by omega) _ _
            · refine x_iconst d19_115 ?_
              exact x_zret d19_116 rt19 (by omega) (hQ _ (by omega))
    · refine x_iload_n d19_23 rfl ?_
      refine x_aload_n d19_24 rfl ?_
      refine x_gfI d19_25 cl19 f4_58 (by decide) (S.F.o rfl (by decide)) (V _ _ rfl) ?_
      have g25 := S.pl.1
      refine x_iclt (t := 33) d19_28 rfl (by omega) (fun c28_26 => ?_) (fun c28_26 => ?_)
      · obtain ⟨t1, t2, t3, t4, t5⟩ := r3.2 (by omega)
        refine x_iconst d19_33 ?_
        refine x_nm (fun w34_27 ew34_27 => ?_)
        refine x_istore [some (vR _), some (vR _), some (vI _), some (vI _), some (vI _), none, none] d19_34 rfl ?_
        refine (x_ub (N := 9) (P := fun i28 => ∀ t28_5 : Option XV, ∀ t28_6 : Option XV, wp D (d + 3) 19 36 [some (vR (some p)), some (vR (some 3)), some (vI x), some (vI y), some (vI i28), t28_5, t28_6] [] h Q) w34_27 (by omega) (fun i28 hi28 hj28 ih28 t28_5 t28_6 => ?_)) _ _
        refine x_iload d19_36 rfl ?_
        refine x_aload_n d19_38 rfl ?_
        refine x_VE d19_39 cl19 m4_54 kd20 tg20 po20 le20 (by have := Pc.g P; omega) (Pc.ob P) (C20 P V) (fun v29 r29 z29 => ?_)
        try dsimp only at r29
        refine x_icge (t := 123) d19_42 rfl (by omega) (fun c42_30 => ?_) (fun c42_30 => ?_)
        · refine x_iconst d19_123 ?_
          exact x_zret d19_124 rt19 (by omega) (hQ _ (by omega))
        · refine x_iload_n d19_45 rfl ?_
          refine x_iload d19_46 rfl ?_
          refine x_aload_n d19_48 rfl ?_
          refine x_gfI d19_49 cl19 f4_35 (by decide) (Pc.ob P) (V.g (Pc.g P)) ?_
          have g31 := (Pc.wide P)
          refine x_idiv d19_52 (by omega) ?_
          refine x_aload_n d19_53 rfl ?_
          refine x_gfI d19_54 cl19 f4_58 (by decide) (S.F.o rfl (by decide)) (V _ _ rfl) ?_
          have g32 := S.pl.1
          refine x_imul d19_57 ?_
          refine x_iadd d19_58 ?_
          refine x_iload d19_59 rfl ?_
          refine x_aload_n d19_61 rfl ?_
          refine x_gfI d19_62 cl19 f4_35 (by decide) (Pc.ob P) (V.g (Pc.g P)) ?_
          have g33 := (Pc.wide P)
          refine x_irem d19_65 (by omega) ?_
          refine x_iadd d19_66 ?_
          refine x_nm (fun w67_34 ew67_34 => ?_)
          refine x_istore [some (vR _), some (vR _), some (vI _), some (vI _), some (vI _), some (vI _), _] d19_67 rfl ?_
          have ht9 := there_rng (W := hI h 3 0) (H := hI h 3 1) (x := x) (a := hI h p 1) (b := hI h p 2) (t := i28) (by omega) (by omega) (by omega) t4 t5 (by omega) (by omega) (by omega)
          have hw9 : 0 ≤ w67_34 ∧ w67_34 < 24 := by rw [ew67_34]; exact ht9
          refine x_aload_n d19_69 rfl ?_
          refine x_iload d19_70 rfl ?_
          refine x_iload_n d19_72 rfl ?_
          refine x_VE d19_73 cl19 m4_61 kd36 tg36 po36 le36 (by decide) (S.F.o rfl (by decide)) (C36 V S (by omega) (by omega)) (fun v35 r35 z35 => ?_)
          try dsimp only at r35
          refine x_nm (fun w76_36 ew76_36 => ?_)
          refine x_istore [some (vR _), some (vR _), some (vI _), some (vI _), some (vI _), some (vI _), some (vI _)] d19_76 rfl ?_
          refine x_aload_n d19_78 rfl ?_
          refine x_gfR d19_79 cl19 f4_9 (Pc.ob P) (V.g (Pc.g P)) (Pc.r1 P) ?_
          refine x_iload d19_82 rfl ?_
          refine x_iaload d19_84 (Pc.o1 P) ⟨by omega, by rw [(Pc.l1 P)]; omega⟩ (V.g (by have := Pc.g P; omega)) ?_
          refine x_nm (fun a37 e37 => ?_)
          have b37 : 0 ≤ a37 ∧ a37 ≤ 1023 := by rw [e37]; exact (Pc.seen P _)
          refine x_iload d19_85 rfl ?_
          refine x_iconst d19_87 ?_
          refine x_ixorq d19_88 (fun q38 => ?_)
          refine x_iandq d19_89 (fun q39 => ?_)
          refine x_ifne (t := 115) d19_90 rfl (by omega) (fun c90_40 => ?_) (fun c90_40 => ?_)
          · refine x_iconst d19_115 ?_
            exact x_zret d19_116 rt19 (by omega) (hQ _ (by omega))
          · refine x_aload_n d19_93 rfl ?_
            refine x_gfR d19_94 cl19 f4_15 (Pc.ob P) (V.g (Pc.g P)) (Pc.r2 P) ?_
            refine x_iload d19_97 rfl ?_
            refine x_baload d19_99 (Pc.o2 P) ⟨by omega, by rw [(Pc.l2 P)]; omega⟩ (V.g (by have := Pc.g P; omega)) ?_
            refine x_nm (fun a41 e41 => ?_)
            have b41 : 0 ≤ a41 ∧ a41 ≤ 1 := by rw [e41]; exact (Pc.isClear P _)
            refine x_ifeq (t := 117) d19_100 rfl (by omega) (fun c100_42 => ?_) (fun c100_42 => ?_)
            · refine x_iinc [some (vR _), some (vR _), some (vI _), some (vI _), some (vI _), some (vI _), some (vI _)] d19_117 rfl rfl ?_
              refine x_goto (t := 36) d19_120 rfl ?_
              exact ih28 (by omega) _ _
            · refine x_aload_n d19_103 rfl ?_
              refine x_gfR d19_104 cl19 f4_9 (Pc.ob P) (V.g (Pc.g P)) (Pc.r1 P) ?_
              refine x_iload d19_107 rfl ?_
              refine x_iaload d19_109 (Pc.o1 P) ⟨by omega, by rw [(Pc.l1 P)]; omega⟩ (V.g (by have := Pc.g P; omega)) ?_
              refine x_nm (fun a43 e43 => ?_)
              have b43 : 0 ≤ a43 ∧ a43 ≤ 1023 := by rw [e43]; exact (Pc.seen P _)
              refine x_iload d19_110 rfl ?_
              refine x_iceq (t := 117) d19_112 rfl (by omega) (fun c112_44 => ?_) (fun c112_44 => ?_)
              · refine x_iinc [some (vR _), some (vR _), some (vI _), some (vI _), some (vI _), some (vI _), some (vI _)] d19_117 rfl rfl ?_
                refine x_goto (t := 36) d19_120 rfl ?_
                exact ih28 (by omega) _ _
              · refine x_iconst d19_115 ?_
                exact x_zret d19_116 rt19 (by omega) (hQ _ (by omega))
      · refine x_iconst d19_31 ?_
        exact x_zret d19_32 rt19 (by omega) (hQ _ (by omega))
theorem C18 {d : Nat} {h : Hp} {mP mC mI mD mB : Nat → Nat} {nP nC nI nD nB : Nat} (S : Hv h mP mC mI mD mB nP nC nI nD nB) {p : Nat} (P : Pc h p) : PU DA (d + 4) 18 [vR (some p), vR (some 3)] h (fun g => Hv g mP mC mI mD mB nP nC nI nD nB ∧ SF p h g ∧ Pc g p) := by
  refine PU_of (fun Q hQ => ?_)
  have V := Vis_DA
  obtain ⟨h0, e0⟩ : ∃ h0, h0 = h := ⟨_, rfl⟩
  have A : SF p h0 h := e0 ▸ SF_r
  refine x_ent en18 ?_
  refine x_aload_n d18_0 rfl ?_
  refine x_aload_n d18_1 rfl ?_
  refine x_gfI d18_2 cl18 f4_58 (by decide) (S.F.o rfl (by decide)) rfl ?_
  have g1 := S.pl.1
  refine x_pfI d18_5 cl18 f4_65 (Pc.ob P) (V.g (Pc.g P)) (fun q => by cases q) (x_wr (fun g => Hv g mP mC mI mD mB nP nC nI nD nB ∧ SF p h0 g ∧ Pc g p) ⟨Hv_pf9 S P (by omega), SF_w A (Or.inl ⟨rfl, rfl⟩), Pc_f9 P (by omega)⟩ (fun h q2 => ?_))
  obtain ⟨S, A, P⟩ := q2
  refine x_iconst d18_8 ?_
  refine x_nm (fun w9_3 ew9_3 => ?_)
  refine x_istore_n [some (vR _), some (vR _), some (vI _), none, none] d18_9 rfl ?_
  refine (x_ub (N := 8) (P := fun i4 => ∀ h : Hp, (Hv h mP mC mI mD mB nP nC nI nD nB ∧ SF p h0 h ∧ Pc h p) → ∀ t4_3 : Option XV, ∀ t4_4 : Option XV, wp DA (d + 4) 18 10 [some (vR (some p)), some (vR (some 3)), some (vI i4), t4_3, t4_4] [] h Q) w9_3 (by omega) (fun i4 hi4 hj4 ih4 h hh4 t4_3 t4_4 => ?_)) _ ⟨S, A, P⟩ _ _
  obtain ⟨S, A, P⟩ := hh4
  refine x_iload_n d18_10 rfl ?_
  refine x_bipush d18_11 (by decide) ?_
  refine x_icge (t := 67) d18_13 rfl (by omega) (fun c13_5 => ?_) (fun c13_5 => ?_)
  · exact x_ret d18_67 rt18 (hQ _ (by rw [← e0]; exact ⟨S, A, P⟩))
  · refine x_iconst d18_16 ?_
    refine x_nm (fun w17_6 ew17_6 => ?_)
    refine x_istore_n [some (vR _), some (vR _), some (vI _), some (vI _), _] d18_17 rfl ?_
    refine x_iconst d18_18 ?_
    refine x_nm (fun w19_7 ew19_7 => ?_)
    refine x_istore [some (vR _), some (vR _), some (vI _), some (vI _), some (vI _)] d18_19 rfl ?_
    refine (x_ub (N := 24) (P := fun i8 => ∀ s8_3 : Int, (0 ≤ s8_3 ∧ s8_3 ≤ 16777215) → wp DA (d + 4) 18 21 [some (vR (some p)), some (vR (some 3)), some (vI i4), some (vI s8_3), some (vI i8)] [] h Q) w19_7 (by omega) (fun i8 hi8 hj8 ih8 s8_3 hs8_3 => ?_)) _ (by omega)
    refine x_iload d18_21 rfl ?_
    refine x_aload_n d18_23 rfl ?_
    refine x_VE d18_24 cl18 m4_68 kd30 tg30 po30 le30 (by decide) (S.F.o rfl (by decide)) (C30 V S) (fun v9 r9 z9 => ?_)
    try dsimp only at r9
    refine x_icge (t := 54) d18_27 rfl (by omega) (fun c27_10 => ?_) (fun c27_10 => ?_)
    · refine x_aload_n d18_54 rfl ?_
      refine x_gfR d18_55 cl18 f4_19 (Pc.ob P) (V.g (Pc.g P)) (Pc.r3 P) ?_
      refine x_iload_n d18_58 rfl ?_
      refine x_iload_n d18_59 rfl ?_
      refine x_iastore d18_60 (by have := Pc.g P; omega) (Pc.o3 P) ⟨by omega, by rw [(Pc.l3 P)]; omega⟩ (V.g (by have := Pc.g P; omega)) (x_wr (fun g => Hv g mP mC mI mD mB nP nC nI nD nB ∧ SF p h0 g ∧ Pc g p) ⟨Hv_pr3 S P (by omega), SF_w A (Or.inr rfl), Pc_r3 P (by omega)⟩ (fun h q11 => ?_))
      obtain ⟨S, A, P⟩ := q11
      refine x_iinc [some (vR _), some (vR _), some (vI _), some (vI _), some (vI _)] d18_61 rfl rfl ?_
      refine x_goto (t := 10) d18_64 rfl ?_
      exact ih4 (by omega) _ ⟨S, A, P⟩ _ _
    · refine x_aload_n d18_30 rfl ?_
      refine x_aload_n d18_31 rfl ?_
      refine x_iload d18_32 rfl ?_
      refine x_iload_n d18_34 rfl ?_
      refine x_VE d18_35 cl18 m4_71 kd19 tg19 po19 le19 (by have := Pc.g P; omega) (Pc.ob P) (C19 V S P (by omega) (by omega)) (fun v12 r12 z12 => ?_)
      try dsimp only at r12
      refine x_ifeq (t := 48) d18_38 rfl (by omega) (fun c38_13 => ?_) (fun c38_13 => ?_)
      · refine x_iinc [some (vR _), some (vR _), some (vI _), some (vI _), some (vI _)] d18_48 rfl rfl ?_
        refine x_goto (t := 21) d18_51 rfl ?_
        exact ih8 (by omega) _ (by omega)
      · refine x_iload_n d18_41 rfl ?_
        refine x_iconst d18_42 ?_
        refine x_iload d18_43 rfl ?_
        refine x_ishlq d18_45 (fun q14 => ?_)
        refine x_iorq d18_46 (fun q15 => ?_)
        refine x_nm (fun w47_16 ew47_16 => ?_)
        refine x_istore_n [some (vR _), some (vR _), some (vI _), some (vI _), some (vI _)] d18_47 rfl ?_
        have hw8 : 0 ≤ w47_16 ∧ w47_16 ≤ 16777215 := by rw [ew47_16]; exact or_rng (by omega) (shl_rng (by omega))
        refine x_iinc [some (vR _), some (vR _), some (vI _), some (vI _), some (vI _)] d18_48 rfl rfl ?_
        refine x_goto (t := 21) d18_51 rfl ?_
        exact ih8 (by omega) _ (by omega)
theorem C21 {d : Nat} {h : Hp} {x y W H a b : Int} {mP mC mI mD mB : Nat → Nat} {nP nC nI nD nB : Nat} (K : IV h mP mC mI mD mB nP nC nI nD nB) {p : Nat} (P : Pc h p) (qx : 0 ≤ x ∧ x < 24) (qy : 0 ≤ y ∧ y < 8) (hpw : hI h 3 0 = W ∧ hI h 3 1 = H ∧ hI h p 1 = a ∧ hI h p 2 = b) (t1 : 1 ≤ W) (t4 : x.tmod W + a ≤ W) (t5 : x.tdiv W + b ≤ H) : PU DA (d + 2) 21 [vR (some p), vR (some 3), vI x, vI y] h (fun g => IV g mP mC mI mD mB nP nC nI nD nB ∧ SN p h g ∧ Pc g p) := by
  refine PU_of (fun Q hQ => ?_)
  have V := Vis_DA
  obtain ⟨S, X⟩ := K
  obtain ⟨h0, e0⟩ : ∃ h0, h0 = h := ⟨_, rfl⟩
  have A : SN p h0 h := e0 ▸ SN_r
  have hw := P.wide
  refine x_ent en21 ?_
  refine x_iconst d21_0 ?_
  refine x_nm (fun w1_1 ew1_1 => ?_)
  refine x_istore [some (vR _), some (vR _), some (vI _), some (vI _), some (vI _), none] d21_1 rfl ?_
  refine (x_ub (N := 9) (P := fun i2 => ∀ h : Hp, (IV h mP mC mI mD mB nP nC nI nD nB ∧ SN p h0 h ∧ Pc h p ∧ hI h 3 0 = W ∧ hI h 3 1 = H ∧ hI h p 1 = a ∧ hI h p 2 = b) → ∀ t2_5 : Option XV, wp DA (d + 2) 21 3 [some (vR (some p)), some (vR (some 3)), some (vI x), some (vI y), some (vI i2), t2_5] [] h Q) w1_1 (by omega) (fun i2 hi2 hj2 ih2 h hh2 t2_5 => ?_)) _ ⟨⟨S, X⟩, A, P, hpw⟩ _
  obtain ⟨⟨S, X⟩, A, P, hpw⟩ := hh2
  refine x_iload d21_3 rfl ?_
  refine x_aload_n d21_5 rfl ?_
  refine x_VE d21_6 cl21 m4_54 kd20 tg20 po20 le20 (by have := Pc.g P; omega) (Pc.ob P) (C20 P V) (fun v3 r3 z3 => ?_)
  try dsimp only at r3
  refine x_icge (t := 64) d21_9 rfl (by omega) (fun c9_4 => ?_) (fun c9_4 => ?_)
  · exact x_ret d21_64 rt21 (hQ _ (by rw [← e0]; exact ⟨⟨S, X⟩, A, P⟩))
  · refine x_iload_n d21_12 rfl ?_
    refine x_iload d21_13 rfl ?_
    refine x_aload_n d21_15 rfl ?_
    refine x_gfI d21_16 cl21 f4_35 (by decide) (Pc.ob P) (V.g (Pc.g P)) ?_
    have g5 := (Pc.wide P)
    refine x_idiv d21_19 (by omega) ?_
    refine x_aload_n d21_20 rfl ?_
    refine x_gfI d21_21 cl21 f4_58 (by decide) (S.F.o rfl (by decide)) rfl ?_
    have g6 := S.pl.1
    refine x_imul d21_24 ?_
    refine x_iadd d21_25 ?_
    refine x_iload d21_26 rfl ?_
    refine x_aload_n d21_28 rfl ?_
    refine x_gfI d21_29 cl21 f4_35 (by decide) (Pc.ob P) (V.g (Pc.g P)) ?_
    have g7 := (Pc.wide P)
    refine x_irem d21_32 (by omega) ?_
    refine x_iadd d21_33 ?_
    refine x_nm (fun w34_8 ew34_8 => ?_)
    refine x_istore [some (vR _), some (vR _), some (vI _), some (vI _), some (vI _), some (vI _)] d21_34 rfl ?_
    have f1 : hI h 3 0 = W := hpw.1
    have f2 : hI h 3 1 = H := hpw.2.1
    have f3 : hI h p 1 = a := hpw.2.2.1
    have f4 : hI h p 2 = b := hpw.2.2.2
    have hw := P.wide
    have hh := P.high
    have hp0 := S.pl.1
    have hp1 := S.pl.2.1
    have ht9 := there_rng (W := W) (H := H) (x := x) (a := a) (b := b) (t := i2) (by omega) (by omega) (by omega) t4 t5 (by omega) (by omega) (by rw [← f3, ← f4]; omega)
    have hw9 : 0 ≤ w34_8 ∧ w34_8 < 24 := by rw [ew34_8, f1, f3]; exact ht9
    refine x_aload_n d21_36 rfl ?_
    refine x_gfR d21_37 cl21 f4_9 (Pc.ob P) (V.g (Pc.g P)) (Pc.r1 P) ?_
    refine x_iload d21_40 rfl ?_
    refine x_aload_n d21_42 rfl ?_
    refine x_iload d21_43 rfl ?_
    refine x_iload_n d21_45 rfl ?_
    refine x_VE d21_46 cl21 m4_61 kd36 tg36 po36 le36 (by decide) (S.F.o rfl (by decide)) (C36 V S (by omega) (by omega)) (fun v9 r9 z9 => ?_)
    try dsimp only at r9
    refine x_iastore d21_49 (by have := Pc.g P; omega) (Pc.o1 P) ⟨by omega, by rw [(Pc.l1 P)]; omega⟩ (V.g (by have := Pc.g P; omega)) (x_wr (fun g => IV g mP mC mI mD mB nP nC nI nD nB ∧ SN p h0 g ∧ Pc g p ∧ hI g 3 0 = W ∧ hI g 3 1 = H ∧ hI g p 1 = a ∧ hI g p 2 = b) ⟨⟨Hv_pr1 S P (by omega), EX_p (m := 1) S X P (by decide) (Or.inl (by decide))⟩, SN_w A (by omega), Pc_r1 P (by omega), by rw [hI_ne (by have := P.g; omega)]; exact hpw.1, by rw [hI_ne (by have := P.g; omega)]; exact hpw.2.1, by rw [hI_ne (by omega)]; exact hpw.2.2.1, by rw [hI_ne (by omega)]; exact hpw.2.2.2⟩ (fun h q10 => ?_))
    obtain ⟨⟨S, X⟩, A, P, hpw⟩ := q10
    refine x_aload_n d21_50 rfl ?_
    refine x_gfR d21_51 cl21 f4_15 (Pc.ob P) (V.g (Pc.g P)) (Pc.r2 P) ?_
    refine x_iload d21_54 rfl ?_
    refine x_iconst d21_56 ?_
    refine x_bastore d21_57 (by have := Pc.g P; omega) (Pc.o2 P) ⟨by omega, by rw [(Pc.l2 P)]; omega⟩ (V.g (by have := Pc.g P; omega)) (by omega) (x_wr (fun g => IV g mP mC mI mD mB nP nC nI nD nB ∧ SN p h0 g ∧ Pc g p ∧ hI g 3 0 = W ∧ hI g 3 1 = H ∧ hI g p 1 = a ∧ hI g p 2 = b) ⟨⟨Hv_pr2 S P (by omega), EX_p (m := 2) S X P (by decide) (Or.inl (by decide))⟩, SN_w A (by omega), Pc_r2 P (by omega), by rw [hI_ne (by have := P.g; omega)]; exact hpw.1, by rw [hI_ne (by have := P.g; omega)]; exact hpw.2.1, by rw [hI_ne (by omega)]; exact hpw.2.2.1, by rw [hI_ne (by omega)]; exact hpw.2.2.2⟩ (fun h q11 => ?_))
    obtain ⟨⟨S, X⟩, A, P, hpw⟩ := q11
    refine x_iinc [some (vR _), some (vR _), some (vI _), some (vI _), some (vI _), some (vI _)] d21_58 rfl rfl ?_
    refine x_goto (t := 3) d21_61 rfl ?_
    exact ih2 (by omega) _ ⟨⟨S, X⟩, A, P, hpw⟩ _
