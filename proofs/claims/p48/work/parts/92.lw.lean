/-! ===== THE LAW ===== -/
theorem IV_agr {h g : Hp} {mP mC mI mD mB : Nat → Nat} {nP nC nI nD nB : Nat} (A : Agr DV h g) (K : IV h mP mC mI mD mB nP nC nI nD nB) (C : CI g mB nB) : IV g mP mC mI mD mB nP nC nI nD nB := by
  obtain ⟨S, ⟨x1, x2, x3, x4⟩, -, x6⟩ := K
  have lo : ∀ s, s < 6 → ∀ j, hI g (7 + 5 * s) j = hI h (7 + 5 * s) j ∧ hI g (7 + 5 * s + 2) j = hI h (7 + 5 * s + 2) j := fun s hs j => ⟨A.i (DV_lt (by omega)), A.i (DV_lt (by omega))⟩
  have hp : ∀ k, k < nP → ∀ j, hI g (mP k) j = hI h (mP k) j := fun k hk j => A.i (DV_ge (Ls.mem S.lp k hk).g)
  have b : ∀ k, k < nP → (hI h (mP k) 3).toNat < 6 := fun k hk => by have := (Ls.mem S.lp k hk).sheet; omega
  have rr : ∀ l, isLs l → hR g l 1 = hR h l 1 := fun l q => A.r (by rcases q with q | q | q | q | q <;> subst q <;> rfl)
  have eL : hL g = hL h := A.2.2.2.2.1.symm
  have eT : hT g = hT h := A.2.2.2.1.symm
  refine ⟨Hv_agr A S, ⟨fun k hk => by rw [A.i (DV_ge (Ls.mem S.li k hk).g)]; exact x1 k hk, Mb_eq (h := h) (fun s hs q => A.r (DV_lt (by omega))) (fun s hs => (lo s hs 1).1) (fun k hk => ⟨hp k hk 3, hp k hk 5⟩) b x2, Si_eq (h := h) lo (fun k hk => ⟨hp k hk 3, hp k hk 5, fun j => A.i (DV_ge (by have := (Ls.mem S.lp k hk).g; omega))⟩) b x3, ?_⟩, C, ?_⟩
  · obtain ⟨d0, d1, d2⟩ := x4
    exact ⟨B1_t (by rw [eL]) (by rw [eT]) (by rw [eL]) d0, fun l e q w => by rw [rr l q] at w; rw [eL]; exact d1 l e q w, fun l l' e q q' nn w w' => by rw [rr l q] at w; rw [rr l' q'] at w'; exact d2 l l' e q q' nn w w'⟩
  · unfold TC at x6 ⊢
    rw [A.i (a := 63) (j := 0) rfl, tcS_eq (fun j => A.i (a := 64) rfl)]; exact x6
/-- asking: all is well, and the house stays -/
theorem C178w {d : Nat} {h : Hp} {mP mC mI mD mB : Nat → Nat} {nP nC nI nD nB : Nat} (K : IV h mP mC mI mD mB nP nC nI nD nB) : PW DA (d + 12) 178 [vR (some 2)] h (fun w g => ∃ v : Int, w = vI v ∧ v = 1 ∧ IV g mP mC mI mD mB nP nC nI nD nB ∧ hC g = hC h ∧ hS g = hS h) := by
  obtain ⟨v, e, W⟩ := C178 (d := d) K.1 K.2.1.1 K.2.1.2.2.1 K.2.2.1 K.2.1.2.1.2.2
  refine wp_mono (W h Agr_refl K.2.2.1) (fun r k => ?_)
  exact ⟨_, k.1, v, rfl, e, IV_agr k.2.1 K k.2.2, k.2.1.2.1.symm, k.2.1.2.2.1.symm⟩
theorem Bd_0 {L : Nat} {xs : Nat → Int32} : Bd 2 0 L (hp0 L xs) :=
  ⟨rfl, fun a _ _ q1 q2 => by omega, fun i _ _ _ q => absurd q (Nat.not_lt_zero i), fun a _ _ _ q1 q2 => by omega, fun a _ q1 q2 => by omega, ⟨rfl, rfl, rfl, rfl, fun _ => rfl⟩, rfl, Nat.zero_le _⟩
/-- the house in the law's turns -/
def LW (i : Int) (h : Hp) : Prop := ∃ (mP mC mI mD mB : Nat → Nat) (nP nC nI nD nB : Nat), IV h mP mC mI mD mB nP nC nI nD nB ∧ (hC h : Int) ≤ 200 + 60 * i ∧ (hS h : Int) ≤ 400000 + 800 * i
theorem IV_1 {h : Hp} {mP mC mI mD mB : Nat → Nat} {nP nC nI nD nB : Nat} (K : IV h mP mC mI mD mB nP nC nI nD nB) : Ob h 1 100 ∧ hL h 1 ≤ 260 := ⟨⟨by have := K.1.F.1; omega, K.2.1.2.2.2.1.2.1⟩, K.2.1.2.2.2.1.2.2⟩
theorem Hu_1 {r : Int} {h : Hp} (S : Hu r h) : Ob h 1 100 ∧ hL h 1 ≤ 260 := ⟨⟨by have := S.1.1; omega, S.2.2.2.1.2.2.2.1⟩, S.2.2.2.1.2.2.2.2⟩
theorem C193 {d L : Nat} {xs : Nat → Int32} (hL : L ≤ 260) : PW DA (d + 29) 193 [vR (some 1)] (hp0 L xs) (fun w g => ∃ v : Int, w = vI v ∧ v = 1 ∧ hC g ≤ 600086 ∧ hS g ≤ 7301442) := by
  refine PW_of (fun Q hQ => ?_)
  have V := Vis_DA
  refine x_ent en193 ?_
  refine x_new d193_0 cl193 nw13_9 (x_wrR (fun g r => r = 2 ∧ Bd 3 0 L g) ⟨rfl, Bd_a Bd_0 rfl (by decide)⟩ (fun h r1 q1 => ?_))
  obtain ⟨rfl, A⟩ := q1
  refine x_dupR d193_3 ?_
  refine x_PU d193_4 cl193 m13_11 kd81 po81 le81 (by decide) (Bd.o A (a := 2) (by decide) (by decide) rfl).1 (K81_2 A) (fun h q => ?_)
  obtain ⟨A, -⟩ := q
  have S := Bd_Hu A hL
  have hcA := A.2.2.2.2.2.2.1
  have hsA := A.2.2.2.2.2.2.2
  obtain ⟨o1, hl1⟩ := Hu_1 S
  refine x_astore_n [some (vR _), some (vR _), none, none] d193_7 rfl ?_
  refine x_aload_n d193_8 rfl ?_
  refine x_iconst d193_9 ?_
  refine x_aload_n d193_10 rfl ?_
  refine x_iconst d193_11 ?_
  refine x_SE d193_12 cl193 m13_12 kd176 po176 le176 (C176 V o1 hl1 (by omega)) (fun v2 r2 z2 => ?_)
  try dsimp only at r2
  refine x_iconst d193_15 ?_
  refine x_SE d193_16 cl193 m13_18 kd175 po175 le175 (C175 (by omega)) (fun v3 r3 z3 => ?_)
  try dsimp only at r3
  refine x_iadd d193_19 ?_
  refine x_iconst d193_20 ?_
  refine x_aload_n d193_21 rfl ?_
  refine x_iconst d193_22 ?_
  refine x_SE d193_23 cl193 m13_12 kd176 po176 le176 (C176 V o1 hl1 (by omega)) (fun v4 r4 z4 => ?_)
  try dsimp only at r4
  refine x_iconst d193_26 ?_
  refine x_SE d193_27 cl193 m13_18 kd175 po175 le175 (C175 (by omega)) (fun v5 r5 z5 => ?_)
  try dsimp only at r5
  refine x_iadd d193_30 ?_
  refine x_VW d193_31 cl193 m13_22 kd82 tg82 po82 le82 (by decide) (S.F.o rfl (by decide)) (C82 (by omega) (by omega) S) (fun v6 h q6 => ?_)
  obtain ⟨v6, rfl, q6⟩ := q6
  obtain ⟨S, hpw, hc9, hs9⟩ := q6
  obtain ⟨o1, hl1⟩ := Hu_1 S
  refine x_pop d193_34 rfl ?_
  refine x_aload_n d193_35 rfl ?_
  refine x_aload_n d193_36 rfl ?_
  refine x_iconst d193_37 ?_
  refine x_SE d193_38 cl193 m13_12 kd176 po176 le176 (C176 V o1 hl1 (by omega)) (fun v7 r7 z7 => ?_)
  try dsimp only at r7
  refine x_bipush d193_41 (by decide) ?_
  refine x_SE d193_43 cl193 m13_18 kd175 po175 le175 (C175 (by omega)) (fun v8 r8 z8 => ?_)
  try dsimp only at r8
  have hp2 := hpw
  refine x_VW d193_46 cl193 m13_25 kd87 tg87 po87 le87 (by decide) (S.F.o rfl (by decide)) (C87 (by omega) S hp2) (fun v9 h q9 => ?_)
  obtain ⟨v9, rfl, q9⟩ := q9
  obtain ⟨S, hc9, hs9⟩ := q9
  obtain ⟨o1, hl1⟩ := Hu_1 S
  refine x_pop d193_49 rfl ?_
  refine x_aload_n d193_50 rfl ?_
  refine x_iconst d193_51 ?_
  refine x_iconst d193_52 ?_
  refine x_iconst d193_53 ?_
  refine x_iconst d193_54 ?_
  refine x_aload_n d193_55 rfl ?_
  refine x_iconst d193_56 ?_
  refine x_SE d193_57 cl193 m13_12 kd176 po176 le176 (C176 V o1 hl1 (by omega)) (fun v10 r10 z10 => ?_)
  try dsimp only at r10
  refine x_bipush d193_60 (by decide) ?_
  refine x_SE d193_62 cl193 m13_18 kd175 po175 le175 (C175 (by omega)) (fun v11 r11 z11 => ?_)
  try dsimp only at r11
  refine x_iadd d193_65 ?_
  refine x_VW d193_66 cl193 m13_29 kd89 tg89 po89 le89 (by decide) (S.F.o rfl (by decide)) (C89 (by omega) (by omega) (by omega) (by omega) S) (fun v12 h q12 => ?_)
  obtain ⟨v12, rfl, q12⟩ := q12
  obtain ⟨S, hc9, hs9⟩ := q12
  obtain ⟨o1, hl1⟩ := Hu_1 S
  refine x_pop d193_69 rfl ?_
  refine x_aload_n d193_70 rfl ?_
  refine x_iconst d193_71 ?_
  refine x_iconst d193_72 ?_
  refine x_sipush d193_73 (by decide) ?_
  refine x_VW d193_76 cl193 m13_33 kd92 tg92 po92 le92 (by decide) (S.F.o rfl (by decide)) (C92 (by omega) (by omega) (by omega) (by omega) S) (fun v13 h q13 => ?_)
  obtain ⟨v13, rfl, q13⟩ := q13
  obtain ⟨⟨mP, mC, mI, mD, mB, K⟩, hc9, hs9⟩ := q13
  obtain ⟨o1, hl1⟩ := IV_1 K
  refine x_pop d193_79 rfl ?_
  refine x_aload_n d193_80 rfl ?_
  refine x_iconst d193_81 ?_
  refine x_aload_n d193_82 rfl ?_
  refine x_iconst d193_83 ?_
  refine x_SE d193_84 cl193 m13_12 kd176 po176 le176 (C176 V o1 hl1 (by omega)) (fun v14 r14 z14 => ?_)
  try dsimp only at r14
  refine x_bipush d193_87 (by decide) ?_
  refine x_SE d193_89 cl193 m13_18 kd175 po175 le175 (C175 (by omega)) (fun v15 r15 z15 => ?_)
  try dsimp only at r15
  refine x_iadd d193_92 ?_
  refine x_iconst d193_93 ?_
  refine x_sipush d193_94 (by decide) ?_
  refine x_VW d193_97 cl193 m13_37 kd91 tg91 po91 le91 (by decide) (K.1.F.o rfl (by decide)) (C91w (by omega) (by omega) (by omega) (by omega) K (by decide)) (fun w9 h q => ?_)
  obtain ⟨v9, rfl, mP, mC, mI, mD, mB, nP, nC, nI, nD, nB, K, hc10, hs10⟩ := q
  refine x_pop d193_100 rfl ?_
  refine x_iconst d193_101 ?_
  refine x_nm (fun w102_16 ew102_16 => ?_)
  refine x_istore_n [some (vR _), some (vR _), some (vI _), none] d193_102 rfl ?_
  refine (x_ub (N := 50) (P := fun i17 => ∀ h : Hp, (LW (i17) h) → ∀ t17_3 : Option XV, wp DA (d + 29) 193 103 [some (vR (some 1)), some (vR (some 2)), some (vI i17), t17_3] [] h Q) w102_16 (by omega) (fun i17 hi17 hj17 ih17 h hh17 t17_3 => ?_)) _ ⟨mP, mC, mI, mD, mB, nP, nC, nI, nD, nB, K, by omega, by omega⟩ _
  obtain ⟨mP, mC, mI, mD, mB, nP, nC, nI, nD, nB, K, hcL, hsL⟩ := hh17
  refine x_iload_n d193_103 rfl ?_
  refine x_bipush d193_104 (by decide) ?_
  refine x_icge (t := 160) d193_106 rfl (by omega) (fun c106_18 => ?_) (fun c106_18 => ?_)
  · refine x_iconst d193_160 ?_
    exact x_zret d193_161 rt193 (by omega) (hQ _ _ ⟨by omega, by omega, by omega⟩)
  · obtain ⟨o1, hl1⟩ := IV_1 K
    have ht16 := tmd (x := i17) (k := 16) (by omega) (by decide)
    have ht8 := tmd (x := i17) (k := 8) (by omega) (by decide)
    refine x_aload_n d193_109 rfl ?_
    refine x_iload_n d193_110 rfl ?_
    refine x_bipush d193_111 (by decide) ?_
    refine x_irem d193_113 (by omega) ?_
    refine x_SE d193_114 cl193 m13_12 kd176 po176 le176 (C176 V o1 hl1 (by omega)) (fun v19 r19 z19 => ?_)
    try dsimp only at r19
    refine x_bipush d193_117 (by decide) ?_
    refine x_iload_n d193_119 rfl ?_
    refine x_imul d193_120 ?_
    refine x_iadd d193_121 ?_
    refine x_nm (fun w122_20 ew122_20 => ?_)
    refine x_istore_n [some (vR _), some (vR _), some (vI _), some (vI _)] d193_122 rfl ?_
    refine x_aload_n d193_123 rfl ?_
    refine x_iload_n d193_124 rfl ?_
    refine x_iconst d193_125 ?_
    refine x_ishrq d193_126 (fun q21 => ?_)
    refine x_iload_n d193_127 rfl ?_
    refine x_bipush d193_128 (by decide) ?_
    refine x_SE d193_130 cl193 m13_18 kd175 po175 le175 (C175 (by omega)) (fun v22 r22 z22 => ?_)
    try dsimp only at r22
    refine x_SU d193_133 cl193 m13_40 kd177 po177 le177 (C177 (by omega) (by omega) K) (fun h q => ?_)
    obtain ⟨mP, mC, mI, mD, mB, nP, nC, nI, nD, nB, K, hc11, hs11⟩ := q
    refine x_iload_n d193_136 rfl ?_
    refine x_bipush d193_137 (by decide) ?_
    refine x_irem d193_139 (by omega) ?_
    refine x_bipush d193_140 (by decide) ?_
    refine x_icne (t := 154) d193_142 rfl (by omega) (fun c142_23 => ?_) (fun c142_23 => ?_)
    · refine x_iinc [some (vR _), some (vR _), some (vI _), some (vI _)] d193_154 rfl rfl ?_
      refine x_goto (t := 103) d193_157 rfl ?_
      exact ih17 (by omega) _ ⟨mP, mC, mI, mD, mB, nP, nC, nI, nD, nB, K, by omega, by omega⟩ _
    · refine x_aload_n d193_145 rfl ?_
      refine x_SW d193_146 cl193 m13_44 kd178 po178 le178 (C178w K) (fun w9 h q => ?_)
      obtain ⟨v12, rfl, ev12, K, hc12, hs12⟩ := q
      refine x_ifne (t := 154) d193_149 rfl (by omega) (fun c149_24 => ?_) (fun c149_24 => ?_)
      · refine x_iinc [some (vR _), some (vR _), some (vI _), some (vI _)] d193_154 rfl rfl ?_
        refine x_goto (t := 103) d193_157 rfl ?_
        exact ih17 (by omega) _ ⟨mP, mC, mI, mD, mB, nP, nC, nI, nD, nB, K, by omega, by omega⟩ _
      · exfalso; omega
theorem law_goal : lawGoal := by
  intro L xs hL
  have k := C193 (d := 1) (xs := xs) hL
  exact wp_mono k (fun r q => by
    obtain ⟨w, q1, v, rfl, rfl, q3, q4⟩ := q
    exact ⟨q1, q3, q4⟩)
