/-! ===== WHAT IS TOLD FIRST ===== -/
theorem gB_l0 {r : Int} {l : Nat} (q : isLs l) : gB r l 0 = none := by
  rcases q with q | q | q | q | q <;> subst q <;> rfl
theorem gB_l2 {r : Int} {l : Nat} (q : isLs l) : gB r l 2 = some (0, 0) := by
  rcases q with q | q | q | q | q <;> subst q <;> rfl
theorem C166 {d : Nat} {h : Hp} {l : Nat} (hl : isLs l) {r : Int} (S : Hu r h) : PU DA (d + 0) 166 [vR (some l)] h (fun g => Hu r g ∧ hC g = hC h ∧ hS g = hS h) := by
  refine PU_of (fun Q hQ => ?_)
  have V := Vis_DA
  obtain ⟨c0, s0, hcc, hss⟩ : ∃ c0 s0, hC h = c0 ∧ hS h = s0 := ⟨_, _, rfl, rfl⟩
  refine x_ent en166 ?_
  refine x_aload_n d166_0 rfl ?_
  refine x_dupR d166_1 ?_
  refine x_gfI d166_2 cl166 f12_63 (by decide) (isLs_o S.1 hl).1 rfl ?_
  refine x_iconst d166_5 ?_
  refine x_iadd d166_6 ?_
  refine x_pfI d166_7 cl166 f12_63 (isLs_o S.1 hl).1 rfl (fun q => by cases q) (x_wr (fun g => Hu r g ∧ hC g = c0 ∧ hS g = s0) ⟨Hu_n S (gB_l0 hl), hcc, hss⟩ (fun h q1 => ?_))
  obtain ⟨S, hcc, hss⟩ := q1
  refine x_aload_n d166_10 rfl ?_
  refine x_gfR d166_11 cl166 f12_9 (isLs_o S.1 hl).1 rfl (S.2.2.1 l hl) ?_
  refine x_astore_n [some (vR _), some (vR _), none, none] d166_14 rfl ?_
  refine x_aload_n d166_15 rfl ?_
  refine x_gfI d166_16 cl166 f12_48 (by decide) (isLs_o S.1 hl).1 rfl ?_
  have g2 := (show hI h l 2 = 0 from Hu_z S hl)
  refine x_nm (fun w19_3 ew19_3 => ?_)
  refine x_istore_n [some (vR _), some (vR _), some (vI _), none] d166_19 rfl ?_
  refine x_aload_n d166_20 rfl ?_
  refine x_iconst d166_21 ?_
  refine x_dupx d166_22 rfl rfl ?_
  refine x_pfI d166_23 cl166 f12_48 (isLs_o S.1 hl).1 rfl (fun q => by cases q) (x_wr (fun g => Hu r g ∧ hC g = c0 ∧ hS g = s0) ⟨Hu_w S (gB_l2 hl) (by omega), hcc, hss⟩ (fun h q4 => ?_))
  obtain ⟨S, hcc, hss⟩ := q4
  refine x_nm (fun w26_5 ew26_5 => ?_)
  refine x_istore_n [some (vR _), some (vR _), some (vI _), some (vI _)] d166_26 rfl ?_
  refine (x_ub (N := 0) (P := fun i6 => wp DA (d + 0) 166 27 [some (vR (some l)), some (vR (some 0)), some (vI w19_3), some (vI i6)] [] h Q) w26_5 (by omega) (fun i6 hi6 hj6 ih6 => ?_))
  refine x_iload_n d166_27 rfl ?_
  refine x_iload_n d166_28 rfl ?_
  have hl2 := Hu_z S hl
  refine x_icge (t := 42) d166_29 rfl (by omega) (fun c29_7 => ?_) (fun c29_7 => ?_)
  · exact x_ret d166_42 rt166 (hQ _ ⟨S, by omega, by omega⟩)
  · exfalso; omega
theorem C30u {D : Nat → Nat → Bool} {d : Nat} {h : Hp} {r : Int} (V : Vis D) (S : Hu r h) : ∃ v : Int, (fun v : Int => v = hI h 3 0 * hI h 3 1) v ∧ PV D (d + 0) 30 [vR (some 3)] h (vI v) := by
  refine PE_of (fun Q hQ => ?_)
  refine x_ent en30 ?_
  refine x_aload_n d30_0 rfl ?_
  refine x_gfI d30_1 cl30 f5_15 (by decide) (S.F.o rfl (by decide)) (V _ _ rfl) ?_
  have g1 := S.pl.1
  refine x_aload_n d30_4 rfl ?_
  refine x_gfI d30_5 cl30 f5_19 (by decide) (S.F.o rfl (by decide)) (V _ _ rfl) ?_
  have g2 := S.pl.2.1
  refine x_imul d30_8 ?_
  exact x_iret d30_9 rt30 (hQ _ (by omega))
theorem C29 {d : Nat} {h : Hp} {x y : Int} (qx : 2 ≤ x ∧ x ≤ 6) (qy : 2 ≤ y ∧ y ≤ 4) {r : Int} (S : Hu r h) : PU DA (d + 1) 29 [vR (some 3), vI x, vI y] h (fun g => Hu r g ∧ (hI g 3 0 = x ∧ hI g 3 1 = y) ∧ hC g = hC h ∧ hS g = hS h) := by
  refine PU_of (fun Q hQ => ?_)
  have V := Vis_DA
  obtain ⟨c0, s0, hcc, hss⟩ : ∃ c0 s0, hC h = c0 ∧ hS h = s0 := ⟨_, _, rfl, rfl⟩
  refine x_ent en29 ?_
  refine x_aload_n d29_0 rfl ?_
  refine x_iload_n d29_1 rfl ?_
  refine x_pfI d29_2 cl29 f5_15 (S.F.o rfl (by decide)) rfl (fun q => by cases q) (x_wr (fun g => Hu r g ∧ hC g = c0 ∧ hS g = s0 ∧ hI g 3 0 = x) ⟨Hu_w S rfl (by omega), hcc, hss, hI_eq⟩ (fun h q1 => ?_))
  obtain ⟨S, hcc, hss, hp0⟩ := q1
  refine x_aload_n d29_5 rfl ?_
  refine x_iload_n d29_6 rfl ?_
  refine x_pfI d29_7 cl29 f5_19 (S.F.o rfl (by decide)) rfl (fun q => by cases q) (x_wr (fun g => Hu r g ∧ hC g = c0 ∧ hS g = s0 ∧ hI g 3 0 = x ∧ hI g 3 1 = y) ⟨Hu_w S rfl (by omega), hcc, hss, hp0, hI_eq⟩ (fun h q2 => ?_))
  obtain ⟨S, hcc, hss, hpw⟩ := q2
  refine x_aload_n d29_10 rfl ?_
  refine x_iconst d29_11 ?_
  refine x_pfI d29_12 cl29 f5_22 (S.F.o rfl (by decide)) rfl (fun q => by cases q) (x_wr (fun g => Hu r g ∧ hC g = c0 ∧ hS g = s0 ∧ hI g 3 0 = x ∧ hI g 3 1 = y) ⟨Hu_w S rfl (by omega), hcc, hss, hpw⟩ (fun h q3 => ?_))
  obtain ⟨S, hcc, hss, hpw⟩ := q3
  refine x_aload_n d29_15 rfl ?_
  refine x_gfR d29_16 cl29 f5_9 (S.F.o rfl (by decide)) rfl (S.F.r rfl) ?_
  refine x_iconst d29_19 ?_
  refine x_SU d29_20 cl29 m5_25 kd181 po181 le181 (C181 (by decide) (S.1.o rfl (by decide)) (by rw [S.1.l (a := 4) (n := 192) (by decide) rfl]; decide)) (fun g q => ?_)
  subst q
  refine x_wr (fun g => Hu r g ∧ hC g = c0 ∧ hS g = s0 ∧ hI g 3 0 = x ∧ hI g 3 1 = y) (fil_ind (P := fun g => Hu r g ∧ hC g = c0 ∧ hS g = s0 ∧ hI g 3 0 = x ∧ hI g 3 1 = y) ⟨S, hcc, hss, hpw⟩ _ (fun g k _ q => ⟨Hu_w q.1 rfl (by decide), q.2.1, q.2.2.1, q.2.2.2⟩)) (fun h q => ?_)
  obtain ⟨S, hcc, hss, hpw⟩ := q
  exact x_ret d29_23 rt29 (hQ _ ⟨S, hpw, by omega, by omega⟩)
theorem C69u {d : Nat} {h : Hp} {s : Nat} (hs : s < 6) {r : Int} (S : Hu r h) {x y : Int} (hpw : hI h 3 0 = x ∧ hI h 3 1 = y)  : PU DA (d + 1) 69 [vR (some (7 + 5 * s))] h (fun g => Hu r g ∧ (hI g 3 0 = x ∧ hI g 3 1 = y) ∧ hC g = hC h ∧ hS g = hS h) := by
  refine PU_of (fun Q hQ => ?_)
  have V := Vis_DA
  obtain ⟨c0, s0, hcc, hss⟩ : ∃ c0 s0, hC h = c0 ∧ hS h = s0 := ⟨_, _, rfl, rfl⟩
  refine x_ent en69 ?_
  refine x_aload_n d69_0 rfl ?_
  refine x_gfR d69_1 cl69 f8_24 (Sh.ob (S.sh s hs)) (V.s (by have := Sh.n (S.sh s hs); omega)) (Sh.r2 (S.sh s hs)) ?_
  refine x_iconst d69_4 ?_
  refine x_SU d69_5 cl69 m8_43 kd181 po181 le181 (C181 (by omega) (Sh.o2 (S.sh s hs)) (by rw [Sh.l2 (S.sh s hs)]; decide)) (fun g q => ?_)
  subst q
  refine x_wr (fun g => Hu r g ∧ hC g = c0 ∧ hS g = s0 ∧ hI g 3 0 = x ∧ hI g 3 1 = y) (fil_ind (P := fun g => Hu r g ∧ hC g = c0 ∧ hS g = s0 ∧ hI g 3 0 = x ∧ hI g 3 1 = y) ⟨S, hcc, hss, hpw⟩ _ (fun g k _ q => ⟨Hu_w q.1 ((gB_s r s hs).2.2.2.2 k) (by decide), q.2.1, q.2.2.1, by rw [hI_ne (by omega), hI_ne (by omega)]; exact q.2.2.2⟩)) (fun h q => ?_)
  obtain ⟨S, hcc, hss, hpw⟩ := q
  have hz9 : hI h (7 + 5 * s) 1 = 0 := by have := S.2.1 _ _ _ _ (gB_s r s hs).1; omega
  refine x_aload_n d69_8 rfl ?_
  refine x_gfI d69_9 cl69 f8_34 (by decide) (Sh.ob (S.sh s hs)) (V.s (by have := Sh.n (S.sh s hs); omega)) ?_
  have g1 := (Sh.size (S.sh s hs))
  refine x_ifne (t := 34) d69_12 rfl (by omega) (fun c12_2 => ?_) (fun c12_2 => ?_)
  · exfalso; omega
  · refine x_aload_n d69_15 rfl ?_
    refine x_bipush d69_16 (by decide) ?_
    refine x_pfI d69_18 cl69 f8_17 (Sh.ob (S.sh s hs)) (V.s (by have := Sh.n (S.sh s hs); omega)) (fun q => by cases q) (x_wr (fun g => Hu r g ∧ hC g = c0 ∧ hS g = s0 ∧ hI g 3 0 = x ∧ hI g 3 1 = y) ⟨Hu_w S (gB_s r s hs).2.1 (by omega), hcc, hss, by rw [hI_ne (by omega), hI_ne (by omega)]; exact hpw⟩ (fun h q3 => ?_))
    obtain ⟨S, hcc, hss, hpw⟩ := q3
    refine x_aload_n d69_21 rfl ?_
    refine x_sipush d69_22 (by decide) ?_
    refine x_pfI d69_25 cl69 f8_21 (Sh.ob (S.sh s hs)) (V.s (by have := Sh.n (S.sh s hs); omega)) (fun q => by cases q) (x_wr (fun g => Hu r g ∧ hC g = c0 ∧ hS g = s0 ∧ hI g 3 0 = x ∧ hI g 3 1 = y) ⟨Hu_w S (gB_s r s hs).2.2.1 (by omega), hcc, hss, by rw [hI_ne (by omega), hI_ne (by omega)]; exact hpw⟩ (fun h q4 => ?_))
    obtain ⟨S, hcc, hss, hpw⟩ := q4
    refine x_aload_n d69_28 rfl ?_
    refine x_iconst d69_29 ?_
    refine x_pfI d69_30 cl69 f8_49 (Sh.ob (S.sh s hs)) (V.s (by have := Sh.n (S.sh s hs); omega)) (fun q => by cases q) (x_wr (fun g => Hu r g ∧ hC g = c0 ∧ hS g = s0 ∧ hI g 3 0 = x ∧ hI g 3 1 = y) ⟨Hu_n S (gB_s r s hs).2.2.2.1, hcc, hss, by rw [hI_ne (by omega), hI_ne (by omega)]; exact hpw⟩ (fun h q5 => ?_))
    obtain ⟨S, hcc, hss, hpw⟩ := q5
    exact x_ret d69_33 rt69 (hQ _ ⟨S, hpw, by omega, by omega⟩)
theorem C68u {d : Nat} {h : Hp} {s : Nat} (hs : s < 6) {r : Int} (S : Hu r h) {x y : Int} (hpw : hI h 3 0 = x ∧ hI h 3 1 = y)  : PU DA (d + 2) 68 [vR (some (7 + 5 * s))] h (fun g => Hu r g ∧ (hI g 3 0 = x ∧ hI g 3 1 = y) ∧ hC g = hC h ∧ hS g = hS h) := by
  refine PU_of (fun Q hQ => ?_)
  have V := Vis_DA
  obtain ⟨c0, s0, hcc, hss⟩ : ∃ c0 s0, hC h = c0 ∧ hS h = s0 := ⟨_, _, rfl, rfl⟩
  refine x_ent en68 ?_
  refine x_aload_n d68_0 rfl ?_
  refine x_iconst d68_1 ?_
  refine x_pfI d68_2 cl68 f8_34 (Sh.ob (S.sh s hs)) (V.s (by have := Sh.n (S.sh s hs); omega)) (fun q => by cases q) (x_wr (fun g => Hu r g ∧ hC g = c0 ∧ hS g = s0 ∧ hI g 3 0 = x ∧ hI g 3 1 = y) ⟨Hu_w S (gB_s r s hs).1 (by omega), hcc, hss, by rw [hI_ne (by omega), hI_ne (by omega)]; exact hpw⟩ (fun h q1 => ?_))
  obtain ⟨S, hcc, hss, hpw⟩ := q1
  refine x_aload_n d68_5 rfl ?_
  refine x_VU d68_6 cl68 m8_37 kd69 tg69 po69 le69 (by have := Sh.g (S.sh s hs); omega) (Sh.ob (S.sh s hs)) (C69u hs S hpw) (fun h q2 => ?_)
  obtain ⟨S, hpw, hc9, hs9⟩ := q2
  have hcc := hc9.trans hcc
  have hss := hs9.trans hss
  exact x_ret d68_9 rt68 (hQ _ ⟨S, hpw, by omega, by omega⟩)
theorem C4 {d : Nat} {h : Hp}  {r : Int} (S : Hu r h) {x y : Int} (hpw : hI h 3 0 = x ∧ hI h 3 1 = y)  : PU DA (d + 0) 4 [vR (some 49)] h (fun g => Hu r g ∧ (hI g 3 0 = x ∧ hI g 3 1 = y) ∧ hC g = hC h ∧ hS g = hS h) := by
  refine PU_of (fun Q hQ => ?_)
  have V := Vis_DA
  obtain ⟨c0, s0, hcc, hss⟩ : ∃ c0 s0, hC h = c0 ∧ hS h = s0 := ⟨_, _, rfl, rfl⟩
  refine x_ent en4 ?_
  refine x_aload_n d4_0 rfl ?_
  refine x_iconst d4_1 ?_
  refine x_pfI d4_2 cl4 f2_34 (S.F.o rfl (by decide)) rfl (fun q => by cases q) (x_wr (fun g => Hu r g ∧ hC g = c0 ∧ hS g = s0 ∧ hI g 3 0 = x ∧ hI g 3 1 = y) ⟨Hu_w S rfl (by omega), hcc, hss, by rw [hI_ne (by omega), hI_ne (by omega)]; exact hpw⟩ (fun h q1 => ?_))
  obtain ⟨S, hcc, hss, hpw⟩ := q1
  exact x_ret d4_5 rt4 (hQ _ ⟨S, hpw, by omega, by omega⟩)
theorem C166x {d : Nat} {h : Hp} {l : Nat} (hl : isLs l) {r : Int} (S : Hu r h) {x y : Int} (hpw : hI h 3 0 = x ∧ hI h 3 1 = y)  : PU DA (d + 0) 166 [vR (some l)] h (fun g => Hu r g ∧ (hI g 3 0 = x ∧ hI g 3 1 = y) ∧ hC g = hC h ∧ hS g = hS h) := by
  refine PU_of (fun Q hQ => ?_)
  have V := Vis_DA
  obtain ⟨c0, s0, hcc, hss⟩ : ∃ c0 s0, hC h = c0 ∧ hS h = s0 := ⟨_, _, rfl, rfl⟩
  refine x_ent en166 ?_
  have hl9 := (isLs_o S.1 hl).2
  have hl8 : l ≠ 3 := by unfold isLs at hl; omega
  refine x_aload_n d166_0 rfl ?_
  refine x_dupR d166_1 ?_
  refine x_gfI d166_2 cl166 f12_63 (by decide) (isLs_o S.1 hl).1 rfl ?_
  refine x_iconst d166_5 ?_
  refine x_iadd d166_6 ?_
  refine x_pfI d166_7 cl166 f12_63 (isLs_o S.1 hl).1 rfl (fun q => by cases q) (x_wr (fun g => Hu r g ∧ hC g = c0 ∧ hS g = s0 ∧ hI g 3 0 = x ∧ hI g 3 1 = y) ⟨Hu_n S (gB_l0 hl), hcc, hss, by rw [hI_ne (by omega), hI_ne (by omega)]; exact hpw⟩ (fun h q1 => ?_))
  obtain ⟨S, hcc, hss, hpw⟩ := q1
  refine x_aload_n d166_10 rfl ?_
  refine x_gfR d166_11 cl166 f12_9 (isLs_o S.1 hl).1 rfl (S.2.2.1 l hl) ?_
  refine x_astore_n [some (vR _), some (vR _), none, none] d166_14 rfl ?_
  refine x_aload_n d166_15 rfl ?_
  refine x_gfI d166_16 cl166 f12_48 (by decide) (isLs_o S.1 hl).1 rfl ?_
  have g2 := (show hI h l 2 = 0 from Hu_z S hl)
  refine x_nm (fun w19_3 ew19_3 => ?_)
  refine x_istore_n [some (vR _), some (vR _), some (vI _), none] d166_19 rfl ?_
  refine x_aload_n d166_20 rfl ?_
  refine x_iconst d166_21 ?_
  refine x_dupx d166_22 rfl rfl ?_
  refine x_pfI d166_23 cl166 f12_48 (isLs_o S.1 hl).1 rfl (fun q => by cases q) (x_wr (fun g => Hu r g ∧ hC g = c0 ∧ hS g = s0 ∧ hI g 3 0 = x ∧ hI g 3 1 = y) ⟨Hu_w S (gB_l2 hl) (by omega), hcc, hss, by rw [hI_ne (by omega), hI_ne (by omega)]; exact hpw⟩ (fun h q4 => ?_))
  obtain ⟨S, hcc, hss, hpw⟩ := q4
  refine x_nm (fun w26_5 ew26_5 => ?_)
  refine x_istore_n [some (vR _), some (vR _), some (vI _), some (vI _)] d166_26 rfl ?_
  refine (x_ub (N := 0) (P := fun i6 => wp DA (d + 0) 166 27 [some (vR (some l)), some (vR (some 0)), some (vI w19_3), some (vI i6)] [] h Q) w26_5 (by omega) (fun i6 hi6 hj6 ih6 => ?_))
  refine x_iload_n d166_27 rfl ?_
  refine x_iload_n d166_28 rfl ?_
  have hl2 := Hu_z S hl
  refine x_icge (t := 42) d166_29 rfl (by omega) (fun c29_7 => ?_) (fun c29_7 => ?_)
  · exact x_ret d166_42 rt166 (hQ _ ⟨S, hpw, by omega, by omega⟩)
  · exfalso; omega
theorem C46 {d : Nat} {h : Hp}  {r : Int} (S : Hu r h) {x y : Int} (hpw : hI h 3 0 = x ∧ hI h 3 1 = y)  : PU DA (d + 2) 46 [vR (some 55)] h (fun g => Hu r g ∧ (hI g 3 0 = x ∧ hI g 3 1 = y) ∧ hC g = hC h ∧ hS g = hS h) := by
  refine PU_of (fun Q hQ => ?_)
  have V := Vis_DA
  obtain ⟨c0, s0, hcc, hss⟩ : ∃ c0 s0, hC h = c0 ∧ hS h = s0 := ⟨_, _, rfl, rfl⟩
  refine x_ent en46 ?_
  refine x_aload_n d46_0 rfl ?_
  refine x_iconst d46_1 ?_
  refine x_pfI d46_2 cl46 f7_39 (S.F.o rfl (by decide)) rfl (fun q => by cases q) (x_wr (fun g => Hu r g ∧ hC g = c0 ∧ hS g = s0 ∧ hI g 3 0 = x ∧ hI g 3 1 = y) ⟨Hu_w S rfl (by omega), hcc, hss, by rw [hI_ne (by omega), hI_ne (by omega)]; exact hpw⟩ (fun h q1 => ?_))
  obtain ⟨S, hcc, hss, hpw⟩ := q1
  refine x_aload_n d46_5 rfl ?_
  refine x_gfR d46_6 cl46 f7_25 (S.F.o rfl (by decide)) rfl (S.F.r rfl) ?_
  refine x_VU d46_9 cl46 m7_43 kd166 tg166 po166 le166 (by decide) (S.F.o rfl (by decide)) (C166x (l := 59) (by unfold isLs; decide) S hpw) (fun h q => ?_)
  obtain ⟨S, hpw, hc9, hs9⟩ := q
  have hcc := hc9.trans hcc
  have hss := hs9.trans hss
  refine x_aload_n d46_12 rfl ?_
  refine x_iconst d46_13 ?_
  refine x_pfZ d46_14 cl46 f7_46 (S.F.o rfl (by decide)) rfl (fun q => by cases q) (by omega) (x_wr (fun g => Hu r g ∧ hC g = c0 ∧ hS g = s0 ∧ hI g 3 0 = x ∧ hI g 3 1 = y) ⟨Hu_w S rfl (by omega), hcc, hss, by rw [hI_ne (by omega), hI_ne (by omega)]; exact hpw⟩ (fun h q2 => ?_))
  obtain ⟨S, hcc, hss, hpw⟩ := q2
  exact x_ret d46_17 rt46 (hQ _ ⟨S, hpw, by omega, by omega⟩)
theorem C82 {d : Nat} {h : Hp} {x y : Int} (qx : 2 ≤ x ∧ x ≤ 6) (qy : 2 ≤ y ∧ y ≤ 4) {r : Int} (S : Hu r h) : PW DA (d + 4) 82 [vR (some 2), vI x, vI y] h (fun w g => ∃ v : Int, w = vI v ∧ Hu r g ∧ (2 ≤ hI g 3 0 ∧ 2 ≤ hI g 3 1) ∧ hC g = hC h ∧ hS g = hS h) := by
  refine PW_of (fun Q hQ => ?_)
  have V := Vis_DA
  obtain ⟨c0, s0, hcc, hss⟩ : ∃ c0 s0, hC h = c0 ∧ hS h = s0 := ⟨_, _, rfl, rfl⟩
  have V := Vis_DA
  refine x_ent en82 ?_
  refine x_iload_n d82_0 rfl ?_
  refine x_iconst d82_1 ?_
  refine x_bipush d82_2 (by decide) ?_
  refine x_SE d82_4 cl82 m11_84 kd83 po83 le83 (C83 (by omega) (by omega) (by omega)) (fun v1 r1 z1 => ?_)
  try dsimp only at r1
  refine x_ifeq (t := 23) d82_7 rfl (by omega) (fun c7_2 => ?_) (fun c7_2 => ?_)
  · refine x_iconst d82_23 ?_
    refine x_SN d82_24 cl82 m11_88 kd84 po84 le84 (C84 (by omega)) ?_
    refine x_aload_n d82_27 rfl ?_
    refine x_gfR d82_28 cl82 f11_10 (S.F.o rfl (by decide)) rfl (S.F.r rfl) ?_
    refine x_iload_n d82_31 rfl ?_
    refine x_iload_n d82_32 rfl ?_
    refine x_VU d82_33 cl82 m11_92 kd29 tg29 po29 le29 (by decide) (S.F.o rfl (by decide)) (C29 (by omega) (by omega) S) (fun h q4 => ?_)
    obtain ⟨S, hpw, hc9, hs9⟩ := q4
    have hcc := hc9.trans hcc
    have hss := hs9.trans hss
    refine x_aload_n d82_36 rfl ?_
    refine x_gfR d82_37 cl82 f11_19 (S.F.o rfl (by decide)) rfl (S.F.r rfl) ?_
    refine x_VU d82_40 cl82 m11_96 kd166 tg166 po166 le166 (by decide) (S.F.o rfl (by decide)) (C166x (l := 5) (by unfold isLs; decide) S hpw) (fun h q => ?_)
    obtain ⟨S, hpw, hc9, hs9⟩ := q
    have hcc := hc9.trans hcc
    have hss := hs9.trans hss
    refine x_iconst d82_43 ?_
    refine x_nm (fun w44_5 ew44_5 => ?_)
    refine x_istore_n [some (vR _), some (vI _), some (vI _), some (vI _)] d82_44 rfl ?_
    refine (x_ub (N := 6) (P := fun i6 => ∀ h : Hp, (Hu r h ∧ hC h = c0 ∧ hS h = s0 ∧ hI h 3 0 = x ∧ hI h 3 1 = y) → wp DA (d + 4) 82 45 [some (vR (some 2)), some (vI x), some (vI y), some (vI i6)] [] h Q) w44_5 (by omega) (fun i6 hi6 hj6 ih6 h hh6 => ?_)) _ ⟨S, hcc, hss, hpw⟩
    obtain ⟨S, hcc, hss, hpw⟩ := hh6
    refine x_iload_n d82_45 rfl ?_
    refine x_bipush d82_46 (by decide) ?_
    refine x_icge (t := 66) d82_48 rfl (by omega) (fun c48_7 => ?_) (fun c48_7 => ?_)
    · refine x_aload_n d82_66 rfl ?_
      refine x_gfR d82_67 cl82 f11_43 (S.F.o rfl (by decide)) rfl (S.F.r rfl) ?_
      refine x_VU d82_70 cl82 m11_96 kd166 tg166 po166 le166 (by decide) (S.F.o rfl (by decide)) (C166x (l := 46) (by unfold isLs; decide) S hpw) (fun h q => ?_)
      obtain ⟨S, hpw, hc9, hs9⟩ := q
      have hcc := hc9.trans hcc
      have hss := hs9.trans hss
      refine x_aload_n d82_73 rfl ?_
      refine x_gfR d82_74 cl82 f11_56 (S.F.o rfl (by decide)) rfl (S.F.r rfl) ?_
      refine x_VU d82_77 cl82 m11_100 kd4 tg4 po4 le4 (by decide) (S.F.o rfl (by decide)) (C4 S hpw) (fun h q8 => ?_)
      obtain ⟨S, hpw, hc9, hs9⟩ := q8
      have hcc := hc9.trans hcc
      have hss := hs9.trans hss
      refine x_aload_n d82_80 rfl ?_
      refine x_gfR d82_81 cl82 f11_63 (S.F.o rfl (by decide)) rfl (S.F.r rfl) ?_
      refine x_VU d82_84 cl82 m11_103 kd46 tg46 po46 le46 (by decide) (S.F.o rfl (by decide)) (C46 S hpw) (fun h q9 => ?_)
      obtain ⟨S, hpw, hc9, hs9⟩ := q9
      have hcc := hc9.trans hcc
      have hss := hs9.trans hss
      refine x_aload_n d82_87 rfl ?_
      refine x_gfR d82_88 cl82 f11_10 (S.F.o rfl (by decide)) rfl (S.F.r rfl) ?_
      refine x_VE d82_91 cl82 m11_104 kd30 tg30 po30 le30 (by decide) (S.F.o rfl (by decide)) (C30u Vis_DA S) (fun v10 r10 z10 => ?_)
      try dsimp only at r10
      exact x_iret d82_94 rt82 (hQ _ _ ⟨S, by omega, by omega, by omega⟩)
    · refine x_aload_n d82_51 rfl ?_
      refine x_gfR d82_52 cl82 f11_25 (S.F.o rfl (by decide)) rfl (S.F.r rfl) ?_
      refine x_iload_n d82_55 rfl ?_
      refine x_aaload d82_56 (Nat.lt_of_lt_of_le (by decide) S.F.1) (by rw [(S.F.o (a := 6) (t := 104) rfl (by decide)).2]; decide) ⟨by omega, by rw [(S.F.l (a := 6) (n := 6) (by decide) rfl)]; omega⟩ rfl (S.F.sh (i6) (by omega)) ?_
      refine x_VU d82_57 cl82 m11_99 kd68 tg68 po68 le68 (by omega) (Sh.ob (S.sh (i6).toNat (by omega))) (C68u (by omega) S hpw) (fun h q => ?_)
      obtain ⟨S, hpw, hc9, hs9⟩ := q
      have hcc := hc9.trans hcc
      have hss := hs9.trans hss
      refine x_iinc [some (vR _), some (vI _), some (vI _), some (vI _)] d82_60 rfl rfl ?_
      refine x_goto (t := 45) d82_63 rfl ?_
      exact ih6 (by omega) _ ⟨S, hcc, hss, hpw⟩
  · refine x_iload_n d82_10 rfl ?_
    refine x_iconst d82_11 ?_
    refine x_iconst d82_12 ?_
    refine x_SE d82_13 cl82 m11_84 kd83 po83 le83 (C83 (by omega) (by omega) (by omega)) (fun v11 r11 z11 => ?_)
    try dsimp only at r11
    refine x_ifeq (t := 23) d82_16 rfl (by omega) (fun c16_12 => ?_) (fun c16_12 => ?_)
    · refine x_iconst d82_23 ?_
      refine x_SN d82_24 cl82 m11_88 kd84 po84 le84 (C84 (by omega)) ?_
      refine x_aload_n d82_27 rfl ?_
      refine x_gfR d82_28 cl82 f11_10 (S.F.o rfl (by decide)) rfl (S.F.r rfl) ?_
      refine x_iload_n d82_31 rfl ?_
      refine x_iload_n d82_32 rfl ?_
      refine x_VU d82_33 cl82 m11_92 kd29 tg29 po29 le29 (by decide) (S.F.o rfl (by decide)) (C29 (by omega) (by omega) S) (fun h q14 => ?_)
      obtain ⟨S, hpw, hc9, hs9⟩ := q14
      have hcc := hc9.trans hcc
      have hss := hs9.trans hss
      refine x_aload_n d82_36 rfl ?_
      refine x_gfR d82_37 cl82 f11_19 (S.F.o rfl (by decide)) rfl (S.F.r rfl) ?_
      refine x_VU d82_40 cl82 m11_96 kd166 tg166 po166 le166 (by decide) (S.F.o rfl (by decide)) (C166x (l := 5) (by unfold isLs; decide) S hpw) (fun h q => ?_)
      obtain ⟨S, hpw, hc9, hs9⟩ := q
      have hcc := hc9.trans hcc
      have hss := hs9.trans hss
      refine x_iconst d82_43 ?_
      refine x_nm (fun w44_15 ew44_15 => ?_)
      refine x_istore_n [some (vR _), some (vI _), some (vI _), some (vI _)] d82_44 rfl ?_
      refine (x_ub (N := 6) (P := fun i16 => ∀ h : Hp, (Hu r h ∧ hC h = c0 ∧ hS h = s0 ∧ hI h 3 0 = x ∧ hI h 3 1 = y) → wp DA (d + 4) 82 45 [some (vR (some 2)), some (vI x), some (vI y), some (vI i16)] [] h Q) w44_15 (by omega) (fun i16 hi16 hj16 ih16 h hh16 => ?_)) _ ⟨S, hcc, hss, hpw⟩
      obtain ⟨S, hcc, hss, hpw⟩ := hh16
      refine x_iload_n d82_45 rfl ?_
      refine x_bipush d82_46 (by decide) ?_
      refine x_icge (t := 66) d82_48 rfl (by omega) (fun c48_17 => ?_) (fun c48_17 => ?_)
      · refine x_aload_n d82_66 rfl ?_
        refine x_gfR d82_67 cl82 f11_43 (S.F.o rfl (by decide)) rfl (S.F.r rfl) ?_
        refine x_VU d82_70 cl82 m11_96 kd166 tg166 po166 le166 (by decide) (S.F.o rfl (by decide)) (C166x (l := 46) (by unfold isLs; decide) S hpw) (fun h q => ?_)
        obtain ⟨S, hpw, hc9, hs9⟩ := q
        have hcc := hc9.trans hcc
        have hss := hs9.trans hss
        refine x_aload_n d82_73 rfl ?_
        refine x_gfR d82_74 cl82 f11_56 (S.F.o rfl (by decide)) rfl (S.F.r rfl) ?_
        refine x_VU d82_77 cl82 m11_100 kd4 tg4 po4 le4 (by decide) (S.F.o rfl (by decide)) (C4 S hpw) (fun h q18 => ?_)
        obtain ⟨S, hpw, hc9, hs9⟩ := q18
        have hcc := hc9.trans hcc
        have hss := hs9.trans hss
        refine x_aload_n d82_80 rfl ?_
        refine x_gfR d82_81 cl82 f11_63 (S.F.o rfl (by decide)) rfl (S.F.r rfl) ?_
        refine x_VU d82_84 cl82 m11_103 kd46 tg46 po46 le46 (by decide) (S.F.o rfl (by decide)) (C46 S hpw) (fun h q19 => ?_)
        obtain ⟨S, hpw, hc9, hs9⟩ := q19
        have hcc := hc9.trans hcc
        have hss := hs9.trans hss
        refine x_aload_n d82_87 rfl ?_
        refine x_gfR d82_88 cl82 f11_10 (S.F.o rfl (by decide)) rfl (S.F.r rfl) ?_
        refine x_VE d82_91 cl82 m11_104 kd30 tg30 po30 le30 (by decide) (S.F.o rfl (by decide)) (C30u Vis_DA S) (fun v20 r20 z20 => ?_)
        try dsimp only at r20
        exact x_iret d82_94 rt82 (hQ _ _ ⟨S, by omega, by omega, by omega⟩)
      · refine x_aload_n d82_51 rfl ?_
        refine x_gfR d82_52 cl82 f11_25 (S.F.o rfl (by decide)) rfl (S.F.r rfl) ?_
        refine x_iload_n d82_55 rfl ?_
        refine x_aaload d82_56 (Nat.lt_of_lt_of_le (by decide) S.F.1) (by rw [(S.F.o (a := 6) (t := 104) rfl (by decide)).2]; decide) ⟨by omega, by rw [(S.F.l (a := 6) (n := 6) (by decide) rfl)]; omega⟩ rfl (S.F.sh (i16) (by omega)) ?_
        refine x_VU d82_57 cl82 m11_99 kd68 tg68 po68 le68 (by omega) (Sh.ob (S.sh (i16).toNat (by omega))) (C68u (by omega) S hpw) (fun h q => ?_)
        obtain ⟨S, hpw, hc9, hs9⟩ := q
        have hcc := hc9.trans hcc
        have hss := hs9.trans hss
        refine x_iinc [some (vR _), some (vI _), some (vI _), some (vI _)] d82_60 rfl rfl ?_
        refine x_goto (t := 45) d82_63 rfl ?_
        exact ih16 (by omega) _ ⟨S, hcc, hss, hpw⟩
    · refine x_iconst d82_19 ?_
      refine x_goto (t := 24) d82_20 rfl ?_
      refine x_SN d82_24 cl82 m11_88 kd84 po84 le84 (C84 (by omega)) ?_
      refine x_aload_n d82_27 rfl ?_
      refine x_gfR d82_28 cl82 f11_10 (S.F.o rfl (by decide)) rfl (S.F.r rfl) ?_
      refine x_iload_n d82_31 rfl ?_
      refine x_iload_n d82_32 rfl ?_
      refine x_VU d82_33 cl82 m11_92 kd29 tg29 po29 le29 (by decide) (S.F.o rfl (by decide)) (C29 (by omega) (by omega) S) (fun h q22 => ?_)
      obtain ⟨S, hpw, hc9, hs9⟩ := q22
      have hcc := hc9.trans hcc
      have hss := hs9.trans hss
      refine x_aload_n d82_36 rfl ?_
      refine x_gfR d82_37 cl82 f11_19 (S.F.o rfl (by decide)) rfl (S.F.r rfl) ?_
      refine x_VU d82_40 cl82 m11_96 kd166 tg166 po166 le166 (by decide) (S.F.o rfl (by decide)) (C166x (l := 5) (by unfold isLs; decide) S hpw) (fun h q => ?_)
      obtain ⟨S, hpw, hc9, hs9⟩ := q
      have hcc := hc9.trans hcc
      have hss := hs9.trans hss
      refine x_iconst d82_43 ?_
      refine x_nm (fun w44_23 ew44_23 => ?_)
      refine x_istore_n [some (vR _), some (vI _), some (vI _), some (vI _)] d82_44 rfl ?_
      refine (x_ub (N := 6) (P := fun i24 => ∀ h : Hp, (Hu r h ∧ hC h = c0 ∧ hS h = s0 ∧ hI h 3 0 = x ∧ hI h 3 1 = y) → wp DA (d + 4) 82 45 [some (vR (some 2)), some (vI x), some (vI y), some (vI i24)] [] h Q) w44_23 (by omega) (fun i24 hi24 hj24 ih24 h hh24 => ?_)) _ ⟨S, hcc, hss, hpw⟩
      obtain ⟨S, hcc, hss, hpw⟩ := hh24
      refine x_iload_n d82_45 rfl ?_
      refine x_bipush d82_46 (by decide) ?_
      refine x_icge (t := 66) d82_48 rfl (by omega) (fun c48_25 => ?_) (fun c48_25 => ?_)
      · refine x_aload_n d82_66 rfl ?_
        refine x_gfR d82_67 cl82 f11_43 (S.F.o rfl (by decide)) rfl (S.F.r rfl) ?_
        refine x_VU d82_70 cl82 m11_96 kd166 tg166 po166 le166 (by decide) (S.F.o rfl (by decide)) (C166x (l := 46) (by unfold isLs; decide) S hpw) (fun h q => ?_)
        obtain ⟨S, hpw, hc9, hs9⟩ := q
        have hcc := hc9.trans hcc
        have hss := hs9.trans hss
        refine x_aload_n d82_73 rfl ?_
        refine x_gfR d82_74 cl82 f11_56 (S.F.o rfl (by decide)) rfl (S.F.r rfl) ?_
        refine x_VU d82_77 cl82 m11_100 kd4 tg4 po4 le4 (by decide) (S.F.o rfl (by decide)) (C4 S hpw) (fun h q26 => ?_)
        obtain ⟨S, hpw, hc9, hs9⟩ := q26
        have hcc := hc9.trans hcc
        have hss := hs9.trans hss
        refine x_aload_n d82_80 rfl ?_
        refine x_gfR d82_81 cl82 f11_63 (S.F.o rfl (by decide)) rfl (S.F.r rfl) ?_
        refine x_VU d82_84 cl82 m11_103 kd46 tg46 po46 le46 (by decide) (S.F.o rfl (by decide)) (C46 S hpw) (fun h q27 => ?_)
        obtain ⟨S, hpw, hc9, hs9⟩ := q27
        have hcc := hc9.trans hcc
        have hss := hs9.trans hss
        refine x_aload_n d82_87 rfl ?_
        refine x_gfR d82_88 cl82 f11_10 (S.F.o rfl (by decide)) rfl (S.F.r rfl) ?_
        refine x_VE d82_91 cl82 m11_104 kd30 tg30 po30 le30 (by decide) (S.F.o rfl (by decide)) (C30u Vis_DA S) (fun v28 r28 z28 => ?_)
        try dsimp only at r28
        exact x_iret d82_94 rt82 (hQ _ _ ⟨S, by omega, by omega, by omega⟩)
      · refine x_aload_n d82_51 rfl ?_
        refine x_gfR d82_52 cl82 f11_25 (S.F.o rfl (by decide)) rfl (S.F.r rfl) ?_
        refine x_iload_n d82_55 rfl ?_
        refine x_aaload d82_56 (Nat.lt_of_lt_of_le (by decide) S.F.1) (by rw [(S.F.o (a := 6) (t := 104) rfl (by decide)).2]; decide) ⟨by omega, by rw [(S.F.l (a := 6) (n := 6) (by decide) rfl)]; omega⟩ rfl (S.F.sh (i24) (by omega)) ?_
        refine x_VU d82_57 cl82 m11_99 kd68 tg68 po68 le68 (by omega) (Sh.ob (S.sh (i24).toNat (by omega))) (C68u (by omega) S hpw) (fun h q => ?_)
        obtain ⟨S, hpw, hc9, hs9⟩ := q
        have hcc := hc9.trans hcc
        have hss := hs9.trans hss
        refine x_iinc [some (vR _), some (vI _), some (vI _), some (vI _)] d82_60 rfl rfl ?_
        refine x_goto (t := 45) d82_63 rfl ?_
        exact ih24 (by omega) _ ⟨S, hcc, hss, hpw⟩
