/-! ===== STANDARDS, ITEMS ===== -/
section MU2
variable {h : Hp} {mP mC mI mD mB : Nat → Nat} {nP nC nI nD nB : Nat} {a k : Nat} {v : Int}
theorem EX0_f (S : Hv h mP mC mI mD mB nP nC nI nD nB) (X : EX0 h mP mI nP nI) (q : a < 69 ∧ (a < 7 ∨ 36 < a)) : EX0 (sI h a k v) mP mI nP nI :=
  EX0_w S X (fun s hs => by omega) (fun p T => by have := T.g; omega) (fun p T => by have := T.g; omega)
theorem CI_f (S : Hv h mP mC mI mD mB nP nC nI nD nB) (X : CI h mB nB) (q : a < 69 ∧ a ≠ 55 ∧ a ≠ 58 ∧ a ≠ 60 ∧ a ≠ 61 ∧ a ≠ 62) : CI (sI h a k v) mB nB := CI_wr S X q.2 (fun p T => by have := T.g; omega)
theorem tcS_le (S : Hv h mP mC mI mD mB nP nC nI nD nB) : 0 ≤ tcS h ∧ tcS h ≤ 8 := by
  unfold tcS
  have := S.a64 0; have := S.a64 1; have := S.a64 2; have := S.a64 3; have := S.a64 4; have := S.a64 5; have := S.a64 6; have := S.a64 7
  omega
/-- the caches, while it is not said whether they are right -/
def CI0 (h : Hp) : Prop := (∀ a j, DV a j = false → hR h a j = none) ∧ (∀ j, 256 ≤ j → hI h 60 j = 0 ∧ hI h 61 j = 0 ∧ hI h 62 j = 0) ∧ (-2147483648 ≤ hI h 55 5 ∧ hI h 55 5 < 2147483648) ∧ (hI h 55 6 = 0 ∨ hI h 55 6 = 1)
theorem CI0_of {mB : Nat → Nat} {nB : Nat} (K : CI h mB nB) : CI0 h := ⟨K.1, K.2.1, K.2.2.1, K.2.2.2.1⟩
theorem CI0_w (K : CI0 h) (q : a ≠ 60 ∧ a ≠ 61 ∧ a ≠ 62) (w : a ≠ 55 ∨ (k ≠ 5 ∧ k ≠ 6)) : CI0 (sI h a k v) := by
  obtain ⟨x1, x2, x3, x4⟩ := K
  have e : ∀ j, (j = 5 ∨ j = 6) → hI (sI h a k v) 55 j = hI h 55 j := fun j hj => by
    rcases w with w | w
    · exact hI_ne (Ne.symm w)
    · exact hI_nk (by omega)
  refine ⟨x1, fun j hj => ?_, by rw [e 5 (Or.inl rfl)]; exact x3, by rw [e 6 (Or.inr rfl)]; exact x4⟩
  rw [hI_ne (Ne.symm q.1), hI_ne (Ne.symm q.2.1), hI_ne (Ne.symm q.2.2)]; exact x2 j hj
/-- it is not settled: the caches are right -/
theorem CI_un {mB : Nat → Nat} {nB : Nat} (K : CI0 h) : CI (sI h 55 6 0) mB nB := ⟨K.1, K.2.1, K.2.2.1, Or.inl hI_eq, fun q => by rw [hI_eq] at q; cases q⟩
theorem Hv_it (S : Hv h mP mC mI mD mB nP nC nI nD nB) (h8 : hI h 55 0 < 8) (e : v = hI h 55 0 + 1) (q : (hI h 56 (hI h 55 0).toNat = 1 → hI h 57 (hI h 55 0).toNat < nC) ∧ (hI h 56 (hI h 55 0).toNat = 0 → hI h 57 (hI h 55 0).toNat < nP)) : Hv (sI h 55 0 v) mP mC mI mD mB nP nC nI nD nB := Hv.mk (h := sI h 55 0 v) S.F S.pl (Ls_sI S.lp (Or.inl (by decide)) (fun p q => Pc_sI q (by decide))) S.np (Ls_sI S.lc (Or.inl (by decide)) (fun p q => Cv_sI q (by decide))) S.nc (Ls_sI S.li (Or.inl (by decide)) (fun p q => Tm_sI q (by decide))) S.ni (Ls_sI S.ld (Or.inl (by decide)) (fun p q => Tm_sI q (by decide))) S.nd (Ls_sI S.lb (Or.inl (by decide)) (fun p q => Bi_sI q (by decide))) S.nb S.today (fun s hs => Sh_sI (S.sh s hs) (by omega)) S.rates S.hands S.opinions (by rw [hI_eq]; have := S.items; omega) S.count S.a38 S.a39 S.a40 S.a41 S.a42 S.a43 S.a48 S.a50 S.a51 S.a52 S.a53 S.a54 S.a56 S.a57 S.a58 S.a64 S.a65 (fun i hi => by
    rw [hI_eq] at hi
    by_cases c : (i : Int) < hI h 55 0
    · exact S.it i c
    · have w : i = (hI h 55 0).toNat := by have := S.items; omega
      subst w
      exact q)
end MU2
theorem C76 {d : Nat} {h : Hp} {x y w z : Int} (qx : 0 ≤ x ∧ x < 8) (qy : 0 ≤ y ∧ y ≤ 99) (qw : 0 ≤ w ∧ w ≤ 99) (qz : 0 ≤ z ∧ z ≤ 99) {mP mC mI mD mB : Nat → Nat} {nP nC nI nD nB : Nat} (K : IV h mP mC mI mD mB nP nC nI nD nB) : PU DA (d + 0) 76 [vR (some 63), vI x, vI y, vI w, vI z] h (fun g => IV g mP mC mI mD mB nP nC nI nD nB ∧ hC g = hC h ∧ hS g = hS h) := by
  refine PU_of (fun Q hQ => ?_)
  have V := Vis_DA
  obtain ⟨S, X⟩ := K
  obtain ⟨c0, s0, hcc, hss⟩ : ∃ c0 s0, hC h = c0 ∧ hS h = s0 := ⟨_, _, rfl, rfl⟩
  refine x_ent en76 ?_
  refine x_aload_n d76_0 rfl ?_
  refine x_gfR d76_1 cl76 f9_9 (S.F.o rfl (by decide)) rfl (S.F.r rfl) ?_
  refine x_iload_n d76_4 rfl ?_
  refine x_baload d76_5 (S.F.o rfl (by decide)) ⟨by omega, by rw [(S.F.l (a := 64) (n := 8) (by decide) rfl)]; omega⟩ rfl ?_
  refine x_nm (fun a1 e1 => ?_)
  have b1 : 0 ≤ a1 ∧ a1 ≤ 1 := by rw [e1]; exact (S.a64 _)
  refine x_ifne (t := 26) d76_6 rfl (by omega) (fun c6_2 => ?_) (fun c6_2 => ?_)
  · refine x_aload_n d76_26 rfl ?_
    refine x_gfR d76_27 cl76 f9_15 (S.F.o rfl (by decide)) rfl (S.F.r rfl) ?_
    refine x_iload_n d76_30 rfl ?_
    refine x_iconst d76_31 ?_
    refine x_imul d76_32 ?_
    refine x_iload_n d76_33 rfl ?_
    refine x_iastore d76_34 (by decide) (S.F.o rfl (by decide)) ⟨by omega, by rw [(S.F.l (a := 65) (n := 24) (by decide) rfl)]; omega⟩ rfl (x_wr (fun g => IV g mP mC mI mD mB nP nC nI nD nB ∧ hC g = c0 ∧ hS g = s0) ⟨⟨Hv_r65 S (by omega), EX_f S X rfl⟩, hcc, hss⟩ (fun h q3 => ?_))
    obtain ⟨⟨S, X⟩, hcc, hss⟩ := q3
    refine x_aload_n d76_35 rfl ?_
    refine x_gfR d76_36 cl76 f9_15 (S.F.o rfl (by decide)) rfl (S.F.r rfl) ?_
    refine x_iload_n d76_39 rfl ?_
    refine x_iconst d76_40 ?_
    refine x_imul d76_41 ?_
    refine x_iconst d76_42 ?_
    refine x_iadd d76_43 ?_
    refine x_iload_n d76_44 rfl ?_
    refine x_iastore d76_45 (by decide) (S.F.o rfl (by decide)) ⟨by omega, by rw [(S.F.l (a := 65) (n := 24) (by decide) rfl)]; omega⟩ rfl (x_wr (fun g => IV g mP mC mI mD mB nP nC nI nD nB ∧ hC g = c0 ∧ hS g = s0) ⟨⟨Hv_r65 S (by omega), EX_f S X rfl⟩, hcc, hss⟩ (fun h q4 => ?_))
    obtain ⟨⟨S, X⟩, hcc, hss⟩ := q4
    refine x_aload_n d76_46 rfl ?_
    refine x_gfR d76_47 cl76 f9_15 (S.F.o rfl (by decide)) rfl (S.F.r rfl) ?_
    refine x_iload_n d76_50 rfl ?_
    refine x_iconst d76_51 ?_
    refine x_imul d76_52 ?_
    refine x_iconst d76_53 ?_
    refine x_iadd d76_54 ?_
    refine x_iload d76_55 rfl ?_
    refine x_iastore d76_57 (by decide) (S.F.o rfl (by decide)) ⟨by omega, by rw [(S.F.l (a := 65) (n := 24) (by decide) rfl)]; omega⟩ rfl (x_wr (fun g => IV g mP mC mI mD mB nP nC nI nD nB ∧ hC g = c0 ∧ hS g = s0) ⟨⟨Hv_r65 S (by omega), EX_f S X rfl⟩, hcc, hss⟩ (fun h q5 => ?_))
    obtain ⟨⟨S, X⟩, hcc, hss⟩ := q5
    exact x_ret d76_58 rt76 (hQ _ ⟨⟨S, X⟩, by omega, by omega⟩)
  · refine x_aload_n d76_9 rfl ?_
    refine x_gfR d76_10 cl76 f9_9 (S.F.o rfl (by decide)) rfl (S.F.r rfl) ?_
    refine x_iload_n d76_13 rfl ?_
    refine x_iconst d76_14 ?_
    refine x_bastore d76_15 (by decide) (S.F.o rfl (by decide)) ⟨by omega, by rw [(S.F.l (a := 64) (n := 8) (by decide) rfl)]; omega⟩ rfl (by omega) (x_wr (fun g => Hv g mP mC mI mD mB nP nC nI nD nB ∧ EX0 g mP mI nP nI ∧ CI g mB nB ∧ tcS g = tcS h + 1 ∧ hI g 63 0 = tcS h ∧ hC g = c0 ∧ hS g = s0) ⟨Hv_r64 S (by omega), EX0_f S X.1 (by decide), CI_f S X.2.1 (by decide), tcS_set (by omega) (by omega), X.2.2, hcc, hss⟩ (fun h q6 => ?_))
    obtain ⟨S, X0, XC, hts, hn0, hcc, hss⟩ := q6
    have htl := tcS_le S
    refine x_aload_n d76_16 rfl ?_
    refine x_dupR d76_17 ?_
    refine x_gfI d76_18 cl76 f9_19 (by decide) (S.F.o rfl (by decide)) rfl ?_
    have g7 := S.count
    refine x_iconst d76_21 ?_
    refine x_iadd d76_22 ?_
    refine x_pfI d76_23 cl76 f9_19 (S.F.o rfl (by decide)) rfl (fun q => by cases q) (x_wr (fun g => IV g mP mC mI mD mB nP nC nI nD nB ∧ hC g = c0 ∧ hS g = s0) ⟨⟨Hv_f63_0 S (by omega), EX0_f S X0 (by decide), CI_f S XC (by decide), by show hI (sI h 63 0 _) 63 0 = tcS h; rw [hI_eq]; omega⟩, hcc, hss⟩ (fun h q8 => ?_))
    obtain ⟨⟨S, X⟩, hcc, hss⟩ := q8
    refine x_aload_n d76_26 rfl ?_
    refine x_gfR d76_27 cl76 f9_15 (S.F.o rfl (by decide)) rfl (S.F.r rfl) ?_
    refine x_iload_n d76_30 rfl ?_
    refine x_iconst d76_31 ?_
    refine x_imul d76_32 ?_
    refine x_iload_n d76_33 rfl ?_
    refine x_iastore d76_34 (by decide) (S.F.o rfl (by decide)) ⟨by omega, by rw [(S.F.l (a := 65) (n := 24) (by decide) rfl)]; omega⟩ rfl (x_wr (fun g => IV g mP mC mI mD mB nP nC nI nD nB ∧ hC g = c0 ∧ hS g = s0) ⟨⟨Hv_r65 S (by omega), EX_f S X rfl⟩, hcc, hss⟩ (fun h q9 => ?_))
    obtain ⟨⟨S, X⟩, hcc, hss⟩ := q9
    refine x_aload_n d76_35 rfl ?_
    refine x_gfR d76_36 cl76 f9_15 (S.F.o rfl (by decide)) rfl (S.F.r rfl) ?_
    refine x_iload_n d76_39 rfl ?_
    refine x_iconst d76_40 ?_
    refine x_imul d76_41 ?_
    refine x_iconst d76_42 ?_
    refine x_iadd d76_43 ?_
    refine x_iload_n d76_44 rfl ?_
    refine x_iastore d76_45 (by decide) (S.F.o rfl (by decide)) ⟨by omega, by rw [(S.F.l (a := 65) (n := 24) (by decide) rfl)]; omega⟩ rfl (x_wr (fun g => IV g mP mC mI mD mB nP nC nI nD nB ∧ hC g = c0 ∧ hS g = s0) ⟨⟨Hv_r65 S (by omega), EX_f S X rfl⟩, hcc, hss⟩ (fun h q10 => ?_))
    obtain ⟨⟨S, X⟩, hcc, hss⟩ := q10
    refine x_aload_n d76_46 rfl ?_
    refine x_gfR d76_47 cl76 f9_15 (S.F.o rfl (by decide)) rfl (S.F.r rfl) ?_
    refine x_iload_n d76_50 rfl ?_
    refine x_iconst d76_51 ?_
    refine x_imul d76_52 ?_
    refine x_iconst d76_53 ?_
    refine x_iadd d76_54 ?_
    refine x_iload d76_55 rfl ?_
    refine x_iastore d76_57 (by decide) (S.F.o rfl (by decide)) ⟨by omega, by rw [(S.F.l (a := 65) (n := 24) (by decide) rfl)]; omega⟩ rfl (x_wr (fun g => IV g mP mC mI mD mB nP nC nI nD nB ∧ hC g = c0 ∧ hS g = s0) ⟨⟨Hv_r65 S (by omega), EX_f S X rfl⟩, hcc, hss⟩ (fun h q11 => ?_))
    obtain ⟨⟨S, X⟩, hcc, hss⟩ := q11
    exact x_ret d76_58 rt76 (hQ _ ⟨⟨S, X⟩, by omega, by omega⟩)
theorem C119 {d : Nat} {h : Hp} {x y w z : Int} (qx : -2147483648 ≤ x ∧ x < 2147483648) (qy : -2147483648 ≤ y ∧ y < 2147483648) (qw : -2147483648 ≤ w ∧ w < 2147483648) (qz : -2147483648 ≤ z ∧ z < 2147483648) {mP mC mI mD mB : Nat → Nat} {nP nC nI nD nB : Nat} (K : IV h mP mC mI mD mB nP nC nI nD nB) : MX DA (d + 2) 119 [vR (some 2), vI x, vI y, vI w, vI z] h (fun w g => ∃ v : Int, w = vI v ∧ MR h g) := by
  refine MX_of (fun Q hQ1 hQ0 => ?_)
  have V := Vis_DA
  obtain ⟨S, X⟩ := K
  obtain ⟨c0, s0, hcc, hss⟩ : ∃ c0 s0, hC h = c0 ∧ hS h = s0 := ⟨_, _, rfl, rfl⟩
  refine x_ent en119 ?_
  refine x_iload_n d119_0 rfl ?_
  refine x_SE d119_1 cl119 m11_115 kd101 po101 le101 (C101 (by omega)) (fun v1 r1 z1 => ?_)
  try dsimp only at r1
  refine x_ifeq (t := 21) d119_4 rfl (by omega) (fun c4_2 => ?_) (fun c4_2 => ?_)
  · refine x_iconst d119_21 ?_
    exact x_ck d119_22 cl119 m11_88 kd84 po84 le84 rfl (fun c => C84 c) (fun c => C84x c) (by omega) (hQ0 _ (by decide)) (fun c => absurd c (by decide))
  · refine x_iload_n d119_7 rfl ?_
    refine x_iload_n d119_8 rfl ?_
    refine x_iload d119_9 rfl ?_
    refine x_SE d119_11 cl119 m11_442 kd120 po120 le120 (C120 (by omega) (by omega) (by omega)) (fun v4 r4 z4 => ?_)
    try dsimp only at r4
    refine x_ifeq (t := 21) d119_14 rfl (by omega) (fun c14_5 => ?_) (fun c14_5 => ?_)
    · refine x_iconst d119_21 ?_
      exact x_ck d119_22 cl119 m11_88 kd84 po84 le84 rfl (fun c => C84 c) (fun c => C84x c) (by omega) (hQ0 _ (by decide)) (fun c => absurd c (by decide))
    · refine x_iconst d119_17 ?_
      refine x_goto (t := 22) d119_18 rfl ?_
      refine x_SN d119_22 cl119 m11_88 kd84 po84 le84 (C84 (by omega)) ?_
      refine x_aload_n d119_25 rfl ?_
      refine x_gfR d119_26 cl119 f11_70 (S.F.o rfl (by decide)) rfl (S.F.r rfl) ?_
      refine x_iload_n d119_29 rfl ?_
      refine x_iload_n d119_30 rfl ?_
      refine x_iload_n d119_31 rfl ?_
      refine x_iload d119_32 rfl ?_
      refine x_VU d119_34 cl119 m11_445 kd76 tg76 po76 le76 (by decide) (S.F.o rfl (by decide)) (C76 (by omega) (by omega) (by omega) (by omega) ⟨S, X⟩) (fun h q8 => ?_)
      obtain ⟨⟨S, X⟩, hc9, hs9⟩ := q8
      have hcc := hc9.trans hcc
      have hss := hs9.trans hss
      refine x_aload_n d119_37 rfl ?_
      refine x_gfR d119_38 cl119 f11_70 (S.F.o rfl (by decide)) rfl (S.F.r rfl) ?_
      refine x_gfI d119_41 cl119 f11_447 (by decide) (S.F.o rfl (by decide)) rfl ?_
      have g9 := S.count
      exact x_iret d119_44 rt119 (hQ1 _ _ (MR_of ⟨S, X⟩ (by omega) (by omega)))
theorem C48 {d : Nat} {h : Hp} {z x w : Int} (qz : z = 0 ∨ z = 1) (qx : 0 ≤ x ∧ x ≤ 11) (qw : 0 ≤ w ∧ w ≤ 9999) (q8 : hI h 55 0 < 8) {mP mC mI mD mB : Nat → Nat} {nP nC nI nD nB : Nat} (hzx : (z = 1 ∧ x < nC) ∨ (z = 0 ∧ x < nP)) (K : IV h mP mC mI mD mB nP nC nI nD nB) : PW DA (d + 0) 48 [vR (some 55), vI z, vI x, vI w] h (fun w g => ∃ v : Int, w = vI v ∧ (IV g mP mC mI mD mB nP nC nI nD nB ∧ hC g = hC h ∧ hS g = hS h)) := by
  refine PW_of (fun Q hQ => ?_)
  have V := Vis_DA
  obtain ⟨S, X⟩ := K
  obtain ⟨c0, s0, hcc, hss⟩ : ∃ c0 s0, hC h = c0 ∧ hS h = s0 := ⟨_, _, rfl, rfl⟩
  obtain ⟨X0, XC9, XT⟩ := X
  have XC := CI0_of XC9
  obtain ⟨n0, hn0⟩ : ∃ n0, hI h 55 0 = n0 := ⟨_, rfl⟩
  refine x_ent en48 ?_
  refine x_aload_n d48_0 rfl ?_
  refine x_gfR d48_1 cl48 f7_9 (S.F.o rfl (by decide)) rfl (S.F.r rfl) ?_
  refine x_aload_n d48_4 rfl ?_
  refine x_gfI d48_5 cl48 f7_39 (by decide) (S.F.o rfl (by decide)) rfl ?_
  have g1 := S.items
  refine x_iload_n d48_8 rfl ?_
  refine x_bastore d48_9 (by decide) (S.F.o rfl (by decide)) ⟨by omega, by rw [(S.F.l (a := 56) (n := 8) (by decide) rfl)]; omega⟩ rfl (by omega) (x_wr (fun g => Hv g mP mC mI mD mB nP nC nI nD nB ∧ EX0 g mP mI nP nI ∧ TC g ∧ CI0 g ∧ hC g = c0 ∧ hS g = s0 ∧ hI g 55 0 = n0 ∧ hI g 56 n0.toNat = z) ⟨Hv_r56 S (by omega) (by omega), EX0_f S X0 (by decide), TC_w XT (by decide), CI0_w XC (by decide) (Or.inl (by decide)), hcc, hss, hn0, by rw [hn0]; exact hI_eq⟩ (fun h q2 => ?_))
  obtain ⟨S, X0, XT, XC, hcc, hss, hn0, hz9⟩ := q2
  refine x_aload_n d48_10 rfl ?_
  refine x_gfR d48_11 cl48 f7_15 (S.F.o rfl (by decide)) rfl (S.F.r rfl) ?_
  refine x_aload_n d48_14 rfl ?_
  refine x_gfI d48_15 cl48 f7_39 (by decide) (S.F.o rfl (by decide)) rfl ?_
  have g3 := S.items
  refine x_iload_n d48_18 rfl ?_
  refine x_iastore d48_19 (by decide) (S.F.o rfl (by decide)) ⟨by omega, by rw [(S.F.l (a := 57) (n := 8) (by decide) rfl)]; omega⟩ rfl (x_wr (fun g => Hv g mP mC mI mD mB nP nC nI nD nB ∧ EX0 g mP mI nP nI ∧ TC g ∧ CI0 g ∧ hC g = c0 ∧ hS g = s0 ∧ hI g 55 0 = n0 ∧ hI g 56 n0.toNat = z ∧ hI g 57 n0.toNat = x) ⟨Hv_r57 S (by omega) (by omega), EX0_f S X0 (by decide), TC_w XT (by decide), CI0_w XC (by decide) (Or.inl (by decide)), hcc, hss, hn0, hz9, by rw [hn0]; exact hI_eq⟩ (fun h q4 => ?_))
  obtain ⟨S, X0, XT, XC, hcc, hss, hn0, hz9, hx9⟩ := q4
  refine x_aload_n d48_20 rfl ?_
  refine x_gfR d48_21 cl48 f7_19 (S.F.o rfl (by decide)) rfl (S.F.r rfl) ?_
  refine x_aload_n d48_24 rfl ?_
  refine x_gfI d48_25 cl48 f7_39 (by decide) (S.F.o rfl (by decide)) rfl ?_
  have g5 := S.items
  refine x_iload_n d48_28 rfl ?_
  refine x_iastore d48_29 (by decide) (S.F.o rfl (by decide)) ⟨by omega, by rw [(S.F.l (a := 58) (n := 8) (by decide) rfl)]; omega⟩ rfl (x_wr (fun g => Hv g mP mC mI mD mB nP nC nI nD nB ∧ EX0 g mP mI nP nI ∧ TC g ∧ CI0 g ∧ hC g = c0 ∧ hS g = s0 ∧ hI g 55 0 = n0 ∧ hI g 56 n0.toNat = z ∧ hI g 57 n0.toNat = x) ⟨Hv_r58 S (by omega), EX0_f S X0 (by decide), TC_w XT (by decide), CI0_w XC (by decide) (Or.inl (by decide)), hcc, hss, hn0, hz9, hx9⟩ (fun h q6 => ?_))
  obtain ⟨S, X0, XT, XC, hcc, hss, hn0, hz9, hx9⟩ := q6
  refine x_aload_n d48_30 rfl ?_
  refine x_dupR d48_31 ?_
  refine x_gfI d48_32 cl48 f7_39 (by decide) (S.F.o rfl (by decide)) rfl ?_
  have g7 := S.items
  refine x_iconst d48_35 ?_
  refine x_iadd d48_36 ?_
  refine x_pfI d48_37 cl48 f7_39 (S.F.o rfl (by decide)) rfl (fun q => by cases q) (x_wr (fun g => Hv g mP mC mI mD mB nP nC nI nD nB ∧ EX0 g mP mI nP nI ∧ TC g ∧ CI0 g ∧ hC g = c0 ∧ hS g = s0) ⟨Hv_it S (by omega) rfl (by rw [hn0, hz9, hx9]; exact ⟨fun q => by omega, fun q => by omega⟩), EX0_f S X0 (by decide), TC_w XT (by decide), CI0_w XC (by decide) (Or.inr (by decide)), hcc, hss⟩ (fun h q8 => ?_))
  obtain ⟨S, X0, XT, XC, hcc, hss⟩ := q8
  refine x_aload_n d48_40 rfl ?_
  refine x_iconst d48_41 ?_
  refine x_pfZ d48_42 cl48 f7_46 (S.F.o rfl (by decide)) rfl (fun q => by cases q) (by omega) (x_wr (fun g => IV g mP mC mI mD mB nP nC nI nD nB ∧ hC g = c0 ∧ hS g = s0) ⟨⟨Hv_f55_6 S, EX0_f S X0 (by decide), CI_un XC, TC_w XT (by decide)⟩, hcc, hss⟩ (fun h q9 => ?_))
  obtain ⟨⟨S, X⟩, hcc, hss⟩ := q9
  refine x_aload_n d48_45 rfl ?_
  refine x_gfI d48_46 cl48 f7_39 (by decide) (S.F.o rfl (by decide)) rfl ?_
  have g10 := S.items
  refine x_iconst d48_49 ?_
  refine x_isub d48_50 ?_
  exact x_iret d48_51 rt48 (hQ _ _ ⟨⟨S, X⟩, by omega, by omega⟩)
theorem C47 {D : Nat → Nat → Bool} {d : Nat} {h : Hp} {z x : Int} {mP mC mI mD mB : Nat → Nat} {nP nC nI nD nB : Nat} (V : Vis D) (S : Hv h mP mC mI mD mB nP nC nI nD nB) (qz : -2147483648 ≤ z ∧ z < 2147483648) (qx : -2147483648 ≤ x ∧ x < 2147483648) : ∃ v : Int, (fun v : Int => v = 0 ∨ v = 1) v ∧ PV D (d + 0) 47 [vR (some 55), vI z, vI x] h (vI v) := by
  refine PE_of (fun Q hQ => ?_)
  refine x_ent en47 ?_
  have hit := S.items
  refine x_iconst d47_0 ?_
  refine x_nm (fun w1_1 ew1_1 => ?_)
  refine x_istore_n [some (vR _), some (vI _), some (vI _), some (vI _)] d47_1 rfl ?_
  refine (x_ub (N := hI h 55 0) (P := fun i2 => wp D (d + 0) 47 2 [some (vR (some 55)), some (vI z), some (vI x), some (vI i2)] [] h Q) w1_1 (by omega) (fun i2 hi2 hj2 ih2 => ?_))
  refine x_iload_n d47_2 rfl ?_
  refine x_aload_n d47_3 rfl ?_
  refine x_gfI d47_4 cl47 f7_39 (by decide) (S.F.o rfl (by decide)) (V _ _ rfl) ?_
  have g3 := S.items
  refine x_icge (t := 38) d47_7 rfl (by omega) (fun c7_4 => ?_) (fun c7_4 => ?_)
  · refine x_iconst d47_38 ?_
    exact x_zret d47_39 rt47 (by omega) (hQ _ (by omega))
  · refine x_aload_n d47_10 rfl ?_
    refine x_gfR d47_11 cl47 f7_9 (S.F.o rfl (by decide)) (V _ _ rfl) (S.F.r rfl) ?_
    refine x_iload_n d47_14 rfl ?_
    refine x_baload d47_15 (S.F.o rfl (by decide)) ⟨by omega, by rw [(S.F.l (a := 56) (n := 8) (by decide) rfl)]; omega⟩ (V _ _ rfl) ?_
    refine x_nm (fun a5 e5 => ?_)
    have b5 : 0 ≤ a5 ∧ a5 ≤ 1 := by rw [e5]; exact (S.a56 _)
    refine x_iload_n d47_16 rfl ?_
    refine x_icne (t := 32) d47_17 rfl (by omega) (fun c17_6 => ?_) (fun c17_6 => ?_)
    · refine x_iinc [some (vR _), some (vI _), some (vI _), some (vI _)] d47_32 rfl rfl ?_
      refine x_goto (t := 2) d47_35 rfl ?_
      exact ih2 (by omega) 
    · refine x_aload_n d47_20 rfl ?_
      refine x_gfR d47_21 cl47 f7_15 (S.F.o rfl (by decide)) (V _ _ rfl) (S.F.r rfl) ?_
      refine x_iload_n d47_24 rfl ?_
      refine x_iaload d47_25 (S.F.o rfl (by decide)) ⟨by omega, by rw [(S.F.l (a := 57) (n := 8) (by decide) rfl)]; omega⟩ (V _ _ rfl) ?_
      refine x_nm (fun a7 e7 => ?_)
      have b7 : 0 ≤ a7 ∧ a7 ≤ 11 := by rw [e7]; exact (S.a57 _)
      refine x_iload_n d47_26 rfl ?_
      refine x_icne (t := 32) d47_27 rfl (by omega) (fun c27_8 => ?_) (fun c27_8 => ?_)
      · refine x_iinc [some (vR _), some (vI _), some (vI _), some (vI _)] d47_32 rfl rfl ?_
        refine x_goto (t := 2) d47_35 rfl ?_
        exact ih2 (by omega) 
      · refine x_iconst d47_30 ?_
        exact x_zret d47_31 rt47 (by omega) (hQ _ (by omega))
theorem C117 {d : Nat} {h : Hp} {z x w : Int} (qz : z = 0 ∨ z = 1) (qx : -2147483648 ≤ x ∧ x < 2147483648) (qw : -2147483648 ≤ w ∧ w < 2147483648) {mP mC mI mD mB : Nat → Nat} {nP nC nI nD nB : Nat} (K : IV h mP mC mI mD mB nP nC nI nD nB) : MX DA (d + 2) 117 [vR (some 2), vI z, vI x, vI w] h (fun w g => ∃ v : Int, w = vI v ∧ MR h g) := by
  refine MX_of (fun Q hQ1 hQ0 => ?_)
  have V := Vis_DA
  obtain ⟨S, X⟩ := K
  obtain ⟨c0, s0, hcc, hss⟩ : ∃ c0 s0, hC h = c0 ∧ hS h = s0 := ⟨_, _, rfl, rfl⟩
  have hnp := S.np
  have hnc := S.nc
  refine x_ent en117 ?_
  refine x_iload_n d117_0 rfl ?_
  refine x_ifeq (t := 12) d117_1 rfl (by omega) (fun c1_1 => ?_) (fun c1_1 => ?_)
  · refine x_aload_n d117_12 rfl ?_
    refine x_iload_n d117_13 rfl ?_
    refine x_VE d117_14 cl117 m11_173 kd103 tg103 po103 le103 (by decide) (S.F.o rfl (by decide)) (C103 V S (by omega)) (fun v2 r2 z2 => ?_)
    try dsimp only at r2
    refine x_ck d117_17 cl117 m11_112 kd94 po94 le94 rfl (fun c => C94 c) (fun c => C94x c) (by omega) (hQ0 _ (by decide)) (fun k17_3 => ?_)
    refine x_iload_n d117_20 rfl ?_
    refine x_iconst d117_21 ?_
    refine x_sipush d117_22 (by decide) ?_
    refine x_SE d117_25 cl117 m11_84 kd83 po83 le83 (C83 (by omega) (by omega) (by omega)) (fun v4 r4 z4 => ?_)
    try dsimp only at r4
    refine x_ck d117_28 cl117 m11_88 kd84 po84 le84 rfl (fun c => C84 c) (fun c => C84x c) (by omega) (hQ0 _ (by decide)) (fun k28_5 => ?_)
    refine x_aload_n d117_31 rfl ?_
    refine x_gfR d117_32 cl117 f11_63 (S.F.o rfl (by decide)) rfl (S.F.r rfl) ?_
    refine x_gfI d117_35 cl117 f11_392 (by decide) (S.F.o rfl (by decide)) rfl ?_
    have g6 := S.items
    refine x_bipush d117_38 (by decide) ?_
    refine x_icge (t := 59) d117_40 rfl (by omega) (fun c40_7 => ?_) (fun c40_7 => ?_)
    · refine x_iconst d117_59 ?_
      exact x_ck d117_60 cl117 m11_122 kd88 po88 le88 rfl (fun c => C88 c) (fun c => C88x c) (by omega) (hQ0 _ (by decide)) (fun c => absurd c (by decide))
    · refine x_aload_n d117_43 rfl ?_
      refine x_gfR d117_44 cl117 f11_63 (S.F.o rfl (by decide)) rfl (S.F.r rfl) ?_
      refine x_iload_n d117_47 rfl ?_
      refine x_iload_n d117_48 rfl ?_
      refine x_VE d117_49 cl117 m11_395 kd47 tg47 po47 le47 (by decide) (S.F.o rfl (by decide)) (C47 V S (by omega) (by omega)) (fun v9 r9 z9 => ?_)
      try dsimp only at r9
      refine x_ifne (t := 59) d117_52 rfl (by omega) (fun c52_10 => ?_) (fun c52_10 => ?_)
      · refine x_iconst d117_59 ?_
        exact x_ck d117_60 cl117 m11_122 kd88 po88 le88 rfl (fun c => C88 c) (fun c => C88x c) (by omega) (hQ0 _ (by decide)) (fun c => absurd c (by decide))
      · refine x_iconst d117_55 ?_
        refine x_goto (t := 60) d117_56 rfl ?_
        refine x_SN d117_60 cl117 m11_122 kd88 po88 le88 (C88 (by omega)) ?_
        refine x_aload_n d117_63 rfl ?_
        refine x_gfR d117_64 cl117 f11_63 (S.F.o rfl (by decide)) rfl (S.F.r rfl) ?_
        refine x_iload_n d117_67 rfl ?_
        refine x_iload_n d117_68 rfl ?_
        refine x_iload_n d117_69 rfl ?_
        refine x_VW d117_70 cl117 m11_399 kd48 tg48 po48 le48 (by decide) (S.F.o rfl (by decide)) (C48 (by omega) (by omega) (by omega) (by omega) (by omega) ⟨S, X⟩) (fun v13 h q13 => ?_)
        obtain ⟨v13, rfl, q13⟩ := q13
        obtain ⟨⟨S, X⟩, hc9, hs9⟩ := q13
        have hcc := hc9.trans hcc
        have hss := hs9.trans hss
        exact x_iret d117_73 rt117 (hQ1 _ _ (MR_of ⟨S, X⟩ (by omega) (by omega)))
  · refine x_aload_n d117_4 rfl ?_
    refine x_iload_n d117_5 rfl ?_
    refine x_VE d117_6 cl117 m11_306 kd108 tg108 po108 le108 (by decide) (S.F.o rfl (by decide)) (C108 V S (by omega)) (fun v14 r14 z14 => ?_)
    try dsimp only at r14
    refine x_goto (t := 17) d117_9 rfl ?_
    refine x_ck d117_17 cl117 m11_112 kd94 po94 le94 rfl (fun c => C94 c) (fun c => C94x c) (by omega) (hQ0 _ (by decide)) (fun k17_15 => ?_)
    refine x_iload_n d117_20 rfl ?_
    refine x_iconst d117_21 ?_
    refine x_sipush d117_22 (by decide) ?_
    refine x_SE d117_25 cl117 m11_84 kd83 po83 le83 (C83 (by omega) (by omega) (by omega)) (fun v16 r16 z16 => ?_)
    try dsimp only at r16
    refine x_ck d117_28 cl117 m11_88 kd84 po84 le84 rfl (fun c => C84 c) (fun c => C84x c) (by omega) (hQ0 _ (by decide)) (fun k28_17 => ?_)
    refine x_aload_n d117_31 rfl ?_
    refine x_gfR d117_32 cl117 f11_63 (S.F.o rfl (by decide)) rfl (S.F.r rfl) ?_
    refine x_gfI d117_35 cl117 f11_392 (by decide) (S.F.o rfl (by decide)) rfl ?_
    have g18 := S.items
    refine x_bipush d117_38 (by decide) ?_
    refine x_icge (t := 59) d117_40 rfl (by omega) (fun c40_19 => ?_) (fun c40_19 => ?_)
    · refine x_iconst d117_59 ?_
      exact x_ck d117_60 cl117 m11_122 kd88 po88 le88 rfl (fun c => C88 c) (fun c => C88x c) (by omega) (hQ0 _ (by decide)) (fun c => absurd c (by decide))
    · refine x_aload_n d117_43 rfl ?_
      refine x_gfR d117_44 cl117 f11_63 (S.F.o rfl (by decide)) rfl (S.F.r rfl) ?_
      refine x_iload_n d117_47 rfl ?_
      refine x_iload_n d117_48 rfl ?_
      refine x_VE d117_49 cl117 m11_395 kd47 tg47 po47 le47 (by decide) (S.F.o rfl (by decide)) (C47 V S (by omega) (by omega)) (fun v21 r21 z21 => ?_)
      try dsimp only at r21
      refine x_ifne (t := 59) d117_52 rfl (by omega) (fun c52_22 => ?_) (fun c52_22 => ?_)
      · refine x_iconst d117_59 ?_
        exact x_ck d117_60 cl117 m11_122 kd88 po88 le88 rfl (fun c => C88 c) (fun c => C88x c) (by omega) (hQ0 _ (by decide)) (fun c => absurd c (by decide))
      · refine x_iconst d117_55 ?_
        refine x_goto (t := 60) d117_56 rfl ?_
        refine x_SN d117_60 cl117 m11_122 kd88 po88 le88 (C88 (by omega)) ?_
        refine x_aload_n d117_63 rfl ?_
        refine x_gfR d117_64 cl117 f11_63 (S.F.o rfl (by decide)) rfl (S.F.r rfl) ?_
        refine x_iload_n d117_67 rfl ?_
        refine x_iload_n d117_68 rfl ?_
        refine x_iload_n d117_69 rfl ?_
        refine x_VW d117_70 cl117 m11_399 kd48 tg48 po48 le48 (by decide) (S.F.o rfl (by decide)) (C48 (by omega) (by omega) (by omega) (by omega) (by omega) ⟨S, X⟩) (fun v25 h q25 => ?_)
        obtain ⟨v25, rfl, q25⟩ := q25
        obtain ⟨⟨S, X⟩, hc9, hs9⟩ := q25
        have hcc := hc9.trans hcc
        have hss := hs9.trans hss
        exact x_iret d117_73 rt117 (hQ1 _ _ (MR_of ⟨S, X⟩ (by omega) (by omega)))
