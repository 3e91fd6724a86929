/-! ===== FRANKING ===== -/
/-- the fewest stamps for x on the day y by the first n ISSUES, F for smaller sums -/
def ffE (h : Hp) (mI : Nat → Nat) (F : Nat → Int) (x y : Int) : Nat → Int
  | 0 => 1000
  | n + 1 => if hI h (mI n) 0 ≤ x ∧ hI h (mI n) 1 ≤ y ∧ y ≤ hI h (mI n) 2 ∧ F (x - hI h (mI n) 0).toNat + 1 < ffE h mI F x y n then F (x - hI h (mI n) 0).toNat + 1 else ffE h mI F x y n
theorem ffE_up (h : Hp) (mI : Nat → Nat) (F : Nat → Int) (x y i : Int) (q : 0 ≤ i) : ffE h mI F x y (i + 1).toNat = if hI h (mI i.toNat) 0 ≤ x ∧ hI h (mI i.toNat) 1 ≤ y ∧ y ≤ hI h (mI i.toNat) 2 ∧ F (x - hI h (mI i.toNat) 0).toNat + 1 < ffE h mI F x y i.toNat then F (x - hI h (mI i.toNat) 0).toNat + 1 else ffE h mI F x y i.toNat := by
  rw [show (i + 1).toNat = i.toNat + 1 by omega]; rfl
theorem ffE_congr {h g : Hp} {mI : Nat → Nat} {F G : Nat → Int} {x y : Int} : ∀ n, (∀ k, k < n → 1 ≤ hI h (mI k) 0 ∧ hI g (mI k) 0 = hI h (mI k) 0 ∧ hI g (mI k) 1 = hI h (mI k) 1 ∧ hI g (mI k) 2 = hI h (mI k) 2) → (∀ j : Nat, (j : Int) < x → F j = G j) → ffE h mI F x y n = ffE g mI G x y n := by
  intro n
  induction n with
  | zero => intro _ _; rfl
  | succ n ih =>
    intro q w
    have k := q n (by omega)
    unfold ffE
    rw [ih (fun k hk => q k (by omega)) w, k.2.1, k.2.2.1, k.2.2.2]
    by_cases c : hI h (mI n) 0 ≤ x
    · rcases Int.lt_or_le x 1 with u | u
      · exfalso; omega
      · rw [w (x - hI h (mI n) 0).toNat (by omega)]
    · rw [if_neg (fun e => c e.1), if_neg (fun e => c e.1)]
def fwT (h : Hp) (mI : Nat → Nat) (nI : Nat) (y : Int) : Nat → Nat → Int
  | 0 => fun _ => 0
  | n + 1 => fun j => if j = n + 1 then ffE h mI (fwT h mI nI y n) ((n + 1 : Nat) : Int) y nI else fwT h mI nI y n j
/-- the fewest stamps for each sum -/
def fw (h : Hp) (mI : Nat → Nat) (nI : Nat) (y : Int) (n : Nat) : Int := fwT h mI nI y n n
theorem fwT_le {h : Hp} {mI : Nat → Nat} {nI : Nat} {y : Int} {j : Nat} : ∀ n, j ≤ n → fwT h mI nI y n j = fw h mI nI y j := by
  intro n
  induction n with
  | zero => intro q; rw [show j = 0 by omega]; rfl
  | succ n ih =>
    intro q
    by_cases e : j = n + 1
    · rw [e]; rfl
    · rw [fwT]
      dsimp only
      rw [if_neg e]; exact ih (by omega)
theorem fw_s {h : Hp} {mI : Nat → Nat} {nI : Nat} {y : Int} (w : ∀ k, k < nI → 1 ≤ hI h (mI k) 0) (n : Nat) : fw h mI nI y (n + 1) = ffE h mI (fw h mI nI y) ((n + 1 : Nat) : Int) y nI := by
  show fwT h mI nI y (n + 1) (n + 1) = _
  rw [fwT]
  dsimp only
  rw [if_pos rfl]
  exact ffE_congr nI (fun k hk => ⟨w k hk, rfl, rfl, rfl⟩) (fun j hj => fwT_le n (by omega))
theorem Agr_w {h0 h : Hp} {a k : Nat} {v : Int} (A : Agr DV h0 h) (q : DV a k = false) : Agr DV h0 (sI h a k v) := by
  refine ⟨A.1, A.2.1, A.2.2.1, A.2.2.2.1, A.2.2.2.2.1, fun b j e => ⟨?_, (A.2.2.2.2.2 b j e).2⟩⟩
  rw [hI_sI, if_neg]
  · exact (A.2.2.2.2.2 b j e).1
  · rintro ⟨rfl, rfl⟩
    rw [q] at e
    cases e
theorem CI_w {h : Hp} {mB : Nat → Nat} {nB a k : Nat} {v : Int} (K : CI h mB nB) (m : ∀ k, k < nB → 69 ≤ mB k) (q : a = 66 ∨ a = 67 ∨ a = 68) : CI (sI h a k v) mB nB := by
  have A : Agr DV h (sI h a k v) := Agr_w Agr_refl (by rcases q with q | q | q <;> (subst q; rfl))
  obtain ⟨k1, k2, k3, k4, k5⟩ := K
  refine ⟨k1, fun j hj => ?_, ?_, ?_, fun e => ?_⟩
  · rw [hI_ne (by omega), hI_ne (by omega), hI_ne (by omega)]; exact k2 j hj
  · rw [hI_ne (by omega)]; exact k3
  · rw [hI_ne (by omega)]; exact k4
  · rw [hI_ne (by omega)] at e
    rw [hI_ne (by omega), hI_ne (by omega), TN_agr A m (Nat.le_refl _)]
    exact ⟨fun s => by rw [hI_ne (by omega), hI_ne (by omega), hI_ne (by omega)]; exact (k5 e).1 s, (k5 e).2⟩
theorem C80s {D : Nat → Nat → Bool} {d : Nat} {h : Hp} {x : Int} {t : Nat} (T : Tm h t) (V : Vis D) (qx : -2147483648 ≤ x ∧ x < 2147483648) : ∃ v : Int, (fun v : Int => (v = 0 ∨ v = 1) ∧ (v = 1 ↔ hI h t 1 ≤ x ∧ x ≤ hI h t 2)) v ∧ PV D (d + 0) 80 [vR (some t), vI x] h (vI v) := by
  refine PE_of (fun Q hQ => ?_)
  refine x_ent en80 ?_
  refine x_aload_n d80_0 rfl ?_
  refine x_gfI d80_1 cl80 f10_13 (by decide) (Tm.ob T) (V.g (Tm.g T)) ?_
  have g1 := (Tm.frm T)
  refine x_iload_n d80_4 rfl ?_
  refine x_icgt (t := 20) d80_5 rfl (by omega) (fun c5_2 => ?_) (fun c5_2 => ?_)
  · refine x_iconst d80_20 ?_
    exact x_zret d80_21 rt80 (by omega) (hQ _ (by omega))
  · refine x_iload_n d80_8 rfl ?_
    refine x_aload_n d80_9 rfl ?_
    refine x_gfI d80_10 cl80 f10_16 (by decide) (Tm.ob T) (V.g (Tm.g T)) ?_
    have g3 := (Tm.to T)
    refine x_icgt (t := 20) d80_13 rfl (by omega) (fun c13_4 => ?_) (fun c13_4 => ?_)
    · refine x_iconst d80_20 ?_
      exact x_zret d80_21 rt80 (by omega) (hQ _ (by omega))
    · refine x_iconst d80_16 ?_
      refine x_goto (t := 21) d80_17 rfl ?_
      exact x_zret d80_21 rt80 (by omega) (hQ _ (by omega))
theorem C152s {D : Nat → Nat → Bool} {d : Nat} {h : Hp} {x y : Int} {mP mC mI mD mB : Nat → Nat} {nP nC nI nD nB : Nat} (V : Vis D) (S : Hv h mP mC mI mD mB nP nC nI nD nB) (iw : ∀ k : Nat, k < nI → 1 ≤ hI h (mI k) 0) (W : ∀ j : Nat, (j : Int) < x → D 66 j = true) (R : ∀ j : Nat, (j : Int) < x → 0 ≤ hI h 66 j ∧ hI h 66 j ≤ 1000) (qx : 1 ≤ x ∧ x ≤ 99) (qy : -2147483648 ≤ y ∧ y < 2147483648) : ∃ v : Int, (fun v : Int => v = ffE h mI (hI h 66) x y nI ∧ 0 ≤ v ∧ v ≤ 1000) v ∧ PV D (d + 4) 152 [vR (some 2), vI x, vI y] h (vI v) := by
  refine PE_of (fun Q hQ => ?_)
  refine x_ent en152 ?_
  have hni := S.ni
  refine x_sipush d152_0 (by decide) ?_
  refine x_nm (fun w3_1 ew3_1 => ?_)
  refine x_istore_n [some (vR _), some (vI _), some (vI _), some (vI _), none, none] d152_3 rfl ?_
  refine x_iconst d152_4 ?_
  refine x_nm (fun w5_2 ew5_2 => ?_)
  refine x_istore [some (vR _), some (vI _), some (vI _), some (vI _), some (vI _), none] d152_5 rfl ?_
  refine (x_ub (N := nI) (P := fun i3 => ∀ s3_3 : Int, (s3_3 = ffE h mI (hI h 66) x y (i3).toNat ∧ 0 ≤ s3_3 ∧ s3_3 ≤ 1000) → ∀ t3_5 : Option XV, wp D (d + 4) 152 7 [some (vR (some 2)), some (vI x), some (vI y), some (vI s3_3), some (vI i3), t3_5] [] h Q) w5_2 (by omega) (fun i3 hi3 hj3 ih3 s3_3 hs3_3 t3_5 => ?_)) _ (by subst_vars; exact ⟨rfl, by omega, by omega⟩) _
  refine x_iload d152_7 rfl ?_
  refine x_aload_n d152_9 rfl ?_
  refine x_gfR d152_10 cl152 f11_37 (S.F.o rfl (by decide)) (V _ _ rfl) (S.F.r rfl) ?_
  refine x_VE d152_13 cl152 m11_129 kd168 tg168 po168 le168 (by decide) (S.F.o rfl (by decide)) (C168 (S.F.o rfl (by decide)) (V _ _ rfl) S.li) (fun v4 r4 z4 => ?_)
  try dsimp only at r4
  refine x_icge (t := 76) d152_16 rfl (by omega) (fun c16_5 => ?_) (fun c16_5 => ?_)
  · refine x_iload_n d152_76 rfl ?_
    exact x_iret d152_77 rt152 (hQ _ (by have e9 := hs3_3; rw [show (i3).toNat = nI by omega] at e9; exact e9))
  · have hup := ffE_up h mI (hI h 66) x y i3 (by omega)
    refine x_aload_n d152_19 rfl ?_
    refine x_gfR d152_20 cl152 f11_37 (S.F.o rfl (by decide)) (V _ _ rfl) (S.F.r rfl) ?_
    refine x_iload d152_23 rfl ?_
    refine x_VV d152_25 cl152 m11_132 kd173 tg173 po173 le173 (by decide) (S.F.o rfl (by decide)) (C173 (d := d + 0) (S.F.o rfl (by decide)) (V _ _ rfl) (V _ _ rfl) S.li V (by omega) (by omega)) ?_
    refine x_cast d152_28 cl152 ct11_290 (Tm.ob (Ls.mem S.li (i3).toNat (by omega))) ?_
    refine x_astore [some (vR _), some (vI _), some (vI _), some (vI _), some (vI _), some (vR _)] d152_31 rfl ?_
    refine x_aload d152_33 rfl ?_
    refine x_gfI d152_35 cl152 f11_556 (by decide) (Tm.ob (Ls.mem S.li (i3).toNat (by omega))) (V.g (Tm.g (Ls.mem S.li (i3).toNat (by omega)))) ?_
    have g7 := (Tm.what (Ls.mem S.li (i3).toNat (by omega)))
    refine x_iload_n d152_38 rfl ?_
    refine x_icgt (t := 70) d152_39 rfl (by omega) (fun c39_8 => ?_) (fun c39_8 => ?_)
    · have hinv : s3_3 = ffE h mI (hI h 66) x y ((i3 + 1)).toNat ∧ 0 ≤ s3_3 ∧ s3_3 ≤ 1000 := by rw [if_neg (by omega)] at hup; omega
      refine x_iinc [some (vR _), some (vI _), some (vI _), some (vI _), some (vI _), some (vR _)] d152_70 rfl rfl ?_
      refine x_goto (t := 7) d152_73 rfl ?_
      exact ih3 (by omega) _ hinv _
    · refine x_aload d152_42 rfl ?_
      refine x_iload_n d152_44 rfl ?_
      refine x_VE d152_45 cl152 m11_583 kd80 tg80 po80 le80 (by have := Tm.g (Ls.mem S.li (i3).toNat (by omega)); omega) (Tm.ob (Ls.mem S.li (i3).toNat (by omega))) (C80s (Ls.mem S.li (i3).toNat (by omega)) V (by omega)) (fun v9 r9 z9 => ?_)
      try dsimp only at r9
      refine x_ifeq (t := 70) d152_48 rfl (by omega) (fun c48_10 => ?_) (fun c48_10 => ?_)
      · have hinv : s3_3 = ffE h mI (hI h 66) x y ((i3 + 1)).toNat ∧ 0 ≤ s3_3 ∧ s3_3 ≤ 1000 := by rw [if_neg (by omega)] at hup; omega
        refine x_iinc [some (vR _), some (vI _), some (vI _), some (vI _), some (vI _), some (vR _)] d152_70 rfl rfl ?_
        refine x_goto (t := 7) d152_73 rfl ?_
        exact ih3 (by omega) _ hinv _
      · refine x_iload_n d152_51 rfl ?_
        refine x_aload_n d152_52 rfl ?_
        refine x_gfR d152_53 cl152 f11_74 (S.F.o rfl (by decide)) (V _ _ rfl) (S.F.r rfl) ?_
        refine x_iload_n d152_56 rfl ?_
        refine x_aload d152_57 rfl ?_
        refine x_gfI d152_59 cl152 f11_556 (by decide) (Tm.ob (Ls.mem S.li (i3).toNat (by omega))) (V.g (Tm.g (Ls.mem S.li (i3).toNat (by omega)))) ?_
        have g11 := (Tm.what (Ls.mem S.li (i3).toNat (by omega)))
        have hiw := iw (i3).toNat (by omega)
        refine x_isub d152_62 ?_
        refine x_iaload d152_63 (S.F.o rfl (by decide)) ⟨by omega, by rw [(S.F.l (a := 66) (n := 100) (by decide) rfl)]; omega⟩ (W _ (by omega)) ?_
        refine x_nm (fun a12 e12 => ?_)
        have b12 : 0 ≤ a12 ∧ a12 ≤ 1000 := by rw [e12]; exact (R _ (by omega))
        refine x_iconst d152_64 ?_
        refine x_iadd d152_65 ?_
        refine x_nat d152_66 cl152 m11_588 (by decide) (popN_of (q := [vI _, vI _]) (show mArg 903 = 2 by decide +kernel) rfl rfl) (by exact Nat.le_of_ble_eq_true rfl) (nat_903 (by omega)) ?_
        refine x_nm (fun m66 em66 => ?_)
        try dsimp only at em66
        refine x_nm (fun w69_13 ew69_13 => ?_)
        refine x_istore_n [some (vR _), some (vI _), some (vI _), some (vI _), some (vI _), some (vR _)] d152_69 rfl ?_
        have hinv : w69_13 = ffE h mI (hI h 66) x y ((i3 + 1)).toNat ∧ 0 ≤ w69_13 ∧ w69_13 ≤ 1000 := by split at hup <;> omega
        refine x_iinc [some (vR _), some (vI _), some (vI _), some (vI _), some (vI _), some (vR _)] d152_70 rfl rfl ?_
        refine x_goto (t := 7) d152_73 rfl ?_
        exact ih3 (by omega) _ hinv _
