/-! ===== FRAMES: they are found ===== -/
theorem fS_lo {sp : Nat → Int} {k s : Nat} (q : s < 2 ^ k) : fS sp (k + 1) s = fS sp k s := by rw [fS, if_pos q]
theorem fV_lo {sp va : Nat → Int} {al : Nat → Nat → Bool} {L : Int} {k s : Nat} (q : s < 2 ^ k) : fV sp va al L (k + 1) s = fV sp va al L k s := by rw [fV, if_pos q]
theorem fS_hi {sp : Nat → Int} {k r : Nat} : fS sp (k + 1) (2 ^ k + r) = fS sp k r + sp k := by
  rw [fS, if_neg (by omega), show 2 ^ k + r - 2 ^ k = r by omega]
theorem fV_hi {sp va : Nat → Int} {al : Nat → Nat → Bool} {L : Int} {k r : Nat} : fV sp va al L (k + 1) (2 ^ k + r) = if 0 ≤ fV sp va al L k r ∧ al k r = true ∧ fS sp k r + sp k ≤ L then fV sp va al L k r + va k else -1 := by
  rw [fV, if_neg (by omega), show 2 ^ k + r - 2 ^ k = r by omega]
theorem fS_rng {sp : Nat → Int} : ∀ k, (∀ j, j < k → 1 ≤ sp j ∧ sp j ≤ 9) → ∀ s, 0 ≤ fS sp k s ∧ fS sp k s ≤ 9 * k := by
  intro k
  induction k with
  | zero => intro _ s; exact ⟨Int.le_refl 0, Int.le_refl 0⟩
  | succ k ih =>
    intro h s
    have i1 := ih (fun j hj => h j (by omega)) s
    have i2 := ih (fun j hj => h j (by omega)) (s - 2 ^ k)
    have hk := h k (by omega)
    unfold fS
    split <;> omega
theorem fV_rng {sp va : Nat → Int} {al : Nat → Nat → Bool} {L : Int} : ∀ k, (∀ j, j < k → 0 ≤ va j ∧ va j ≤ 20000) → ∀ s, -1 ≤ fV sp va al L k s ∧ fV sp va al L k s ≤ 20000 * k := by
  intro k
  induction k with
  | zero => intro _ s; exact ⟨by show -1 ≤ (0 : Int); omega, Int.le_refl 0⟩
  | succ k ih =>
    intro h s
    have i1 := ih (fun j hj => h j (by omega)) s
    have i2 := ih (fun j hj => h j (by omega)) (s - 2 ^ k)
    have hk := h k (by omega)
    unfold fV
    split
    · omega
    · split <;> omega
/-- the first n places of the tables, for k PIECES -/
def FR (sp va : Nat → Int) (al : Nat → Nat → Bool) (L : Int) (h : Hp) (k n : Nat) : Prop := ∀ s : Nat, s < n → hI h 67 s = fS sp k s ∧ hI h 68 s = fV sp va al L k s
theorem FR_in {sp va : Nat → Int} {al : Nat → Nat → Bool} {L : Int} {h : Hp} {k : Nat} (F : FR sp va al L h k (2 ^ k)) : FR sp va al L h (k + 1) (2 ^ k + 0) := fun s hs => by
  have hs : s < 2 ^ k := hs
  rw [fS_lo hs, fV_lo hs]
  exact F s hs
theorem Bst_congr {f g : Nat → Int} {n b : Nat} (e : ∀ s, s < n → f s = g s) (q : Bst f n b) : Bst g n b := by
  refine ⟨q.1, fun s hs => ?_, fun s hs => ?_⟩
  · rw [← e s hs, ← e b q.1]; exact q.2.1 s hs
  · rw [← e s (Nat.lt_trans hs q.1), ← e b q.1]; exact q.2.2 s hs
theorem Bst_no {f : Nat → Int} {n b : Nat} (q : Bst f n b) (w : f n ≤ f b) : Bst f (n + 1) b := by
  refine ⟨by have := q.1; omega, fun s hs => ?_, q.2.2⟩
  rcases (show s = n ∨ s < n by omega) with u | u
  · rw [u]; exact w
  · exact q.2.1 s u
theorem Bst_yes {f : Nat → Int} {n b : Nat} (q : Bst f n b) (w : f b < f n) : Bst f (n + 1) n := by
  refine ⟨by omega, fun s hs => ?_, fun s hs => ?_⟩
  · rcases (show s = n ∨ s < n by omega) with u | u
    · rw [u]; exact Int.le_refl _
    · have := q.2.1 s u; omega
  · have := q.2.1 s hs; omega
theorem Bst_in {sp va : Nat → Int} {al : Nat → Nat → Bool} {L : Int} {k b : Nat} (q : Bst (fV sp va al L k) (2 ^ k) b) : Bst (fV sp va al L (k + 1)) (2 ^ k + 0) b := Bst_congr (fun s hs => (fV_lo hs).symm) q
theorem Bst_ex {f : Nat → Int} : ∀ n, ∃ b, Bst f (n + 1) b := by
  intro n
  induction n with
  | zero => exact ⟨0, by omega, fun s hs => by rw [show s = 0 by omega]; exact Int.le_refl _, fun s hs => by omega⟩
  | succ n ih =>
    obtain ⟨b, q⟩ := ih
    rcases Int.lt_or_le (f b) (f (n + 1)) with w | w
    · exact ⟨n + 1, Bst_yes q w⟩
    · exact ⟨b, Bst_no q w⟩
theorem Bst_ex2 {f : Nat → Int} (k : Nat) : ∃ b, Bst f (2 ^ k) b := by
  have := Bst_ex (f := f) (2 ^ k - 1)
  rwa [show 2 ^ k - 1 + 1 = 2 ^ k by have := Nat.two_pow_pos k; omega] at this
/-- alike with none of a set -/
def alF (as : Nat → Int) (k s : Nat) : Bool := decide (o32 fand (s : Int) (as k) = 0)
theorem shl_12 {n : Int} (q : 0 ≤ n ∧ n ≤ 12) : o32 fshl 1 n = ((2 ^ n.toNat : Nat) : Int) ∧ 2 ^ n.toNat ≤ 4096 := by
  rcases (show n = 0 ∨ n = 1 ∨ n = 2 ∨ n = 3 ∨ n = 4 ∨ n = 5 ∨ n = 6 ∨ n = 7 ∨ n = 8 ∨ n = 9 ∨ n = 10 ∨ n = 11 ∨ n = 12 by omega) with rfl | rfl | rfl | rfl | rfl | rfl | rfl | rfl | rfl | rfl | rfl | rfl | rfl <;> decide +kernel
theorem or_nn {x y : Nat} (hx : x < 2147483648) (hy : y < 2147483648) : o32 fior (x : Int) (y : Int) = ((x ||| y : Nat) : Int) := by
  refine o32_nn ?_ (Nat.or_lt_two_pow (n := 31) hx hy)
  rw [B32_or, BitVec.toNat_or, B32_nat (by omega), B32_nat (by omega)]; rfl
theorem or_set {n r : Int} (q : 0 ≤ n ∧ n < 12) (w : 0 ≤ r ∧ r < ((2 ^ n.toNat : Nat) : Int)) : o32 fior r (o32 fshl 1 n) = ((2 ^ n.toNat + r.toNat : Nat) : Int) := by
  have s := shl_12 (n := n) (by omega)
  have h12 : 2 ^ n.toNat ≤ 2 ^ 11 := Nat.pow_le_pow_right (by omega) (by omega)
  rw [s.1]
  have e := or_nn (x := r.toNat) (y := 2 ^ n.toNat) (by omega) (by omega)
  rw [show ((r.toNat : Nat) : Int) = r by omega] at e
  have e2 := Nat.two_pow_add_eq_or_of_lt (b := r.toNat) (i := n.toNat) (by omega) 1
  rw [Nat.mul_one] at e2
  rw [e, Nat.or_comm, e2]
theorem pow_s {n : Int} (q : 0 ≤ n) : 2 ^ (n + 1).toNat = 2 ^ n.toNat + 2 ^ n.toNat := by
  rw [show (n + 1).toNat = n.toNat + 1 by omega, Nat.pow_succ]; omega
theorem spr_of {h0 : Hp} {mP mC mI mD mB : Nat → Nat} {nP nC nI nD nB : Nat} (S0 : Hv h0 mP mC mI mD mB nP nC nI nD nB) {sp : Nat → Int} (hsp0 : ∀ k, k < nP → sp k = hI h0 (mP k) 1 * hI h0 (mP k) 2) : ∀ k, k < nP → 1 ≤ sp k ∧ sp k ≤ 9 := fun k hk => by
  obtain ⟨v, hv, -⟩ := C20 (D := DV) (d := 0) (Ls.mem S0.lp k hk) Vis_DV
  rw [hsp0 k hk]
  omega
theorem var_of {h0 : Hp} {mP mC mI mD mB : Nat → Nat} {nP nC nI nD nB : Nat} (S0 : Hv h0 mP mC mI mD mB nP nC nI nD nB) {va : Nat → Int} (hva : ∀ k, k < nP → ∃ d2, PV DV d2 139 [vR (some 2), vR (some (mP k))] h0 (vI (va k))) : ∀ k, k < nP → 0 ≤ va k ∧ va k ≤ 20000 := fun k hk => by
  obtain ⟨v, hv, q⟩ := C139 (D := DV) (d := 0) Vis_DV S0 (Ls.mem S0.lp k hk)
  obtain ⟨d2, q2⟩ := hva k hk
  have e : va k = v := Sum.inl.inj (PV_det q2 q)
  rw [e]
  exact ⟨hv.1, hv.2.1⟩
theorem C161 {d : Nat} {h0 h : Hp} {x : Int} {mP mC mI mD mB : Nat → Nat} {nP nC nI nD nB : Nat} (S0 : Hv h0 mP mC mI mD mB nP nC nI nD nB) (A : Agr DV h0 h) (K : CI h mB nB) (sp va as : Nat → Int) (hsp0 : ∀ k, k < nP → sp k = hI h0 (mP k) 1 * hI h0 (mP k) 2) (hva : ∀ k, k < nP → ∃ d2, PV DV d2 139 [vR (some 2), vR (some (mP k))] h0 (vI (va k))) (hal : ∀ k, k < nP → ∃ d2, PV DV d2 131 [vR (some 2), vR (some (mP k))] h0 (vI (as k))) (qx : 0 ≤ x ∧ x ≤ 40) : PW DA (d + 9) 161 [vR (some 2), vI x] h (fun w g => ∃ v : Int, w = vI v ∧ ∃ b : Nat, v = (b : Int) ∧ Bst (fV sp va (alF as) x nP) (2 ^ nP) b ∧ hI g 68 b = fV sp va (alF as) x nP b ∧ Hv g mP mC mI mD mB nP nC nI nD nB ∧ Agr DV h0 g ∧ CI g mB nB) := by
  refine PW_of (fun Q hQ => ?_)
  have V := Vis_DA
  have S := Hv_agr A S0
  have hnp := S0.np
  have hspr := spr_of S0 hsp0
  have hvr := var_of S0 hva
  have m69 : ∀ k, k < nB → 69 ≤ mB k := fun k hk => (Ls.mem S.lb k hk).g
  refine x_ent en161 ?_
  refine x_iconst d161_0 ?_
  refine x_nm (fun w1_1 ew1_1 => ?_)
  refine x_istore_n [some (vR _), some (vI _), some (vI _), none, none, none, none, none, none, none] d161_1 rfl ?_
  refine x_aload_n d161_2 rfl ?_
  refine x_gfR d161_3 cl161 f11_78 (S.F.o rfl (by decide)) (V _ _ rfl) (S.F.r rfl) ?_
  refine x_iconst d161_6 ?_
  refine x_iconst d161_7 ?_
  refine x_iastore d161_8 (by decide) (S.F.o rfl (by decide)) ⟨by omega, by rw [(S.F.l (a := 67) (n := 4096) (by decide) rfl)]; omega⟩ rfl (x_wr (fun g => Hv g mP mC mI mD mB nP nC nI nD nB ∧ Agr DV h0 g ∧ CI g mB nB ∧ hI g 67 0 = 0) ⟨Hv_r67 S, Agr_w A rfl, CI_w K m69 (by omega), hI_eq⟩ (fun h q2 => ?_))
  obtain ⟨S, A, K, z0⟩ := q2
  refine x_aload_n d161_9 rfl ?_
  refine x_gfR d161_10 cl161 f11_81 (S.F.o rfl (by decide)) (V _ _ rfl) (S.F.r rfl) ?_
  refine x_iconst d161_13 ?_
  refine x_iconst d161_14 ?_
  refine x_iastore d161_15 (by decide) (S.F.o rfl (by decide)) ⟨by omega, by rw [(S.F.l (a := 68) (n := 4096) (by decide) rfl)]; omega⟩ rfl (x_wr (fun g => Hv g mP mC mI mD mB nP nC nI nD nB ∧ Agr DV h0 g ∧ CI g mB nB ∧ hI g 67 0 = 0 ∧ hI g 68 0 = 0) ⟨Hv_r68 S, Agr_w A rfl, CI_w K m69 (by omega), by rw [hI_ne (by decide)]; exact z0, hI_eq⟩ (fun h q3 => ?_))
  obtain ⟨S, A, K, z0, z1⟩ := q3
  refine x_iconst d161_16 ?_
  refine x_nm (fun w17_4 ew17_4 => ?_)
  refine x_istore_n [some (vR _), some (vI _), some (vI _), some (vI _), none, none, none, none, none, none] d161_17 rfl ?_
  refine (x_ub (N := nP) (P := fun i5 => ∀ h : Hp, (Hv h mP mC mI mD mB nP nC nI nD nB ∧ Agr DV h0 h ∧ CI h mB nB ∧ FR sp va (alF as) x h (i5).toNat (2 ^ (i5).toNat)) → ∀ s5_2 : Int, (∃ b : Nat, s5_2 = (b : Int) ∧ Bst (fV sp va (alF as) x (i5).toNat) (2 ^ (i5).toNat) b) → ∀ t5_4 : Option XV, ∀ t5_5 : Option XV, ∀ t5_6 : Option XV, ∀ t5_7 : Option XV, ∀ t5_8 : Option XV, ∀ t5_9 : Option XV, wp DA (d + 9) 161 18 [some (vR (some 2)), some (vI x), some (vI s5_2), some (vI i5), t5_4, t5_5, t5_6, t5_7, t5_8, t5_9] [] h Q) w17_4 (by omega) (fun i5 hi5 hj5 ih5 h hh5 s5_2 hs5_2 t5_4 t5_5 t5_6 t5_7 t5_8 t5_9 => ?_)) _ ⟨S, A, K, fun s9 hs9 => by rw [show (w17_4).toNat = 0 by omega] at hs9 ⊢; rw [show s9 = 0 by omega]; exact ⟨z0, z1⟩⟩ _ (by refine ⟨0, by omega, ?_⟩; rw [show (w17_4).toNat = 0 by omega]; exact ⟨by decide, fun s9 hs9 => by rw [show s9 = 0 by omega]; exact Int.le_refl _, fun s9 hs9 => by omega⟩) _ _ _ _ _ _
  obtain ⟨S, A, K, F⟩ := hh5
  refine x_iload_n d161_18 rfl ?_
  refine x_aload_n d161_19 rfl ?_
  refine x_gfR d161_20 cl161 f11_19 (S.F.o rfl (by decide)) (V _ _ rfl) (S.F.r rfl) ?_
  refine x_VE d161_23 cl161 m11_129 kd168 tg168 po168 le168 (by decide) (S.F.o rfl (by decide)) (C168 (S.F.o rfl (by decide)) rfl S.lp) (fun v6 r6 z6 => ?_)
  try dsimp only at r6
  refine x_icge (t := 190) d161_26 rfl (by omega) (fun c26_7 => ?_) (fun c26_7 => ?_)
  · refine x_iload_n d161_190 rfl ?_
    exact x_iret d161_191 rt161 (hQ _ _ (by obtain ⟨b9, eb9, hb9⟩ := hs5_2; rw [show (i5).toNat = nP by omega] at hb9; rw [show (i5).toNat = nP by omega] at F; exact ⟨b9, eb9, hb9, (F b9 hb9.1).2, S, A, K⟩))
  · have hs12 := shl_12 (n := i5) (by omega)
    have hpp := Nat.two_pow_pos (i5).toNat
    have h11 : 2 ^ (i5).toNat ≤ 2 ^ 11 := Nat.pow_le_pow_right (by omega) (by omega)
    have hPk := Ls.mem S.lp (i5).toNat (by omega)
    have hsp : hI h (mP (i5).toNat) 1 * hI h (mP (i5).toNat) 2 = sp (i5).toNat := by rw [A.i (DV_ge hPk.g), A.i (DV_ge hPk.g)]; exact (hsp0 (i5).toNat (by omega)).symm
    refine x_aload_n d161_29 rfl ?_
    refine x_gfR d161_30 cl161 f11_19 (S.F.o rfl (by decide)) (V _ _ rfl) (S.F.r rfl) ?_
    refine x_iload_n d161_33 rfl ?_
    refine x_VV d161_34 cl161 m11_132 kd173 tg173 po173 le173 (by decide) (S.F.o rfl (by decide)) (C173 (d := d + 5) (S.F.o rfl (by decide)) rfl rfl S.lp V (by omega) (by omega)) ?_
    refine x_cast d161_37 cl161 ct11_136 (Pc.ob (Ls.mem S.lp (i5).toNat (by omega))) ?_
    refine x_astore [some (vR _), some (vI _), some (vI _), some (vI _), some (vR _), _, _, _, _, _] d161_40 rfl ?_
    refine x_aload_n d161_42 rfl ?_
    refine x_aload d161_43 rfl ?_
    refine x_VE d161_45 cl161 m11_236 kd131 tg131 po131 le131 (by decide) (S.F.o rfl (by decide)) (C131 V S (Ls.mem S.lp (i5).toNat (by omega))) (fun v9 r9 z9 => ?_)
    try dsimp only at r9
    have eal : v9 = as (i5).toNat := by obtain ⟨d9, q9⟩ := hal (i5).toNat (by omega); exact Sum.inl.inj (PV_det z9 (PV_sub DV_DA (PV_loc A q9)))
    refine x_nm (fun w48_10 ew48_10 => ?_)
    refine x_istore [some (vR _), some (vI _), some (vI _), some (vI _), some (vR _), some (vI _), _, _, _, _] d161_48 rfl ?_
    refine x_aload_n d161_50 rfl ?_
    refine x_aload d161_51 rfl ?_
    refine x_VE d161_53 cl161 m11_468 kd139 tg139 po139 le139 (by decide) (S.F.o rfl (by decide)) (C139 V S (Ls.mem S.lp (i5).toNat (by omega))) (fun v11 r11 z11 => ?_)
    try dsimp only at r11
    have eva : v11 = va (i5).toNat := by obtain ⟨d9, q9⟩ := hva (i5).toNat (by omega); exact Sum.inl.inj (PV_det z11 (PV_sub DV_DA (PV_loc A q9)))
    refine x_nm (fun w56_12 ew56_12 => ?_)
    refine x_istore [some (vR _), some (vI _), some (vI _), some (vI _), some (vR _), some (vI _), some (vI _), _, _, _] d161_56 rfl ?_
    refine x_iconst d161_58 ?_
    refine x_nm (fun w59_13 ew59_13 => ?_)
    refine x_istore [some (vR _), some (vI _), some (vI _), some (vI _), some (vR _), some (vI _), some (vI _), some (vI _), _, _] d161_59 rfl ?_
    refine (x_ub (N := ((2 ^ (i5).toNat : Nat) : Int)) (P := fun i14 => ∀ h : Hp, (Hv h mP mC mI mD mB nP nC nI nD nB ∧ Agr DV h0 h ∧ CI h mB nB ∧ FR sp va (alF as) x h ((i5).toNat + 1) (2 ^ (i5).toNat + (i14).toNat)) → ∀ s14_2 : Int, (∃ b : Nat, s14_2 = (b : Int) ∧ Bst (fV sp va (alF as) x ((i5).toNat + 1)) (2 ^ (i5).toNat + (i14).toNat) b) → ∀ t14_8 : Option XV, ∀ t14_9 : Option XV, wp DA (d + 9) 161 61 [some (vR (some 2)), some (vI x), some (vI s14_2), some (vI i5), some (vR (some (mP (i5).toNat))), some (vI w48_10), some (vI w56_12), some (vI i14), t14_8, t14_9] [] h Q) w59_13 (by omega) (fun i14 hi14 hj14 ih14 h hh14 s14_2 hs14_2 t14_8 t14_9 => ?_)) _ ⟨S, A, K, by rw [show (w59_13).toNat = 0 by omega]; exact FR_in F⟩ _ (by obtain ⟨b, eb, hb⟩ := hs5_2; exact ⟨b, eb, by rw [show (w59_13).toNat = 0 by omega]; exact Bst_in hb⟩) _ _
    obtain ⟨S, A, K, F⟩ := hh14
    refine x_iload d161_61 rfl ?_
    refine x_iconst d161_63 ?_
    refine x_iload_n d161_64 rfl ?_
    refine x_ishlq d161_65 (fun q15 => ?_)
    rw [hs12.1]
    refine x_icge (t := 184) d161_66 rfl (by omega) (fun c66_16 => ?_) (fun c66_16 => ?_)
    · have e184 : 2 ^ (i5 + 1).toNat = 2 ^ (i5).toNat + (i14).toNat := by rw [pow_s (by omega)]; omega
      have e185 : (i5 + 1).toNat = (i5).toNat + 1 := by omega
      have hout : ∃ b : Nat, s14_2 = (b : Int) ∧ Bst (fV sp va (alF as) x (i5 + 1).toNat) (2 ^ (i5 + 1).toNat) b := by rw [e184, e185]; exact hs14_2
      have F3 : FR sp va (alF as) x h (i5 + 1).toNat (2 ^ (i5 + 1).toNat) := by rw [e184, e185]; exact F
      refine x_iinc [some (vR _), some (vI _), some (vI _), some (vI _), some (vR _), some (vI _), some (vI _), some (vI _), _, _] d161_184 rfl rfl ?_
      refine x_goto (t := 18) d161_187 rfl ?_
      exact ih5 (by omega) _ ⟨S, A, K, F3⟩ _ hout _ _ _ _ _ _
    · refine x_iload d161_69 rfl ?_
      refine x_iconst d161_71 ?_
      refine x_iload_n d161_72 rfl ?_
      refine x_ishlq d161_73 (fun q17 => ?_)
      refine x_iorq d161_74 (fun q18 => ?_)
      refine x_nm (fun w75_19 ew75_19 => ?_)
      refine x_istore [some (vR _), some (vI _), some (vI _), some (vI _), some (vR _), some (vI _), some (vI _), some (vI _), some (vI _), _] d161_75 rfl ?_
      rw [or_set (by omega) (by omega)] at ew75_19
      have ews : (w75_19).toNat = 2 ^ (i5).toNat + (i14).toNat := by omega
      have hPk := Ls.mem S.lp (i5).toNat (by omega)
      have hsp : hI h (mP (i5).toNat) 1 * hI h (mP (i5).toNat) 2 = sp (i5).toNat := by rw [A.i (DV_ge hPk.g), A.i (DV_ge hPk.g)]; exact (hsp0 (i5).toNat (by omega)).symm
      have hF0 := F (i14).toNat (by omega)
      rw [fS_lo (show (i14).toNat < 2 ^ (i5).toNat by omega), fV_lo (show (i14).toNat < 2 ^ (i5).toNat by omega)] at hF0
      have hrs := fS_rng (sp := sp) (i5).toNat (fun j hj => hspr j (by omega)) (i14).toNat
      have hrv := fV_rng (sp := sp) (va := va) (al := alF as) (L := x) (i5).toNat (fun j hj => hvr j (by omega)) (i14).toNat
      have hsi := hspr (i5).toNat (by omega)
      have hvi := hvr (i5).toNat (by omega)
      refine x_aload_n d161_77 rfl ?_
      refine x_gfR d161_78 cl161 f11_78 (S.F.o rfl (by decide)) (V _ _ rfl) (S.F.r rfl) ?_
      refine x_iload d161_81 rfl ?_
      refine x_aload_n d161_83 rfl ?_
      refine x_gfR d161_84 cl161 f11_78 (S.F.o rfl (by decide)) (V _ _ rfl) (S.F.r rfl) ?_
      refine x_iload d161_87 rfl ?_
      refine x_iaload d161_89 (S.F.o rfl (by decide)) ⟨by omega, by rw [(S.F.l (a := 67) (n := 4096) (by decide) rfl)]; omega⟩ rfl ?_
      refine x_aload d161_90 rfl ?_
      refine x_VE d161_92 cl161 m11_176 kd20 tg20 po20 le20 (by have := Pc.g (Ls.mem S.lp (i5).toNat (by omega)); omega) (Pc.ob (Ls.mem S.lp (i5).toNat (by omega))) (C20 (Ls.mem S.lp (i5).toNat (by omega)) V) (fun v20 r20 z20 => ?_)
      try dsimp only at r20
      refine x_iadd d161_95 ?_
      refine x_nm (fun sv esv => ?_)
      have hsv : sv = fS sp ((i5).toNat + 1) (2 ^ (i5).toNat + (i14).toNat) := by rw [fS_hi]; omega
      refine x_iastore d161_96 (by decide) (S.F.o rfl (by decide)) ⟨by omega, by rw [(S.F.l (a := 67) (n := 4096) (by decide) rfl)]; omega⟩ rfl (x_wr (fun g => Hv g mP mC mI mD mB nP nC nI nD nB ∧ Agr DV h0 g ∧ CI g mB nB ∧ FR sp va (alF as) x g ((i5).toNat + 1) (2 ^ (i5).toNat + (i14).toNat) ∧ hI g 67 (2 ^ (i5).toNat + (i14).toNat) = fS sp ((i5).toNat + 1) (2 ^ (i5).toNat + (i14).toNat)) ⟨Hv_r67 S, Agr_w A rfl, CI_w K m69 (by omega), fun s9 hs9 => by rw [hI_row, hI_ne (by decide), if_neg (by omega)]; exact F s9 hs9, by rw [hI_row, if_pos (by omega)]; exact hsv⟩ (fun h q21 => ?_))
      obtain ⟨S, A, K, F, zs⟩ := q21
      have hF1 := F (i14).toNat (by omega)
      rw [fS_lo (show (i14).toNat < 2 ^ (i5).toNat by omega), fV_lo (show (i14).toNat < 2 ^ (i5).toNat by omega)] at hF1
      have zs2 : hI h 67 (w75_19).toNat = fS sp (i5).toNat (i14).toNat + sp (i5).toNat := by rw [ews, zs, fS_hi]
      refine x_aload_n d161_97 rfl ?_
      refine x_gfR d161_98 cl161 f11_81 (S.F.o rfl (by decide)) (V _ _ rfl) (S.F.r rfl) ?_
      refine x_iload d161_101 rfl ?_
      refine x_iaload d161_103 (S.F.o rfl (by decide)) ⟨by omega, by rw [(S.F.l (a := 68) (n := 4096) (by decide) rfl)]; omega⟩ rfl ?_
      refine x_iflt (t := 130) d161_104 rfl (by omega) (fun c104_22 => ?_) (fun c104_22 => ?_)
      · have eal2 : w48_10 = as (i5).toNat := by omega
        have hcd : ¬ (0 ≤ fV sp va (alF as) x (i5).toNat (i14).toNat ∧ alF as (i5).toNat (i14).toNat = true ∧ fS sp (i5).toNat (i14).toNat + sp (i5).toNat ≤ x) := fun q9 => by have q1 := q9.1; have q3 := q9.2.2; have q2 := q9.2.1; unfold alF at q2; rw [← eal2, show (((i14).toNat : Nat) : Int) = i14 by omega] at q2; have q2 := of_decide_eq_true q2; omega
        refine x_iconst d161_130 ?_
        refine x_nm (fun w131_23 ew131_23 => ?_)
        refine x_istore [some (vR _), some (vI _), some (vI _), some (vI _), some (vR _), some (vI _), some (vI _), some (vI _), some (vI _), some (vI _)] d161_131 rfl ?_
        refine x_aload_n d161_133 rfl ?_
        refine x_gfR d161_134 cl161 f11_81 (S.F.o rfl (by decide)) (V _ _ rfl) (S.F.r rfl) ?_
        refine x_iload d161_137 rfl ?_
        refine x_iload d161_139 rfl ?_
        refine x_ifeq (t := 157) d161_141 rfl (by omega) (fun c141 => ?_) (fun c141 => by exfalso; omega)
        refine x_iconst d161_157 ?_
        refine x_nm (fun fv efv => ?_)
        have hfv : fv = fV sp va (alF as) x ((i5).toNat + 1) (2 ^ (i5).toNat + (i14).toNat) := by rw [fV_hi]; first | (rw [if_pos hcd]; omega) | (rw [if_neg hcd]; omega)
        refine x_iastore d161_158 (by decide) (S.F.o rfl (by decide)) ⟨by omega, by rw [(S.F.l (a := 68) (n := 4096) (by decide) rfl)]; omega⟩ rfl (x_wr (fun g => Hv g mP mC mI mD mB nP nC nI nD nB ∧ Agr DV h0 g ∧ CI g mB nB ∧ FR sp va (alF as) x g ((i5).toNat + 1) (2 ^ (i5).toNat + ((i14).toNat + 1))) ⟨Hv_r68 S, Agr_w A rfl, CI_w K m69 (by omega), fun s9 hs9 => by rw [hI_row, hI_ne (by decide)]; by_cases e9 : s9 = 2 ^ (i5).toNat + (i14).toNat; (rw [e9, if_pos ews.symm]; exact ⟨zs, hfv⟩); (rw [if_neg (by omega)]; exact F s9 (by omega))⟩ (fun h q24 => ?_))
        obtain ⟨S, A, K, F⟩ := q24
        refine x_aload_n d161_159 rfl ?_
        refine x_gfR d161_160 cl161 f11_81 (S.F.o rfl (by decide)) (V _ _ rfl) (S.F.r rfl) ?_
        refine x_iload d161_163 rfl ?_
        have hG := F (2 ^ (i5).toNat + (i14).toNat) (by omega)
        rw [← ews] at hG
        obtain ⟨b9, eb9, hb9⟩ := hs14_2
        have ebt : (s14_2).toNat = b9 := by omega
        have hb1 := hb9.1
        have hGb := F b9 (by omega)
        rw [← ebt] at hGb
        have hrv2 := fV_rng (sp := sp) (va := va) (al := alF as) (L := x) ((i5).toNat + 1) (fun j hj => hvr j (by omega))
        have hr1 := hrv2 (w75_19).toNat
        have hr2 := hrv2 (s14_2).toNat
        refine x_iaload d161_165 (S.F.o rfl (by decide)) ⟨by omega, by rw [(S.F.l (a := 68) (n := 4096) (by decide) rfl)]; omega⟩ rfl ?_
        refine x_aload_n d161_166 rfl ?_
        refine x_gfR d161_167 cl161 f11_81 (S.F.o rfl (by decide)) (V _ _ rfl) (S.F.r rfl) ?_
        refine x_iload_n d161_170 rfl ?_
        refine x_iaload d161_171 (S.F.o rfl (by decide)) ⟨by omega, by rw [(S.F.l (a := 68) (n := 4096) (by decide) rfl)]; omega⟩ rfl ?_
        refine x_icle (t := 178) d161_172 rfl (by omega) (fun c172_25 => ?_) (fun c172_25 => ?_)
        · have e178 : 2 ^ (i5).toNat + (i14 + 1).toNat = 2 ^ (i5).toNat + (i14).toNat + 1 := by omega
          have hinv : ∃ b : Nat, s14_2 = (b : Int) ∧ Bst (fV sp va (alF as) x ((i5).toNat + 1)) (2 ^ (i5).toNat + (i14 + 1).toNat) b := ⟨b9, eb9, by rw [e178]; exact Bst_no hb9 (by rw [← ebt, ← ews]; omega)⟩
          have F2 : FR sp va (alF as) x h ((i5).toNat + 1) (2 ^ (i5).toNat + (i14 + 1).toNat) := by rw [e178]; exact F
          refine x_iinc [some (vR _), some (vI _), some (vI _), some (vI _), some (vR _), some (vI _), some (vI _), some (vI _), some (vI _), some (vI _)] d161_178 rfl rfl ?_
          refine x_goto (t := 61) d161_181 rfl ?_
          exact ih14 (by omega) _ ⟨S, A, K, F2⟩ _ hinv _ _
        · refine x_iload d161_175 rfl ?_
          refine x_nm (fun w177_26 ew177_26 => ?_)
          refine x_istore_n [some (vR _), some (vI _), some (vI _), some (vI _), some (vR _), some (vI _), some (vI _), some (vI _), some (vI _), some (vI _)] d161_177 rfl ?_
          have e178 : 2 ^ (i5).toNat + (i14 + 1).toNat = 2 ^ (i5).toNat + (i14).toNat + 1 := by omega
          have hinv : ∃ b : Nat, w177_26 = (b : Int) ∧ Bst (fV sp va (alF as) x ((i5).toNat + 1)) (2 ^ (i5).toNat + (i14 + 1).toNat) b := ⟨2 ^ (i5).toNat + (i14).toNat, by omega, by rw [e178]; exact Bst_yes hb9 (by rw [← ebt, ← ews]; omega)⟩
          have F2 : FR sp va (alF as) x h ((i5).toNat + 1) (2 ^ (i5).toNat + (i14 + 1).toNat) := by rw [e178]; exact F
          refine x_iinc [some (vR _), some (vI _), some (vI _), some (vI _), some (vR _), some (vI _), some (vI _), some (vI _), some (vI _), some (vI _)] d161_178 rfl rfl ?_
          refine x_goto (t := 61) d161_181 rfl ?_
          exact ih14 (by omega) _ ⟨S, A, K, F2⟩ _ hinv _ _
      · refine x_iload d161_107 rfl ?_
        refine x_iload d161_109 rfl ?_
        refine x_iandq d161_111 (fun q27 => ?_)
        refine x_ifne (t := 130) d161_112 rfl (by omega) (fun c112_28 => ?_) (fun c112_28 => ?_)
        · have eal2 : w48_10 = as (i5).toNat := by omega
          have hcd : ¬ (0 ≤ fV sp va (alF as) x (i5).toNat (i14).toNat ∧ alF as (i5).toNat (i14).toNat = true ∧ fS sp (i5).toNat (i14).toNat + sp (i5).toNat ≤ x) := fun q9 => by have q1 := q9.1; have q3 := q9.2.2; have q2 := q9.2.1; unfold alF at q2; rw [← eal2, show (((i14).toNat : Nat) : Int) = i14 by omega] at q2; have q2 := of_decide_eq_true q2; omega
          refine x_iconst d161_130 ?_
          refine x_nm (fun w131_29 ew131_29 => ?_)
          refine x_istore [some (vR _), some (vI _), some (vI _), some (vI _), some (vR _), some (vI _), some (vI _), some (vI _), some (vI _), some (vI _)] d161_131 rfl ?_
          refine x_aload_n d161_133 rfl ?_
          refine x_gfR d161_134 cl161 f11_81 (S.F.o rfl (by decide)) (V _ _ rfl) (S.F.r rfl) ?_
          refine x_iload d161_137 rfl ?_
          refine x_iload d161_139 rfl ?_
          refine x_ifeq (t := 157) d161_141 rfl (by omega) (fun c141 => ?_) (fun c141 => by exfalso; omega)
          refine x_iconst d161_157 ?_
          refine x_nm (fun fv efv => ?_)
          have hfv : fv = fV sp va (alF as) x ((i5).toNat + 1) (2 ^ (i5).toNat + (i14).toNat) := by rw [fV_hi]; first | (rw [if_pos hcd]; omega) | (rw [if_neg hcd]; omega)
          refine x_iastore d161_158 (by decide) (S.F.o rfl (by decide)) ⟨by omega, by rw [(S.F.l (a := 68) (n := 4096) (by decide) rfl)]; omega⟩ rfl (x_wr (fun g => Hv g mP mC mI mD mB nP nC nI nD nB ∧ Agr DV h0 g ∧ CI g mB nB ∧ FR sp va (alF as) x g ((i5).toNat + 1) (2 ^ (i5).toNat + ((i14).toNat + 1))) ⟨Hv_r68 S, Agr_w A rfl, CI_w K m69 (by omega), fun s9 hs9 => by rw [hI_row, hI_ne (by decide)]; by_cases e9 : s9 = 2 ^ (i5).toNat + (i14).toNat; (rw [e9, if_pos ews.symm]; exact ⟨zs, hfv⟩); (rw [if_neg (by omega)]; exact F s9 (by omega))⟩ (fun h q30 => ?_))
          obtain ⟨S, A, K, F⟩ := q30
          refine x_aload_n d161_159 rfl ?_
          refine x_gfR d161_160 cl161 f11_81 (S.F.o rfl (by decide)) (V _ _ rfl) (S.F.r rfl) ?_
          refine x_iload d161_163 rfl ?_
          have hG := F (2 ^ (i5).toNat + (i14).toNat) (by omega)
          rw [← ews] at hG
          obtain ⟨b9, eb9, hb9⟩ := hs14_2
          have ebt : (s14_2).toNat = b9 := by omega
          have hb1 := hb9.1
          have hGb := F b9 (by omega)
          rw [← ebt] at hGb
          have hrv2 := fV_rng (sp := sp) (va := va) (al := alF as) (L := x) ((i5).toNat + 1) (fun j hj => hvr j (by omega))
          have hr1 := hrv2 (w75_19).toNat
          have hr2 := hrv2 (s14_2).toNat
          refine x_iaload d161_165 (S.F.o rfl (by decide)) ⟨by omega, by rw [(S.F.l (a := 68) (n := 4096) (by decide) rfl)]; omega⟩ rfl ?_
          refine x_aload_n d161_166 rfl ?_
          refine x_gfR d161_167 cl161 f11_81 (S.F.o rfl (by decide)) (V _ _ rfl) (S.F.r rfl) ?_
          refine x_iload_n d161_170 rfl ?_
          refine x_iaload d161_171 (S.F.o rfl (by decide)) ⟨by omega, by rw [(S.F.l (a := 68) (n := 4096) (by decide) rfl)]; omega⟩ rfl ?_
          refine x_icle (t := 178) d161_172 rfl (by omega) (fun c172_31 => ?_) (fun c172_31 => ?_)
          · have e178 : 2 ^ (i5).toNat + (i14 + 1).toNat = 2 ^ (i5).toNat + (i14).toNat + 1 := by omega
            have hinv : ∃ b : Nat, s14_2 = (b : Int) ∧ Bst (fV sp va (alF as) x ((i5).toNat + 1)) (2 ^ (i5).toNat + (i14 + 1).toNat) b := ⟨b9, eb9, by rw [e178]; exact Bst_no hb9 (by rw [← ebt, ← ews]; omega)⟩
            have F2 : FR sp va (alF as) x h ((i5).toNat + 1) (2 ^ (i5).toNat + (i14 + 1).toNat) := by rw [e178]; exact F
            refine x_iinc [some (vR _), some (vI _), some (vI _), some (vI _), some (vR _), some (vI _), some (vI _), some (vI _), some (vI _), some (vI _)] d161_178 rfl rfl ?_
            refine x_goto (t := 61) d161_181 rfl ?_
            exact ih14 (by omega) _ ⟨S, A, K, F2⟩ _ hinv _ _
          · refine x_iload d161_175 rfl ?_
            refine x_nm (fun w177_32 ew177_32 => ?_)
            refine x_istore_n [some (vR _), some (vI _), some (vI _), some (vI _), some (vR _), some (vI _), some (vI _), some (vI _), some (vI _), some (vI _)] d161_177 rfl ?_
            have e178 : 2 ^ (i5).toNat + (i14 + 1).toNat = 2 ^ (i5).toNat + (i14).toNat + 1 := by omega
            have hinv : ∃ b : Nat, w177_32 = (b : Int) ∧ Bst (fV sp va (alF as) x ((i5).toNat + 1)) (2 ^ (i5).toNat + (i14 + 1).toNat) b := ⟨2 ^ (i5).toNat + (i14).toNat, by omega, by rw [e178]; exact Bst_yes hb9 (by rw [← ebt, ← ews]; omega)⟩
            have F2 : FR sp va (alF as) x h ((i5).toNat + 1) (2 ^ (i5).toNat + (i14 + 1).toNat) := by rw [e178]; exact F
            refine x_iinc [some (vR _), some (vI _), some (vI _), some (vI _), some (vR _), some (vI _), some (vI _), some (vI _), some (vI _), some (vI _)] d161_178 rfl rfl ?_
            refine x_goto (t := 61) d161_181 rfl ?_
            exact ih14 (by omega) _ ⟨S, A, K, F2⟩ _ hinv _ _
        · refine x_aload_n d161_115 rfl ?_
          refine x_gfR d161_116 cl161 f11_78 (S.F.o rfl (by decide)) (V _ _ rfl) (S.F.r rfl) ?_
          refine x_iload d161_119 rfl ?_
          refine x_iaload d161_121 (S.F.o rfl (by decide)) ⟨by omega, by rw [(S.F.l (a := 67) (n := 4096) (by decide) rfl)]; omega⟩ rfl ?_
          refine x_iload_n d161_122 rfl ?_
          refine x_icgt (t := 130) d161_123 rfl (by omega) (fun c123_33 => ?_) (fun c123_33 => ?_)
          · have eal2 : w48_10 = as (i5).toNat := by omega
            have hcd : ¬ (0 ≤ fV sp va (alF as) x (i5).toNat (i14).toNat ∧ alF as (i5).toNat (i14).toNat = true ∧ fS sp (i5).toNat (i14).toNat + sp (i5).toNat ≤ x) := fun q9 => by have q1 := q9.1; have q3 := q9.2.2; have q2 := q9.2.1; unfold alF at q2; rw [← eal2, show (((i14).toNat : Nat) : Int) = i14 by omega] at q2; have q2 := of_decide_eq_true q2; omega
            refine x_iconst d161_130 ?_
            refine x_nm (fun w131_34 ew131_34 => ?_)
            refine x_istore [some (vR _), some (vI _), some (vI _), some (vI _), some (vR _), some (vI _), some (vI _), some (vI _), some (vI _), some (vI _)] d161_131 rfl ?_
            refine x_aload_n d161_133 rfl ?_
            refine x_gfR d161_134 cl161 f11_81 (S.F.o rfl (by decide)) (V _ _ rfl) (S.F.r rfl) ?_
            refine x_iload d161_137 rfl ?_
            refine x_iload d161_139 rfl ?_
            refine x_ifeq (t := 157) d161_141 rfl (by omega) (fun c141 => ?_) (fun c141 => by exfalso; omega)
            refine x_iconst d161_157 ?_
            refine x_nm (fun fv efv => ?_)
            have hfv : fv = fV sp va (alF as) x ((i5).toNat + 1) (2 ^ (i5).toNat + (i14).toNat) := by rw [fV_hi]; first | (rw [if_pos hcd]; omega) | (rw [if_neg hcd]; omega)
            refine x_iastore d161_158 (by decide) (S.F.o rfl (by decide)) ⟨by omega, by rw [(S.F.l (a := 68) (n := 4096) (by decide) rfl)]; omega⟩ rfl (x_wr (fun g => Hv g mP mC mI mD mB nP nC nI nD nB ∧ Agr DV h0 g ∧ CI g mB nB ∧ FR sp va (alF as) x g ((i5).toNat + 1) (2 ^ (i5).toNat + ((i14).toNat + 1))) ⟨Hv_r68 S, Agr_w A rfl, CI_w K m69 (by omega), fun s9 hs9 => by rw [hI_row, hI_ne (by decide)]; by_cases e9 : s9 = 2 ^ (i5).toNat + (i14).toNat; (rw [e9, if_pos ews.symm]; exact ⟨zs, hfv⟩); (rw [if_neg (by omega)]; exact F s9 (by omega))⟩ (fun h q35 => ?_))
            obtain ⟨S, A, K, F⟩ := q35
            refine x_aload_n d161_159 rfl ?_
            refine x_gfR d161_160 cl161 f11_81 (S.F.o rfl (by decide)) (V _ _ rfl) (S.F.r rfl) ?_
            refine x_iload d161_163 rfl ?_
            have hG := F (2 ^ (i5).toNat + (i14).toNat) (by omega)
            rw [← ews] at hG
            obtain ⟨b9, eb9, hb9⟩ := hs14_2
            have ebt : (s14_2).toNat = b9 := by omega
            have hb1 := hb9.1
            have hGb := F b9 (by omega)
            rw [← ebt] at hGb
            have hrv2 := fV_rng (sp := sp) (va := va) (al := alF as) (L := x) ((i5).toNat + 1) (fun j hj => hvr j (by omega))
            have hr1 := hrv2 (w75_19).toNat
            have hr2 := hrv2 (s14_2).toNat
            refine x_iaload d161_165 (S.F.o rfl (by decide)) ⟨by omega, by rw [(S.F.l (a := 68) (n := 4096) (by decide) rfl)]; omega⟩ rfl ?_
            refine x_aload_n d161_166 rfl ?_
            refine x_gfR d161_167 cl161 f11_81 (S.F.o rfl (by decide)) (V _ _ rfl) (S.F.r rfl) ?_
            refine x_iload_n d161_170 rfl ?_
            refine x_iaload d161_171 (S.F.o rfl (by decide)) ⟨by omega, by rw [(S.F.l (a := 68) (n := 4096) (by decide) rfl)]; omega⟩ rfl ?_
            refine x_icle (t := 178) d161_172 rfl (by omega) (fun c172_36 => ?_) (fun c172_36 => ?_)
            · have e178 : 2 ^ (i5).toNat + (i14 + 1).toNat = 2 ^ (i5).toNat + (i14).toNat + 1 := by omega
              have hinv : ∃ b : Nat, s14_2 = (b : Int) ∧ Bst (fV sp va (alF as) x ((i5).toNat + 1)) (2 ^ (i5).toNat + (i14 + 1).toNat) b := ⟨b9, eb9, by rw [e178]; exact Bst_no hb9 (by rw [← ebt, ← ews]; omega)⟩
              have F2 : FR sp va (alF as) x h ((i5).toNat + 1) (2 ^ (i5).toNat + (i14 + 1).toNat) := by rw [e178]; exact F
              refine x_iinc [some (vR _), some (vI _), some (vI _), some (vI _), some (vR _), some (vI _), some (vI _), some (vI _), some (vI _), some (vI _)] d161_178 rfl rfl ?_
              refine x_goto (t := 61) d161_181 rfl ?_
              exact ih14 (by omega) _ ⟨S, A, K, F2⟩ _ hinv _ _
            · refine x_iload d161_175 rfl ?_
              refine x_nm (fun w177_37 ew177_37 => ?_)
              refine x_istore_n [some (vR _), some (vI _), some (vI _), some (vI _), some (vR _), some (vI _), some (vI _), some (vI _), some (vI _), some (vI _)] d161_177 rfl ?_
              have e178 : 2 ^ (i5).toNat + (i14 + 1).toNat = 2 ^ (i5).toNat + (i14).toNat + 1 := by omega
              have hinv : ∃ b : Nat, w177_37 = (b : Int) ∧ Bst (fV sp va (alF as) x ((i5).toNat + 1)) (2 ^ (i5).toNat + (i14 + 1).toNat) b := ⟨2 ^ (i5).toNat + (i14).toNat, by omega, by rw [e178]; exact Bst_yes hb9 (by rw [← ebt, ← ews]; omega)⟩
              have F2 : FR sp va (alF as) x h ((i5).toNat + 1) (2 ^ (i5).toNat + (i14 + 1).toNat) := by rw [e178]; exact F
              refine x_iinc [some (vR _), some (vI _), some (vI _), some (vI _), some (vR _), some (vI _), some (vI _), some (vI _), some (vI _), some (vI _)] d161_178 rfl rfl ?_
              refine x_goto (t := 61) d161_181 rfl ?_
              exact ih14 (by omega) _ ⟨S, A, K, F2⟩ _ hinv _ _
          · have eal2 : w48_10 = as (i5).toNat := by omega
            have hcd : 0 ≤ fV sp va (alF as) x (i5).toNat (i14).toNat ∧ alF as (i5).toNat (i14).toNat = true ∧ fS sp (i5).toNat (i14).toNat + sp (i5).toNat ≤ x := ⟨by omega, by unfold alF; rw [← eal2, show (((i14).toNat : Nat) : Int) = i14 by omega]; exact decide_eq_true (by omega), by omega⟩
            refine x_iconst d161_126 ?_
            refine x_goto (t := 131) d161_127 rfl ?_
            refine x_nm (fun w131_38 ew131_38 => ?_)
            refine x_istore [some (vR _), some (vI _), some (vI _), some (vI _), some (vR _), some (vI _), some (vI _), some (vI _), some (vI _), some (vI _)] d161_131 rfl ?_
            refine x_aload_n d161_133 rfl ?_
            refine x_gfR d161_134 cl161 f11_81 (S.F.o rfl (by decide)) (V _ _ rfl) (S.F.r rfl) ?_
            refine x_iload d161_137 rfl ?_
            refine x_iload d161_139 rfl ?_
            refine x_ifeq (t := 157) d161_141 rfl (by omega) (fun c141 => by exfalso; omega) (fun c141 => ?_)
            refine x_aload_n d161_144 rfl ?_
            refine x_gfR d161_145 cl161 f11_81 (S.F.o rfl (by decide)) (V _ _ rfl) (S.F.r rfl) ?_
            refine x_iload d161_148 rfl ?_
            refine x_iaload d161_150 (S.F.o rfl (by decide)) ⟨by omega, by rw [(S.F.l (a := 68) (n := 4096) (by decide) rfl)]; omega⟩ rfl ?_
            refine x_iload d161_151 rfl ?_
            refine x_iadd d161_153 ?_
            refine x_goto (t := 158) d161_154 rfl ?_
            refine x_nm (fun fv efv => ?_)
            have hfv : fv = fV sp va (alF as) x ((i5).toNat + 1) (2 ^ (i5).toNat + (i14).toNat) := by rw [fV_hi]; first | (rw [if_pos hcd]; omega) | (rw [if_neg hcd]; omega)
            refine x_iastore d161_158 (by decide) (S.F.o rfl (by decide)) ⟨by omega, by rw [(S.F.l (a := 68) (n := 4096) (by decide) rfl)]; omega⟩ rfl (x_wr (fun g => Hv g mP mC mI mD mB nP nC nI nD nB ∧ Agr DV h0 g ∧ CI g mB nB ∧ FR sp va (alF as) x g ((i5).toNat + 1) (2 ^ (i5).toNat + ((i14).toNat + 1))) ⟨Hv_r68 S, Agr_w A rfl, CI_w K m69 (by omega), fun s9 hs9 => by rw [hI_row, hI_ne (by decide)]; by_cases e9 : s9 = 2 ^ (i5).toNat + (i14).toNat; (rw [e9, if_pos ews.symm]; exact ⟨zs, hfv⟩); (rw [if_neg (by omega)]; exact F s9 (by omega))⟩ (fun h q39 => ?_))
            obtain ⟨S, A, K, F⟩ := q39
            refine x_aload_n d161_159 rfl ?_
            refine x_gfR d161_160 cl161 f11_81 (S.F.o rfl (by decide)) (V _ _ rfl) (S.F.r rfl) ?_
            refine x_iload d161_163 rfl ?_
            have hG := F (2 ^ (i5).toNat + (i14).toNat) (by omega)
            rw [← ews] at hG
            obtain ⟨b9, eb9, hb9⟩ := hs14_2
            have ebt : (s14_2).toNat = b9 := by omega
            have hb1 := hb9.1
            have hGb := F b9 (by omega)
            rw [← ebt] at hGb
            have hrv2 := fV_rng (sp := sp) (va := va) (al := alF as) (L := x) ((i5).toNat + 1) (fun j hj => hvr j (by omega))
            have hr1 := hrv2 (w75_19).toNat
            have hr2 := hrv2 (s14_2).toNat
            refine x_iaload d161_165 (S.F.o rfl (by decide)) ⟨by omega, by rw [(S.F.l (a := 68) (n := 4096) (by decide) rfl)]; omega⟩ rfl ?_
            refine x_aload_n d161_166 rfl ?_
            refine x_gfR d161_167 cl161 f11_81 (S.F.o rfl (by decide)) (V _ _ rfl) (S.F.r rfl) ?_
            refine x_iload_n d161_170 rfl ?_
            refine x_iaload d161_171 (S.F.o rfl (by decide)) ⟨by omega, by rw [(S.F.l (a := 68) (n := 4096) (by decide) rfl)]; omega⟩ rfl ?_
            refine x_icle (t := 178) d161_172 rfl (by omega) (fun c172_40 => ?_) (fun c172_40 => ?_)
            · have e178 : 2 ^ (i5).toNat + (i14 + 1).toNat = 2 ^ (i5).toNat + (i14).toNat + 1 := by omega
              have hinv : ∃ b : Nat, s14_2 = (b : Int) ∧ Bst (fV sp va (alF as) x ((i5).toNat + 1)) (2 ^ (i5).toNat + (i14 + 1).toNat) b := ⟨b9, eb9, by rw [e178]; exact Bst_no hb9 (by rw [← ebt, ← ews]; omega)⟩
              have F2 : FR sp va (alF as) x h ((i5).toNat + 1) (2 ^ (i5).toNat + (i14 + 1).toNat) := by rw [e178]; exact F
              refine x_iinc [some (vR _), some (vI _), some (vI _), some (vI _), some (vR _), some (vI _), some (vI _), some (vI _), some (vI _), some (vI _)] d161_178 rfl rfl ?_
              refine x_goto (t := 61) d161_181 rfl ?_
              exact ih14 (by omega) _ ⟨S, A, K, F2⟩ _ hinv _ _
            · refine x_iload d161_175 rfl ?_
              refine x_nm (fun w177_41 ew177_41 => ?_)
              refine x_istore_n [some (vR _), some (vI _), some (vI _), some (vI _), some (vR _), some (vI _), some (vI _), some (vI _), some (vI _), some (vI _)] d161_177 rfl ?_
              have e178 : 2 ^ (i5).toNat + (i14 + 1).toNat = 2 ^ (i5).toNat + (i14).toNat + 1 := by omega
              have hinv : ∃ b : Nat, w177_41 = (b : Int) ∧ Bst (fV sp va (alF as) x ((i5).toNat + 1)) (2 ^ (i5).toNat + (i14 + 1).toNat) b := ⟨2 ^ (i5).toNat + (i14).toNat, by omega, by rw [e178]; exact Bst_yes hb9 (by rw [← ebt, ← ews]; omega)⟩
              have F2 : FR sp va (alF as) x h ((i5).toNat + 1) (2 ^ (i5).toNat + (i14 + 1).toNat) := by rw [e178]; exact F
              refine x_iinc [some (vR _), some (vI _), some (vI _), some (vI _), some (vR _), some (vI _), some (vI _), some (vI _), some (vI _), some (vI _)] d161_178 rfl rfl ?_
              refine x_goto (t := 61) d161_181 rfl ?_
              exact ih14 (by omega) _ ⟨S, A, K, F2⟩ _ hinv _ _
