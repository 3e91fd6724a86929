/-! ===== THE SALE: what is answered of it ===== -/
theorem pick {α : Type} (a0 : α) {n : Nat} {P : Nat → α → Prop} (q : ∀ k, k < n → ∃ v, P k v) : ∃ f : Nat → α, ∀ k, k < n → P k (f k) := by
  refine Classical.axiomOfChoice (r := fun k v => k < n → P k v) (fun k => ?_)
  by_cases w : k < n
  · obtain ⟨v, hv⟩ := q k w
    exact ⟨v, fun _ => hv⟩
  · exact ⟨a0, fun u => absurd u w⟩
theorem Si_agr {h g : Hp} {mP mC mI mD mB : Nat → Nat} {nP nC nI nD nB : Nat} (A : Agr DV h g) (S : Hv h mP mC mI mD mB nP nC nI nD nB) (T : Si h mP nP) : Si g mP nP := fun k hk => by
  have P := Ls.mem S.lp k hk
  have hs := P.sheet
  have hp := P.g
  have e3 : hI g (mP k) 3 = hI h (mP k) 3 := A.i (DV_ge hp)
  have e5 : hI g (mP k) 5 = hI h (mP k) 5 := A.i (DV_ge hp)
  have ep : plc g (mP k) = plc h (mP k) := by
    unfold plc
    rw [e3, e5]
    exact A.i (DV_lt (by omega))
  have t := T k hk
  rw [ep, e3, A.i (a := 7 + 5 * (hI h (mP k) 3).toNat) (j := 2) (DV_lt (by omega)), A.i (a := 7 + 5 * (hI h (mP k) 3).toNat) (j := 3) (DV_lt (by omega)), A.i (a := 7 + 5 * (hI h (mP k) 3).toNat) (j := 4) (DV_lt (by omega))]
  refine ⟨fun x h1 h2 h3 => ?_, t.2⟩
  obtain ⟨r, r1, r2, r3, r4⟩ := t.1 x h1 h2 h3
  exact ⟨r, r1, r2, r3, by rw [A.i (DV_ge (by omega))]; exact r4⟩
section SALE
variable {h : Hp} {mP mC mI mD mB : Nat → Nat} {nP nC nI nD nB : Nat} {b : Int}
theorem ALL_mx (S : Hv h mP mC mI mD mB nP nC nI nD nB) : (o32 fshl 1 (hI h 55 0) - 1).toNat = mxF h := by
  have := all_nat S.items
  unfold mxF
  omega
theorem sale_X (S : Hv h mP mC mI mD mB nP nC nI nD nB) (K : CI h mB nB) (k5 : hI h 55 5 = b) (k6 : hI h 55 6 = 1) : ∀ j k : Int, 0 ≤ j → j < k → k < nB → tl (hI h 62 (o32 fshl 1 (hI h 55 0) - 1).toNat) j = 1 → tl (hI h 62 (o32 fshl 1 (hI h 55 0) - 1).toNat) k = 1 → o32 fand (hI h (mB j.toNat) 1) (hI h (mB k.toNat) 1) = 0 := by
  intro j k hj hjk hk t1 t2
  have hnb := S.nb
  have j64 : j.toNat < 64 := by omega
  have k64 : k.toNat < 64 := by omega
  have T := K.2.2.2.2 k6
  rw [k5] at T
  have e := (T.1 (o32 fshl 1 (hI h 55 0) - 1).toNat).2.2
  have hlt := tAll_Xlt (all := mxF h) (nb := nB) (cn := cnF h mB b) (it := itF h mB) (am := amF h mB) (s := (o32 fshl 1 (hI h 55 0) - 1).toNat) (Nat.le_refl _) hnb
  have hx := (tAll_X (all := mxF h) (nb := nB) (cn := cnF h mB b) (it := itF h mB) (am := amF h mB) nB (Nat.le_refl _) (o32 fshl 1 (hI h 55 0) - 1).toNat).2 j.toNat k.toNat (by omega)
  unfold TN at e
  rw [e] at t1 t2
  have t1' := tl_nat (x := (tAll (mxF h) nB (cnF h mB b) (itF h mB) (amF h mB) nB).2.2.1 (o32 fshl 1 (hI h 55 0) - 1).toNat) (n := j.toNat) (Nat.lt_trans hlt (by decide)) j64
  have t2' := tl_nat (x := (tAll (mxF h) nB (cnF h mB b) (itF h mB) (amF h mB) nB).2.2.1 (o32 fshl 1 (hI h 55 0) - 1).toNat) (n := k.toNat) (Nat.lt_trans hlt (by decide)) k64
  rw [show ((j.toNat : Nat) : Int) = j by omega, t1] at t1'
  rw [show ((k.toNat : Nat) : Int) = k by omega, t2] at t2'
  have b1 : ((tAll (mxF h) nB (cnF h mB b) (itF h mB) (amF h mB) nB).2.2.1 (o32 fshl 1 (hI h 55 0) - 1).toNat).testBit j.toNat = true := by
    cases q : ((tAll (mxF h) nB (cnF h mB b) (itF h mB) (amF h mB) nB).2.2.1 (o32 fshl 1 (hI h 55 0) - 1).toNat).testBit j.toNat with
    | true => rfl
    | false => rw [q] at t1'; cases t1'
  have b2 : ((tAll (mxF h) nB (cnF h mB b) (itF h mB) (amF h mB) nB).2.2.1 (o32 fshl 1 (hI h 55 0) - 1).toNat).testBit k.toNat = true := by
    cases q : ((tAll (mxF h) nB (cnF h mB b) (itF h mB) (amF h mB) nB).2.2.1 (o32 fshl 1 (hI h 55 0) - 1).toNat).testBit k.toNat with
    | true => rfl
    | false => rw [q] at t2'; cases t2'
  have z := hx b1 b2
  have B1 := (Ls.mem S.lb j.toNat (by omega)).items
  have B2 := (Ls.mem S.lb k.toNat (by omega)).items
  rw [and_ii ⟨Int.le_trans (by decide) B1.1, Int.lt_of_le_of_lt B1.2 (by decide)⟩ ⟨Int.le_trans (by decide) B2.1, Int.lt_of_le_of_lt B2.2 (by decide)⟩]
  unfold itF at z
  rw [z]; rfl
theorem sale_C (S : Hv h mP mC mI mD mB nP nC nI nD nB) (K : CI h mB nB) (k5 : hI h 55 5 = b) (k6 : hI h 55 6 = 1) : hI h 61 (o32 fshl 1 (hI h 55 0) - 1).toNat = (TN h mB nB b nB).2.1 (mxF h) ∧ pc64 (hI h 55 7) = ((nbt (TN h mB nB b nB).2.2.2 40 : Nat) : Int) := by
  have T := K.2.2.2.2 k6
  rw [k5] at T
  have hlt := tAll_clt (all := mxF h) (nb := nB) (cn := cnF h mB b) (it := itF h mB) (am := amF h mB) (n := nB) (Nat.le_refl _) S.nb
  rw [ALL_mx S, T.2]
  exact ⟨(T.1 _).2.1, pc64_nbt (by unfold TN; exact hlt)⟩
theorem rsv_ge {f : Nat → Int} {t : Int} (hf : ∀ k, 0 ≤ f k) {i : Nat} (hb : tb t i = 1) : ∀ n, 0 ≤ rsv f t n ∧ (i < n → f i ≤ rsv f t n) := by
  intro n
  induction n with
  | zero => exact ⟨Int.le_refl 0, fun q => by omega⟩
  | succ n ih =>
    unfold rsv
    have hn := hf n
    refine ⟨by split <;> omega, fun q => ?_⟩
    rcases (show i = n ∨ i < n by omega) with w | w
    · subst w; rw [if_pos hb]; omega
    · have := ih.2 w
      split <;> omega
theorem shl_nat {i : Int} (q : 0 ≤ i ∧ i < 8) : (o32 fshl 1 i).toNat = 2 ^ i.toNat := by
  have := (all_nat (n := i) (by omega)).1
  have := (all_nat (n := i) (by omega)).2.2
  omega
theorem sPr_nn {f : Nat → Int} : ∀ n, (∀ i, i < n → -1 ≤ f i) → 0 ≤ sPr f n := by
  intro n
  induction n with
  | zero => intro _; exact Int.le_refl 0
  | succ n ih =>
    intro q
    have := ih (fun i hi => q i (by omega))
    have := q n (by omega)
    unfold sPr
    split <;> omega
theorem mxF_agr {g : Hp} (A : Agr DV h g) : mxF g = mxF h := by
  unfold mxF
  rw [A.i (a := 55) (j := 0) rfl]
theorem sale_G {D : Nat → Nat → Bool} (V : Vis D) (VB : ∀ a j, DB a j = true → D a j = true) (S : Hv h mP mC mI mD mB nP nC nI nD nB) (K : CI h mB nB) (k5 : hI h 55 5 = b) (k6 : hI h 55 6 = 1) (pr : Nat → Int) (hpr : ∀ i : Int, 0 ≤ i → i < hI h 55 0 → ∃ d2, PV D d2 60 [vR (some 55), vI i] h (vI (pr i.toNat))) : 0 ≤ hI h 60 (o32 fshl 1 (hI h 55 0) - 1).toNat - sPr pr (hI h 55 0).toNat ∧ hI h 60 (o32 fshl 1 (hI h 55 0) - 1).toNat - sPr pr (hI h 55 0).toNat ≤ 1000000 := by
  have T := K.2.2.2.2 k6
  rw [k5] at T
  have hit := S.items
  have hal := all_nat hit
  have hnb := S.nb
  have g := tAll_gain (all := mxF h) (nb := nB) (cn := cnF h mB b) (it := itF h mB) (am := amF h mB) (m := (hI h 55 0).toNat) (by omega) hal.2.2 (fun k hk => (Ls.mem S.lb k hk).amount) pr (fun i hi hne => by
    have i8 : (0 : Int) ≤ ((i : Nat) : Int) ∧ ((i : Nat) : Int) < 8 := by omega
    have i32 : (0 : Int) ≤ ((i : Nat) : Int) ∧ ((i : Nat) : Int) < 32 := by omega
    obtain ⟨d2, hp⟩ := hpr (i : Int) (by omega) (by omega)
    obtain ⟨v, hv, hq⟩ := C60 (D := D) (d := 0) (h := h) (x := (i : Int)) V S VB (by omega)
    have e : pr ((i : Int)).toNat = v := Sum.inl.inj (PV_det hp hq)
    rw [Int.toNat_natCast] at e
    rw [e] at hne ⊢
    obtain ⟨h1, h2, h3⟩ := hv
    obtain ⟨k, k1, k2, k3, k4, k7⟩ := h3 hne
    have kn : nB - nB ≤ k.toNat := by omega
    have kl : k.toNat < nB := by omega
    have k64 : k.toNat < 64 := by omega
    have kk : ((k.toNat : Nat) : Int) = k := by omega
    have hlt := tAll_clt (all := mxF h) (nb := nB) (cn := cnF h mB b) (it := itF h mB) (am := amF h mB) (n := nB) (Nat.le_refl _) S.nb
    have tc := tAll_cnt (all := mxF h) (nb := nB) (cn := cnF h mB b) (it := itF h mB) (am := amF h mB) nB (Nat.le_refl _) k.toNat
    have t1 := tl_nat (x := (tAll (mxF h) nB (cnF h mB b) (itF h mB) (amF h mB) nB).2.2.2) (n := k.toNat) (Nat.lt_trans hlt (by decide)) k64
    have e7 := T.2
    unfold TN at e7
    rw [kk, ← e7, k4] at t1
    have b1 : ((tAll (mxF h) nB (cnF h mB b) (itF h mB) (amF h mB) nB).2.2.2).testBit k.toNat = true := by
      cases q : ((tAll (mxF h) nB (cnF h mB b) (itF h mB) (amF h mB) nB).2.2.2).testBit k.toNat with
      | true => rfl
      | false => rw [q] at t1; cases t1
    have c := (tc.mp b1).2.2
    have hge := bst_ge (cn := cnF h mB b) (it := itF h mB) (am := amF h mB) (nb := nB) (i := i) nB (Nat.le_refl _) k.toNat kn kl c (by unfold itF; rw [k3]; exact shl_nat i8)
    have ea : amF h mB k.toNat = hI h (mB k.toNat) 2 := rfl
    have Bk := (Ls.mem S.lb k.toNat (by omega))
    have ham := Bk.amount
    have hr : hI h 58 i ≤ hI h (mB k.toNat) 2 := by
      unfold cnF cnE at c
      split at c
      · rename_i w
        have hb : tb (hI h (mB k.toNat) 1) (i : Nat) = 1 := by rw [k3]; exact (tb_one i32 i32).mpr rfl
        have := (rsv_ge (f := hI h 58) (fun j => (S.a58 j).1) hb (hI h 55 0).toNat).2 (by omega)
        omega
      · cases c
    rw [Int.toNat_natCast] at k7
    omega)
  have hnn := sPr_nn (f := pr) (hI h 55 0).toNat (fun i hi => by
    obtain ⟨d2, hp⟩ := hpr (i : Int) (by omega) (by omega)
    obtain ⟨v, hv, hq⟩ := C60 (D := D) (d := 0) (h := h) (x := (i : Int)) V S VB (by omega)
    have e : pr ((i : Int)).toNat = v := Sum.inl.inj (PV_det hp hq)
    rw [Int.toNat_natCast] at e
    rw [e]; exact hv.1)
  have hr := (TN_r (b := b) (n := nB) (fun k hk => Ls.mem S.lb k hk) hnb (Nat.le_refl _) (mxF h)).1.2
  rw [ALL_mx S, (T.1 _).1]
  unfold TN at hr ⊢
  omega
end SALE
theorem C157 {d : Nat} {h : Hp} {x : Int} {mP mC mI mD mB : Nat → Nat} {nP nC nI nD nB : Nat} (S : Hv h mP mC mI mD mB nP nC nI nD nB) {b : Int} (hb : ∃ d2, PV DV d2 158 [vR (some 2)] h (vI b)) (qx : 0 ≤ x ∧ x ≤ 6) : ∃ v : Int, (fun v : Int => (x = 1 → v = (TN h mB nB b nB).2.1 (mxF h)) ∧ (x = 5 → v = ((nbt (TN h mB nB b nB).2.2.2 40 : Nat) : Int)) ∧ (x = 4 → 0 ≤ v ∧ v ≤ 1000000)) v ∧ DW mB nB (d + 7) 157 [vR (some 2), vI x] h (vI v) := by
  have V := Vis_DV
  refine TE_of (fun Q hQ => ?_)
  refine t_ent en157 ?_
  refine t_s (fun g Q => x_iload_n d157_0 rfl) ?_
  refine t_s (fun g Q => x_iconst d157_1) ?_
  refine t_s (fun g Q => x_bipush d157_2 (by decide)) ?_
  refine t_SE d157_4 cl157 m11_84 kd83 po83 le83 (C83 (by omega) (by omega) (by omega)) (fun v1 r1 z1 => ?_)
  try dsimp only at r1
  refine t_SN d157_7 cl157 m11_88 kd84 po84 le84 (fun g => (C84 (by omega))) ?_
  refine t_s (fun g Q => x_aload_n d157_10 rfl) ?_
  refine t_gfR d157_11 cl157 f11_63 (S.F.o rfl (by decide)) (V _ _ rfl) (S.F.r rfl) ?_
  refine t_s (fun g Q => x_aload_n d157_14 rfl) ?_
  refine t_VE d157_15 cl157 m11_412 kd158 tg158 po158 le158 (by decide) (S.F.o rfl (by decide)) (C158 V S) (fun v3 r3 z3 => ?_)
  try dsimp only at r3
  have hbe : b = v3 := by obtain ⟨d2, hb⟩ := hb; exact Sum.inl.inj (PV_det hb z3)
  refine t_stl S d157_18 cl157 m11_415 (by omega) (by exact Nat.le_of_ble_eq_true rfl) (by omega) (fun h Q1 S A K k5 k6 hQ1 => ?_)
  have hQ := fun v p => hQ1 _ (hQ v p)
  have V : Vis DB := fun a j q => by cases w : DB a j with | true => rfl | false => (unfold DB at w; simp only [Bool.not_eq_false', Bool.or_eq_true, beq_iff_eq] at w; rcases w with (w | w) | w <;> (subst w; cases q))
  have VB : ∀ a j, DB a j = true → DB a j = true := fun _ _ q => q
  have hits := S.items
  obtain ⟨pr, hpr⟩ := pick (n := (hI h 55 0).toNat) (P := fun i v => ∃ d2, PV DB d2 60 [vR (some 55), vI ((i : Nat) : Int)] h (vI v)) (0 : Int) (fun i hi => by obtain ⟨v, -, q⟩ := C60 (D := DB) (d := 0) (x := ((i : Nat) : Int)) V S VB (by omega); exact ⟨v, _, q⟩)
  have hpr : ∀ i : Int, 0 ≤ i → i < hI h 55 0 → ∃ d2, PV DB d2 60 [vR (some 55), vI i] h (vI (pr i.toNat)) := fun i h1 h2 => by have q := hpr i.toNat (by omega); rwa [show ((i.toNat : Nat) : Int) = i by omega] at q
  have hgn := sale_G V VB S K k5 k6 pr hpr
  have hsc := sale_C S K k5 k6
  have hm0 := fun k (hk : k < nB) => (Ls.mem S.lb k hk).g
  rw [TN_agr A hm0 (Nat.le_refl _), mxF_agr A] at hsc
  refine x_iload_n d157_21 rfl ?_
  rcases (show x = 0 ∨ x = 1 ∨ x = 2 ∨ x = 3 ∨ x = 4 ∨ x = 5 ∨ x = 6 by omega) with rfl | rfl | rfl | rfl | rfl | rfl | rfl
  · refine x_tsw (t := 60) d157_22 (by omega) rfl ?_
    refine x_aload_n d157_60 rfl ?_
    refine x_gfR d157_61 cl157 f11_63 (S.F.o rfl (by decide)) (V _ _ rfl) (S.F.r rfl) ?_
    refine x_VE d157_64 cl157 m11_418 kd54 tg54 po54 le54 (by decide) (S.F.o rfl (by decide)) (C54 V S VB) (fun v4 r4 z4 => ?_)
    try dsimp only at r4
    exact x_iret d157_67 rt157 (hQ _ (by refine ⟨fun _ => ?_, fun _ => ?_, fun _ => ?_⟩ <;> first | (exfalso; omega) | (rw [hbe]; exact hsc.1) | (rw [hbe]; omega) | omega))
  · refine x_tsw (t := 68) d157_22 (by omega) rfl ?_
    refine x_aload_n d157_68 rfl ?_
    refine x_gfR d157_69 cl157 f11_63 (S.F.o rfl (by decide)) (V _ _ rfl) (S.F.r rfl) ?_
    refine x_VE d157_72 cl157 m11_421 kd55 tg55 po55 le55 (by decide) (S.F.o rfl (by decide)) (C55 V S VB) (fun v5 r5 z5 => ?_)
    try dsimp only at r5
    exact x_iret d157_75 rt157 (hQ _ (by refine ⟨fun _ => ?_, fun _ => ?_, fun _ => ?_⟩ <;> first | (exfalso; omega) | (rw [hbe]; exact hsc.1) | (rw [hbe]; omega) | omega))
  · refine x_tsw (t := 76) d157_22 (by omega) rfl ?_
    refine x_aload_n d157_76 rfl ?_
    refine x_gfR d157_77 cl157 f11_63 (S.F.o rfl (by decide)) (V _ _ rfl) (S.F.r rfl) ?_
    refine x_VE d157_80 cl157 m11_424 kd56 tg56 po56 le56 (by decide) (S.F.o rfl (by decide)) (C56 V S VB) (fun v6 r6 z6 => ?_)
    try dsimp only at r6
    exact x_iret d157_83 rt157 (hQ _ (by refine ⟨fun _ => ?_, fun _ => ?_, fun _ => ?_⟩ <;> first | (exfalso; omega) | (rw [hbe]; exact hsc.1) | (rw [hbe]; omega) | omega))
  · refine x_tsw (t := 84) d157_22 (by omega) rfl ?_
    refine x_aload_n d157_84 rfl ?_
    refine x_gfR d157_85 cl157 f11_63 (S.F.o rfl (by decide)) (V _ _ rfl) (S.F.r rfl) ?_
    refine x_VE d157_88 cl157 m11_427 kd58 tg58 po58 le58 (by decide) (S.F.o rfl (by decide)) (C58 V S VB) (fun v7 r7 z7 => ?_)
    try dsimp only at r7
    exact x_iret d157_91 rt157 (hQ _ (by refine ⟨fun _ => ?_, fun _ => ?_, fun _ => ?_⟩ <;> first | (exfalso; omega) | (rw [hbe]; exact hsc.1) | (rw [hbe]; omega) | omega))
  · refine x_tsw (t := 92) d157_22 (by omega) rfl ?_
    refine x_aload_n d157_92 rfl ?_
    refine x_gfR d157_93 cl157 f11_63 (S.F.o rfl (by decide)) (V _ _ rfl) (S.F.r rfl) ?_
    refine x_VE d157_96 cl157 m11_430 kd59 tg59 po59 le59 (by decide) (S.F.o rfl (by decide)) (C59 V S VB pr hpr) (fun v8 r8 z8 => ?_)
    try dsimp only at r8
    exact x_iret d157_99 rt157 (hQ _ (by refine ⟨fun _ => ?_, fun _ => ?_, fun _ => ?_⟩ <;> first | (exfalso; omega) | (rw [hbe]; exact hsc.1) | (rw [hbe]; omega) | omega))
  · refine x_tsw (t := 100) d157_22 (by omega) rfl ?_
    refine x_aload_n d157_100 rfl ?_
    refine x_gfR d157_101 cl157 f11_63 (S.F.o rfl (by decide)) (V _ _ rfl) (S.F.r rfl) ?_
    refine x_VE d157_104 cl157 m11_433 kd64 tg64 po64 le64 (by decide) (S.F.o rfl (by decide)) (C64 V S VB) (fun v9 r9 z9 => ?_)
    try dsimp only at r9
    exact x_iret d157_107 rt157 (hQ _ (by refine ⟨fun _ => ?_, fun _ => ?_, fun _ => ?_⟩ <;> first | (exfalso; omega) | (rw [hbe]; exact hsc.1) | (rw [hbe]; omega) | omega))
  · refine x_tsw (t := 108) d157_22 (by omega) rfl ?_
    refine x_aload_n d157_108 rfl ?_
    refine x_gfR d157_109 cl157 f11_63 (S.F.o rfl (by decide)) (V _ _ rfl) (S.F.r rfl) ?_
    refine x_gfI d157_112 cl157 f11_392 (by decide) (S.F.o rfl (by decide)) (VB _ _ rfl) ?_
    have g10 := S.items
    exact x_iret d157_115 rt157 (hQ _ (by refine ⟨fun _ => ?_, fun _ => ?_, fun _ => ?_⟩ <;> first | (exfalso; omega) | (rw [hbe]; exact hsc.1) | (rw [hbe]; omega) | omega))
theorem C159 {d : Nat} {h : Hp} {x y : Int} {mP mC mI mD mB : Nat → Nat} {nP nC nI nD nB : Nat} (S : Hv h mP mC mI mD mB nP nC nI nD nB) (qx : 0 ≤ x ∧ x < hI h 55 0) (qy : y = 0 ∨ y = 1) : ∃ v : Int, (fun v : Int => True) v ∧ DW mB nB (d + 7) 159 [vR (some 2), vI x, vI y] h (vI v) := by
  have V := Vis_DV
  refine TE_of (fun Q hQ => ?_)
  refine t_ent en159 ?_
  have hits := S.items
  refine t_s (fun g Q => x_iload_n d159_0 rfl) ?_
  refine t_s (fun g Q => x_iconst d159_1) ?_
  refine t_s (fun g Q => x_aload_n d159_2 rfl) ?_
  refine t_gfR d159_3 cl159 f11_63 (S.F.o rfl (by decide)) (V _ _ rfl) (S.F.r rfl) ?_
  refine t_gfI d159_6 cl159 f11_392 (by decide) (S.F.o rfl (by decide)) (V _ _ rfl) ?_
  have g1 := S.items
  refine t_s (fun g Q => x_iconst d159_9) ?_
  refine t_s (fun g Q => x_isub d159_10) ?_
  refine t_SE d159_11 cl159 m11_84 kd83 po83 le83 (C83 (by omega) (by omega) (by omega)) (fun v2 r2 z2 => ?_)
  try dsimp only at r2
  refine t_SN d159_14 cl159 m11_112 kd94 po94 le94 (fun g => (C94 (by omega))) ?_
  refine t_s (fun g Q => x_aload_n d159_17 rfl) ?_
  refine t_gfR d159_18 cl159 f11_63 (S.F.o rfl (by decide)) (V _ _ rfl) (S.F.r rfl) ?_
  refine t_s (fun g Q => x_aload_n d159_21 rfl) ?_
  refine t_VE d159_22 cl159 m11_412 kd158 tg158 po158 le158 (by decide) (S.F.o rfl (by decide)) (C158 V S) (fun v4 r4 z4 => ?_)
  try dsimp only at r4
  refine t_stl S d159_25 cl159 m11_415 (by omega) (by exact Nat.le_of_ble_eq_true rfl) (by omega) (fun h Q1 S A K k5 k6 hQ1 => ?_)
  have hQ := fun v p => hQ1 _ (hQ v p)
  have V : Vis DB := fun a j q => by cases w : DB a j with | true => rfl | false => (unfold DB at w; simp only [Bool.not_eq_false', Bool.or_eq_true, beq_iff_eq] at w; rcases w with (w | w) | w <;> (subst w; cases q))
  have VB : ∀ a j, DB a j = true → DB a j = true := fun _ _ q => q
  have e0 := A.i (a := 55) (j := 0) rfl
  refine x_iload_n d159_28 rfl ?_
  refine x_ifeq (t := 43) d159_29 rfl (by omega) (fun c29_5 => ?_) (fun c29_5 => ?_)
  · refine x_aload_n d159_43 rfl ?_
    refine x_gfR d159_44 cl159 f11_63 (S.F.o rfl (by decide)) (V _ _ rfl) (S.F.r rfl) ?_
    refine x_iload_n d159_47 rfl ?_
    refine x_VE d159_48 cl159 m11_439 kd60 tg60 po60 le60 (by decide) (S.F.o rfl (by decide)) (C60 V S VB (by omega)) (fun v6 r6 z6 => ?_)
    try dsimp only at r6
    exact x_iret d159_51 rt159 (hQ _ trivial)
  · refine x_aload_n d159_32 rfl ?_
    refine x_gfR d159_33 cl159 f11_63 (S.F.o rfl (by decide)) (V _ _ rfl) (S.F.r rfl) ?_
    refine x_iload_n d159_36 rfl ?_
    refine x_VE d159_37 cl159 m11_436 kd65 tg65 po65 le65 (by decide) (S.F.o rfl (by decide)) (C65 V S VB (by omega)) (fun v7 r7 z7 => ?_)
    try dsimp only at r7
    refine x_goto (t := 51) d159_40 rfl ?_
    exact x_iret d159_51 rt159 (hQ _ trivial)
theorem C162 {d : Nat} {h : Hp} {mP mC mI mD mB : Nat → Nat} {nP nC nI nD nB : Nat} (S : Hv h mP mC mI mD mB nP nC nI nD nB) (SI : Si h mP nP) : ∃ v : Int, (fun v : Int => v = 1) v ∧ DW mB nB (d + 8) 162 [vR (some 2)] h (vI v) := by
  have V := Vis_DV
  refine TE_of (fun Q hQ => ?_)
  refine t_ent en162 ?_
  have S0 := S
  refine t_s (fun g Q => x_aload_n d162_0 rfl) ?_
  refine t_gfR d162_1 cl162 f11_63 (S.F.o rfl (by decide)) (V _ _ rfl) (S.F.r rfl) ?_
  refine t_s (fun g Q => x_aload_n d162_4 rfl) ?_
  refine t_VE d162_5 cl162 m11_412 kd158 tg158 po158 le158 (by decide) (S.F.o rfl (by decide)) (C158 V S) (fun v1 r1 z1 => ?_)
  try dsimp only at r1
  refine t_stl S d162_8 cl162 m11_415 (by omega) (by exact Nat.le_of_ble_eq_true rfl) (by omega) (fun h Q1 S A K k5 k6 hQ1 => ?_)
  have hQ := fun v p => hQ1 _ (hQ v p)
  have V : Vis DB := fun a j q => by cases w : DB a j with | true => rfl | false => (unfold DB at w; simp only [Bool.not_eq_false', Bool.or_eq_true, beq_iff_eq] at w; rcases w with (w | w) | w <;> (subst w; cases q))
  have VB : ∀ a j, DB a j = true → DB a j = true := fun _ _ q => q
  have hits := S.items
  obtain ⟨pr, hpr⟩ := pick (n := (hI h 55 0).toNat) (P := fun i v => ∃ d2, PV DB d2 60 [vR (some 55), vI ((i : Nat) : Int)] h (vI v)) (0 : Int) (fun i hi => by obtain ⟨v, -, q⟩ := C60 (D := DB) (d := 0) (x := ((i : Nat) : Int)) V S VB (by omega); exact ⟨v, _, q⟩)
  have hpr : ∀ i : Int, 0 ≤ i → i < hI h 55 0 → ∃ d2, PV DB d2 60 [vR (some 55), vI i] h (vI (pr i.toNat)) := fun i h1 h2 => by have q := hpr i.toNat (by omega); rwa [show ((i.toNat : Nat) : Int) = i by omega] at q
  have hgn := sale_G V VB S K k5 k6 pr hpr
  have hX := sale_X S K k5 k6
  have SI := Si_agr A S0 SI
  obtain ⟨f, hf⟩ := pick (n := nC) (P := fun k v => ∃ d2, PV DB d2 149 [vR (some 2), vR (some (mC k))] h (vI v)) (0 : Int) (fun k hk => by obtain ⟨v, -, q⟩ := C149 (D := DB) (d := 0) V S (Ls.mem S.lc k hk); exact ⟨v, _, q⟩)
  refine x_aload_n d162_11 rfl ?_
  refine x_VE d162_12 cl162 m11_474 kd163 tg163 po163 le163 (by decide) (S.F.o rfl (by decide)) (C163 V S SI) (fun v2 r2 z2 => ?_)
  try dsimp only at r2
  refine x_ifeq (t := 59) d162_15 rfl (by omega) (fun c15_3 => ?_) (fun c15_3 => ?_)
  · exfalso; omega
  · refine x_aload_n d162_18 rfl ?_
    refine x_VE d162_19 cl162 m11_477 kd164 tg164 po164 le164 (by decide) (S.F.o rfl (by decide)) (C164 V S f hf) (fun v4 r4 z4 => ?_)
    try dsimp only at r4
    refine x_ifeq (t := 59) d162_22 rfl (by omega) (fun c22_5 => ?_) (fun c22_5 => ?_)
    · exfalso; omega
    · refine x_aload_n d162_25 rfl ?_
      refine x_gfR d162_26 cl162 f11_63 (S.F.o rfl (by decide)) (V _ _ rfl) (S.F.r rfl) ?_
      refine x_VE d162_29 cl162 m11_480 kd66 tg66 po66 le66 (by decide) (S.F.o rfl (by decide)) (C66 V S VB hX) (fun v6 r6 z6 => ?_)
      try dsimp only at r6
      refine x_ifeq (t := 59) d162_32 rfl (by omega) (fun c32_7 => ?_) (fun c32_7 => ?_)
      · exfalso; omega
      · refine x_aload_n d162_35 rfl ?_
        refine x_gfR d162_36 cl162 f11_63 (S.F.o rfl (by decide)) (V _ _ rfl) (S.F.r rfl) ?_
        refine x_VE d162_39 cl162 m11_430 kd59 tg59 po59 le59 (by decide) (S.F.o rfl (by decide)) (C59 V S VB pr hpr) (fun v8 r8 z8 => ?_)
        try dsimp only at r8
        refine x_iflt (t := 59) d162_42 rfl (by omega) (fun c42_9 => ?_) (fun c42_9 => ?_)
        · exfalso; omega
        · refine x_aload_n d162_45 rfl ?_
          refine x_gfR d162_46 cl162 f11_56 (S.F.o rfl (by decide)) (V _ _ rfl) (S.F.r rfl) ?_
          refine x_VE d162_49 cl162 m11_483 kd9 tg9 po9 le9 (by decide) (S.F.o rfl (by decide)) (C9 V S) (fun v10 r10 z10 => ?_)
          try dsimp only at r10
          refine x_ifeq (t := 59) d162_52 rfl (by omega) (fun c52_11 => ?_) (fun c52_11 => ?_)
          · exfalso; omega
          · refine x_iconst d162_55 ?_
            refine x_goto (t := 60) d162_56 rfl ?_
            exact x_zret d162_60 rt162 (by omega) (hQ _ rfl)
