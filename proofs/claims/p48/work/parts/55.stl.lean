/-! ===== THE SALE: it is settled ===== -/
theorem hI_sI {h : Hp} {a k b j : Nat} {v : Int} : hI (sI h a k v) b j = if b = a ∧ j = k then v else hI h b j := rfl
theorem hI_row {h : Hp} {a k j : Nat} {v : Int} : hI (sI h a k v) a j = if j = k then v else hI h a j := by
  rw [hI_sI]
  by_cases q : j = k
  · rw [if_pos ⟨rfl, q⟩, if_pos q]
  · rw [if_neg (fun e => q e.2), if_neg q]
theorem fil_ind {P : Hp → Prop} {h : Hp} {a : Nat} {v : Int} (p : P h) : ∀ n, (∀ g k, k < n → P g → P (sI g a k v)) → P (fil h a n v) := by
  intro n
  induction n with
  | zero => intro _; rw [fil_0]; exact p
  | succ n ih =>
    intro hs
    rw [← fil_s]
    exact hs _ n (by omega) (ih (fun g k hk q => hs g k (by omega) q))
/-- h is h0 but for what is worked out anew -/
def Wk (h0 h : Hp) : Prop := Agr DV h0 h ∧ (∀ a j, DV a j = false → hR h a j = none) ∧ (∀ j, 256 ≤ j → hI h 60 j = 0 ∧ hI h 61 j = 0 ∧ hI h 62 j = 0)
theorem Wk_sI {h0 h : Hp} {a k : Nat} {v : Int} (A : Wk h0 h) (q : DV a k = false) (w : k < 256 ∨ (a ≠ 60 ∧ a ≠ 61 ∧ a ≠ 62)) : Wk h0 (sI h a k v) := by
  obtain ⟨⟨a1, a2, a3, a4, a5, a6⟩, b, c⟩ := A
  refine ⟨⟨a1, a2, a3, a4, a5, fun b j e => ⟨?_, (a6 b j e).2⟩⟩, b, fun j hj => ?_⟩
  · rw [hI_sI, if_neg]
    · exact (a6 b j e).1
    · rintro ⟨rfl, rfl⟩; rw [q] at e; cases e
  · have := c j hj
    rw [hI_sI, hI_sI, hI_sI, if_neg (by omega), if_neg (by omega), if_neg (by omega)]
    exact this
theorem Wk_rfl {h : Hp} (q : ∀ a j, DV a j = false → hR h a j = none) (w : ∀ j, 256 ≤ j → hI h 60 j = 0 ∧ hI h 61 j = 0 ∧ hI h 62 j = 0) : Wk h h := ⟨Agr_refl, q, w⟩
theorem Wk.i {h0 h : Hp} (A : Wk h0 h) {a j : Nat} (q : DV a j = true) : hI h a j = hI h0 a j := ((A.1.2.2.2.2.2 a j q).1).symm
/-- the tables in the cells -/
def TR (h : Hp) (T : Tb) : Prop := ∀ s : Nat, hI h 60 s = T.1 s ∧ hI h 61 s = T.2.1 s ∧ hI h 62 s = ((T.2.2.1 s : Nat) : Int)
/-- while a BID is offered to the sets: the large ones are done -/
def OI (M k t : Nat) (am : Int) (T : Tb) (h : Hp) (i : Int) : Prop := ∀ s : Nat, (i < s → hI h 60 s = (tOff M k t am T).1 s ∧ hI h 61 s = (tOff M k t am T).2.1 s ∧ hI h 62 s = (((tOff M k t am T).2.2.1 s : Nat) : Int)) ∧ ((s : Int) ≤ i → hI h 60 s = T.1 s ∧ hI h 61 s = T.2.1 s ∧ hI h 62 s = ((T.2.2.1 s : Nat) : Int))
theorem tOff_no {M k t : Nat} {am : Int} {T : Tb} {s : Nat} (q : ¬ tkS M t am T s) : (tOff M k t am T).1 s = T.1 s ∧ (tOff M k t am T).2.1 s = T.2.1 s ∧ (tOff M k t am T).2.2.1 s = T.2.2.1 s := by
  unfold tOff
  dsimp only
  rw [if_neg q, if_neg q, if_neg q]
  exact ⟨rfl, rfl, rfl⟩
theorem tOff_yes {M k t : Nat} {am : Int} {T : Tb} {s : Nat} (q : tkS M t am T s) : (tOff M k t am T).1 s = T.1 (s ^^^ t) + am ∧ (tOff M k t am T).2.1 s = T.2.1 (s ^^^ t) + 1 ∧ (tOff M k t am T).2.2.1 s = T.2.2.1 (s ^^^ t) ||| 2 ^ k := by
  unfold tOff
  dsimp only
  rw [if_pos q, if_pos q, if_pos q]
  exact ⟨rfl, rfl, rfl⟩
theorem OI_0 {M k t : Nat} {am : Int} {T : Tb} {h : Hp} {i : Int} (hi : i = M) (R : TR h T) : OI M k t am T h i := fun s => ⟨fun q => by
  have e := tOff_no (k := k) (T := T) (am := am) (t := t) (M := M) (s := s) (fun w => by have := w.1; omega)
  rw [e.1, e.2.1, e.2.2]
  exact R s, fun _ => R s⟩
theorem OI_e {M k t : Nat} {am : Int} {T : Tb} {h : Hp} {i : Int} (hi : i < 0) (O : OI M k t am T h i) : TR h (tOff M k t am T) := fun s => (O s).1 (by omega)
theorem OI_no {M k t : Nat} {am : Int} {T : Tb} {h : Hp} {i : Int} (hi : 0 ≤ i) (O : OI M k t am T h i) (q : ¬ tkS M t am T i.toNat) : OI M k t am T h (i + -1) := fun s => ⟨fun w => by
  rcases (show i < s ∨ s = i.toNat by omega) with u | u
  · exact (O s).1 u
  · subst u
    have e := tOff_no (k := k) q
    rw [e.1, e.2.1, e.2.2]
    exact (O i.toNat).2 (by omega), fun w => (O s).2 (by omega)⟩
theorem OI_yes {M k t : Nat} {am a c x : Int} {T : Tb} {h g : Hp} {i : Int} (hi : 0 ≤ i) (O : OI M k t am T h i) (q : tkS M t am T i.toNat) (ha : a = T.1 (i.toNat ^^^ t) + am) (hc : c = T.2.1 (i.toNat ^^^ t) + 1) (hx : x = ((T.2.2.1 (i.toNat ^^^ t) ||| 2 ^ k : Nat) : Int)) (z1 : ∀ s, hI g 60 s = if s = i.toNat then a else hI h 60 s) (z2 : ∀ s, hI g 61 s = if s = i.toNat then c else hI h 61 s) (z3 : ∀ s, hI g 62 s = if s = i.toNat then x else hI h 62 s) : OI M k t am T g (i + -1) := fun s => ⟨fun w => by
  rw [z1, z2, z3]
  by_cases u : s = i.toNat
  · rw [if_pos u, if_pos u, if_pos u]
    have e := tOff_yes (k := k) q
    rw [u, e.1, e.2.1, e.2.2]
    exact ⟨ha, hc, hx⟩
  · rw [if_neg u, if_neg u, if_neg u]
    exact (O s).1 (by omega), fun w => by
  rw [z1, z2, z3, if_neg (by omega), if_neg (by omega), if_neg (by omega)]
  exact (O s).2 (by omega)⟩
theorem and_ii {x y : Int} (hx : 0 ≤ x ∧ x < 2147483648) (hy : 0 ≤ y ∧ y < 2147483648) : o32 fand x y = ((x.toNat &&& y.toNat : Nat) : Int) := by
  have := and_nn (x := x.toNat) (y := y.toNat) (by omega) (by omega)
  rwa [show ((x.toNat : Nat) : Int) = x by omega, show ((y.toNat : Nat) : Int) = y by omega] at this
theorem xor_ii {x y : Int} (hx : 0 ≤ x ∧ x < 2147483648) (hy : 0 ≤ y ∧ y < 2147483648) : o32 fxor x y = ((x.toNat ^^^ y.toNat : Nat) : Int) := by
  have := fxor_nn (x := x.toNat) (y := y.toNat) (by omega) (by omega)
  rwa [show ((x.toNat : Nat) : Int) = x by omega, show ((y.toNat : Nat) : Int) = y by omega] at this
theorem all_nat {n : Int} (q : 0 ≤ n ∧ n ≤ 8) : o32 fshl 1 n - 1 = ((2 ^ n.toNat - 1 : Nat) : Int) ∧ 2 ^ n.toNat - 1 < 256 ∧ (2 ^ n.toNat - 1) + 1 = 2 ^ n.toNat := by
  rcases (show n = 0 ∨ n = 1 ∨ n = 2 ∨ n = 3 ∨ n = 4 ∨ n = 5 ∨ n = 6 ∨ n = 7 ∨ n = 8 by omega) with rfl | rfl | rfl | rfl | rfl | rfl | rfl | rfl | rfl <;> decide +kernel
theorem lshl_i {k : Int} (q : 0 ≤ k ∧ k < 40) : lshlZ 1 k = ((2 ^ k.toNat : Nat) : Int) := by
  have := lshl_40 ⟨k.toNat, by omega⟩
  rwa [show (((⟨k.toNat, by omega⟩ : Fin 40).val : Nat) : Int) = k by show ((k.toNat : Nat) : Int) = k; omega] at this
theorem C53 {d : Nat} {h : Hp} {h0 : Hp} {mP mC mI mD mB : Nat → Nat} {nP nC nI nD nB : Nat} (S : Hv h mP mC mI mD mB nP nC nI nD nB) (A : Wk h0 h) (T : Tb) (hT : TR h T) (rT : ∀ s, (0 ≤ T.1 s ∧ T.1 s ≤ 1000000) ∧ (0 ≤ T.2.1 s ∧ T.2.1 s ≤ 1000) ∧ T.2.2.1 s < 1099511627776) {bd M k t : Nat} {am m b5 b6 b7 x : Int} (Bb : Bi h bd) (hk : k < 40) (ht : 1 ≤ t ∧ t ≤ 255) (hM : ((M : Nat) : Int) = o32 fshl 1 m - 1) (m0 : hI h 55 0 = m) (m5 : hI h 55 5 = b5) (m6 : hI h 55 6 = b6) (m7 : hI h 55 7 = b7) (f1 : hI h bd 1 = t) (f2 : hI h bd 2 = am) (ex : x = ((2 ^ k : Nat) : Int)) : PU DA (d + 1) 53 [vR (some 55), vR (some bd), vL x] h (fun g => Hv g mP mC mI mD mB nP nC nI nD nB ∧ Wk h0 g ∧ TR g (tOff M k t am T) ∧ hI g 55 0 = m ∧ hI g 55 5 = b5 ∧ hI g 55 6 = b6 ∧ hI g 55 7 = b7) := by
  refine PU_of (fun Q hQ => ?_)
  have V := Vis_DA
  have VB : ∀ a j, DB a j = true → DA a j = true := fun _ _ _ => rfl
  have hbg := Bb.g
  have hba := Bb.amount
  refine x_ent en53 ?_
  refine x_aload_n d53_0 rfl ?_
  refine x_VE d53_1 cl53 m7_91 kd49 tg49 po49 le49 (by decide) (S.F.o rfl (by decide)) (C49 V S VB) (fun v1 r1 z1 => ?_)
  try dsimp only at r1
  have hv0 := r1.1; rw [m0] at hv0; have hal := all_nat (n := m) (by have := S.items; omega)
  refine x_nm (fun w4_2 ew4_2 => ?_)
  refine x_istore [some (vR _), some (vR _), some (vL _), none, some (vI _), none, none, none] d53_4 rfl ?_
  refine (x_dn (P := fun i3 => ∀ h : Hp, (Hv h mP mC mI mD mB nP nC nI nD nB ∧ Wk h0 h ∧ OI M k t am T h i3 ∧ hI h 55 0 = m ∧ hI h 55 5 = b5 ∧ hI h 55 6 = b6 ∧ hI h 55 7 = b7 ∧ hI h bd 1 = t ∧ hI h bd 2 = am ∧ Bi h bd) → (-1 ≤ i3) → ∀ t3_5 : Option XV, ∀ t3_6 : Option XV, ∀ t3_7 : Option XV, wp DA (d + 1) 53 6 [some (vR (some 55)), some (vR (some bd)), some (vL x), none, some (vI i3), t3_5, t3_6, t3_7] [] h Q) w4_2 (fun i3 hi3 ih3 h hh3 hp3 t3_5 t3_6 t3_7 => ?_)) _ ⟨S, A, OI_0 (by omega) hT, m0, m5, m6, m7, f1, f2, Bb⟩ (by omega) _ _ _
  obtain ⟨S, A, O, m0, m5, m6, m7, f1, f2, Bb⟩ := hh3
  refine x_iload d53_6 rfl ?_
  refine x_iflt (t := 135) d53_8 rfl (by omega) (fun c8_4 => ?_) (fun c8_4 => ?_)
  · exact x_ret d53_135 rt53 (hQ _ ⟨S, A, OI_e (by omega) O, m0, m5, m6, m7⟩)
  · refine x_iload d53_11 rfl ?_
    refine x_aload_n d53_13 rfl ?_
    refine x_gfI d53_14 cl53 f7_94 (by decide) (Bi.ob Bb) (V.g (Bi.g Bb)) ?_
    have g5 := (Bi.items Bb)
    refine x_iandq d53_17 (fun q6 => ?_)
    refine x_nm (fun fa efa => ?_)
    rw [f1, and_ii (by omega) (by omega)] at efa
    rw [Int.toNat_natCast] at efa
    have hfr : (i3).toNat &&& t ≤ t := Nat.and_le_right
    have hi1 := (O (i3).toNat).2 (by omega)
    have ri := rT (i3).toNat
    refine x_aload_n d53_18 rfl ?_
    refine x_gfI d53_19 cl53 f7_94 (by decide) (Bi.ob Bb) (V.g (Bi.g Bb)) ?_
    have g7 := (Bi.items Bb)
    refine x_icne (t := 129) d53_22 rfl (by omega) (fun c22_8 => ?_) (fun c22_8 => ?_)
    · have hinv := OI_no (by omega) O (fun q => by have q1 := q.1; have q2 := q.2.1; have q3 := q.2.2; omega)
      refine x_iinc [some (vR _), some (vR _), some (vL _), none, some (vI _), _, _, _] d53_129 rfl rfl ?_
      refine x_goto (t := 6) d53_132 rfl ?_
      exact ih3 (by omega) _ ⟨S, A, hinv, m0, m5, m6, m7, f1, f2, Bb⟩ (by omega) _ _ _
    · refine x_iload d53_25 rfl ?_
      refine x_aload_n d53_27 rfl ?_
      refine x_gfI d53_28 cl53 f7_94 (by decide) (Bi.ob Bb) (V.g (Bi.g Bb)) ?_
      have g9 := (Bi.items Bb)
      refine x_ixorq d53_31 (fun q10 => ?_)
      refine x_nm (fun w32_11 ew32_11 => ?_)
      refine x_istore [some (vR _), some (vR _), some (vL _), none, some (vI _), some (vI _), _, _] d53_32 rfl ?_
      have hfa : (i3).toNat &&& t = t := by omega
      have hxl := xor_lt (s := (i3).toNat) (it := t) (by omega) (by omega) hfa
      rw [f1, xor_ii (by omega) (by omega), Int.toNat_natCast] at ew32_11
      have ert : (w32_11).toNat = (i3).toNat ^^^ t := by omega
      have hr1 : hI h 60 (w32_11).toNat = T.1 ((i3).toNat ^^^ t) ∧ hI h 61 (w32_11).toNat = T.2.1 ((i3).toNat ^^^ t) ∧ hI h 62 (w32_11).toNat = ((T.2.2.1 ((i3).toNat ^^^ t) : Nat) : Int) := by rw [ert]; exact (O _).2 (by omega)
      have rr := rT ((i3).toNat ^^^ t)
      refine x_aload_n d53_34 rfl ?_
      refine x_gfR d53_35 cl53 f7_29 (S.F.o rfl (by decide)) rfl (S.F.r rfl) ?_
      refine x_iload d53_38 rfl ?_
      refine x_iaload d53_40 (S.F.o rfl (by decide)) ⟨by omega, by rw [(S.F.l (a := 60) (n := 256) (by decide) rfl)]; omega⟩ rfl ?_
      refine x_aload_n d53_41 rfl ?_
      refine x_gfI d53_42 cl53 f7_95 (by decide) (Bi.ob Bb) (V.g (Bi.g Bb)) ?_
      have g12 := (Bi.amount Bb)
      refine x_iadd d53_45 ?_
      refine x_nm (fun w46_13 ew46_13 => ?_)
      refine x_istore [some (vR _), some (vR _), some (vL _), none, some (vI _), some (vI _), some (vI _), _] d53_46 rfl ?_
      refine x_aload_n d53_48 rfl ?_
      refine x_gfR d53_49 cl53 f7_32 (S.F.o rfl (by decide)) rfl (S.F.r rfl) ?_
      refine x_iload d53_52 rfl ?_
      refine x_iaload d53_54 (S.F.o rfl (by decide)) ⟨by omega, by rw [(S.F.l (a := 61) (n := 256) (by decide) rfl)]; omega⟩ rfl ?_
      refine x_iconst d53_55 ?_
      refine x_iadd d53_56 ?_
      refine x_nm (fun w57_14 ew57_14 => ?_)
      refine x_istore [some (vR _), some (vR _), some (vL _), none, some (vI _), some (vI _), some (vI _), some (vI _)] d53_57 rfl ?_
      refine x_iload d53_59 rfl ?_
      refine x_aload_n d53_61 rfl ?_
      refine x_gfR d53_62 cl53 f7_29 (S.F.o rfl (by decide)) rfl (S.F.r rfl) ?_
      refine x_iload d53_65 rfl ?_
      refine x_iaload d53_67 (S.F.o rfl (by decide)) ⟨by omega, by rw [(S.F.l (a := 60) (n := 256) (by decide) rfl)]; omega⟩ rfl ?_
      refine x_icgt (t := 95) d53_68 rfl (by omega) (fun c68_15 => ?_) (fun c68_15 => ?_)
      · have htk : tkS M t am T (i3).toNat := ⟨by omega, hfa, by omega⟩
        have ha0 : w46_13 = T.1 ((i3).toNat ^^^ t) + am := by omega
        have hc0 : w57_14 = T.2.1 ((i3).toNat ^^^ t) + 1 := by omega
        refine x_aload_n d53_95 rfl ?_
        refine x_gfR d53_96 cl53 f7_29 (S.F.o rfl (by decide)) rfl (S.F.r rfl) ?_
        refine x_iload d53_99 rfl ?_
        refine x_iload d53_101 rfl ?_
        refine x_iastore d53_103 (by decide) (S.F.o rfl (by decide)) ⟨by omega, by rw [(S.F.l (a := 60) (n := 256) (by decide) rfl)]; omega⟩ rfl (x_wr (fun g => Hv g mP mC mI mD mB nP nC nI nD nB ∧ Wk h0 g ∧ hI g 55 0 = m ∧ hI g 55 5 = b5 ∧ hI g 55 6 = b6 ∧ hI g 55 7 = b7 ∧ hI g bd 1 = t ∧ hI g bd 2 = am ∧ Bi g bd ∧ (∀ s, hI g 60 s = if s = (i3).toNat then w46_13 else hI h 60 s) ∧ (∀ s, hI g 61 s = hI h 61 s) ∧ (∀ s, hI g 62 s = hI h 62 s)) ⟨Hv_r60 S, Wk_sI A rfl (by omega), by rw [hI_ne (by decide)]; exact m0, by rw [hI_ne (by decide)]; exact m5, by rw [hI_ne (by decide)]; exact m6, by rw [hI_ne (by decide)]; exact m7, by rw [hI_ne (by omega)]; exact f1, by rw [hI_ne (by omega)]; exact f2, Bi_sI Bb (by decide), fun s => hI_row, fun s => hI_ne (by decide), fun s => hI_ne (by decide)⟩ (fun h q16 => ?_))
        obtain ⟨S, A, m0, m5, m6, m7, f1, f2, Bb, u1, u2, u3⟩ := q16
        refine x_aload_n d53_104 rfl ?_
        refine x_gfR d53_105 cl53 f7_32 (S.F.o rfl (by decide)) rfl (S.F.r rfl) ?_
        refine x_iload d53_108 rfl ?_
        refine x_iload d53_110 rfl ?_
        refine x_iastore d53_112 (by decide) (S.F.o rfl (by decide)) ⟨by omega, by rw [(S.F.l (a := 61) (n := 256) (by decide) rfl)]; omega⟩ rfl (x_wr (fun g => Hv g mP mC mI mD mB nP nC nI nD nB ∧ Wk h0 g ∧ hI g 55 0 = m ∧ hI g 55 5 = b5 ∧ hI g 55 6 = b6 ∧ hI g 55 7 = b7 ∧ hI g bd 1 = t ∧ hI g bd 2 = am ∧ Bi g bd ∧ (∀ s, hI g 60 s = hI h 60 s) ∧ (∀ s, hI g 61 s = if s = (i3).toNat then w57_14 else hI h 61 s) ∧ (∀ s, hI g 62 s = hI h 62 s)) ⟨Hv_r61 S, Wk_sI A rfl (by omega), by rw [hI_ne (by decide)]; exact m0, by rw [hI_ne (by decide)]; exact m5, by rw [hI_ne (by decide)]; exact m6, by rw [hI_ne (by decide)]; exact m7, by rw [hI_ne (by omega)]; exact f1, by rw [hI_ne (by omega)]; exact f2, Bi_sI Bb (by decide), fun s => hI_ne (by decide), fun s => hI_row, fun s => hI_ne (by decide)⟩ (fun h q17 => ?_))
        obtain ⟨S, A, m0, m5, m6, m7, f1, f2, Bb, y1, y2, y3⟩ := q17
        refine x_aload_n d53_113 rfl ?_
        refine x_gfR d53_114 cl53 f7_35 (S.F.o rfl (by decide)) rfl (S.F.r rfl) ?_
        refine x_iload d53_117 rfl ?_
        refine x_aload_n d53_119 rfl ?_
        refine x_gfR d53_120 cl53 f7_35 (S.F.o rfl (by decide)) rfl (S.F.r rfl) ?_
        refine x_iload d53_123 rfl ?_
        refine x_laload d53_125 (S.F.o rfl (by decide)) ⟨by omega, by rw [(S.F.l (a := 62) (n := 256) (by decide) rfl)]; omega⟩ rfl ?_
        refine x_lload_n d53_126 rfl ?_
        refine x_lor d53_127 ?_
        refine x_nmL (fun cx ecx => ?_)
        rw [y3, u3, hr1.2.2, ex, lor_nn (by omega) (Nat.pow_lt_pow_right (a := 2) (m := k) (n := 63) (by omega) (by omega))] at ecx
        have hcx := ecx
        refine x_lastore d53_128 (by decide) (S.F.o rfl (by decide)) ⟨by omega, by rw [(S.F.l (a := 62) (n := 256) (by decide) rfl)]; omega⟩ rfl (x_wr (fun g => Hv g mP mC mI mD mB nP nC nI nD nB ∧ Wk h0 g ∧ hI g 55 0 = m ∧ hI g 55 5 = b5 ∧ hI g 55 6 = b6 ∧ hI g 55 7 = b7 ∧ hI g bd 1 = t ∧ hI g bd 2 = am ∧ Bi g bd ∧ (∀ s, hI g 60 s = hI h 60 s) ∧ (∀ s, hI g 61 s = hI h 61 s) ∧ (∀ s, hI g 62 s = if s = (i3).toNat then cx else hI h 62 s)) ⟨Hv_r62 S, Wk_sI A rfl (by omega), by rw [hI_ne (by decide)]; exact m0, by rw [hI_ne (by decide)]; exact m5, by rw [hI_ne (by decide)]; exact m6, by rw [hI_ne (by decide)]; exact m7, by rw [hI_ne (by omega)]; exact f1, by rw [hI_ne (by omega)]; exact f2, Bi_sI Bb (by decide), fun s => hI_ne (by decide), fun s => hI_ne (by decide), fun s => hI_row⟩ (fun h q18 => ?_))
        obtain ⟨S, A, m0, m5, m6, m7, f1, f2, Bb, z1, z2, z3⟩ := q18
        have hinv := OI_yes (g := h) (a := w46_13) (c := w57_14) (x := cx) (by omega) O htk ha0 hc0 hcx (fun s => by rw [z1, y1, u1]) (fun s => by rw [z2, y2, u2]) (fun s => by rw [z3, y3, u3])
        refine x_iinc [some (vR _), some (vR _), some (vL _), none, some (vI _), some (vI _), some (vI _), some (vI _)] d53_129 rfl rfl ?_
        refine x_goto (t := 6) d53_132 rfl ?_
        exact ih3 (by omega) _ ⟨S, A, hinv, m0, m5, m6, m7, f1, f2, Bb⟩ (by omega) _ _ _
      · refine x_iload d53_71 rfl ?_
        refine x_aload_n d53_73 rfl ?_
        refine x_gfR d53_74 cl53 f7_29 (S.F.o rfl (by decide)) rfl (S.F.r rfl) ?_
        refine x_iload d53_77 rfl ?_
        refine x_iaload d53_79 (S.F.o rfl (by decide)) ⟨by omega, by rw [(S.F.l (a := 60) (n := 256) (by decide) rfl)]; omega⟩ rfl ?_
        refine x_icne (t := 129) d53_80 rfl (by omega) (fun c80_19 => ?_) (fun c80_19 => ?_)
        · have hinv := OI_no (by omega) O (fun q => by have q1 := q.1; have q2 := q.2.1; have q3 := q.2.2; omega)
          refine x_iinc [some (vR _), some (vR _), some (vL _), none, some (vI _), some (vI _), some (vI _), some (vI _)] d53_129 rfl rfl ?_
          refine x_goto (t := 6) d53_132 rfl ?_
          exact ih3 (by omega) _ ⟨S, A, hinv, m0, m5, m6, m7, f1, f2, Bb⟩ (by omega) _ _ _
        · refine x_iload d53_83 rfl ?_
          refine x_aload_n d53_85 rfl ?_
          refine x_gfR d53_86 cl53 f7_32 (S.F.o rfl (by decide)) rfl (S.F.r rfl) ?_
          refine x_iload d53_89 rfl ?_
          refine x_iaload d53_91 (S.F.o rfl (by decide)) ⟨by omega, by rw [(S.F.l (a := 61) (n := 256) (by decide) rfl)]; omega⟩ rfl ?_
          refine x_icgt (t := 129) d53_92 rfl (by omega) (fun c92_20 => ?_) (fun c92_20 => ?_)
          · have hinv := OI_no (by omega) O (fun q => by have q1 := q.1; have q2 := q.2.1; have q3 := q.2.2; omega)
            refine x_iinc [some (vR _), some (vR _), some (vL _), none, some (vI _), some (vI _), some (vI _), some (vI _)] d53_129 rfl rfl ?_
            refine x_goto (t := 6) d53_132 rfl ?_
            exact ih3 (by omega) _ ⟨S, A, hinv, m0, m5, m6, m7, f1, f2, Bb⟩ (by omega) _ _ _
          · have htk : tkS M t am T (i3).toNat := ⟨by omega, hfa, by omega⟩
            have ha0 : w46_13 = T.1 ((i3).toNat ^^^ t) + am := by omega
            have hc0 : w57_14 = T.2.1 ((i3).toNat ^^^ t) + 1 := by omega
            refine x_aload_n d53_95 rfl ?_
            refine x_gfR d53_96 cl53 f7_29 (S.F.o rfl (by decide)) rfl (S.F.r rfl) ?_
            refine x_iload d53_99 rfl ?_
            refine x_iload d53_101 rfl ?_
            refine x_iastore d53_103 (by decide) (S.F.o rfl (by decide)) ⟨by omega, by rw [(S.F.l (a := 60) (n := 256) (by decide) rfl)]; omega⟩ rfl (x_wr (fun g => Hv g mP mC mI mD mB nP nC nI nD nB ∧ Wk h0 g ∧ hI g 55 0 = m ∧ hI g 55 5 = b5 ∧ hI g 55 6 = b6 ∧ hI g 55 7 = b7 ∧ hI g bd 1 = t ∧ hI g bd 2 = am ∧ Bi g bd ∧ (∀ s, hI g 60 s = if s = (i3).toNat then w46_13 else hI h 60 s) ∧ (∀ s, hI g 61 s = hI h 61 s) ∧ (∀ s, hI g 62 s = hI h 62 s)) ⟨Hv_r60 S, Wk_sI A rfl (by omega), by rw [hI_ne (by decide)]; exact m0, by rw [hI_ne (by decide)]; exact m5, by rw [hI_ne (by decide)]; exact m6, by rw [hI_ne (by decide)]; exact m7, by rw [hI_ne (by omega)]; exact f1, by rw [hI_ne (by omega)]; exact f2, Bi_sI Bb (by decide), fun s => hI_row, fun s => hI_ne (by decide), fun s => hI_ne (by decide)⟩ (fun h q21 => ?_))
            obtain ⟨S, A, m0, m5, m6, m7, f1, f2, Bb, u1, u2, u3⟩ := q21
            refine x_aload_n d53_104 rfl ?_
            refine x_gfR d53_105 cl53 f7_32 (S.F.o rfl (by decide)) rfl (S.F.r rfl) ?_
            refine x_iload d53_108 rfl ?_
            refine x_iload d53_110 rfl ?_
            refine x_iastore d53_112 (by decide) (S.F.o rfl (by decide)) ⟨by omega, by rw [(S.F.l (a := 61) (n := 256) (by decide) rfl)]; omega⟩ rfl (x_wr (fun g => Hv g mP mC mI mD mB nP nC nI nD nB ∧ Wk h0 g ∧ hI g 55 0 = m ∧ hI g 55 5 = b5 ∧ hI g 55 6 = b6 ∧ hI g 55 7 = b7 ∧ hI g bd 1 = t ∧ hI g bd 2 = am ∧ Bi g bd ∧ (∀ s, hI g 60 s = hI h 60 s) ∧ (∀ s, hI g 61 s = if s = (i3).toNat then w57_14 else hI h 61 s) ∧ (∀ s, hI g 62 s = hI h 62 s)) ⟨Hv_r61 S, Wk_sI A rfl (by omega), by rw [hI_ne (by decide)]; exact m0, by rw [hI_ne (by decide)]; exact m5, by rw [hI_ne (by decide)]; exact m6, by rw [hI_ne (by decide)]; exact m7, by rw [hI_ne (by omega)]; exact f1, by rw [hI_ne (by omega)]; exact f2, Bi_sI Bb (by decide), fun s => hI_ne (by decide), fun s => hI_row, fun s => hI_ne (by decide)⟩ (fun h q22 => ?_))
            obtain ⟨S, A, m0, m5, m6, m7, f1, f2, Bb, y1, y2, y3⟩ := q22
            refine x_aload_n d53_113 rfl ?_
            refine x_gfR d53_114 cl53 f7_35 (S.F.o rfl (by decide)) rfl (S.F.r rfl) ?_
            refine x_iload d53_117 rfl ?_
            refine x_aload_n d53_119 rfl ?_
            refine x_gfR d53_120 cl53 f7_35 (S.F.o rfl (by decide)) rfl (S.F.r rfl) ?_
            refine x_iload d53_123 rfl ?_
            refine x_laload d53_125 (S.F.o rfl (by decide)) ⟨by omega, by rw [(S.F.l (a := 62) (n := 256) (by decide) rfl)]; omega⟩ rfl ?_
            refine x_lload_n d53_126 rfl ?_
            refine x_lor d53_127 ?_
            refine x_nmL (fun cx ecx => ?_)
            rw [y3, u3, hr1.2.2, ex, lor_nn (by omega) (Nat.pow_lt_pow_right (a := 2) (m := k) (n := 63) (by omega) (by omega))] at ecx
            have hcx := ecx
            refine x_lastore d53_128 (by decide) (S.F.o rfl (by decide)) ⟨by omega, by rw [(S.F.l (a := 62) (n := 256) (by decide) rfl)]; omega⟩ rfl (x_wr (fun g => Hv g mP mC mI mD mB nP nC nI nD nB ∧ Wk h0 g ∧ hI g 55 0 = m ∧ hI g 55 5 = b5 ∧ hI g 55 6 = b6 ∧ hI g 55 7 = b7 ∧ hI g bd 1 = t ∧ hI g bd 2 = am ∧ Bi g bd ∧ (∀ s, hI g 60 s = hI h 60 s) ∧ (∀ s, hI g 61 s = hI h 61 s) ∧ (∀ s, hI g 62 s = if s = (i3).toNat then cx else hI h 62 s)) ⟨Hv_r62 S, Wk_sI A rfl (by omega), by rw [hI_ne (by decide)]; exact m0, by rw [hI_ne (by decide)]; exact m5, by rw [hI_ne (by decide)]; exact m6, by rw [hI_ne (by decide)]; exact m7, by rw [hI_ne (by omega)]; exact f1, by rw [hI_ne (by omega)]; exact f2, Bi_sI Bb (by decide), fun s => hI_ne (by decide), fun s => hI_ne (by decide), fun s => hI_row⟩ (fun h q23 => ?_))
            obtain ⟨S, A, m0, m5, m6, m7, f1, f2, Bb, z1, z2, z3⟩ := q23
            have hinv := OI_yes (g := h) (a := w46_13) (c := w57_14) (x := cx) (by omega) O htk ha0 hc0 hcx (fun s => by rw [z1, y1, u1]) (fun s => by rw [z2, y2, u2]) (fun s => by rw [z3, y3, u3])
            refine x_iinc [some (vR _), some (vR _), some (vL _), none, some (vI _), some (vI _), some (vI _), some (vI _)] d53_129 rfl rfl ?_
            refine x_goto (t := 6) d53_132 rfl ?_
            exact ih3 (by omega) _ ⟨S, A, hinv, m0, m5, m6, m7, f1, f2, Bb⟩ (by omega) _ _ _
