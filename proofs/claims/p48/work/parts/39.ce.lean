theorem CPos_tb {pl v : Int} (H : CPos pl v) (q : v ≠ -1) : pc32 pl = 1 ∧ tb pl v = 1 ∧ 0 ≤ v ∧ v ≤ 23 := by
  have h1 := H.1
  by_cases e : pc32 pl = 1
  · exact ⟨e, (H.2.1 e).1 (by omega), by omega, by omega⟩
  · exact absurd (H.2.2 e) q
theorem CPos_ge {pl v : Int} (hpl : 0 ≤ pl ∧ pl ≤ 16777215) (H : CPos pl v) : pc32 pl = 1 ↔ 0 ≤ v := by
  have h1 := H.1
  constructor
  · intro e
    rcases (show v = -1 ∨ 0 ≤ v by omega) with w | w
    · have := tb_nil hpl ((H.2.1 e).2 w)
      rw [this, pc32_zero] at e
      omega
    · exact w
  · intro w
    exact (CPos_tb H (by omega)).1
/-- what the SHEETS know of their PIECES -/
def Si (h : Hp) (m : Nat → Nat) (n : Nat) : Prop := ∀ k, k < n → (∀ x : Int, 0 ≤ x → x < 24 → tb (plc h (m k)) x = 1 → ∃ r : Int, 0 ≤ r ∧ r < 8 ∧ tb (hI h (7 + 5 * (hI h (m k) 3).toNat) 3) r = 1 ∧ tb (hI h (m k + 3) r.toNat) x = 1) ∧ (hI h (7 + 5 * (hI h (m k) 3).toNat) 2 = 0 ↔ plc h (m k) = 0) ∧ (∀ x : Int, 0 ≤ x → x < 24 → pc32 (plc h (m k)) = 1 → tb (plc h (m k)) x = 1 → tb (hI h (7 + 5 * (hI h (m k) 3).toNat) 4) x = 1)
theorem C163 {D : Nat → Nat → Bool} {d : Nat} {h : Hp} {mP mC mI mD mB : Nat → Nat} {nP nC nI nD nB : Nat} (V : Vis D) (S : Hv h mP mC mI mD mB nP nC nI nD nB) (SI : Si h mP nP) : ∃ v : Int, (fun v : Int => v = 1) v ∧ PV D (d + 5) 163 [vR (some 2)] h (vI v) := by
  refine PE_of (fun Q hQ => ?_)
  refine x_ent en163 ?_
  have hnp := S.np
  refine x_iconst d163_0 ?_
  refine x_nm (fun w1_1 ew1_1 => ?_)
  refine x_istore_n [some (vR _), some (vI _), none, none] d163_1 rfl ?_
  refine (x_ub (N := nP) (P := fun i2 => ∀ t2_2 : Option XV, ∀ t2_3 : Option XV, wp D (d + 5) 163 2 [some (vR (some 2)), some (vI i2), t2_2, t2_3] [] h Q) w1_1 (by omega) (fun i2 hi2 hj2 ih2 t2_2 t2_3 => ?_)) _ _
  refine x_iload_n d163_2 rfl ?_
  refine x_aload_n d163_3 rfl ?_
  refine x_gfR d163_4 cl163 f11_19 (S.F.o rfl (by decide)) (V _ _ rfl) (S.F.r rfl) ?_
  refine x_VE d163_7 cl163 m11_129 kd168 tg168 po168 le168 (by decide) (S.F.o rfl (by decide)) (C168 (S.F.o rfl (by decide)) (V _ _ rfl) S.lp) (fun v3 r3 z3 => ?_)
  try dsimp only at r3
  refine x_icge (t := 67) d163_10 rfl (by omega) (fun c10_4 => ?_) (fun c10_4 => ?_)
  · refine x_iconst d163_67 ?_
    exact x_zret d163_68 rt163 (by omega) (hQ _ (by omega))
  · refine x_aload_n d163_13 rfl ?_
    refine x_gfR d163_14 cl163 f11_19 (S.F.o rfl (by decide)) (V _ _ rfl) (S.F.r rfl) ?_
    refine x_iload_n d163_17 rfl ?_
    refine x_VV d163_18 cl163 m11_132 kd173 tg173 po173 le173 (by decide) (S.F.o rfl (by decide)) (C173 (d := d + 1) (S.F.o rfl (by decide)) (V _ _ rfl) (V _ _ rfl) S.lp V (by omega) (by omega)) ?_
    refine x_cast d163_21 cl163 ct11_136 (Pc.ob (Ls.mem S.lp (i2).toNat (by omega))) ?_
    refine x_astore_n [some (vR _), some (vI _), some (vR _), _] d163_24 rfl ?_
    refine x_aload_n d163_25 rfl ?_
    refine x_aload_n d163_26 rfl ?_
    refine x_VE d163_27 cl163 m11_233 kd130 tg130 po130 le130 (by decide) (S.F.o rfl (by decide)) (C130 V S (Ls.mem S.lp (i2).toNat (by omega))) (fun v6 r6 z6 => ?_)
    try dsimp only at r6
    refine x_nm (fun w30_7 ew30_7 => ?_)
    refine x_istore_n [some (vR _), some (vI _), some (vR _), some (vI _)] d163_30 rfl ?_
    have hcp := r6.2; rw [← ew30_7] at hcp
    refine x_iload_n d163_31 rfl ?_
    refine x_iconst d163_32 ?_
    refine x_iceq (t := 61) d163_33 rfl (by omega) (fun c33_8 => ?_) (fun c33_8 => ?_)
    · refine x_iinc [some (vR _), some (vI _), some (vR _), some (vI _)] d163_61 rfl rfl ?_
      refine x_goto (t := 2) d163_64 rfl ?_
      exact ih2 (by omega) _ _
    · have hct := CPos_tb hcp (by omega)
      refine x_iload_n d163_36 rfl ?_
      refine x_aload_n d163_37 rfl ?_
      refine x_aload_n d163_38 rfl ?_
      refine x_gfR d163_39 cl163 f11_25 (S.F.o rfl (by decide)) (V _ _ rfl) (S.F.r rfl) ?_
      refine x_aload_n d163_42 rfl ?_
      refine x_gfI d163_43 cl163 f11_186 (by decide) (Pc.ob (Ls.mem S.lp (i2).toNat (by omega))) (V.g (Pc.g (Ls.mem S.lp (i2).toNat (by omega)))) ?_
      have g9 := (Pc.sheet (Ls.mem S.lp (i2).toNat (by omega)))
      refine x_aaload d163_46 (Nat.lt_of_lt_of_le (by decide) S.F.1) (by rw [(S.F.o (a := 6) (t := 104) rfl (by decide)).2]; decide) ⟨by omega, by rw [(S.F.l (a := 6) (n := 6) (by decide) rfl)]; omega⟩ (V _ _ rfl) (S.F.sh (hI h (mP (i2).toNat) 3) (by omega)) ?_
      refine x_gfI d163_47 cl163 f11_209 (by decide) (Sh.ob (S.sh (hI h (mP (i2).toNat) 3).toNat (by omega))) (V.s (by have := Sh.n (S.sh (hI h (mP (i2).toNat) 3).toNat (by omega)); omega)) ?_
      have g10 := (Sh.printings (S.sh (hI h (mP (i2).toNat) 3).toNat (by omega)))
      refine x_VE d163_50 cl163 m11_544 kd23 tg23 po23 le23 (by have := Pc.g (Ls.mem S.lp (i2).toNat (by omega)); omega) (Pc.ob (Ls.mem S.lp (i2).toNat (by omega))) (C23s (Ls.mem S.lp (i2).toNat (by omega)) V) (fun v11 r11 z11 => ?_)
      try dsimp only at r11
      have htb : tb v11 w30_7 = 1 := (r11.2 w30_7 (by omega) (by omega)).mpr ((SI (i2).toNat (by omega)).1 w30_7 (by omega) (by omega) hct.2.1)
      refine x_SE d163_53 cl163 m11_203 kd86 po86 le86 C86 (fun v12 r12 z12 => ?_)
      try dsimp only at r12
      refine x_ifne (t := 61) d163_56 rfl (by omega) (fun c56_13 => ?_) (fun c56_13 => ?_)
      · refine x_iinc [some (vR _), some (vI _), some (vR _), some (vI _)] d163_61 rfl rfl ?_
        refine x_goto (t := 2) d163_64 rfl ?_
        exact ih2 (by omega) _ _
      · exfalso; omega
