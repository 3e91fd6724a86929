/-- what the readers of a sale see: all but the tables of frames and stamps -/
def DB (a _ : Nat) : Bool := !(a == 66 || a == 67 || a == 68)
/-- all items -/
theorem all_rng {n : Int} (q : 0 ≤ n ∧ n ≤ 8) : 0 ≤ o32 fshl 1 n - 1 ∧ o32 fshl 1 n - 1 ≤ 255 ∧ o32 fshl 1 n = (2 : Int) ^ n.toNat := by
  rcases (show n = 0 ∨ n = 1 ∨ n = 2 ∨ n = 3 ∨ n = 4 ∨ n = 5 ∨ n = 6 ∨ n = 7 ∨ n = 8 by omega) with rfl | rfl | rfl | rfl | rfl | rfl | rfl | rfl | rfl <;> decide +kernel
theorem C63 {D : Nat → Nat → Bool} {d : Nat} {h : Hp} {x : Int} (qx : -2147483648 ≤ x ∧ x < 2147483648) : ∃ v : Int, (fun v : Int => 1 ≤ v ∧ v ≤ 50) v ∧ PV D (d + 0) 63 [vI x] h (vI v) := by
  refine PE_of (fun Q hQ => ?_)
  refine x_ent en63 ?_
  refine x_iload_n d63_0 rfl ?_
  refine x_bipush d63_1 (by decide) ?_
  refine x_icge (t := 8) d63_3 rfl (by omega) (fun c3_1 => ?_) (fun c3_1 => ?_)
  · refine x_iload_n d63_8 rfl ?_
    refine x_bipush d63_9 (by decide) ?_
    refine x_icge (t := 16) d63_11 rfl (by omega) (fun c11_2 => ?_) (fun c11_2 => ?_)
    · refine x_iload_n d63_16 rfl ?_
      refine x_sipush d63_17 (by decide) ?_
      refine x_icge (t := 28) d63_20 rfl (by omega) (fun c20_3 => ?_) (fun c20_3 => ?_)
      · refine x_bipush d63_28 (by decide) ?_
        exact x_iret d63_30 rt63 (hQ _ (by omega))
      · refine x_bipush d63_23 (by decide) ?_
        refine x_goto (t := 30) d63_25 rfl ?_
        exact x_iret d63_30 rt63 (hQ _ (by omega))
    · refine x_iconst d63_14 ?_
      exact x_iret d63_15 rt63 (hQ _ (by omega))
  · refine x_iconst d63_6 ?_
    exact x_iret d63_7 rt63 (hQ _ (by omega))
theorem C49 {D : Nat → Nat → Bool} {d : Nat} {h : Hp} {mP mC mI mD mB : Nat → Nat} {nP nC nI nD nB : Nat} (V : Vis D) (S : Hv h mP mC mI mD mB nP nC nI nD nB) (VB : ∀ a j, DB a j = true → D a j = true) : ∃ v : Int, (fun v : Int => v = o32 fshl 1 (hI h 55 0) - 1 ∧ 0 ≤ v ∧ v ≤ 255) v ∧ PV D (d + 0) 49 [vR (some 55)] h (vI v) := by
  refine PE_of (fun Q hQ => ?_)
  refine x_ent en49 ?_
  refine x_iconst d49_0 ?_
  refine x_aload_n d49_1 rfl ?_
  refine x_gfI d49_2 cl49 f7_39 (by decide) (S.F.o rfl (by decide)) (VB _ _ rfl) ?_
  have g1 := S.items
  refine x_ishlq d49_5 (fun q2 => ?_)
  refine x_iconst d49_6 ?_
  refine x_isub d49_7 ?_
  have hal := all_rng S.items
  exact x_iret d49_8 rt49 (hQ _ ⟨rfl, hal.1, hal.2.1⟩)
/-- is the bit n in the long s -/
def tl (s n : Int) : Int := if cmpZ (o64 gand (lshrZ s n) 1) 0 = 0 then 0 else 1
theorem C62 {D : Nat → Nat → Bool} {d : Nat} {h : Hp} {x : Int} {mP mC mI mD mB : Nat → Nat} {nP nC nI nD nB : Nat} (V : Vis D) (S : Hv h mP mC mI mD mB nP nC nI nD nB) (VB : ∀ a j, DB a j = true → D a j = true) : ∃ v : Int, (fun v : Int => v = tl (hI h 55 7) x ∧ (v = 0 ∨ v = 1)) v ∧ PV D (d + 0) 62 [vR (some 55), vI x] h (vI v) := by
  refine PE_of (fun Q hQ => ?_)
  refine x_ent en62 ?_
  refine x_aload_n d62_0 rfl ?_
  refine x_gfL d62_1 cl62 f7_75 (S.F.o rfl (by decide)) (VB _ _ rfl) ?_
  refine x_iload_n d62_4 rfl ?_
  refine x_lshr d62_5 ?_
  refine x_lconst (z := 1) d62_6 rfl ?_
  refine x_land d62_7 ?_
  refine x_lconst (z := 0) d62_8 rfl ?_
  refine x_lcmpq d62_9 (fun q1 => ?_)
  refine x_ifeq (t := 17) d62_10 rfl (by omega) (fun c10_2 => ?_) (fun c10_2 => ?_)
  · refine x_iconst d62_17 ?_
    exact x_zret d62_18 rt62 (by omega) (hQ _ (by unfold tl; split <;> first | omega | exact ⟨rfl, by omega⟩))
  · refine x_iconst d62_13 ?_
    refine x_goto (t := 18) d62_14 rfl ?_
    exact x_zret d62_18 rt62 (by omega) (hQ _ (by unfold tl; split <;> first | omega | exact ⟨rfl, by omega⟩))
theorem C57 {D : Nat → Nat → Bool} {d : Nat} {h : Hp} {x : Int} {mP mC mI mD mB : Nat → Nat} {nP nC nI nD nB : Nat} (V : Vis D) (S : Hv h mP mC mI mD mB nP nC nI nD nB) (VB : ∀ a j, DB a j = true → D a j = true) : ∃ v : Int, (fun v : Int => v = tl (hI h 62 (o32 fshl 1 (hI h 55 0) - 1).toNat) x ∧ (v = 0 ∨ v = 1)) v ∧ PV D (d + 1) 57 [vR (some 55), vI x] h (vI v) := by
  refine PE_of (fun Q hQ => ?_)
  refine x_ent en57 ?_
  refine x_aload_n d57_0 rfl ?_
  refine x_gfR d57_1 cl57 f7_35 (S.F.o rfl (by decide)) (VB _ _ rfl) (S.F.r rfl) ?_
  refine x_aload_n d57_4 rfl ?_
  refine x_VE d57_5 cl57 m7_91 kd49 tg49 po49 le49 (by decide) (S.F.o rfl (by decide)) (C49 V S VB) (fun v1 r1 z1 => ?_)
  try dsimp only at r1
  rw [r1.1]; have hal := all_rng S.items
  refine x_laload d57_8 (S.F.o rfl (by decide)) ⟨by omega, by rw [(S.F.l (a := 62) (n := 256) (by decide) rfl)]; omega⟩ (VB _ _ rfl) ?_
  refine x_iload_n d57_9 rfl ?_
  refine x_lshr d57_10 ?_
  refine x_lconst (z := 1) d57_11 rfl ?_
  refine x_land d57_12 ?_
  refine x_lconst (z := 0) d57_13 rfl ?_
  refine x_lcmpq d57_14 (fun q2 => ?_)
  refine x_ifeq (t := 22) d57_15 rfl (by omega) (fun c15_3 => ?_) (fun c15_3 => ?_)
  · refine x_iconst d57_22 ?_
    exact x_zret d57_23 rt57 (by omega) (hQ _ (by unfold tl; split <;> first | omega | exact ⟨rfl, by omega⟩))
  · refine x_iconst d57_18 ?_
    refine x_goto (t := 23) d57_19 rfl ?_
    exact x_zret d57_23 rt57 (by omega) (hQ _ (by unfold tl; split <;> first | omega | exact ⟨rfl, by omega⟩))
