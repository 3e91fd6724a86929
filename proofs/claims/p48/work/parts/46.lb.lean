def lcA (i : Int) : Int := i - o64 gand (lushZ i 1) 6148914691236517205
def lcB (i : Int) : Int := o64 gand i 3689348814741910323 + o64 gand (lushZ i 2) 3689348814741910323
def lcC (i : Int) : Int := o64 gand (i + lushZ i 4) 1085102592571150095
def lcD (i : Int) : Int := i + lushZ i 8
def lcE (i : Int) : Int := i + lushZ i 16
def lcF (i : Int) : Int := i + lushZ i 32
/-- how many bits of a long -/
def pc64 (i : Int) : Int := o32 fand (lcF (lcE (lcD (lcC (lcB (lcA i)))))) 127
theorem and127 (x : Int) : 0 ≤ o32 fand x 127 ∧ o32 fand x 127 ≤ 127 := by
  have h1 : (fand (Int32.ofInt x) (Int32.ofInt 127)).toBitVec.toNat ≤ 127 := by
    show ((Int32.ofInt x).toBitVec &&& (Int32.ofInt 127).toBitVec).toNat ≤ 127
    rw [BitVec.toNat_and]
    exact Nat.and_le_right
  have h2 : o32 fand x 127 = ((fand (Int32.ofInt x) (Int32.ofInt 127)).toBitVec.toNat : Int) := by
    show (fand (Int32.ofInt x) (Int32.ofInt 127)).toBitVec.toInt = _
    exact BitVec.toInt_eq_toNat_of_lt (by omega)
  omega
theorem C187 {D : Nat → Nat → Bool} {d : Nat} {h : Hp} {x : Int} : ∃ v : Int, (fun v : Int => v = pc64 x ∧ 0 ≤ v ∧ v ≤ 127) v ∧ PV D (d + 0) 187 [vL x] h (vI v) := by
  refine PE_of (fun Q hQ => ?_)
  refine x_ent en187 ?_
  refine x_lload_n d187_0 rfl ?_
  refine x_lload_n d187_1 rfl ?_
  refine x_iconst d187_2 ?_
  refine x_lushr d187_3 ?_
  refine x_ldc2 d187_4 cl187 cj20_314 ?_
  refine x_land d187_7 ?_
  refine x_lsub d187_8 ?_
  refine x_nmL (fun w9_1 ew9_1 => ?_)
  refine x_lstore_n [some (vL _), none] d187_9 rfl ?_
  refine x_lload_n d187_10 rfl ?_
  refine x_ldc2 d187_11 cl187 cj20_316 ?_
  refine x_land d187_14 ?_
  refine x_lload_n d187_15 rfl ?_
  refine x_iconst d187_16 ?_
  refine x_lushr d187_17 ?_
  refine x_ldc2 d187_18 cl187 cj20_316 ?_
  refine x_land d187_21 ?_
  refine x_ladd d187_22 ?_
  refine x_nmL (fun w23_2 ew23_2 => ?_)
  refine x_lstore_n [some (vL _), none] d187_23 rfl ?_
  refine x_lload_n d187_24 rfl ?_
  refine x_lload_n d187_25 rfl ?_
  refine x_iconst d187_26 ?_
  refine x_lushr d187_27 ?_
  refine x_ladd d187_28 ?_
  refine x_ldc2 d187_29 cl187 cj20_318 ?_
  refine x_land d187_32 ?_
  refine x_nmL (fun w33_3 ew33_3 => ?_)
  refine x_lstore_n [some (vL _), none] d187_33 rfl ?_
  refine x_lload_n d187_34 rfl ?_
  refine x_lload_n d187_35 rfl ?_
  refine x_bipush d187_36 (by decide) ?_
  refine x_lushr d187_38 ?_
  refine x_ladd d187_39 ?_
  refine x_nmL (fun w40_4 ew40_4 => ?_)
  refine x_lstore_n [some (vL _), none] d187_40 rfl ?_
  refine x_lload_n d187_41 rfl ?_
  refine x_lload_n d187_42 rfl ?_
  refine x_bipush d187_43 (by decide) ?_
  refine x_lushr d187_45 ?_
  refine x_ladd d187_46 ?_
  refine x_nmL (fun w47_5 ew47_5 => ?_)
  refine x_lstore_n [some (vL _), none] d187_47 rfl ?_
  refine x_lload_n d187_48 rfl ?_
  refine x_lload_n d187_49 rfl ?_
  refine x_bipush d187_50 (by decide) ?_
  refine x_lushr d187_52 ?_
  refine x_ladd d187_53 ?_
  refine x_nmL (fun w54_6 ew54_6 => ?_)
  refine x_lstore_n [some (vL _), none] d187_54 rfl ?_
  refine x_lload_n d187_55 rfl ?_
  refine x_l2i d187_56 ?_
  refine x_bipush d187_57 (by decide) ?_
  refine x_iandq d187_59 (fun q7 => ?_)
  exact x_iret d187_60 rt187 (hQ _ (by subst_vars; exact ⟨rfl, and127 _⟩))
theorem C64 {D : Nat → Nat → Bool} {d : Nat} {h : Hp} {mP mC mI mD mB : Nat → Nat} {nP nC nI nD nB : Nat} (V : Vis D) (S : Hv h mP mC mI mD mB nP nC nI nD nB) (VB : ∀ a j, DB a j = true → D a j = true) : ∃ v : Int, (fun v : Int => v = pc64 (hI h 55 7) ∧ 0 ≤ v ∧ v ≤ 127) v ∧ PV D (d + 1) 64 [vR (some 55)] h (vI v) := by
  refine PE_of (fun Q hQ => ?_)
  refine x_ent en64 ?_
  refine x_aload_n d64_0 rfl ?_
  refine x_gfL d64_1 cl64 f7_75 (S.F.o rfl (by decide)) (VB _ _ rfl) ?_
  refine x_SE d64_4 cl64 m7_106 kd187 po187 le187 C187 (fun v1 r1 z1 => ?_)
  try dsimp only at r1
  exact x_iret d64_7 rt64 (hQ _ (by omega))
theorem C124 {D : Nat → Nat → Bool} {d : Nat} {h : Hp} {x y : Int} : ∃ v : Int, (fun v : Int => v = x * 31 + y) v ∧ PV D (d + 0) 124 [vL x, vL y] h (vL v) := by
  refine PEL_of (fun Q hQ => ?_)
  refine x_ent en124 ?_
  refine x_lload_n d124_0 rfl ?_
  refine x_ldc2 d124_1 cl124 cj11_598 ?_
  refine x_lmul d124_4 ?_
  refine x_lload_n d124_5 rfl ?_
  refine x_ladd d124_6 ?_
  exact x_lret d124_7 rt124 (hQ _ rfl)
