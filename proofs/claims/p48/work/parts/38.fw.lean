/-- the union of what fits, over the first printings in the set x -/
def FW (h : Hp) (p : Nat) (x s i : Int) : Prop := ∀ n : Int, 0 ≤ n → n < 24 → (tb s n = 1 ↔ ∃ r : Int, 0 ≤ r ∧ r < i ∧ tb x r = 1 ∧ tb (hI h (p + 3) r.toNat) n = 1)
theorem fw_0 {h : Hp} {p : Nat} {x : Int} : FW h p x 0 0 := fun n h1 h2 => by
  rw [tb_zero ⟨h1, by omega⟩]
  constructor
  · intro q; omega
  · rintro ⟨r, q1, q2, -⟩; omega
theorem fw_up {h : Hp} {p : Nat} {x s i : Int} (b : tb x i = 0) (H : FW h p x s i) : FW h p x s (i + 1) := fun n h1 h2 => by
  rw [H n h1 h2]
  constructor
  · rintro ⟨r, q1, q2, q3, q4⟩; exact ⟨r, q1, by omega, q3, q4⟩
  · rintro ⟨r, q1, q2, q3, q4⟩
    refine ⟨r, q1, ?_, q3, q4⟩
    rcases (show r < i ∨ r = i by omega) with w | w
    · exact w
    · rw [w, b] at q3; cases q3
theorem fw_or {h : Hp} {p : Nat} {x s i : Int} (hi : 0 ≤ i) (b : tb x i = 1) (H : FW h p x s i) : FW h p x (o32 fior s (hI h (p + 3) i.toNat)) (i + 1) := fun n h1 h2 => by
  rw [tb_or ⟨h1, by omega⟩, H n h1 h2]
  constructor
  · rintro (⟨r, q1, q2, q3, q4⟩ | q)
    · exact ⟨r, q1, by omega, q3, q4⟩
    · exact ⟨i, hi, by omega, b, q⟩
  · rintro ⟨r, q1, q2, q3, q4⟩
    rcases (show r < i ∨ r = i by omega) with w | w
    · exact Or.inl ⟨r, q1, w, q3, q4⟩
    · rw [w] at q4; exact Or.inr q4
theorem C23s {D : Nat → Nat → Bool} {d : Nat} {h : Hp} {x : Int} {p : Nat} (P : Pc h p) (V : Vis D) : ∃ v : Int, (fun v : Int => (-2147483648 ≤ v ∧ v < 2147483648) ∧ FW h p x v 8) v ∧ PV D (d + 1) 23 [vR (some p), vI x] h (vI v) := by
  refine PE_of (fun Q hQ => ?_)
  refine x_ent en23 ?_
  refine x_iconst d23_0 ?_
  refine x_nm (fun w1_1 ew1_1 => ?_)
  refine x_istore_n [some (vR _), some (vI _), some (vI _), none] d23_1 rfl ?_
  refine x_iconst d23_2 ?_
  refine x_nm (fun w3_2 ew3_2 => ?_)
  refine x_istore_n [some (vR _), some (vI _), some (vI _), some (vI _)] d23_3 rfl ?_
  refine (x_ub (N := 8) (P := fun i3 => ∀ s3_2 : Int, ((-2147483648 ≤ s3_2 ∧ s3_2 < 2147483648) ∧ FW h p x s3_2 i3) → wp D (d + 1) 23 4 [some (vR (some p)), some (vI x), some (vI s3_2), some (vI i3)] [] h Q) w3_2 (by omega) (fun i3 hi3 hj3 ih3 s3_2 hs3_2 => ?_)) _ (by subst_vars; exact ⟨by omega, fw_0⟩)
  refine x_iload_n d23_4 rfl ?_
  refine x_bipush d23_5 (by decide) ?_
  refine x_icge (t := 33) d23_7 rfl (by omega) (fun c7_4 => ?_) (fun c7_4 => ?_)
  · refine x_iload_n d23_33 rfl ?_
    exact x_iret d23_34 rt23 (hQ _ (by have e8 := hs3_2.2; rw [show i3 = 8 by omega] at e8; exact ⟨by omega, e8⟩))
  · refine x_iload_n d23_10 rfl ?_
    refine x_iload_n d23_11 rfl ?_
    refine x_SE d23_12 cl23 m4_85 kd86 po86 le86 C86 (fun v5 r5 z5 => ?_)
    try dsimp only at r5
    refine x_ifeq (t := 27) d23_15 rfl (by omega) (fun c15_6 => ?_) (fun c15_6 => ?_)
    · have hinv : (-2147483648 ≤ s3_2 ∧ s3_2 < 2147483648) ∧ FW h p x s3_2 (i3 + 1) := ⟨hs3_2.1, fw_up (by omega) hs3_2.2⟩
      refine x_iinc [some (vR _), some (vI _), some (vI _), some (vI _)] d23_27 rfl rfl ?_
      refine x_goto (t := 4) d23_30 rfl ?_
      exact ih3 (by omega) _ hinv
    · refine x_iload_n d23_18 rfl ?_
      refine x_aload_n d23_19 rfl ?_
      refine x_gfR d23_20 cl23 f4_19 (Pc.ob P) (V.g (Pc.g P)) (Pc.r3 P) ?_
      refine x_iload_n d23_23 rfl ?_
      refine x_iaload d23_24 (Pc.o3 P) ⟨by omega, by rw [(Pc.l3 P)]; omega⟩ (V.g (by have := Pc.g P; omega)) ?_
      refine x_nm (fun a7 e7 => ?_)
      have b7 : 0 ≤ a7 ∧ a7 ≤ 16777215 := by rw [e7]; exact (Pc.fits P _)
      refine x_iorq d23_25 (fun q8 => ?_)
      refine x_nm (fun w26_9 ew26_9 => ?_)
      refine x_istore_n [some (vR _), some (vI _), some (vI _), some (vI _)] d23_26 rfl ?_
      have hinv : (-2147483648 ≤ w26_9 ∧ w26_9 < 2147483648) ∧ FW h p x w26_9 (i3 + 1) := ⟨by omega, by rw [ew26_9, e7]; exact fw_or (by omega) (by omega) hs3_2.2⟩
      refine x_iinc [some (vR _), some (vI _), some (vI _), some (vI _)] d23_27 rfl rfl ?_
      refine x_goto (t := 4) d23_30 rfl ?_
      exact ih3 (by omega) _ hinv
