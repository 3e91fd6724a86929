/-! ===== A NEW PIECE ===== -/
def tgP (i : Nat) : Nat := match i with | 1 => 101 | _ => 100
def lnP (i : Nat) : Nat := match i with | 0 => 9 | 1 => 9 | 2 => 8 | 3 => 4 | 4 => 8 | _ => 3
def flP (i : Nat) : Nat := match i with | 0 => 6 | 1 => 7 | 2 => 8 | 3 => 10 | 4 => 11 | _ => 14
/-- a piece at c, k rows of it made -/
def StP (c k : Nat) (h g : Hp) (sl : Nat) : Prop := hN g = c + k + 1 ∧ hN h = c ∧ (∀ a, a < c → (hT g a = hT h a ∧ hL g a = hL h a) ∧ ∀ j, hI g a j = hI h a j ∧ hR g a j = hR h a j) ∧ hT g c = 4 ∧ (∀ i, i < k → hT g (c + 1 + i) = tgP i ∧ hL g (c + 1 + i) = lnP i ∧ hR g c (flP i) = some (c + 1 + i)) ∧ (∀ a j, c ≤ a → a < hN g → hI g a j = 0) ∧ hC g = hC h + k + 1 ∧ hS g = hS h + sl
theorem StP_0 {h : Hp} : StP (hN h) 0 h (alc h 4 0 16) 16 := by
  refine ⟨rfl, rfl, fun a ha => ⟨⟨?_, ?_⟩, fun j => ⟨?_, ?_⟩⟩, ?_, fun i hi => absurd hi (Nat.not_lt_zero i), fun a j h1 h2 => ?_, rfl, rfl⟩
  · rw [hT_alc, if_neg (by omega)]
  · rw [hL_alc, if_neg (by omega)]
  · rw [hI_alc, if_neg (by omega)]
  · rw [hR_alc, if_neg (by omega)]
  · rw [hT_alc, if_pos rfl]
  · rw [hN_alc] at h2
    rw [hI_alc, if_pos (by omega)]
theorem flP_i : ∀ k, k < 6 → ∀ i, i < k → flP i ≠ flP k := by decide
theorem StP_s {c k sl t n f : Nat} {h g : Hp} (A : StP c k h g sl) (hk : k < 6) (et : t = tgP k) (en : n = lnP k) (ef : f = flP k) : StP c (k + 1) h (sR (alc g t n n) c f (some (hN g))) (sl + n) := by
  obtain ⟨a1, a2, a3, a4, a5, a6, a7, a8⟩ := A
  subst et en ef
  refine ⟨by rw [hN_sR, hN_alc]; omega, a2, fun a ha => ⟨⟨?_, ?_⟩, fun j => ⟨?_, ?_⟩⟩, ?_, fun i hi => ⟨?_, ?_, ?_⟩, fun a j h1 h2 => ?_, by rw [hC_sR, hC_alc]; omega, by rw [hS_sR, hS_alc]; omega⟩
  · rw [hT_sR, hT_alc, if_neg (by omega)]; exact (a3 a ha).1.1
  · rw [hL_sR, hL_alc, if_neg (by omega)]; exact (a3 a ha).1.2
  · rw [hI_sR, hI_alc, if_neg (by omega)]; exact ((a3 a ha).2 j).1
  · rw [hR_sR, if_neg (by omega), hR_alc, if_neg (by omega)]; exact ((a3 a ha).2 j).2
  · rw [hT_sR, hT_alc, if_neg (by omega)]; exact a4
  · rw [hT_sR, hT_alc]
    by_cases w : i = k
    · rw [if_pos (by omega), w]
    · rw [if_neg (by omega)]; exact (a5 i (by omega)).1
  · rw [hL_sR, hL_alc]
    by_cases w : i = k
    · rw [if_pos (by omega), w]
    · rw [if_neg (by omega)]; exact (a5 i (by omega)).2.1
  · rw [hR_sR]
    by_cases w : i = k
    · rw [if_pos ⟨rfl, by rw [w]⟩, w, a1]; congr 1; omega
    · rw [if_neg (fun q => flP_i k hk i (by omega) q.2), hR_alc, if_neg (by omega)]; exact (a5 i (by omega)).2.2
  · rw [hN_sR, hN_alc] at h2
    rw [hI_sR, hI_alc]
    by_cases w : a = hN g
    · rw [if_pos w]
    · rw [if_neg w]; exact a6 a j h1 (by omega)
def mkP3 (g : Hp) (c : Nat) (x y w z u : Int) : Hp := fil (sI (sI (sI (sI (sI g c 0 x) c 1 y) c 2 w) c 3 z) c 4 u) (c + 5) 8 2
theorem mkP3_ok {c : Nat} {h g : Hp} {x y w z u : Int} (A : StP c 6 h g 57) (h69 : 69 ≤ c) (q1 : 0 ≤ x ∧ x ≤ 11) (q2 : 1 ≤ y ∧ y ≤ 3) (q3 : 1 ≤ w ∧ w ≤ 3) (q4 : 0 ≤ z ∧ z ≤ 5) (q5 : 0 ≤ u ∧ u ≤ 1) : Mv h (mkP3 g c x y w z u) (fun _ => False) ∧ Pc (mkP3 g c x y w z u) c ∧ (hI (mkP3 g c x y w z u) c 1 = y ∧ hI (mkP3 g c x y w z u) c 2 = w ∧ hI (mkP3 g c x y w z u) c 3 = z) ∧ hC (mkP3 g c x y w z u) = hC h + 7 ∧ hS (mkP3 g c x y w z u) = hS h + 57 := by
  obtain ⟨a1, a2, a3, a4, a5, a6, a7, a8⟩ := A
  have eL : ∀ a, a ≠ c → a ≠ c + 5 → ∀ j, hI (mkP3 g c x y w z u) a j = hI g a j := fun a h1 h2 j => by
    unfold mkP3
    rw [fil_I, if_neg (by omega), hI_ne h1, hI_ne h1, hI_ne h1, hI_ne h1, hI_ne h1]
  have e0 : ∀ j, hI (mkP3 g c x y w z u) c j = if j = 4 then u else if j = 3 then z else if j = 2 then w else if j = 1 then y else if j = 0 then x else 0 := fun j => by
    unfold mkP3
    rw [fil_I, if_neg (by omega), hI_row, hI_row, hI_row, hI_row, hI_row, a6 c j (by omega) (by omega)]
  have eI : ∀ k j, 1 ≤ k ∧ k ≤ 6 → hI (mkP3 g c x y w z u) (c + k) j = if k = 5 ∧ j < 8 then 2 else 0 := fun k j hk => by
    unfold mkP3
    rw [fil_I, hI_ne (by omega), hI_ne (by omega), hI_ne (by omega), hI_ne (by omega), hI_ne (by omega), a6 (c + k) j (by omega) (by omega)]
    by_cases w : k = 5
    · subst w; simp
    · rw [if_neg (by omega), if_neg (by omega)]
  refine ⟨⟨⟨by show hN h ≤ hN g; omega, fun a ha => (a3 a (by omega)).1⟩, fun _ _ q => q.elim, fun a ha _ j => ⟨by rw [eL a (by omega) (by omega)]; exact ((a3 a (by omega)).2 j).1, ((a3 a (by omega)).2 j).2⟩⟩, Pc.mk (h := mkP3 g c x y w z u) h69 (by show c + 6 < hN g; omega) a4 (a5 0 (by decide)).1 (a5 0 (by decide)).2.1 (a5 0 (by decide)).2.2 (a5 1 (by decide)).1 (a5 1 (by decide)).2.1 (a5 1 (by decide)).2.2 (a5 2 (by decide)).1 (a5 2 (by decide)).2.1 (a5 2 (by decide)).2.2 (a5 3 (by decide)).1 (a5 3 (by decide)).2.1 (a5 3 (by decide)).2.2 (a5 4 (by decide)).1 (a5 4 (by decide)).2.1 (a5 4 (by decide)).2.2 (a5 5 (by decide)).1 (a5 5 (by decide)).2.1 (a5 5 (by decide)).2.2 (by rw [e0 0]; simp; try omega) (by rw [e0 1]; simp; try omega) (by rw [e0 2]; simp; try omega) (by rw [e0 3]; simp; try omega) (by rw [e0 4]; simp; try omega) (by rw [e0 5]; simp; try omega) (by rw [e0 9]; simp; try omega) (by rw [e0 12]; simp; try omega) (by rw [e0 13]; simp; try omega) (by rw [e0 15]; simp; try omega) (fun j => by rw [eI 1 j (by omega)]; split <;> omega) (fun j => by rw [eI 2 j (by omega)]; split <;> omega) (fun j => by rw [eI 3 j (by omega)]; split <;> omega) (fun j => by rw [eI 4 j (by omega)]; split <;> omega) (fun j => by rw [eI 5 j (by omega)]; split <;> omega) (fun j => by rw [eI 6 j (by omega)]; split <;> omega), ⟨by rw [e0]; simp, by rw [e0]; simp, by rw [e0]; simp⟩, by show hC g = _; omega, a8⟩
theorem C17 {d c : Nat} {h : Hp} {x y w z u : Int} (h69 : 69 ≤ c) (hc : hN h = c) (qu : u = 0 ∨ u = 1) : PU DA (d + 1) 17 [vR (some c), vI x, vI y, vI w, vI z, vI u] (alc h 4 0 16) (fun g => ∃ f, StP c 6 h f 57 ∧ g = mkP3 f c x y w z u) := by
  refine PU_of (fun Q hQ => ?_)
  obtain ⟨h0, e0⟩ : ∃ h0, h0 = h := ⟨_, rfl⟩
  have A0 : StP c 0 h0 (alc h 4 0 16) 16 := by rw [e0, ← hc]; exact StP_0
  have o : Ob (alc h 4 0 16) c 4 := ⟨by have := A0.1; omega, A0.2.2.2.1⟩
  refine x_wr (fun g => StP c 0 h0 g 16) A0 (fun h A => ?_)
  have o : Ob h c 4 := ⟨by have := A.1; omega, A.2.2.2.1⟩
  refine x_ent en17 ?_
  refine x_aload_n d17_0 rfl ?_
  refine x_cO d17_1 cl17 m4_3 (by exact Nat.le_of_ble_eq_true rfl) ?_
  refine x_aload_n d17_4 rfl ?_
  refine x_bipush d17_5 (by decide) ?_
  refine x_newa d17_7 rfl (by decide) (by omega) ?_
  have o := Ob_alc (l := 100) (b := 9) (s := 9) o
  refine x_pfR d17_9 cl17 f4_9 o rfl (fun _ => ⟨by decide +kernel, rfl⟩) (x_wr (fun g => StP c 1 h0 g 25 ∧ True) ⟨StP_s A (by decide) rfl rfl rfl, trivial⟩ (fun h q2 => ?_))
  obtain ⟨A, -⟩ := q2
  have o : Ob h c 4 := ⟨by have := A.1; omega, A.2.2.2.1⟩
  refine x_aload_n d17_12 rfl ?_
  refine x_bipush d17_13 (by decide) ?_
  refine x_newa d17_15 rfl (by decide) (by omega) ?_
  have o := Ob_alc (l := 101) (b := 9) (s := 9) o
  refine x_pfR d17_17 cl17 f4_15 o rfl (fun _ => ⟨by decide +kernel, rfl⟩) (x_wr (fun g => StP c 2 h0 g 34 ∧ True) ⟨StP_s A (by decide) rfl rfl rfl, trivial⟩ (fun h q4 => ?_))
  obtain ⟨A, -⟩ := q4
  have o : Ob h c 4 := ⟨by have := A.1; omega, A.2.2.2.1⟩
  refine x_aload_n d17_20 rfl ?_
  refine x_bipush d17_21 (by decide) ?_
  refine x_newa d17_23 rfl (by decide) (by omega) ?_
  have o := Ob_alc (l := 100) (b := 8) (s := 8) o
  refine x_pfR d17_25 cl17 f4_19 o rfl (fun _ => ⟨by decide +kernel, rfl⟩) (x_wr (fun g => StP c 3 h0 g 42 ∧ True) ⟨StP_s A (by decide) rfl rfl rfl, trivial⟩ (fun h q6 => ?_))
  obtain ⟨A, -⟩ := q6
  have o : Ob h c 4 := ⟨by have := A.1; omega, A.2.2.2.1⟩
  refine x_aload_n d17_28 rfl ?_
  refine x_iconst d17_29 ?_
  refine x_newa d17_30 rfl (by decide) (by omega) ?_
  have o := Ob_alc (l := 100) (b := 4) (s := 4) o
  refine x_pfR d17_32 cl17 f4_22 o rfl (fun _ => ⟨by decide +kernel, rfl⟩) (x_wr (fun g => StP c 4 h0 g 46 ∧ True) ⟨StP_s A (by decide) rfl rfl rfl, trivial⟩ (fun h q8 => ?_))
  obtain ⟨A, -⟩ := q8
  have o : Ob h c 4 := ⟨by have := A.1; omega, A.2.2.2.1⟩
  refine x_aload_n d17_35 rfl ?_
  refine x_bipush d17_36 (by decide) ?_
  refine x_newa d17_38 rfl (by decide) (by omega) ?_
  have o := Ob_alc (l := 100) (b := 8) (s := 8) o
  refine x_pfR d17_40 cl17 f4_25 o rfl (fun _ => ⟨by decide +kernel, rfl⟩) (x_wr (fun g => StP c 5 h0 g 54 ∧ True) ⟨StP_s A (by decide) rfl rfl rfl, trivial⟩ (fun h q10 => ?_))
  obtain ⟨A, -⟩ := q10
  have o : Ob h c 4 := ⟨by have := A.1; omega, A.2.2.2.1⟩
  refine x_aload_n d17_43 rfl ?_
  refine x_iconst d17_44 ?_
  refine x_newa d17_45 rfl (by decide) (by omega) ?_
  have o := Ob_alc (l := 100) (b := 3) (s := 3) o
  refine x_pfR d17_47 cl17 f4_28 o rfl (fun _ => ⟨by decide +kernel, rfl⟩) (x_wr (fun g => StP c 6 h0 g 57 ∧ True) ⟨StP_s A (by decide) rfl rfl rfl, trivial⟩ (fun h q12 => ?_))
  obtain ⟨A, -⟩ := q12
  have o : Ob h c 4 := ⟨by have := A.1; omega, A.2.2.2.1⟩
  refine x_aload_n d17_50 rfl ?_
  refine x_iload_n d17_51 rfl ?_
  refine x_pfI d17_52 cl17 f4_31 o rfl (fun _ => ⟨by decide +kernel, rfl⟩) ?_
  refine x_aload_n d17_55 rfl ?_
  refine x_iload_n d17_56 rfl ?_
  refine x_pfI d17_57 cl17 f4_35 o rfl (fun _ => ⟨by decide +kernel, rfl⟩) ?_
  refine x_aload_n d17_60 rfl ?_
  refine x_iload_n d17_61 rfl ?_
  refine x_pfI d17_62 cl17 f4_38 o rfl (fun _ => ⟨by decide +kernel, rfl⟩) ?_
  refine x_aload_n d17_65 rfl ?_
  refine x_iload d17_66 rfl ?_
  refine x_pfI d17_68 cl17 f4_41 o rfl (fun _ => ⟨by decide +kernel, rfl⟩) ?_
  refine x_aload_n d17_71 rfl ?_
  refine x_iload d17_72 rfl ?_
  refine x_pfZ d17_74 cl17 f4_44 o rfl (fun _ => ⟨by decide +kernel, rfl⟩) (by omega) ?_
  refine x_aload_n d17_77 rfl ?_
  refine x_gfR d17_78 cl17 f4_25 o rfl (A.2.2.2.2.1 4 (by decide)).2.2 ?_
  refine x_iconst d17_81 ?_
  refine x_SU d17_82 cl17 m4_48 kd181 po181 le181 (C181 (a := c + 5) (by omega) ⟨by show c + 5 < hN h; have := A.1; omega, (A.2.2.2.2.1 4 (by decide)).1⟩ (by show hL h (c + 5) < 60000; rw [show hL h (c + 5) = 8 from (A.2.2.2.2.1 4 (by decide)).2.1]; decide)) (fun g q => ?_)
  exact x_ret d17_85 rt17 (hQ _ (by rw [q, show hL (sI (sI (sI (sI (sI h c 0 x) c 1 y) c 2 w) c 3 z) c 4 u) (c + 5) = 8 from (A.2.2.2.2.1 4 (by decide)).2.1]; exact ⟨h, by rw [← e0]; exact A, rfl⟩))
theorem C98 {D : Nat → Nat → Bool} {d : Nat} {h : Hp} {x : Int} {mP mC mI mD mB : Nat → Nat} {nP nC nI nD nB : Nat} (V : Vis D) (S : Hv h mP mC mI mD mB nP nC nI nD nB) (qx : 0 ≤ x ∧ x ≤ 5) : ∃ v : Int, (fun v : Int => (v = 0 ∨ v = 1) ∧ (v = 1 → nP < 12 ∧ hI h (7 + 5 * x.toNat) 1 < 3)) v ∧ PV D (d + 1) 98 [vR (some 2), vI x] h (vI v) := by
  refine PE_of (fun Q hQ => ?_)
  refine x_ent en98 ?_
  have hnp := S.np
  refine x_aload_n d98_0 rfl ?_
  refine x_gfR d98_1 cl98 f11_19 (S.F.o rfl (by decide)) (V _ _ rfl) (S.F.r rfl) ?_
  refine x_VE d98_4 cl98 m11_129 kd168 tg168 po168 le168 (by decide) (S.F.o rfl (by decide)) (C168 (S.F.o rfl (by decide)) (V _ _ rfl) S.lp) (fun v1 r1 z1 => ?_)
  try dsimp only at r1
  refine x_bipush d98_7 (by decide) ?_
  refine x_icge (t := 29) d98_9 rfl (by omega) (fun c9_2 => ?_) (fun c9_2 => ?_)
  · refine x_iconst d98_29 ?_
    exact x_zret d98_30 rt98 (by omega) (hQ _ (by omega))
  · refine x_aload_n d98_12 rfl ?_
    refine x_gfR d98_13 cl98 f11_25 (S.F.o rfl (by decide)) (V _ _ rfl) (S.F.r rfl) ?_
    refine x_iload_n d98_16 rfl ?_
    refine x_aaload d98_17 (Nat.lt_of_lt_of_le (by decide) S.F.1) (by rw [(S.F.o (a := 6) (t := 104) rfl (by decide)).2]; decide) ⟨by omega, by rw [(S.F.l (a := 6) (n := 6) (by decide) rfl)]; omega⟩ (V _ _ rfl) (S.F.sh (x) (by omega)) ?_
    refine x_gfI d98_18 cl98 f11_218 (by decide) (Sh.ob (S.sh (x).toNat (by omega))) (V.s (by have := Sh.n (S.sh (x).toNat (by omega)); omega)) ?_
    have g3 := (Sh.size (S.sh (x).toNat (by omega)))
    refine x_iconst d98_21 ?_
    refine x_icge (t := 29) d98_22 rfl (by omega) (fun c22_4 => ?_) (fun c22_4 => ?_)
    · refine x_iconst d98_29 ?_
      exact x_zret d98_30 rt98 (by omega) (hQ _ (by omega))
    · refine x_iconst d98_25 ?_
      refine x_goto (t := 30) d98_26 rfl ?_
      exact x_zret d98_30 rt98 (by omega) (hQ _ (by omega))
