/-! ===== A SHEET IS PLATED ANEW ===== -/
def Wsh3 (s a j : Nat) : Prop := Wsh s a j ∨ (a = 7 + 5 * s ∧ j = 3)
def SB3 (s : Nat) (h g : Hp) : Prop := hN g = hN h ∧ hC g = hC h ∧ hS g = hS h ∧ hT g = hT h ∧ hL g = hL h ∧ hR g = hR h ∧ ∀ a j, ¬ Wsh3 s a j → hI g a j = hI h a j
theorem SB3_r {s : Nat} {h : Hp} : SB3 s h h := ⟨rfl, rfl, rfl, rfl, rfl, rfl, fun _ _ _ => rfl⟩
theorem SB3_t {s : Nat} {h g f : Hp} (A : SB3 s h g) (B : SB3 s g f) : SB3 s h f := ⟨B.1.trans A.1, B.2.1.trans A.2.1, B.2.2.1.trans A.2.2.1, B.2.2.2.1.trans A.2.2.2.1, B.2.2.2.2.1.trans A.2.2.2.2.1, B.2.2.2.2.2.1.trans A.2.2.2.2.2.1, fun a j q => (B.2.2.2.2.2.2 a j q).trans (A.2.2.2.2.2.2 a j q)⟩
theorem SB3_w {s : Nat} {h g : Hp} {a k : Nat} {v : Int} (A : SB3 s h g) (w : Wsh3 s a k) : SB3 s h (sI g a k v) := by
  refine SB3_t A ⟨rfl, rfl, rfl, rfl, rfl, rfl, fun b j q => ?_⟩
  rw [hI_sI, if_neg]
  rintro ⟨rfl, rfl⟩
  exact q w
theorem SB3_b {s : Nat} {h g f : Hp} (A : SB3 s h g) (B : Sb s g f) : SB3 s h f := SB3_t A ⟨B.1, B.2.1, B.2.2.1, B.2.2.2.1, B.2.2.2.2.1, B.2.2.2.2.2.1, fun a j q => B.2.2.2.2.2.2 a j (fun w => q (Or.inl w))⟩
/-- the members of a sheet -/
def BS (s n : Nat) (mP : Nat → Nat) (nP : Nat) (ix : Nat → Nat) (h : Hp) : Prop := hI h (7 + 5 * s) 1 = n ∧ ∀ q, q < n → ix q < nP ∧ hR h (7 + 5 * s + 1) q = some (mP (ix q))
theorem BS_3 {s n : Nat} {mP : Nat → Nat} {nP : Nat} {ix : Nat → Nat} {h g : Hp} (B : BS s n mP nP ix h) (A : SB3 s h g) : BS s n mP nP ix g :=
  ⟨by rw [A.2.2.2.2.2.2 _ _ (by unfold Wsh3 Wsh; omega)]; exact B.1, fun q hq => ⟨(B.2 q hq).1, by rw [A.2.2.2.2.2.1]; exact (B.2 q hq).2⟩⟩
theorem BS_F {s n : Nat} {mP : Nat → Nat} {nP : Nat} {ix : Nat → Nat} {h : Hp} (B : BS s n mP nP ix h) (pr : Int) : BF s n mP nP ix (fun q => hI h (mP (ix q) + 3) pr.toNat) pr h :=
  ⟨B.1, fun q hq => ⟨(B.2 q hq).1, (B.2 q hq).2, rfl⟩⟩
/-- what is known when the first i printings have been gone through -/
def PN (s n : Nat) (mP ix : Nat → Nat) (i : Int) (h : Hp) : Prop := (0 ≤ hI h (7 + 5 * s) 2 ∧ hI h (7 + 5 * s) 2 ≤ 36288 * i)
  ∧ (hI h (7 + 5 * s) 2 = 0 → ∀ q, q < n → ∀ x, ¬ hb (hI h (7 + 5 * s + 2) q) x)
  ∧ (hI h (7 + 5 * s) 2 ≠ 0 → ∀ q, q < n → ∃ x, hb (hI h (7 + 5 * s + 2) q) x)
  ∧ (∀ q, q < n → ∀ x, hb (hI h (7 + 5 * s + 2) q) x → ∃ r : Int, 0 ≤ r ∧ r < i ∧ tb (hI h (7 + 5 * s) 3) r = 1 ∧ hb (hI h (mP (ix q) + 3) r.toNat) x)
  ∧ (∀ c : Int, 0 ≤ c → c < 24 → tb (hI h (7 + 5 * s) 4) c ≠ 1 → ∀ q, q < n → ∃ x, x ≠ c ∧ hb (hI h (7 + 5 * s + 2) q) x)
/-- what is known in the end -/
def FN (s n : Nat) (mP ix : Nat → Nat) (h : Hp) : Prop := (hI h (7 + 5 * s) 2 = 0 → ∀ q, q < n → ∀ x, ¬ hb (hI h (7 + 5 * s + 2) q) x)
  ∧ (hI h (7 + 5 * s) 2 ≠ 0 → ∀ q, q < n → ∃ x, hb (hI h (7 + 5 * s + 2) q) x)
  ∧ (∀ q, q < n → ∀ x, hb (hI h (7 + 5 * s + 2) q) x → ∃ r : Int, 0 ≤ r ∧ r < 8 ∧ tb (hI h (7 + 5 * s) 3) r = 1 ∧ hb (hI h (mP (ix q) + 3) r.toNat) x)
  ∧ (hI h (7 + 5 * s) 2 ≠ 0 → ∀ c : Int, 0 ≤ c → c < 24 → tb (hI h (7 + 5 * s) 4) c ≠ 1 → ∀ q, q < n → ∃ x, x ≠ c ∧ hb (hI h (7 + 5 * s + 2) q) x)
theorem hb_0 {v x : Int} (e : v = 0) : ¬ hb v x := fun q => tb_z e (by have := q.1; have := q.2.1; omega) q.2.2
section PAN
variable {s n : Nat} {mP ix : Nat → Nat} {i : Int} {h g : Hp} {r : Int}
theorem FN_0 (e : n = 0) : FN s n mP ix h := by
  subst e
  exact ⟨fun _ q hq => absurd hq (Nat.not_lt_zero q), fun _ q hq => absurd hq (Nat.not_lt_zero q), fun q hq => absurd hq (Nat.not_lt_zero q), fun _ c _ _ _ q hq => absurd hq (Nat.not_lt_zero q)⟩
theorem PN_0 (hn : n ≤ 3) (p : ∀ q, q < 3 → hI h (7 + 5 * s + 2) q = 0) (e2 : hI h (7 + 5 * s) 2 = 0) (e4 : hI h (7 + 5 * s) 4 = -1) : PN s n mP ix 0 h :=
  ⟨by omega, fun _ q hq x => hb_0 (p q (by omega)), fun w => absurd e2 w, fun q hq x w => absurd w (hb_0 (p q (by omega))), fun c c1 c2 c3 => absurd (by rw [e4]; exact tb_m1 (by omega)) c3⟩
theorem PN_F (P : PN s n mP ix 8 h) : FN s n mP ix h := ⟨P.2.1, P.2.2.1, P.2.2.2.1, fun _ => P.2.2.2.2⟩
theorem FN_c {v : Int} (F : FN s n mP ix h) (ge : ∀ q, q < n → 69 ≤ mP (ix q)) (hs : s < 6) (z : hI h (7 + 5 * s) 2 = 0) : FN s n mP ix (sI h (7 + 5 * s) 4 v) := by
  have e2 : hI (sI h (7 + 5 * s) 4 v) (7 + 5 * s) 2 = hI h (7 + 5 * s) 2 := hI_nk (by decide)
  have e3 : hI (sI h (7 + 5 * s) 4 v) (7 + 5 * s) 3 = hI h (7 + 5 * s) 3 := hI_nk (by decide)
  have ep : ∀ q, hI (sI h (7 + 5 * s) 4 v) (7 + 5 * s + 2) q = hI h (7 + 5 * s + 2) q := fun q => hI_ne (by omega)
  obtain ⟨f1, f2, f3, f4⟩ := F
  refine ⟨fun w q hq x => by rw [ep]; exact f1 z q hq x, fun w => absurd (e2.trans z) w, fun q hq x w => absurd (by rw [ep] at w; exact w) (f1 z q hq x), fun w => absurd (e2.trans z) w⟩
/-- nothing in this printing -/
theorem PN_n {fit : Nat → Int} (P : PN s n mP ix i h) (B : Pf s n fit 0 0 36288 h g r) (r0 : r = 0) (ge : ∀ q, q < n → 69 ≤ mP (ix q)) (hs : s < 6) : PN s n mP ix (i + 1) g := by
  obtain ⟨a1, a2, a3, a4, a5, a6, a7, a8⟩ := B
  obtain ⟨b1, b2, b3⟩ := a4 r0
  obtain ⟨p1, p2, p3, p4, p5⟩ := P
  have e3 : hI g (7 + 5 * s) 3 = hI h (7 + 5 * s) 3 := a1.2.2.2.2.2.2 _ _ (by unfold Wsh; omega)
  refine ⟨by omega, fun w q hq x => by rw [b3 q hq]; exact p2 (by omega) q hq x, fun w q hq => by rw [b3 q hq]; exact p3 (by omega) q hq, fun q hq x w => ?_, fun c c1 c2 c3 q hq => by rw [b3 q hq]; rw [b2] at c3; exact p5 c c1 c2 c3 q hq⟩
  rw [b3 q hq] at w
  obtain ⟨r, r1, r2, r3, r4⟩ := p4 q hq x w
  exact ⟨r, r1, by omega, by rw [e3]; exact r3, by rw [a1.2.2.2.2.2.2 _ _ (by have := ge q hq; unfold Wsh; omega)]; exact r4⟩
/-- platings in this printing -/
theorem PN_y {v : Int} (P : PN s n mP ix i h) (hi : 0 ≤ i ∧ i < 8) (B : Pf s n (fun q => hI h (mP (ix q) + 3) i.toNat) 0 0 36288 h g r) (r1 : r = 1) (ge : ∀ q, q < n → 69 ≤ mP (ix q)) (hs : s < 6) (ev : v = o32 fior (hI g (7 + 5 * s) 3) (o32 fshl 1 i)) : PN s n mP ix (i + 1) (sI g (7 + 5 * s) 3 v) := by
  obtain ⟨a1, a2, a3, a4, a5, a6, a7, a8⟩ := B
  obtain ⟨b1, b2⟩ := a5 r1
  obtain ⟨p1, p2, p3, p4, p5⟩ := P
  have e3 : hI g (7 + 5 * s) 3 = hI h (7 + 5 * s) 3 := a1.2.2.2.2.2.2 _ _ (by unfold Wsh; omega)
  have w2 : hI (sI g (7 + 5 * s) 3 v) (7 + 5 * s) 2 = hI g (7 + 5 * s) 2 := hI_nk (by decide)
  have w4 : hI (sI g (7 + 5 * s) 3 v) (7 + 5 * s) 4 = hI g (7 + 5 * s) 4 := hI_nk (by decide)
  have w3 : hI (sI g (7 + 5 * s) 3 v) (7 + 5 * s) 3 = v := hI_eq
  have wp : ∀ q, hI (sI g (7 + 5 * s) 3 v) (7 + 5 * s + 2) q = hI g (7 + 5 * s + 2) q := fun q => hI_ne (by omega)
  refine ⟨by rw [w2]; omega, fun w => by rw [w2] at w; omega, fun w q hq => by rw [wp]; exact b2 q (by omega) hq, fun q hq x w => ?_, fun c c1 c2 c3 q hq => ?_⟩
  · have gq := ge q hq
    have wf : ∀ j, hI (sI g (7 + 5 * s) 3 v) (mP (ix q) + 3) j = hI h (mP (ix q) + 3) j := fun j => by
      rw [hI_ne (by omega)]; exact a1.2.2.2.2.2.2 _ _ (by unfold Wsh; omega)
    rw [wp] at w
    rcases a7 q hq x w with k | k
    · obtain ⟨r, q1, q2, q3, q4⟩ := p4 q hq x k
      exact ⟨r, q1, by omega, by rw [w3, ev, e3]; exact (tb_or (by omega)).mpr (Or.inl q3), by rw [wf]; exact q4⟩
    · exact ⟨i, hi.1, by omega, by rw [w3, ev]; exact (tb_or (by omega)).mpr (Or.inr ((tb_one (by omega) (by omega)).mpr rfl)), by rw [wf]; exact k⟩
  · rw [w4] at c3
    rw [wp]
    rcases a8 c c1 c2 c3 with k | ⟨-, k⟩
    · obtain ⟨x, x1, x2⟩ := p5 c c1 c2 k q hq
      exact ⟨x, x1, a6 q hq x x2⟩
    · exact k q (by omega) hq
end PAN
theorem C69 {d : Nat} {h : Hp} {s n : Nat} {ix : Nat → Nat} {mP mC mI mD mB : Nat → Nat} {nP nC nI nD nB : Nat} (S : Hv h mP mC mI mD mB nP nC nI nD nB) (hs : s < 6) (B : BS s n mP nP ix h) (n3 : n ≤ 3) : PU DA (d + 6) 69 [vR (some (7 + 5 * s))] h (fun g => Hv g mP mC mI mD mB nP nC nI nD nB ∧ SB3 s h g ∧ FN s n mP ix g) := by
  refine PU_of (fun Q hQ => ?_)
  have V := Vis_DA
  obtain ⟨h0, e0⟩ : ∃ h0, h0 = h := ⟨_, rfl⟩
  have A : SB3 s h0 h := e0 ▸ SB3_r
  have B0 : BS s n mP nP ix h0 := e0 ▸ B
  refine x_ent en69 ?_
  refine x_aload_n d69_0 rfl ?_
  refine x_gfR d69_1 cl69 f8_24 (Sh.ob (S.sh s hs)) (V.s (by have := Sh.n (S.sh s hs); omega)) (Sh.r2 (S.sh s hs)) ?_
  refine x_iconst d69_4 ?_
  refine x_SU d69_5 cl69 m8_43 kd181 po181 le181 (C181 (by omega) (Sh.o2 (S.sh s hs)) (by rw [Sh.l2 (S.sh s hs)]; decide)) (fun g q => ?_)
  subst q
  refine x_wr (fun g => Hv g mP mC mI mD mB nP nC nI nD nB ∧ SB3 s h0 g ∧ ∀ q, q < 3 → hI g (7 + 5 * s + 2) q = 0) (by
    have k := fil_ind (P := fun g => Hv g mP mC mI mD mB nP nC nI nD nB ∧ SB3 s h0 g) (h := h) (a := 7 + 5 * s + 2) (v := 0) ⟨S, A⟩ (hL h (7 + 5 * s + 2)) (fun g k _ q => ⟨Hv_sr2 q.1 hs (by decide), SB3_w q.2 (by unfold Wsh3 Wsh; omega)⟩)
    refine ⟨k.1, k.2, fun q hq => ?_⟩
    rw [fil_I, if_pos ⟨rfl, by rw [Sh.l2 (S.sh s hs)]; exact hq⟩]) (fun h q => ?_)
  obtain ⟨S, A, hz⟩ := q
  have B := BS_3 B0 A
  have hb1 := B.1
  refine x_aload_n d69_8 rfl ?_
  refine x_gfI d69_9 cl69 f8_34 (by decide) (Sh.ob (S.sh s hs)) (V.s (by have := Sh.n (S.sh s hs); omega)) ?_
  have g1 := (Sh.size (S.sh s hs))
  refine x_ifne (t := 34) d69_12 rfl (by omega) (fun c12_2 => ?_) (fun c12_2 => ?_)
  · refine x_aload_n d69_34 rfl ?_
    refine x_iconst d69_35 ?_
    refine x_pfI d69_36 cl69 f8_17 (Sh.ob (S.sh s hs)) (V.s (by have := Sh.n (S.sh s hs); omega)) (fun q => by cases q) (x_wr (fun g => Hv g mP mC mI mD mB nP nC nI nD nB ∧ SB3 s h0 g ∧ (∀ q, q < 3 → hI g (7 + 5 * s + 2) q = 0) ∧ hI g (7 + 5 * s) 2 = 0) ⟨Hv_sf2 S hs (by decide), SB3_w A (by unfold Wsh3 Wsh; omega), fun q hq => by rw [hI_ne (by omega)]; exact hz q hq, hI_eq⟩ (fun h q3 => ?_))
    obtain ⟨S, A, hz, hp2⟩ := q3
    refine x_aload_n d69_39 rfl ?_
    refine x_iconst d69_40 ?_
    refine x_pfI d69_41 cl69 f8_21 (Sh.ob (S.sh s hs)) (V.s (by have := Sh.n (S.sh s hs); omega)) (fun q => by cases q) (x_wr (fun g => Hv g mP mC mI mD mB nP nC nI nD nB ∧ SB3 s h0 g ∧ (∀ q, q < 3 → hI g (7 + 5 * s + 2) q = 0) ∧ hI g (7 + 5 * s) 2 = 0) ⟨Hv_sf3 S hs (by decide), SB3_w A (by unfold Wsh3 Wsh; omega), fun q hq => by rw [hI_ne (by omega)]; exact hz q hq, by rw [hI_nk (by decide)]; exact hp2⟩ (fun h q4 => ?_))
    obtain ⟨S, A, hz, hp2⟩ := q4
    refine x_aload_n d69_44 rfl ?_
    refine x_iconst d69_45 ?_
    refine x_pfI d69_46 cl69 f8_49 (Sh.ob (S.sh s hs)) (V.s (by have := Sh.n (S.sh s hs); omega)) (fun q => by cases q) (x_wr (fun g => Hv g mP mC mI mD mB nP nC nI nD nB ∧ SB3 s h0 g ∧ PN s n mP ix 0 g) ⟨Hv_sf4 S hs, SB3_w A (by unfold Wsh3 Wsh; omega), PN_0 n3 (fun q hq => by rw [hI_ne (by omega)]; exact hz q hq) (by rw [hI_nk (by decide)]; exact hp2) hI_eq⟩ (fun h q5 => ?_))
    obtain ⟨S, A, P0⟩ := q5
    refine x_iconst d69_49 ?_
    refine x_nm (fun w50_6 ew50_6 => ?_)
    refine x_istore_n [some (vR _), some (vI _)] d69_50 rfl ?_
    refine (x_ub (N := 8) (P := fun i7 => ∀ h : Hp, (Hv h mP mC mI mD mB nP nC nI nD nB ∧ SB3 s h0 h ∧ PN s n mP ix (i7) h) → wp DA (d + 6) 69 51 [some (vR (some (7 + 5 * s))), some (vI i7)] [] h Q) w50_6 (by omega) (fun i7 hi7 hj7 ih7 h hh7 => ?_)) _ ⟨S, A, by rw [ew50_6]; exact P0⟩
    obtain ⟨S, A, PI⟩ := hh7
    refine x_iload_n d69_51 rfl ?_
    refine x_bipush d69_52 (by decide) ?_
    refine x_icge (t := 85) d69_54 rfl (by omega) (fun c54_8 => ?_) (fun c54_8 => ?_)
    · have FI : FN s n mP ix h := PN_F (by rw [show (8 : Int) = i7 by omega]; exact PI)
      have B := BS_3 B0 A
      refine x_aload_n d69_85 rfl ?_
      refine x_gfI d69_86 cl69 f8_17 (by decide) (Sh.ob (S.sh s hs)) (V.s (by have := Sh.n (S.sh s hs); omega)) ?_
      have g9 := (Sh.platings (S.sh s hs))
      refine x_ifne (t := 97) d69_89 rfl (by omega) (fun c89_10 => ?_) (fun c89_10 => ?_)
      · exact x_ret d69_97 rt69 (hQ _ (by rw [← e0]; exact ⟨S, A, FI⟩))
      · refine x_aload_n d69_92 rfl ?_
        refine x_iconst d69_93 ?_
        refine x_pfI d69_94 cl69 f8_49 (Sh.ob (S.sh s hs)) (V.s (by have := Sh.n (S.sh s hs); omega)) (fun q => by cases q) (x_wr (fun g => Hv g mP mC mI mD mB nP nC nI nD nB ∧ SB3 s h0 g ∧ FN s n mP ix g) ⟨Hv_sf4 S hs, SB3_w A (by unfold Wsh3 Wsh; omega), FN_c FI (fun q hq => (Ls.mem S.lp _ (B.2 q hq).1).g) hs (by omega)⟩ (fun h q11 => ?_))
        obtain ⟨S, A, FI⟩ := q11
        exact x_ret d69_97 rt69 (hQ _ (by rw [← e0]; exact ⟨S, A, FI⟩))
    · have B := BS_3 B0 A
      refine x_aload_n d69_57 rfl ?_
      refine x_iconst d69_58 ?_
      refine x_iload_n d69_59 rfl ?_
      refine x_iconst d69_60 ?_
      refine x_VW d69_61 cl69 m8_52 kd70 tg70 po70 le70 (by omega) (Sh.ob (S.sh s hs)) (C70 (d := d) (n := n) (ix := ix) S hs (BS_F B i7) (by have := B.1; omega) (by omega) (by have := PI.1; omega)) (fun w9 h q => ?_)
      obtain ⟨r1, rfl, S, PB⟩ := q
      have hr1 := PB.2.1
      have A := SB3_b A PB.1
      refine x_ifeq (t := 79) d69_64 rfl (by omega) (fun c64_12 => ?_) (fun c64_12 => ?_)
      · have PN1 := PN_n PI PB (by omega) (fun q hq => (Ls.mem S.lp _ (B.2 q hq).1).g) hs
        refine x_iinc [some (vR _), some (vI _)] d69_79 rfl rfl ?_
        refine x_goto (t := 51) d69_82 rfl ?_
        exact ih7 (by omega) _ ⟨S, A, PN1⟩
      · have hpr := (S.sh s hs).printings
        refine x_aload_n d69_67 rfl ?_
        refine x_dupR d69_68 ?_
        refine x_gfI d69_69 cl69 f8_21 (by decide) (Sh.ob (S.sh s hs)) (V.s (by have := Sh.n (S.sh s hs); omega)) ?_
        have g13 := (Sh.printings (S.sh s hs))
        refine x_iconst d69_72 ?_
        refine x_iload_n d69_73 rfl ?_
        refine x_ishlq d69_74 (fun q14 => ?_)
        refine x_iorq d69_75 (fun q15 => ?_)
        refine x_pfI d69_76 cl69 f8_21 (Sh.ob (S.sh s hs)) (V.s (by have := Sh.n (S.sh s hs); omega)) (fun q => by cases q) (x_wr (fun g => Hv g mP mC mI mD mB nP nC nI nD nB ∧ SB3 s h0 g ∧ PN s n mP ix (i7 + 1) g) ⟨Hv_sf3 S hs (or_255 (by omega) (by omega)), SB3_w A (by unfold Wsh3 Wsh; omega), PN_y PI (by omega) PB (by omega) (fun q hq => (Ls.mem S.lp _ (B.2 q hq).1).g) hs rfl⟩ (fun h q16 => ?_))
        obtain ⟨S, A, PN1⟩ := q16
        refine x_iinc [some (vR _), some (vI _)] d69_79 rfl rfl ?_
        refine x_goto (t := 51) d69_82 rfl ?_
        exact ih7 (by omega) _ ⟨S, A, PN1⟩
  · refine x_aload_n d69_15 rfl ?_
    refine x_bipush d69_16 (by decide) ?_
    refine x_pfI d69_18 cl69 f8_17 (Sh.ob (S.sh s hs)) (V.s (by have := Sh.n (S.sh s hs); omega)) (fun q => by cases q) (x_wr (fun g => Hv g mP mC mI mD mB nP nC nI nD nB ∧ SB3 s h0 g) ⟨Hv_sf2 S hs (by decide), SB3_w A (by unfold Wsh3 Wsh; omega)⟩ (fun h q17 => ?_))
    obtain ⟨S, A⟩ := q17
    refine x_aload_n d69_21 rfl ?_
    refine x_sipush d69_22 (by decide) ?_
    refine x_pfI d69_25 cl69 f8_21 (Sh.ob (S.sh s hs)) (V.s (by have := Sh.n (S.sh s hs); omega)) (fun q => by cases q) (x_wr (fun g => Hv g mP mC mI mD mB nP nC nI nD nB ∧ SB3 s h0 g) ⟨Hv_sf3 S hs (by decide), SB3_w A (by unfold Wsh3 Wsh; omega)⟩ (fun h q18 => ?_))
    obtain ⟨S, A⟩ := q18
    refine x_aload_n d69_28 rfl ?_
    refine x_iconst d69_29 ?_
    refine x_pfI d69_30 cl69 f8_49 (Sh.ob (S.sh s hs)) (V.s (by have := Sh.n (S.sh s hs); omega)) (fun q => by cases q) (x_wr (fun g => Hv g mP mC mI mD mB nP nC nI nD nB ∧ SB3 s h0 g) ⟨Hv_sf4 S hs, SB3_w A (by unfold Wsh3 Wsh; omega)⟩ (fun h q19 => ?_))
    obtain ⟨S, A⟩ := q19
    exact x_ret d69_33 rt69 (hQ _ (by rw [← e0]; exact ⟨S, A, FN_0 (by omega)⟩))
