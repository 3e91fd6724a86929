/-! ===== A PIECE IS KEPT ===== -/
theorem hR_sR2 {h : Hp} {a k b j : Nat} {r : Option Nat} (q : b ≠ a) : hR (sR h a k r) b j = hR h b j := by
  show u2 (hR h) a k r b j = _
  unfold u2; rw [if_neg (fun e => q e.1)]
theorem Pc_sR {h : Hp} {a k p : Nat} {r : Option Nat} (S : Pc h p) (q : a < 69) : Pc (sR h a k r) p := Pc.mk (h := sR h a k r) (p := p) S.g S.n S.t S.t1 S.l1 (by rw [hR_sR2 (by have := S.g; omega)]; exact S.r1) S.t2 S.l2 (by rw [hR_sR2 (by have := S.g; omega)]; exact S.r2) S.t3 S.l3 (by rw [hR_sR2 (by have := S.g; omega)]; exact S.r3) S.t4 S.l4 (by rw [hR_sR2 (by have := S.g; omega)]; exact S.r4) S.t5 S.l5 (by rw [hR_sR2 (by have := S.g; omega)]; exact S.r5) S.t6 S.l6 (by rw [hR_sR2 (by have := S.g; omega)]; exact S.r6) S.number S.wide S.high S.sheet S.isTop S.place S.plateWide S.isTruthTold S.hasShade S.light S.seen S.isClear S.fits S.gauges S.marks S.shade
theorem Cv_sR {h : Hp} {a k p : Nat} {r : Option Nat} (S : Cv h p) (q : a < 69) : Cv (sR h a k r) p := Cv.mk (h := sR h a k r) (p := p) S.g S.n S.t S.t1 S.l1 (by rw [hR_sR2 (by have := S.g; omega)]; exact S.r1) S.from S.to S.weight S.die S.day S.arrived S.isTaxed S.stamps
theorem Tm_sR {h : Hp} {a k p : Nat} {r : Option Nat} (S : Tm h p) (q : a < 69) : Tm (sR h a k r) p := Tm.mk (h := sR h a k r) (p := p) S.g S.n S.t S.what S.frm S.to
theorem Bi_sR {h : Hp} {a k p : Nat} {r : Option Nat} (S : Bi h p) (q : a < 69) : Bi (sR h a k r) p := Bi.mk (h := sR h a k r) (p := p) S.g S.n S.t S.bidder S.items S.amount
theorem Sh_sR {h : Hp} {a k p : Nat} {r : Option Nat} (S : Sh h p) (q : a ≠ p) : Sh (sR h a k r) p := Sh.mk (h := sR h a k r) (p := p) S.g S.n S.t S.f S.t1 S.l1 (by rw [hR_sR2 (Ne.symm q)]; exact S.r1) S.t2 S.l2 (by rw [hR_sR2 (Ne.symm q)]; exact S.r2) S.t3 S.l3 (by rw [hR_sR2 (Ne.symm q)]; exact S.r3) S.t4 S.l4 (by rw [hR_sR2 (Ne.symm q)]; exact S.r4) S.size S.platings S.printings S.places
theorem Ls_sR {K : Hp → Nat → Prop} {h : Hp} {a k l n : Nat} {r : Option Nat} {m : Nat → Nat} (L : Ls K h l m n) (q : a < 69 ∧ a ≠ 0 ∧ a ≠ l) (hK : ∀ p, K h p → K (sR h a k r) p) : Ls K (sR h a k r) l m n := by
  obtain ⟨q1, e, q2, q3, q4, q5, q6, q7, q8⟩ := L
  refine ⟨q1, e, by rw [hR_sR2 (Ne.symm q.2.2)]; exact q2, q3, q4, q5, q6, fun j hj => ⟨by rw [hR_sR2 (by omega)]; exact (q7 j hj).1, hK _ (q7 j hj).2⟩, fun j hj => by rw [hR_sR2 (by omega)]; exact q8 j hj⟩
theorem fxR_m : ∀ t ∈ fxR, ∀ s, s < 6 → t.1 ≠ 7 + 5 * s + 1 := by decide +kernel
theorem Hv_sR {h : Hp} {k s : Nat} {r : Option Nat} {mP mC mI mD mB : Nat → Nat} {nP nC nI nD nB : Nat} (S : Hv h mP mC mI mD mB nP nC nI nD nB) (hs : s < 6) : Hv (sR h (7 + 5 * s + 1) k r) mP mC mI mD mB nP nC nI nD nB :=
  Hv_new S ⟨S.F.1, S.F.2.1, fun a j b q => by rw [hR_sR2 (fxR_m _ (lkp_mem q) s hs)]; exact S.F.2.2 a j b q⟩ (fun _ _ _ => rfl) (fun s' hs' => Sh_sR (S.sh s' hs') (by omega)) (Ls_sR S.lp (by omega) (fun p q => Pc_sR q (by omega))) S.np (Ls_sR S.lc (by omega) (fun p q => Cv_sR q (by omega))) S.nc (Ls_sR S.li (by omega) (fun p q => Tm_sR q (by omega))) S.ni (Ls_sR S.ld (by omega) (fun p q => Tm_sR q (by omega))) S.nd (Ls_sR S.lb (by omega) (fun p q => Bi_sR q (by omega))) S.nb (Nat.le_refl _) (Nat.le_refl _)
theorem Xs_SF {h g : Hp} {s p : Nat} {mP mI mB : Nat → Nat} {nP nI nB : Nat} (hP : ∀ k, k < nP → Pc h (mP k)) (hT : ∀ k, k < nI → Tm h (mI k)) (hB : ∀ k, k < nB → Bi h (mB k)) (R : Pc h p) (es : hI h p 3 = s) (X : Xs s h mP mI mB nP nI nB) (A : SF p h g) : Xs s g mP mI mB nP nI nB := by
  obtain ⟨x1, x2, x3, x4, x5, x6⟩ := X
  obtain ⟨a1, a2, a3, a4, a5, a6, a7⟩ := A
  have rg := R.g
  have hf : ∀ a j, a < 69 → hI g a j = hI h a j := fun a j q => a7 a j (by omega)
  have hp : ∀ k, k < nP → ∀ j, j ≠ 9 → hI g (mP k) j = hI h (mP k) j := fun k hk j hj => by
    refine a7 _ _ (fun q => ?_)
    rcases q with q | q
    · exact hj q.2
    · by_cases c : mP k = p
      · omega
      · exact Pc_ne (m := 0) R (hP k hk) c (by decide) (by decide) q
  refine ⟨fun k hk => ?_, ?_, fun k hk q => ?_, ?_, ?_, ?_⟩
  · rw [a7 _ _ (fun q => ?_)]
    · exact x1 k hk
    · rcases q with q | q
      · exact TmPc_ne (m := 0) (k := 0) R (hT k hk) (by decide) (by decide) q.1
      · exact TmPc_ne (m := 0) (k := 3) R (hT k hk) (by decide) (by decide) q
  · exact Mb_eq (h := h) (fun s' _ q => by rw [a6]) (fun s' hs' => hf _ _ (by omega)) (fun k hk => ⟨hp k hk 3 (by decide), hp k hk 5 (by decide)⟩) (fun k hk => by have := (hP k hk).sheet; omega) x2
  · rw [hp k hk 3 (by decide)] at q
    have sr := (hP k hk).sheet
    have c : mP k ≠ p := fun c => q (by rw [c]; exact es)
    exact SiK_eq (s := (hI h (mP k) 3).toNat) (by omega) (fun j => ⟨hf _ _ (by omega), hf _ _ (by omega)⟩) ⟨hp k hk 3 (by decide), hp k hk 5 (by decide), fun j => a7 _ _ (fun w => by
      rcases w with w | w
      · exact Pc_ne (m := 3) (k := 0) R (hP k hk) c (by decide) (by decide) w.1
      · exact c (by omega))⟩ (x3 k hk q)
  · obtain ⟨d0, d1, d2⟩ := x4
    exact ⟨B1_t (by rw [a5]) (by rw [a4]) (by rw [a5]) d0, fun l e q w => by rw [a6] at w; rw [a5]; exact d1 l e q w, fun l l' e q q' nn w w' => by rw [a6] at w w'; exact d2 l l' e q q' nn w w'⟩
  · exact CI_eq (h := h) (fun _ _ _ => by rw [a6]) (fun j => hf _ _ (by decide)) (fun j => hf _ _ (by decide)) (fun j => ⟨hf _ _ (by decide), hf _ _ (by decide), hf _ _ (by decide)⟩) (fun k hk j => a7 _ _ (fun q => by
      rcases q with q | q
      · exact BiPc_ne (m := 0) (k := 0) R (hB k hk) (by decide) (by decide) q.1
      · exact BiPc_ne (m := 0) (k := 3) R (hB k hk) (by decide) (by decide) q)) x5
  · unfold TC at x6 ⊢
    rw [hf _ _ (by decide), tcS_eq (fun j => hf _ _ (by decide))]; exact x6
theorem Xs_add {h g : Hp} {s : Nat} {z : Int} {mP mC mI mD mB : Nat → Nat} {nP nC nI nD nB : Nat} (S : Hv h mP mC mI mD mB (nP + 1) nC nI nD nB) (X : Xs s h mP mI mB nP nI nB) (hs : s < 6) (es : hI h (mP nP) 3 = s) (fr : ∀ k, k < nP → mP k ≠ mP nP) (ez : hI h (7 + 5 * s) 1 = z) (z3 : 0 ≤ z ∧ z < 3) (G : g = sI (sR (sI h (mP nP) 5 z) (7 + 5 * s + 1) z.toNat (some (mP nP))) (7 + 5 * s) 1 (z + 1)) : Xs s g mP mI mB (nP + 1) nI nB := by
  obtain ⟨x1, x2, x3, x4, x5, x6⟩ := X
  have hPc : ∀ k, k < nP + 1 → Pc h (mP k) := fun k hk => Ls.mem S.lp k hk
  have pg := (hPc nP (by omega)).g
  have gI : ∀ a j, hI g a j = if a = 7 + 5 * s ∧ j = 1 then z + 1 else if a = mP nP ∧ j = 5 then z else hI h a j := fun a j => by rw [G]; rfl
  have gR : ∀ a j, hR g a j = if a = 7 + 5 * s + 1 ∧ j = z.toNat then some (mP nP) else hR h a j := fun a j => by rw [G]; rfl
  have gL : hL g = hL h := by rw [G]; rfl
  have e5 : hI g (mP nP) 5 = z := by rw [gI, if_neg (by omega), if_pos ⟨rfl, rfl⟩]
  have e3 : ∀ k, k < nP + 1 → hI g (mP k) 3 = hI h (mP k) 3 := fun k hk => by rw [gI, if_neg (by omega), if_neg (by omega)]
  have e5k : ∀ k, k < nP → hI g (mP k) 5 = hI h (mP k) 5 := fun k hk => by
    rw [gI, if_neg (by have := (hPc k (by omega)).g; omega), if_neg (fun q => fr k hk q.1)]
  have es1 : hI g (7 + 5 * s) 1 = z + 1 := by rw [gI, if_pos ⟨rfl, rfl⟩]
  have esn : ∀ s', s' < 6 → s' ≠ s → hI g (7 + 5 * s') 1 = hI h (7 + 5 * s') 1 := fun s' h1 h2 => by rw [gI, if_neg (by omega), if_neg (by omega)]
  have low : ∀ a j, a < 69 → a ≠ 7 + 5 * s → hI g a j = hI h a j := fun a j h1 h2 => by rw [gI, if_neg (by omega), if_neg (by omega)]
  have lowj : ∀ a j, a < 69 → j ≠ 1 → hI g a j = hI h a j := fun a j h1 h2 => by rw [gI, if_neg (by omega), if_neg (by omega)]
  have esx : hI h (mP nP) 3 = (s : Int) := es
  refine ⟨fun k hk => ?_, ⟨fun k hk => ?_, fun s' hs' q hq => ?_, ?_⟩, fun k hk q => ?_, ?_, ?_, ?_⟩
  · have T := Ls.mem S.li k hk
    rw [gI, if_neg (by have := T.g; omega), if_neg (by omega)]; exact x1 k hk
  · rw [e3 k hk]
    by_cases c : k = nP
    · subst c
      rw [e5, esx, Int.toNat_natCast, es1]
      exact ⟨by omega, by rw [gR, if_pos ⟨rfl, rfl⟩]⟩
    · have hk' : k < nP := by omega
      obtain ⟨m1, m2⟩ := x2.1 k hk'
      have sr := (hPc k hk).sheet
      have pr := (hPc k hk).place
      rw [e5k k hk']
      by_cases c2 : (hI h (mP k) 3).toNat = s
      · rw [c2] at m1 m2 ⊢
        rw [es1]
        exact ⟨by omega, by rw [gR, if_neg (by omega)]; exact m2⟩
      · rw [esn _ (by omega) c2]
        exact ⟨m1, by rw [gR, if_neg (by omega)]; exact m2⟩
  · by_cases c : s' = s
    · subst c
      rw [es1] at hq
      by_cases c2 : (q : Int) = z
      · exact ⟨nP, by omega, by rw [gR, if_pos ⟨rfl, by omega⟩], by rw [e3 nP (by omega)]; exact esx, by rw [e5]; exact c2.symm⟩
      · obtain ⟨k, k1, k2, k3, k4⟩ := x2.2.1 s' hs' q (by omega)
        exact ⟨k, by omega, by rw [gR, if_neg (by omega)]; exact k2, by rw [e3 k (by omega)]; exact k3, by rw [e5k k k1]; exact k4⟩
    · rw [esn s' hs' c] at hq
      obtain ⟨k, k1, k2, k3, k4⟩ := x2.2.1 s' hs' q hq
      exact ⟨k, by omega, by rw [gR, if_neg (by omega)]; exact k2, by rw [e3 k (by omega)]; exact k3, by rw [e5k k k1]; exact k4⟩
  · have o := x2.2.2
    simp only [szH] at o ⊢
    rcases (show s = 0 ∨ s = 1 ∨ s = 2 ∨ s = 3 ∨ s = 4 ∨ s = 5 by omega) with w | w | w | w | w | w
    all_goals
      have k0 := fun q => esn 0 (by decide) q
      have k1 := fun q => esn 1 (by decide) q
      have k2 := fun q => esn 2 (by decide) q
      have k3 := fun q => esn 3 (by decide) q
      have k4 := fun q => esn 4 (by decide) q
      have k5 := fun q => esn 5 (by decide) q
      subst w
      omega
  · have c : k ≠ nP := fun c => by rw [e3 k hk, c] at q; exact q esx
    have hk' : k < nP := by omega
    rw [e3 k hk] at q
    have sr := (hPc k hk).sheet
    have kg := (hPc k hk).g
    exact SiK_eq (s := (hI h (mP k) 3).toNat) (by omega) (fun j => ⟨low _ _ (by omega) (by omega), low _ _ (by omega) (by omega)⟩) ⟨e3 k hk, e5k k hk', fun j => by
      rw [gI, if_neg (by omega), if_neg (fun w => Pc_ne (m := 3) (k := 0) (hPc nP (by omega)) (hPc k hk) (fr k hk') (by decide) (by decide) w.1)]⟩ (x3 k hk' q)
  · obtain ⟨d0, d1, d2⟩ := x4
    have rr : ∀ l, (l = 5 ∨ l = 44 ∨ l = 45 ∨ l = 46 ∨ l = 59) → hR g l 1 = hR h l 1 := fun l q => by rw [gR, if_neg (by omega)]
    exact ⟨B1_t (by rw [gL]) (by rw [G]; rfl) (by rw [gL]) d0, fun l e q w => by rw [rr l q] at w; rw [gL]; exact d1 l e q w, fun l l' e q q' nn w w' => by rw [rr l q] at w; rw [rr l' q'] at w'; exact d2 l l' e q q' nn w w'⟩
  · exact CI_eq (h := h) (fun a j q => by rw [gR, if_neg (fun w => by rw [w.1, DV_lt (by omega)] at q; cases q)]) (fun j => low _ _ (by decide) (by omega)) (fun j => low _ _ (by decide) (by omega)) (fun j => ⟨low _ _ (by decide) (by omega), low _ _ (by decide) (by omega), low _ _ (by decide) (by omega)⟩) (fun k hk j => by
      have T := Ls.mem S.lb k hk
      rw [gI, if_neg (by have := T.g; omega), if_neg (fun w => BiPc_ne (m := 0) (k := 0) (hPc nP (by omega)) T (by decide) (by decide) w.1)]) x5
  · unfold TC at x6 ⊢
    rw [low _ _ (by decide) (by omega), tcS_eq (fun j => low _ _ (by decide) (by omega))]; exact x6
