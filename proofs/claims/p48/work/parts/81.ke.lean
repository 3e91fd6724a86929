theorem C72 {d : Nat} {h : Hp} {s : Nat} {z : Int} {mP mC mI mD mB : Nat → Nat} {nP nC nI nD nB : Nat} (S : Hv h mP mC mI mD mB (nP + 1) nC nI nD nB) (X : Xs s h mP mI mB nP nI nB) (hs : s < 6) (es : hI h (mP nP) 3 = s) (fr : ∀ k, k < nP → mP k ≠ mP nP) (ez : hI h (7 + 5 * s) 1 = z) (z3 : 0 ≤ z ∧ z < 3) : PU DA (d + 0) 72 [vR (some (7 + 5 * s)), vR (some (mP nP))] h (fun g => Hv g mP mC mI mD mB (nP + 1) nC nI nD nB ∧ Xs s g mP mI mB (nP + 1) nI nB ∧ hI g (mP nP) 3 = s ∧ hC g = hC h ∧ hS g = hS h) := by
  refine PU_of (fun Q hQ => ?_)
  have V := Vis_DA
  obtain ⟨h0, e0⟩ : ∃ h0, h0 = h := ⟨_, rfl⟩
  have S0 : Hv h0 mP mC mI mD mB (nP + 1) nC nI nD nB := e0 ▸ S
  have X0 : Xs s h0 mP mI mB nP nI nB := e0 ▸ X
  have es0 : hI h0 (mP nP) 3 = s := e0 ▸ es
  have ez0 : hI h0 (7 + 5 * s) 1 = z := e0 ▸ ez
  have P : Pc h (mP nP) := Ls.mem S.lp nP (by omega)
  have pg9 := P.g
  refine x_ent en72 ?_
  refine x_aload_n d72_0 rfl ?_
  refine x_aload_n d72_1 rfl ?_
  refine x_gfI d72_2 cl72 f8_34 (by decide) (Sh.ob (S.sh s hs)) (V.s (by have := Sh.n (S.sh s hs); omega)) ?_
  have g1 := (Sh.size (S.sh s hs))
  refine x_pfI d72_5 cl72 f8_40 (Pc.ob P) (V.g (Pc.g P)) (fun q => by cases q) (x_wr (fun g => Hv g mP mC mI mD mB (nP + 1) nC nI nD nB ∧ g = sI h0 (mP nP) 5 z) ⟨Hv_pf5 S P (by omega), by rw [ez, e0]⟩ (fun h q2 => ?_))
  obtain ⟨S, GG⟩ := q2
  have P : Pc h (mP nP) := Ls.mem S.lp nP (by omega)
  have hz1 : hI h (7 + 5 * s) 1 = z := by rw [GG]; rw [hI_ne (by omega)]; exact ez0
  refine x_aload_n d72_8 rfl ?_
  refine x_gfR d72_9 cl72 f8_11 (Sh.ob (S.sh s hs)) (V.s (by have := Sh.n (S.sh s hs); omega)) (Sh.r1 (S.sh s hs)) ?_
  refine x_aload_n d72_12 rfl ?_
  refine x_gfI d72_13 cl72 f8_34 (by decide) (Sh.ob (S.sh s hs)) (V.s (by have := Sh.n (S.sh s hs); omega)) ?_
  have g3 := (Sh.size (S.sh s hs))
  refine x_aload_n d72_16 rfl ?_
  refine x_aastS d72_17 (by omega) (Sh.o1 (S.sh s hs)).1 ⟨by omega, by rw [(Sh.l1 (S.sh s hs))]; omega⟩ (V.s (by omega)) (by have := P.n; omega) (Or.inr (Or.inr ⟨(Sh.t1 (S.sh s hs)), P.t⟩)) (x_wr (fun g => Hv g mP mC mI mD mB (nP + 1) nC nI nD nB ∧ g = sR (sI h0 (mP nP) 5 z) (7 + 5 * s + 1) z.toNat (some (mP nP))) ⟨Hv_sR S hs, by rw [hz1, GG]⟩ (fun h q4 => ?_))
  obtain ⟨S, GG⟩ := q4
  have P : Pc h (mP nP) := Ls.mem S.lp nP (by omega)
  have hz1 : hI h (7 + 5 * s) 1 = z := by rw [GG]; show hI (sI h0 (mP nP) 5 z) (7 + 5 * s) 1 = z; rw [hI_ne (by omega)]; exact ez0
  refine x_aload_n d72_18 rfl ?_
  refine x_dupR d72_19 ?_
  refine x_gfI d72_20 cl72 f8_34 (by decide) (Sh.ob (S.sh s hs)) (V.s (by have := Sh.n (S.sh s hs); omega)) ?_
  have g5 := (Sh.size (S.sh s hs))
  refine x_iconst d72_23 ?_
  refine x_iadd d72_24 ?_
  refine x_pfI d72_25 cl72 f8_34 (Sh.ob (S.sh s hs)) (V.s (by have := Sh.n (S.sh s hs); omega)) (fun q => by cases q) (x_wr (fun g => Hv g mP mC mI mD mB (nP + 1) nC nI nD nB ∧ g = sI (sR (sI h0 (mP nP) 5 z) (7 + 5 * s + 1) z.toNat (some (mP nP))) (7 + 5 * s) 1 (z + 1)) ⟨Hv_sf1 S hs (by omega), by rw [hz1, GG]⟩ (fun h q6 => ?_))
  obtain ⟨S, GG⟩ := q6
  exact x_ret d72_28 rt72 (hQ _ (by rw [← e0]; exact ⟨S, Xs_add S0 X0 hs es0 fr ez0 z3 GG, by rw [GG, hI_ne (by omega)]; show hI (sI h0 (mP nP) 5 z) (mP nP) 3 = s; rw [hI_nk (by decide)]; exact es0, by rw [GG]; rfl, by rw [GG]; rfl⟩))
theorem Xs_m {s : Nat} {h : Hp} {m m1 mI mB : Nat → Nat} {nP nI nB : Nat} (e : ∀ k, k < nP → m1 k = m k) (X : Xs s h m mI mB nP nI nB) : Xs s h m1 mI mB nP nI nB := by
  obtain ⟨x1, x2, x3, x4, x5, x6⟩ := X
  refine ⟨x1, ⟨fun k hk => by rw [e k hk]; exact x2.1 k hk, fun s' hs' q hq => ?_, x2.2.2⟩, fun k hk => by rw [e k hk]; exact x3 k hk, x4, x5, x6⟩
  obtain ⟨k, k1, k2, k3, k4⟩ := x2.2.1 s' hs' q hq
  exact ⟨k, k1, by rw [e k k1]; exact k2, by rw [e k k1]; exact k3, by rw [e k k1]; exact k4⟩
theorem add_pc {h g : Hp} {p s : Nat} {mP mC mI mD mB : Nat → Nat} {nP nC nI nD nB : Nat} (K : IV h mP mC mI mD mB nP nC nI nD nB) (G : Gr h g 5 nP p) (P : Pc h p) (top : nP < 12) (hs : s < 6) (es : hI h p 3 = s) (fr : ∀ k, k < nP → mP k ≠ p) : ∃ m1, m1 nP = p ∧ Hv g m1 mC mI mD mB (nP + 1) nC nI nD nB ∧ Xs s g m1 mI mB nP nI nB ∧ hI g p 3 = s ∧ hI g (7 + 5 * s) 1 = hI h (7 + 5 * s) 1 ∧ (∀ k, k < nP → m1 k ≠ m1 nP) := by
  obtain ⟨S', X'⟩ := IV_addP K G P top
  obtain ⟨M, -⟩ := Gr_pk K.1.F (Hv_RW K.1) K.2.1.2.2.2 (by unfold isLs; decide) G
  have T := K.1.sh s hs
  have e9 : ∀ k, k < nP → (fun j => if j = nP then p else mP j) k = mP k := fun k hk => by
    show (if k = nP then p else mP k) = mP k
    rw [if_neg (by omega)]
  have en : (fun j => if j = nP then p else mP j) nP = p := if_pos rfl
  refine ⟨_, en, S', Xs_m e9 (Xs_EX X'), ?_, ?_, fun k hk => ?_⟩
  · rw [M.i (by have := P.n; omega) P.t (by decide)]; exact es
  · exact M.i (by have := T.n; have := T.f; omega) T.t (by decide) 1
  · show (if k = nP then p else mP k) ≠ (if nP = nP then p else mP nP)
    rw [if_pos rfl, if_neg (by omega)]; exact fr k hk
theorem C99 {d : Nat} {h : Hp} {p s : Nat} {z : Int} {mP mC mI mD mB : Nat → Nat} {nP nC nI nD nB : Nat} (K : IV h mP mC mI mD mB nP nC nI nD nB) (P : Pc h p) (top : nP < 12) (hs : s < 6) (es : hI h p 3 = s) (fr : ∀ k, k < nP → mP k ≠ p) (ez : hI h (7 + 5 * s) 1 = z) (z3 : 0 ≤ z ∧ z < 3) : PU DA (d + 7) 99 [vR (some 2), vR (some p)] h (fun g => ∃ m1, m1 nP = p ∧ IV g m1 mC mI mD mB (nP + 1) nC nI nD nB ∧ hC g ≤ hC h + 1 ∧ hS g ≤ hS h + 70) := by
  refine PU_of (fun Q hQ => ?_)
  have V := Vis_DA
  obtain ⟨S, X⟩ := K
  obtain ⟨c0, s0, hcc, hss⟩ : ∃ c0 s0, hC h = c0 ∧ hS h = s0 := ⟨_, _, rfl, rfl⟩
  refine x_ent en99 ?_
  refine x_aload_n d99_0 rfl ?_
  refine x_gfR d99_1 cl99 f11_19 (S.F.o rfl (by decide)) rfl (S.F.r rfl) ?_
  refine x_aload_n d99_4 rfl ?_
  refine x_VW d99_5 cl99 m11_294 kd169 tg169 po169 le169 (by decide) (S.F.o rfl (by decide)) (C169 S.F (Hv_RW S) X.1.2.2.2 (by unfold isLs; decide) S.lp (by omega) (fun p T => by rw [T.t]; decide) ⟨by have := P.n; omega, by rw [P.t]; decide⟩) (fun w9 g q => ?_)
  obtain ⟨v9, rfl, G, hc8, hs8⟩ := q
  refine x_wr (fun g => ∃ m1, (m1 nP = p ∧ Hv g m1 mC mI mD mB (nP + 1) nC nI nD nB ∧ Xs s g m1 mI mB nP nI nB ∧ hI g p 3 = s ∧ hI g (7 + 5 * s) 1 = hI h (7 + 5 * s) 1 ∧ (∀ k, k < nP → m1 k ≠ m1 nP)) ∧ hC g ≤ hC h + 1 ∧ hS g ≤ hS h + 70) (by
    obtain ⟨m1, k⟩ := add_pc ⟨S, X⟩ G P top hs es fr
    exact ⟨m1, k, hc8, hs8⟩) (fun h q => ?_)
  obtain ⟨mP, ⟨ep, S, X, es, esz, fr⟩, hc8, hs8⟩ := q
  have P : Pc h p := by have := Ls.mem S.lp nP (by omega); rw [ep] at this; exact this
  refine x_pop d99_8 rfl ?_
  refine x_aload_n d99_9 rfl ?_
  refine x_aload_n d99_10 rfl ?_
  refine x_gfR d99_11 cl99 f11_10 (S.F.o rfl (by decide)) rfl (S.F.r rfl) ?_
  refine x_VU d99_14 cl99 m11_138 kd18 tg18 po18 le18 (by have := P.g; omega) P.ob (C18 S P) (fun h q => ?_)
  obtain ⟨S9, A9, P⟩ := q
  have X := Xs_SF (fun k hk => Ls.mem S.lp k (by omega)) (fun k hk => Ls.mem S.li k hk) (fun k hk => Ls.mem S.lb k hk) (by have := Ls.mem S.lp nP (by omega); rw [ep] at this; exact this) es X A9
  have S := S9
  have a7 := A9.2.2.2.2.2.2
  have pg := P.g
  have es : hI h p 3 = s := by rw [a7 _ _ (by omega)]; exact es
  have esz : hI h (7 + 5 * s) 1 = z := by rw [a7 _ _ (by omega)]; omega
  have hcg : hC h ≤ c0 + 1 := by rw [A9.2.1]; omega
  have hsg : hS h ≤ s0 + 70 := by rw [A9.2.2.1]; omega
  refine x_aload_n d99_17 rfl ?_
  refine x_gfR d99_18 cl99 f11_25 (S.F.o rfl (by decide)) rfl (S.F.r rfl) ?_
  refine x_aload_n d99_21 rfl ?_
  refine x_gfI d99_22 cl99 f11_186 (by decide) (Pc.ob P) (V.g (Pc.g P)) ?_
  have g1 := (Pc.sheet P)
  refine x_aaload d99_25 (Nat.lt_of_lt_of_le (by decide) S.F.1) (by rw [(S.F.o (a := 6) (t := 104) rfl (by decide)).2]; decide) ⟨by omega, by rw [(S.F.l (a := 6) (n := 6) (by decide) rfl)]; omega⟩ rfl (show hR h 6 (hI h p 3).toNat = some (7 + 5 * s) by have := Fx.sh S.F (s : Int) (by omega); rw [Int.toNat_natCast] at this; rw [show (hI h p 3).toNat = s by omega]; exact this) ?_
  refine x_aload_n d99_26 rfl ?_
  refine x_VU d99_27 cl99 m11_535 kd72 tg72 po72 le72 (by omega) (Sh.ob (S.sh s hs)) (by rw [← ep]; exact C72 (d := d + 6) S X hs (by rw [ep]; exact es) fr esz z3) (fun h q => ?_)
  obtain ⟨S, X, es, hc9, hs9⟩ := q
  have P : Pc h p := by have := Ls.mem S.lp nP (by omega); rw [ep] at this; exact this
  rw [ep] at es
  refine x_aload_n d99_30 rfl ?_
  refine x_gfR d99_31 cl99 f11_25 (S.F.o rfl (by decide)) rfl (S.F.r rfl) ?_
  refine x_aload_n d99_34 rfl ?_
  refine x_gfI d99_35 cl99 f11_186 (by decide) (Pc.ob P) (V.g (Pc.g P)) ?_
  have g2 := (Pc.sheet P)
  refine x_aaload d99_38 (Nat.lt_of_lt_of_le (by decide) S.F.1) (by rw [(S.F.o (a := 6) (t := 104) rfl (by decide)).2]; decide) ⟨by omega, by rw [(S.F.l (a := 6) (n := 6) (by decide) rfl)]; omega⟩ rfl (show hR h 6 (hI h p 3).toNat = some (7 + 5 * s) by have := Fx.sh S.F (s : Int) (by omega); rw [Int.toNat_natCast] at this; rw [show (hI h p 3).toNat = s by omega]; exact this) ?_
  refine x_VU d99_39 cl99 m11_142 kd69 tg69 po69 le69 (by omega) (Sh.ob (S.sh s hs)) (C69i S hs X) (fun h q => ?_)
  obtain ⟨K9, hc10, hs10⟩ := q
  exact x_ret d99_42 rt99 (hQ _ ⟨mP, ep, K9, by omega, by omega⟩)
