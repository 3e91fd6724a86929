/-! ===== THE SEARCH FOR PLATINGS ===== -/
def Kq (s : Nat) (h g : Hp) : Prop := hI g (7 + 5 * s) 2 = hI h (7 + 5 * s) 2 ∧ hI g (7 + 5 * s) 4 = hI h (7 + 5 * s) 4 ∧ ∀ q, hI g (7 + 5 * s + 2) q = hI h (7 + 5 * s + 2) q
theorem Kq_r {s : Nat} {h : Hp} : Kq s h h := ⟨rfl, rfl, fun _ => rfl⟩
theorem Kq_w {s a k : Nat} {v : Int} {h g : Hp} (A : Kq s h g) (w : a = 7 + 5 * s + 3 ∨ a = 7 + 5 * s + 4) : Kq s h (sI g a k v) :=
  ⟨by rw [hI_ne (by omega)]; exact A.1, by rw [hI_ne (by omega)]; exact A.2.1, fun q => by rw [hI_ne (by omega)]; exact A.2.2 q⟩
theorem cpy_0 {h : Hp} {a b : Nat} : cpyI h a b 0 = h := by
  obtain ⟨N, C, S, T, L, I, R⟩ := h
  refine Hp_ext rfl rfl rfl rfl rfl (fun x j => ?_) (fun x j => rfl)
  show ur I b (fun j => if j < 0 then I a j else I b j) x j = I x j
  unfold ur
  split
  · rename_i q; subst q; simp
  · rfl
theorem cpy_s {h : Hp} {a b n : Nat} : cpyI h a b (n + 1) = sI (cpyI h a b n) b n (hI h a n) := by
  obtain ⟨N, C, S, T, L, I, R⟩ := h
  refine Hp_ext rfl rfl rfl rfl rfl (fun x j => ?_) (fun x j => rfl)
  show ur I b (fun j => if j < n + 1 then I a j else I b j) x j = u2 (ur I b (fun j => if j < n then I a j else I b j)) b n (I a n) x j
  unfold u2 ur
  by_cases q : x = b
  · by_cases w : j = n
    · rw [if_pos q, if_pos ⟨q, w⟩]
      dsimp only
      rw [if_pos (show j < n + 1 by omega), w]
    · rw [if_pos q, if_neg (show ¬ (x = b ∧ j = n) from fun e => w e.2), if_pos q]
      dsimp only
      by_cases u : j < n
      · rw [if_pos u, if_pos (show j < n + 1 by omega)]
      · rw [if_neg u, if_neg (show ¬ j < n + 1 by omega)]
  · rw [if_neg q, if_neg (show ¬ (x = b ∧ j = n) from fun e => q e.1), if_neg q]
theorem cpy_ind {P : Hp → Prop} {h : Hp} {a b : Nat} (p : P h) (hs : ∀ g k v, P g → P (sI g b k v)) : ∀ n, P (cpyI h a b n) := by
  intro n
  induction n with
  | zero => rw [cpy_0]; exact p
  | succ n ih => rw [cpy_s]; exact hs _ _ _ ih
theorem nat_900 {h : Hp} {a b n : Nat} (h2 : 2 ≤ a ∧ 2 ≤ b) (oa : Ob h a 100) (ob : Ob h b 100) (la : n ≤ hL h a) (lb : n ≤ hL h b) : nat DA 900 [vR (some a), vI 0, vR (some b), vI 0, vI (n : Int)] h = some (none, cpyI h a b n) := by
  show (if _ then _ else _) = _
  rw [if_pos ⟨h2.1, oa.1, h2.2, ob.1, oa.2, ob.2, by omega, by omega, by omega, fun _ _ => ⟨rfl, rfl⟩⟩, Int.toNat_natCast]
theorem C71 {d : Nat} {h : Hp} {s n k : Nat} {ix : Nat → Nat} {fit : Nat → Int} {pr : Int} {f tk : Int} {mP mC mI mD mB : Nat → Nat} {nP nC nI nD nB : Nat} (S : Hv h mP mC mI mD mB nP nC nI nD nB) (hs : s < 6) (B : BF s n mP nP ix fit pr h) (n3 : n ≤ 3) (hk : k + 1 = n) (qf : 0 ≤ f ∧ f ≤ 16777215) (ff : ∀ x, hb f x → hb (fit k) x) (hpl : hI h (7 + 5 * s) 2 + 63 ≤ 1000000) : PW DA (d + 2) 71 [vR (some (7 + 5 * s)), vI f, vI tk] h (fun w g => ∃ v : Int, w = vI v ∧ Hv g mP mC mI mD mB nP nC nI nD nB ∧ Pf s n fit k tk 63 h g v) := by
  refine PW_of (fun Q hQ => ?_)
  have V := Vis_DA
  obtain ⟨h0, e0⟩ : ∃ h0, h0 = h := ⟨_, rfl⟩
  have A : Sb s h0 h := e0 ▸ Sb_r
  have S0 : Hv h0 mP mC mI mD mB nP nC nI nD nB := e0 ▸ S
  have B0 : BF s n mP nP ix fit pr h0 := e0 ▸ B
  have hb1 := B.1
  have hpl0 : hI h0 (7 + 5 * s) 2 + 63 ≤ 1000000 := e0 ▸ hpl
  have KQ : Kq s h0 h := e0 ▸ Kq_r
  refine x_ent en71 ?_
  refine x_iload_n d71_0 rfl ?_
  refine x_ifne (t := 6) d71_1 rfl (by omega) (fun c1_1 => ?_) (fun c1_1 => ?_)
  · have f0 : ∃ x, hb f x := by
      by_cases c : ∃ x, hb f x
      · exact c
      · have := tb_nil qf (fun x x1 x2 => tb_ne.mp (fun w => c ⟨x, x1, x2, w⟩)); omega
    refine x_aload_n d71_6 rfl ?_
    refine x_gfI d71_7 cl71 f8_34 (by decide) (Sh.ob (S.sh s hs)) (V.s (by have := Sh.n (S.sh s hs); omega)) ?_
    have g2 := (Sh.size (S.sh s hs))
    refine x_iconst d71_10 ?_
    refine x_isub d71_11 ?_
    refine x_nm (fun w12_3 ew12_3 => ?_)
    refine x_istore_n [some (vR _), some (vI _), some (vI _), some (vI _)] d71_12 rfl ?_
    refine x_aload_n d71_13 rfl ?_
    refine x_gfI d71_14 cl71 f8_17 (by decide) (Sh.ob (S.sh s hs)) (V.s (by have := Sh.n (S.sh s hs); omega)) ?_
    have g4 := (Sh.platings (S.sh s hs))
    refine x_ifne (t := 47) d71_17 rfl (by omega) (fun c17_5 => ?_) (fun c17_5 => ?_)
    · have B := BF_Sb S0 hs B0 A
      have hb1 := B.1
      have hpp := KQ.1
      refine x_aload_n d71_47 rfl ?_
      refine x_dupR d71_48 ?_
      refine x_gfI d71_49 cl71 f8_17 (by decide) (Sh.ob (S.sh s hs)) (V.s (by have := Sh.n (S.sh s hs); omega)) ?_
      have g6 := (Sh.platings (S.sh s hs))
      refine x_iload_n d71_52 rfl ?_
      refine x_SE d71_53 cl71 m8_82 kd186 po186 le186 C186 (fun v7 r7 z7 => ?_)
      try dsimp only at r7
      have hbc : 1 ≤ v7 := by rw [r7.1]; exact pc32_pos (by omega)
      refine x_iadd d71_56 ?_
      refine x_pfI d71_57 cl71 f8_17 (Sh.ob (S.sh s hs)) (V.s (by have := Sh.n (S.sh s hs); omega)) (fun q => by cases q) (x_wr (fun g => Hv g mP mC mI mD mB nP nC nI nD nB ∧ Sb s h0 g ∧ hI g (7 + 5 * s) 2 = hI h0 (7 + 5 * s) 2 + v7 ∧ hI g (7 + 5 * s) 4 = hI h0 (7 + 5 * s) 4 ∧ ∀ q, hI g (7 + 5 * s + 2) q = hI h0 (7 + 5 * s + 2) q) ⟨Hv_sf2 S hs (by omega), Sb_w A (by unfold Wsh; omega), by rw [hI_eq]; omega, by rw [hI_nk (by decide)]; exact KQ.2.1, fun q => by rw [hI_ne (by omega)]; exact KQ.2.2 q⟩ (fun h q8 => ?_))
      obtain ⟨S, A, hp2, hp4, hpq⟩ := q8
      refine x_aload_n d71_60 rfl ?_
      refine x_gfR d71_61 cl71 f8_24 (Sh.ob (S.sh s hs)) (V.s (by have := Sh.n (S.sh s hs); omega)) (Sh.r2 (S.sh s hs)) ?_
      refine x_iload_n d71_64 rfl ?_
      refine x_dup2 d71_65 rfl rfl ?_
      have B := BF_Sb S0 hs B0 A
      have hb1 := B.1
      have hix : (w12_3).toNat = k := by omega
      refine x_iaload d71_66 (Sh.o2 (S.sh s hs)) ⟨by omega, by rw [(Sh.l2 (S.sh s hs))]; omega⟩ (V.s (by have := Sh.n (S.sh s hs); omega)) ?_
      refine x_nm (fun a9 e9 => ?_)
      have b9 : 0 ≤ a9 ∧ a9 ≤ 16777215 := by rw [e9]; exact (Sh.places (S.sh s hs) _)
      refine x_iload_n d71_67 rfl ?_
      refine x_iorq d71_68 (fun q10 => ?_)
      refine x_iastore d71_69 (by have := Sh.g (S.sh s hs); omega) (Sh.o2 (S.sh s hs)) ⟨by omega, by rw [(Sh.l2 (S.sh s hs))]; omega⟩ (V.s (by have := Sh.n (S.sh s hs); omega)) (x_wr (fun g => Hv g mP mC mI mD mB nP nC nI nD nB ∧ Sb s h0 g ∧ hI g (7 + 5 * s) 2 = hI h0 (7 + 5 * s) 2 + v7 ∧ hI g (7 + 5 * s) 4 = hI h0 (7 + 5 * s) 4 ∧ hI g (7 + 5 * s + 2) k = o32 fior (hI h0 (7 + 5 * s + 2) k) f ∧ ∀ q, q ≠ k → hI g (7 + 5 * s + 2) q = hI h0 (7 + 5 * s + 2) q) ⟨Hv_sr2 S hs (or_rng (by omega) qf), Sb_w A (by unfold Wsh; omega), by rw [hI_ne (by omega)]; exact hp2, by rw [hI_ne (by omega)]; exact hp4, by rw [hix, hI_eq, e9, hix, hpq], fun q hq => by rw [hix, hI_nk hq]; exact hpq q⟩ (fun h q11 => ?_))
      obtain ⟨S, A, hp2, hp4, hpk, hpn⟩ := q11
      have B := BF_Sb S0 hs B0 A
      have hb1 := B.1
      refine x_aload_n d71_70 rfl ?_
      refine x_dupR d71_71 ?_
      refine x_gfI d71_72 cl71 f8_49 (by decide) (Sh.ob (S.sh s hs)) (V.s (by have := Sh.n (S.sh s hs); omega)) ?_
      refine x_iload_n d71_75 rfl ?_
      refine x_aload_n d71_76 rfl ?_
      refine x_gfR d71_77 cl71 f8_11 (Sh.ob (S.sh s hs)) (V.s (by have := Sh.n (S.sh s hs); omega)) (Sh.r1 (S.sh s hs)) ?_
      refine x_iload_n d71_80 rfl ?_
      refine x_aaload d71_81 (Sh.o1 (S.sh s hs)).1 (by rw [(Sh.o1 (S.sh s hs)).2]; decide) ⟨by omega, by rw [(Sh.l1 (S.sh s hs))]; omega⟩ (V.s (by omega)) (B.2 (w12_3).toNat (by omega)).2.1 ?_
      refine x_iload_n d71_82 rfl ?_
      refine x_VE d71_83 cl71 m8_87 kd15 tg15 po15 le15 (by have := Pc.g (Ls.mem S.lp (ix (w12_3).toNat) (B.2 (w12_3).toNat (by omega)).1); omega) (Pc.ob (Ls.mem S.lp (ix (w12_3).toNat) (B.2 (w12_3).toNat (by omega)).1)) (C15 (Ls.mem S.lp (ix (w12_3).toNat) (B.2 (w12_3).toNat (by omega)).1) V) (fun v12 r12 z12 => ?_)
      try dsimp only at r12
      refine x_iorq d71_86 (fun q13 => ?_)
      refine x_iandq d71_87 (fun q14 => ?_)
      refine x_pfI d71_88 cl71 f8_49 (Sh.ob (S.sh s hs)) (V.s (by have := Sh.n (S.sh s hs); omega)) (fun q => by cases q) (x_wr (fun g => Hv g mP mC mI mD mB nP nC nI nD nB ∧ Sb s h0 g ∧ hI g (7 + 5 * s) 2 = hI h0 (7 + 5 * s) 2 + v7 ∧ hI g (7 + 5 * s) 4 = o32 fand (hI h0 (7 + 5 * s) 4) (o32 fior tk v12) ∧ hI g (7 + 5 * s + 2) k = o32 fior (hI h0 (7 + 5 * s + 2) k) f ∧ ∀ q, q ≠ k → hI g (7 + 5 * s + 2) q = hI h0 (7 + 5 * s + 2) q) ⟨Hv_sf4 S hs, Sb_w A (by unfold Wsh; omega), by rw [hI_nk (by decide)]; exact hp2, by rw [hI_eq, hp4], by rw [hI_ne (by omega)]; exact hpk, fun q hq => by rw [hI_ne (by omega)]; exact hpn q hq⟩ (fun h q15 => ?_))
      obtain ⟨S, A, hp2, hp4, hpk, hpn⟩ := q15
      refine x_iconst d71_91 ?_
      exact x_zret d71_92 rt71 (by omega) (hQ _ _ (by rw [← e0]; exact ⟨S, Pf_l hk A (by omega) hp2 hp4 hpk hpn ff f0 r12.2⟩))
    · refine x_aload_n d71_20 rfl ?_
      refine x_gfR d71_21 cl71 f8_31 (Sh.ob (S.sh s hs)) (V.s (by have := Sh.n (S.sh s hs); omega)) (Sh.r4 (S.sh s hs)) ?_
      refine x_iload_n d71_24 rfl ?_
      refine x_iload_n d71_25 rfl ?_
      refine x_SE d71_26 cl71 m8_73 kd85 po85 le85 C85 (fun v16 r16 z16 => ?_)
      try dsimp only at r16
      refine x_iastore d71_29 (by have := Sh.g (S.sh s hs); omega) (Sh.o4 (S.sh s hs)) ⟨by omega, by rw [(Sh.l4 (S.sh s hs))]; omega⟩ (V.s (by have := Sh.n (S.sh s hs); omega)) (x_wr (fun g => Hv g mP mC mI mD mB nP nC nI nD nB ∧ Sb s h0 g ∧ Kq s h0 g) ⟨Hv_sr4 S hs, Sb_w A (by unfold Wsh; omega), Kq_w KQ (by omega)⟩ (fun h q17 => ?_))
      obtain ⟨S, A, KQ⟩ := q17
      have B := BF_Sb S0 hs B0 A
      have hb1 := B.1
      refine x_aload_n d71_30 rfl ?_
      refine x_gfR d71_31 cl71 f8_31 (Sh.ob (S.sh s hs)) (V.s (by have := Sh.n (S.sh s hs); omega)) (Sh.r4 (S.sh s hs)) ?_
      refine x_iconst d71_34 ?_
      refine x_aload_n d71_35 rfl ?_
      refine x_gfR d71_36 cl71 f8_28 (Sh.ob (S.sh s hs)) (V.s (by have := Sh.n (S.sh s hs); omega)) (Sh.r3 (S.sh s hs)) ?_
      refine x_iconst d71_39 ?_
      refine x_aload_n d71_40 rfl ?_
      refine x_gfI d71_41 cl71 f8_34 (by decide) (Sh.ob (S.sh s hs)) (V.s (by have := Sh.n (S.sh s hs); omega)) ?_
      have g18 := (Sh.size (S.sh s hs))
      have B := BF_Sb S0 hs B0 A
      rw [show hI h (7 + 5 * s) 1 = ((n : Nat) : Int) from B.1]
      refine x_nat d71_44 cl71 m8_76 (by decide) (popN_of (q := [vI _, vI _, vR _, vI _, vR _]) (show mArg 900 = 5 by decide +kernel) rfl rfl) (by exact Nat.le_of_ble_eq_true rfl) (nat_900 ⟨by omega, by omega⟩ (Sh.o4 (S.sh s hs)) (Sh.o3 (S.sh s hs)) (by rw [Sh.l4 (S.sh s hs)]; omega) (by rw [Sh.l3 (S.sh s hs)]; omega)) ?_
      refine x_wr (fun g => Hv g mP mC mI mD mB nP nC nI nD nB ∧ Sb s h0 g ∧ Kq s h0 g) (cpy_ind (P := fun g => Hv g mP mC mI mD mB nP nC nI nD nB ∧ Sb s h0 g ∧ Kq s h0 g) ⟨S, A, KQ⟩ (fun g k v q => ⟨Hv_sr3 q.1 hs, Sb_w q.2.1 (by unfold Wsh; omega), Kq_w q.2.2 (by omega)⟩) n) (fun h q => ?_)
      obtain ⟨S, A, KQ⟩ := q
      have B := BF_Sb S0 hs B0 A
      have hb1 := B.1
      have hpp := KQ.1
      refine x_aload_n d71_47 rfl ?_
      refine x_dupR d71_48 ?_
      refine x_gfI d71_49 cl71 f8_17 (by decide) (Sh.ob (S.sh s hs)) (V.s (by have := Sh.n (S.sh s hs); omega)) ?_
      have g19 := (Sh.platings (S.sh s hs))
      refine x_iload_n d71_52 rfl ?_
      refine x_SE d71_53 cl71 m8_82 kd186 po186 le186 C186 (fun v20 r20 z20 => ?_)
      try dsimp only at r20
      have hbc : 1 ≤ v20 := by rw [r20.1]; exact pc32_pos (by omega)
      refine x_iadd d71_56 ?_
      refine x_pfI d71_57 cl71 f8_17 (Sh.ob (S.sh s hs)) (V.s (by have := Sh.n (S.sh s hs); omega)) (fun q => by cases q) (x_wr (fun g => Hv g mP mC mI mD mB nP nC nI nD nB ∧ Sb s h0 g ∧ hI g (7 + 5 * s) 2 = hI h0 (7 + 5 * s) 2 + v20 ∧ hI g (7 + 5 * s) 4 = hI h0 (7 + 5 * s) 4 ∧ ∀ q, hI g (7 + 5 * s + 2) q = hI h0 (7 + 5 * s + 2) q) ⟨Hv_sf2 S hs (by omega), Sb_w A (by unfold Wsh; omega), by rw [hI_eq]; omega, by rw [hI_nk (by decide)]; exact KQ.2.1, fun q => by rw [hI_ne (by omega)]; exact KQ.2.2 q⟩ (fun h q21 => ?_))
      obtain ⟨S, A, hp2, hp4, hpq⟩ := q21
      refine x_aload_n d71_60 rfl ?_
      refine x_gfR d71_61 cl71 f8_24 (Sh.ob (S.sh s hs)) (V.s (by have := Sh.n (S.sh s hs); omega)) (Sh.r2 (S.sh s hs)) ?_
      refine x_iload_n d71_64 rfl ?_
      refine x_dup2 d71_65 rfl rfl ?_
      have B := BF_Sb S0 hs B0 A
      have hb1 := B.1
      have hix : (w12_3).toNat = k := by omega
      refine x_iaload d71_66 (Sh.o2 (S.sh s hs)) ⟨by omega, by rw [(Sh.l2 (S.sh s hs))]; omega⟩ (V.s (by have := Sh.n (S.sh s hs); omega)) ?_
      refine x_nm (fun a22 e22 => ?_)
      have b22 : 0 ≤ a22 ∧ a22 ≤ 16777215 := by rw [e22]; exact (Sh.places (S.sh s hs) _)
      refine x_iload_n d71_67 rfl ?_
      refine x_iorq d71_68 (fun q23 => ?_)
      refine x_iastore d71_69 (by have := Sh.g (S.sh s hs); omega) (Sh.o2 (S.sh s hs)) ⟨by omega, by rw [(Sh.l2 (S.sh s hs))]; omega⟩ (V.s (by have := Sh.n (S.sh s hs); omega)) (x_wr (fun g => Hv g mP mC mI mD mB nP nC nI nD nB ∧ Sb s h0 g ∧ hI g (7 + 5 * s) 2 = hI h0 (7 + 5 * s) 2 + v20 ∧ hI g (7 + 5 * s) 4 = hI h0 (7 + 5 * s) 4 ∧ hI g (7 + 5 * s + 2) k = o32 fior (hI h0 (7 + 5 * s + 2) k) f ∧ ∀ q, q ≠ k → hI g (7 + 5 * s + 2) q = hI h0 (7 + 5 * s + 2) q) ⟨Hv_sr2 S hs (or_rng (by omega) qf), Sb_w A (by unfold Wsh; omega), by rw [hI_ne (by omega)]; exact hp2, by rw [hI_ne (by omega)]; exact hp4, by rw [hix, hI_eq, e22, hix, hpq], fun q hq => by rw [hix, hI_nk hq]; exact hpq q⟩ (fun h q24 => ?_))
      obtain ⟨S, A, hp2, hp4, hpk, hpn⟩ := q24
      have B := BF_Sb S0 hs B0 A
      have hb1 := B.1
      refine x_aload_n d71_70 rfl ?_
      refine x_dupR d71_71 ?_
      refine x_gfI d71_72 cl71 f8_49 (by decide) (Sh.ob (S.sh s hs)) (V.s (by have := Sh.n (S.sh s hs); omega)) ?_
      refine x_iload_n d71_75 rfl ?_
      refine x_aload_n d71_76 rfl ?_
      refine x_gfR d71_77 cl71 f8_11 (Sh.ob (S.sh s hs)) (V.s (by have := Sh.n (S.sh s hs); omega)) (Sh.r1 (S.sh s hs)) ?_
      refine x_iload_n d71_80 rfl ?_
      refine x_aaload d71_81 (Sh.o1 (S.sh s hs)).1 (by rw [(Sh.o1 (S.sh s hs)).2]; decide) ⟨by omega, by rw [(Sh.l1 (S.sh s hs))]; omega⟩ (V.s (by omega)) (B.2 (w12_3).toNat (by omega)).2.1 ?_
      refine x_iload_n d71_82 rfl ?_
      refine x_VE d71_83 cl71 m8_87 kd15 tg15 po15 le15 (by have := Pc.g (Ls.mem S.lp (ix (w12_3).toNat) (B.2 (w12_3).toNat (by omega)).1); omega) (Pc.ob (Ls.mem S.lp (ix (w12_3).toNat) (B.2 (w12_3).toNat (by omega)).1)) (C15 (Ls.mem S.lp (ix (w12_3).toNat) (B.2 (w12_3).toNat (by omega)).1) V) (fun v25 r25 z25 => ?_)
      try dsimp only at r25
      refine x_iorq d71_86 (fun q26 => ?_)
      refine x_iandq d71_87 (fun q27 => ?_)
      refine x_pfI d71_88 cl71 f8_49 (Sh.ob (S.sh s hs)) (V.s (by have := Sh.n (S.sh s hs); omega)) (fun q => by cases q) (x_wr (fun g => Hv g mP mC mI mD mB nP nC nI nD nB ∧ Sb s h0 g ∧ hI g (7 + 5 * s) 2 = hI h0 (7 + 5 * s) 2 + v20 ∧ hI g (7 + 5 * s) 4 = o32 fand (hI h0 (7 + 5 * s) 4) (o32 fior tk v25) ∧ hI g (7 + 5 * s + 2) k = o32 fior (hI h0 (7 + 5 * s + 2) k) f ∧ ∀ q, q ≠ k → hI g (7 + 5 * s + 2) q = hI h0 (7 + 5 * s + 2) q) ⟨Hv_sf4 S hs, Sb_w A (by unfold Wsh; omega), by rw [hI_nk (by decide)]; exact hp2, by rw [hI_eq, hp4], by rw [hI_ne (by omega)]; exact hpk, fun q hq => by rw [hI_ne (by omega)]; exact hpn q hq⟩ (fun h q28 => ?_))
      obtain ⟨S, A, hp2, hp4, hpk, hpn⟩ := q28
      refine x_iconst d71_91 ?_
      exact x_zret d71_92 rt71 (by omega) (hQ _ _ (by rw [← e0]; exact ⟨S, Pf_l hk A (by omega) hp2 hp4 hpk hpn ff f0 r25.2⟩))
  · refine x_iconst d71_4 ?_
    exact x_zret d71_5 rt71 (by omega) (hQ _ _ ⟨S, Pf_U Pf_0 (by omega)⟩)
