/-! ===== THE SALE: the tables of a house ===== -/
def cnF (h : Hp) (mB : Nat → Nat) (b : Int) (k : Nat) : Int := cnE (hI h 55 0) (hI h 58) (hI h (mB k) 1) (hI h (mB k) 2) b
def itF (h : Hp) (mB : Nat → Nat) (k : Nat) : Nat := (hI h (mB k) 1).toNat
def amF (h : Hp) (mB : Nat → Nat) (k : Nat) : Int := hI h (mB k) 2
def mxF (h : Hp) : Nat := 2 ^ (hI h 55 0).toNat - 1
def TN (h : Hp) (mB : Nat → Nat) (nB : Nat) (b : Int) (n : Nat) : Tb := tAll (mxF h) nB (cnF h mB b) (itF h mB) (amF h mB) n
/-- the caches -/
def CI (h : Hp) (mB : Nat → Nat) (nB : Nat) : Prop := (∀ a j, DV a j = false → hR h a j = none) ∧ (∀ j, 256 ≤ j → hI h 60 j = 0 ∧ hI h 61 j = 0 ∧ hI h 62 j = 0) ∧ (-2147483648 ≤ hI h 55 5 ∧ hI h 55 5 < 2147483648) ∧ (hI h 55 6 = 0 ∨ hI h 55 6 = 1) ∧ (hI h 55 6 = 1 → TR h (TN h mB nB (hI h 55 5) nB) ∧ hI h 55 7 = (((TN h mB nB (hI h 55 5) nB).2.2.2 : Nat) : Int))
theorem TN_agr {h g : Hp} {mB : Nat → Nat} {nB : Nat} {b : Int} (A : Agr DV h g) (m : ∀ k, k < nB → 69 ≤ mB k) {n : Nat} (hn : n ≤ nB) : TN g mB nB b n = TN h mB nB b n := by
  have A6 := A.2.2.2.2.2
  have e55 : hI h 55 0 = hI g 55 0 := (A6 55 0 rfl).1
  have e58 : hI h 58 = hI g 58 := funext fun j => (A6 58 j rfl).1
  refine tAll_ext ?_ (fun k hk => ?_) (fun k hk => ?_) (fun k hk => ?_) n hn
  · unfold mxF; rw [e55]
  · unfold cnF; rw [e55, e58, (A6 (mB k) 1 (DV_ge (m k hk))).1, (A6 (mB k) 2 (DV_ge (m k hk))).1]
  · unfold itF; rw [(A6 (mB k) 1 (DV_ge (m k hk))).1]
  · unfold amF; rw [(A6 (mB k) 2 (DV_ge (m k hk))).1]
theorem TN_s {h : Hp} {mB : Nat → Nat} {nB n : Nat} {b : Int} (c : cnF h mB b (nB - (n + 1)) = 1) : TN h mB nB b (n + 1) = tOff (mxF h) (nB - (n + 1)) (itF h mB (nB - (n + 1))) (amF h mB (nB - (n + 1))) (TN h mB nB b n) := by
  unfold TN
  rw [tAll, if_pos c]
theorem TN_n {h : Hp} {mB : Nat → Nat} {nB n : Nat} {b : Int} (c : cnF h mB b (nB - (n + 1)) ≠ 1) : TN h mB nB b (n + 1) = TN h mB nB b n := by
  unfold TN
  rw [tAll, if_neg c]
theorem TN_r {h : Hp} {mB : Nat → Nat} {nB n : Nat} {b : Int} (m : ∀ k, k < nB → Bi h (mB k)) (h40 : nB ≤ 40) (hn : n ≤ nB) (s : Nat) : (0 ≤ (TN h mB nB b n).1 s ∧ (TN h mB nB b n).1 s ≤ 1000000) ∧ (0 ≤ (TN h mB nB b n).2.1 s ∧ (TN h mB nB b n).2.1 s ≤ 1000) ∧ (TN h mB nB b n).2.2.1 s < 1099511627776 := by
  have r := tAll_rng (all := mxF h) (nb := nB) (cn := cnF h mB b) (it := itF h mB) (am := amF h mB) (fun k hk => (m k hk).amount) n hn s
  have x := tAll_Xlt (all := mxF h) (nb := nB) (cn := cnF h mB b) (it := itF h mB) (am := amF h mB) (s := s) hn h40
  unfold TN
  exact ⟨by omega, by omega, x⟩
/-- h while it is settled, the BIDS above i done -/
def SV (h0 : Hp) (mB : Nat → Nat) (nB : Nat) (b : Int) (h : Hp) (i : Int) : Prop := ∃ n : Nat, (n : Int) + i + 1 = nB ∧ TR h (TN h0 mB nB b n) ∧ hI h 55 7 = (((TN h0 mB nB b n).2.2.2 : Nat) : Int)
theorem SV_0 {h0 : Hp} {mB : Nat → Nat} {nB : Nat} {b : Int} {h : Hp} {i : Int} (hi : i + 1 = nB) (a : ∀ s, hI h 60 s = 0) (c : ∀ s, hI h 61 s = 0) (x : ∀ s, hI h 62 s = 0) (e : hI h 55 7 = 0) : SV h0 mB nB b h i := ⟨0, by omega, fun s => ⟨a s, c s, x s⟩, e⟩
theorem SV_no {h0 : Hp} {mB : Nat → Nat} {nB : Nat} {b : Int} {h : Hp} {i : Int} (hi : 0 ≤ i) (c : cnF h0 mB b i.toNat ≠ 1) (H : SV h0 mB nB b h i) : SV h0 mB nB b h (i + -1) := by
  obtain ⟨n, e, t, q⟩ := H
  have w : nB - (n + 1) = i.toNat := by omega
  refine ⟨n + 1, by omega, ?_, ?_⟩
  · rw [TN_n (by rw [w]; exact c)]; exact t
  · rw [TN_n (by rw [w]; exact c)]; exact q
theorem SV_e {h0 : Hp} {mB : Nat → Nat} {nB : Nat} {b : Int} {h : Hp} {i : Int} (hi : i < 0) (hi2 : -1 ≤ i) (H : SV h0 mB nB b h i) : TR h (TN h0 mB nB b nB) ∧ hI h 55 7 = (((TN h0 mB nB b nB).2.2.2 : Nat) : Int) := by
  obtain ⟨n, e, t, q⟩ := H
  have w : n = nB := by omega
  subst w
  exact ⟨t, q⟩
theorem Wk_t {a b c : Hp} (A : Wk a b) (B : Wk b c) : Wk a c := ⟨⟨A.1.1.trans B.1.1, A.1.2.1.trans B.1.2.1, A.1.2.2.1.trans B.1.2.2.1, A.1.2.2.2.1.trans B.1.2.2.2.1, A.1.2.2.2.2.1.trans B.1.2.2.2.2.1, fun x j e => ⟨(A.1.2.2.2.2.2 x j e).1.trans (B.1.2.2.2.2.2 x j e).1, (A.1.2.2.2.2.2 x j e).2.trans (B.1.2.2.2.2.2 x j e).2⟩⟩, B.2⟩
theorem C51 {d : Nat} {h : Hp} {h0 : Hp} {mP mC mI mD mB : Nat → Nat} {nP nC nI nD nB : Nat} (S : Hv h mP mC mI mD mB nP nC nI nD nB) (A : Wk h0 h) (K : CI h mB nB) {b : Int} (qb : -2147483648 ≤ b ∧ b < 2147483648) : PU DA (d + 5) 51 [vR (some 55), vI b] h (fun g => Hv g mP mC mI mD mB nP nC nI nD nB ∧ Wk h0 g ∧ CI g mB nB ∧ hI g 55 6 = 1 ∧ hI g 55 5 = b) := by
  refine PU_of (fun Q hQ => ?_)
  have V := Vis_DA
  have VA : ∀ a j, DA a j = true := fun _ _ => rfl
  have hnb := S.nb
  have hk5 := K.2.2.1
  have hk6 := K.2.2.2.1
  have hBB : ∀ k, k < nB → Bi h0 (mB k) := fun k hk => by have q := Ls.mem S.lb k hk; exact Bi.mk q.g (by rw [A.1.1]; exact q.n) (by rw [A.1.2.2.2.1]; exact q.t) (by rw [← A.i (DV_ge q.g)]; exact q.bidder) (by rw [← A.i (DV_ge q.g)]; exact q.items) (by rw [← A.i (DV_ge q.g)]; exact q.amount)
  refine x_ent en51 ?_
  refine x_aload_n d51_0 rfl ?_
  refine x_gfI d51_1 cl51 f7_46 (by decide) (S.F.o rfl (by decide)) rfl ?_
  refine x_ifeq (t := 16) d51_4 rfl (by omega) (fun c4_1 => ?_) (fun c4_1 => ?_)
  · refine x_aload_n d51_16 rfl ?_
    refine x_iload_n d51_17 rfl ?_
    refine x_pfI d51_18 cl51 f7_63 (S.F.o rfl (by decide)) rfl (fun q => by cases q) (x_wr (fun g => Hv g mP mC mI mD mB nP nC nI nD nB ∧ Wk h0 g ∧ hI g 55 5 = b) ⟨Hv_f55_5 S, Wk_sI A rfl (Or.inl (by decide)), hI_eq⟩ (fun h q2 => ?_))
    obtain ⟨S, A, m5⟩ := q2
    refine x_aload_n d51_21 rfl ?_
    refine x_iconst d51_22 ?_
    refine x_pfZ d51_23 cl51 f7_46 (S.F.o rfl (by decide)) rfl (fun q => by cases q) (by omega) (x_wr (fun g => Hv g mP mC mI mD mB nP nC nI nD nB ∧ Wk h0 g ∧ hI g 55 5 = b ∧ hI g 55 6 = 1) ⟨Hv_f55_6 S, Wk_sI A rfl (Or.inl (by decide)), by rw [hI_nk (by decide)]; exact m5, hI_eq⟩ (fun h q3 => ?_))
    obtain ⟨S, A, m5, m6⟩ := q3
    refine x_aload_n d51_26 rfl ?_
    refine x_gfR d51_27 cl51 f7_29 (S.F.o rfl (by decide)) rfl (S.F.r rfl) ?_
    refine x_iconst d51_30 ?_
    have hfl : ∀ n, n ≤ 256 → (fun g => Hv g mP mC mI mD mB nP nC nI nD nB ∧ Wk h0 g ∧ hI g 55 5 = b ∧ hI g 55 6 = 1) (fil h 60 n 0) := fun n hn => fil_ind (P := fun g => Hv g mP mC mI mD mB nP nC nI nD nB ∧ Wk h0 g ∧ hI g 55 5 = b ∧ hI g 55 6 = 1) ⟨S, A, m5, m6⟩ n (fun g k hk q => ⟨Hv_r60 q.1, Wk_sI q.2.1 rfl (Or.inl (by omega)), by rw [hI_ne (by decide)]; exact q.2.2.1, by rw [hI_ne (by decide)]; exact q.2.2.2⟩)
    have hzr : ∀ s, hI (fil h 60 256 0) 60 s = 0 := fun s => by rw [fil_I]; by_cases w : s < 256; rw [if_pos ⟨rfl, w⟩]; rw [if_neg (fun e => w e.2)]; exact (A.2.2 s (by omega)).1
    refine x_SU d51_31 cl51 m7_66 kd181 po181 le181 (PU_mono (C181 (by decide) (S.F.o (a := 60) rfl (by decide)) (by rw [S.F.l (a := 60) (n := 256) (by decide) rfl]; decide)) (R' := fun g => Hv g mP mC mI mD mB nP nC nI nD nB ∧ Wk h0 g ∧ hI g 55 5 = b ∧ hI g 55 6 = 1 ∧ (∀ s, hI g 60 s = 0)) (fun g eg => ?_)) (fun h q31 => ?_)
    · rw [eg, S.F.l (a := 60) (n := 256) (by decide) rfl]
      have hq := hfl 256 (by omega)
      exact ⟨hq.1, hq.2.1, hq.2.2.1, hq.2.2.2, hzr⟩
    obtain ⟨S, A, m5, m6, zr60⟩ := q31
    refine x_aload_n d51_34 rfl ?_
    refine x_gfR d51_35 cl51 f7_32 (S.F.o rfl (by decide)) rfl (S.F.r rfl) ?_
    refine x_iconst d51_38 ?_
    have hfl : ∀ n, n ≤ 256 → (fun g => Hv g mP mC mI mD mB nP nC nI nD nB ∧ Wk h0 g ∧ hI g 55 5 = b ∧ hI g 55 6 = 1) (fil h 61 n 0) := fun n hn => fil_ind (P := fun g => Hv g mP mC mI mD mB nP nC nI nD nB ∧ Wk h0 g ∧ hI g 55 5 = b ∧ hI g 55 6 = 1) ⟨S, A, m5, m6⟩ n (fun g k hk q => ⟨Hv_r61 q.1, Wk_sI q.2.1 rfl (Or.inl (by omega)), by rw [hI_ne (by decide)]; exact q.2.2.1, by rw [hI_ne (by decide)]; exact q.2.2.2⟩)
    have hzr : ∀ s, hI (fil h 61 256 0) 61 s = 0 := fun s => by rw [fil_I]; by_cases w : s < 256; rw [if_pos ⟨rfl, w⟩]; rw [if_neg (fun e => w e.2)]; exact (A.2.2 s (by omega)).2.1
    refine x_SU d51_39 cl51 m7_66 kd181 po181 le181 (PU_mono (C181 (by decide) (S.F.o (a := 61) rfl (by decide)) (by rw [S.F.l (a := 61) (n := 256) (by decide) rfl]; decide)) (R' := fun g => Hv g mP mC mI mD mB nP nC nI nD nB ∧ Wk h0 g ∧ hI g 55 5 = b ∧ hI g 55 6 = 1 ∧ (∀ s, hI g 60 s = 0) ∧ (∀ s, hI g 61 s = 0)) (fun g eg => ?_)) (fun h q39 => ?_)
    · rw [eg, S.F.l (a := 61) (n := 256) (by decide) rfl]
      have hq := hfl 256 (by omega)
      exact ⟨hq.1, hq.2.1, hq.2.2.1, hq.2.2.2, fun s => by rw [fil_I, if_neg (fun e => absurd e.1 (by decide))]; exact zr60 s, hzr⟩
    obtain ⟨S, A, m5, m6, zr60, zr61⟩ := q39
    refine x_aload_n d51_42 rfl ?_
    refine x_gfR d51_43 cl51 f7_35 (S.F.o rfl (by decide)) rfl (S.F.r rfl) ?_
    refine x_lconst (z := 0) d51_46 rfl ?_
    have hfl : ∀ n, n ≤ 256 → (fun g => Hv g mP mC mI mD mB nP nC nI nD nB ∧ Wk h0 g ∧ hI g 55 5 = b ∧ hI g 55 6 = 1) (fil h 62 n 0) := fun n hn => fil_ind (P := fun g => Hv g mP mC mI mD mB nP nC nI nD nB ∧ Wk h0 g ∧ hI g 55 5 = b ∧ hI g 55 6 = 1) ⟨S, A, m5, m6⟩ n (fun g k hk q => ⟨Hv_r62 q.1, Wk_sI q.2.1 rfl (Or.inl (by omega)), by rw [hI_ne (by decide)]; exact q.2.2.1, by rw [hI_ne (by decide)]; exact q.2.2.2⟩)
    have hzr : ∀ s, hI (fil h 62 256 0) 62 s = 0 := fun s => by rw [fil_I]; by_cases w : s < 256; rw [if_pos ⟨rfl, w⟩]; rw [if_neg (fun e => w e.2)]; exact (A.2.2 s (by omega)).2.2
    refine x_SU d51_47 cl51 m7_72 kd183 po183 le183 (PU_mono (C183 (by decide) (S.F.o (a := 62) rfl (by decide)) (by rw [S.F.l (a := 62) (n := 256) (by decide) rfl]; decide)) (R' := fun g => Hv g mP mC mI mD mB nP nC nI nD nB ∧ Wk h0 g ∧ hI g 55 5 = b ∧ hI g 55 6 = 1 ∧ (∀ s, hI g 60 s = 0) ∧ (∀ s, hI g 61 s = 0) ∧ (∀ s, hI g 62 s = 0)) (fun g eg => ?_)) (fun h q47 => ?_)
    · rw [eg, S.F.l (a := 62) (n := 256) (by decide) rfl]
      have hq := hfl 256 (by omega)
      exact ⟨hq.1, hq.2.1, hq.2.2.1, hq.2.2.2, fun s => by rw [fil_I, if_neg (fun e => absurd e.1 (by decide))]; exact zr60 s, fun s => by rw [fil_I, if_neg (fun e => absurd e.1 (by decide))]; exact zr61 s, hzr⟩
    obtain ⟨S, A, m5, m6, zr60, zr61, zr62⟩ := q47
    refine x_aload_n d51_50 rfl ?_
    refine x_lconst (z := 0) d51_51 rfl ?_
    refine x_pfL d51_52 cl51 f7_75 (S.F.o rfl (by decide)) rfl (fun q => by cases q) (x_wr (fun g => Hv g mP mC mI mD mB nP nC nI nD nB ∧ Wk h0 g ∧ hI g 55 5 = b ∧ hI g 55 6 = 1 ∧ hI g 55 7 = 0 ∧ (∀ s, hI g 60 s = 0) ∧ (∀ s, hI g 61 s = 0) ∧ (∀ s, hI g 62 s = 0)) ⟨Hv_f55_7 S, Wk_sI A rfl (Or.inl (by decide)), by rw [hI_nk (by decide)]; exact m5, by rw [hI_nk (by decide)]; exact m6, hI_eq, fun s => by rw [hI_ne (by decide)]; exact zr60 s, fun s => by rw [hI_ne (by decide)]; exact zr61 s, fun s => by rw [hI_ne (by decide)]; exact zr62 s⟩ (fun h q4 => ?_))
    obtain ⟨S, A, m5, m6, m7, zr60, zr61, zr62⟩ := q4
    refine x_aload_n d51_55 rfl ?_
    refine x_gfR d51_56 cl51 f7_25 (S.F.o rfl (by decide)) rfl (S.F.r rfl) ?_
    refine x_VE d51_59 cl51 m7_59 kd168 tg168 po168 le168 (by decide) (S.F.o rfl (by decide)) (C168 (S.F.o rfl (by decide)) rfl S.lb) (fun v5 r5 z5 => ?_)
    try dsimp only at r5
    refine x_iconst d51_62 ?_
    refine x_isub d51_63 ?_
    refine x_nm (fun w64_6 ew64_6 => ?_)
    refine x_istore_n [some (vR _), some (vI _), some (vI _)] d51_64 rfl ?_
    refine (x_dn (P := fun i7 => ∀ h : Hp, (Hv h mP mC mI mD mB nP nC nI nD nB ∧ Wk h0 h ∧ hI h 55 5 = b ∧ hI h 55 6 = 1 ∧ SV h0 mB nB b h i7) → (-1 ≤ i7) → wp DA (d + 5) 51 65 [some (vR (some 55)), some (vI b), some (vI i7)] [] h Q) w64_6 (fun i7 hi7 ih7 h hh7 hp7 => ?_)) _ ⟨S, A, m5, m6, SV_0 (by omega) zr60 zr61 zr62 m7⟩ (by omega)
    obtain ⟨S, A, m5, m6, H⟩ := hh7
    refine x_iload_n d51_65 rfl ?_
    refine x_iflt (t := 123) d51_66 rfl (by omega) (fun c66_8 => ?_) (fun c66_8 => ?_)
    · exact x_ret d51_123 rt51 (hQ _ ⟨S, A, ⟨A.2.1, A.2.2, by omega, by omega, fun _ => by have e := SV_e (by omega) (by omega) H; rw [m5, TN_agr A.1 (fun k hk => (Ls.mem S.lb k hk).g) (Nat.le_refl _)]; exact e⟩, m6, m5⟩)
    · refine x_aload_n d51_69 rfl ?_
      refine x_aload_n d51_70 rfl ?_
      refine x_gfR d51_71 cl51 f7_25 (S.F.o rfl (by decide)) rfl (S.F.r rfl) ?_
      refine x_iload_n d51_74 rfl ?_
      refine x_VV d51_75 cl51 m7_79 kd173 tg173 po173 le173 (by decide) (S.F.o rfl (by decide)) (C173 (d := d + 1) (S.F.o rfl (by decide)) rfl rfl S.lb V (by omega) (by omega)) ?_
      refine x_cast d51_78 cl51 ct7_50 (Bi.ob (Ls.mem S.lb (i7).toNat (by omega))) ?_
      refine x_VE d51_81 cl51 m7_83 kd52 tg52 po52 le52 (by decide) (S.F.o rfl (by decide)) (C52 V S VA (Ls.mem S.lb (i7).toNat (by omega))) (fun v10 r10 z10 => ?_)
      try dsimp only at r10
      have hBb := (Ls.mem S.lb (i7).toNat (by omega))
      have hcv : v10 = cnF h0 mB b (i7).toNat := by
        rw [r10.1]; unfold cnF; rw [m5, A.i (a := 55) (j := 0) rfl, A.i (DV_ge hBb.g), A.i (DV_ge hBb.g), show hI h 58 = hI h0 58 from funext fun j => A.i rfl]
      refine x_ifeq (t := 117) d51_84 rfl (by omega) (fun c84_11 => ?_) (fun c84_11 => ?_)
      · have H := SV_no (by omega) (by omega) H
        refine x_iinc [some (vR _), some (vI _), some (vI _)] d51_117 rfl rfl ?_
        refine x_goto (t := 65) d51_120 rfl ?_
        exact ih7 (by omega) _ ⟨S, A, m5, m6, H⟩ (by omega)
      · refine x_aload_n d51_87 rfl ?_
        refine x_dupR d51_88 ?_
        refine x_gfL d51_89 cl51 f7_75 (S.F.o rfl (by decide)) rfl ?_
        refine x_lconst (z := 1) d51_92 rfl ?_
        refine x_iload_n d51_93 rfl ?_
        refine x_lshl d51_94 ?_
        refine x_lor d51_95 ?_
        refine x_nmL (fun cv ecv => ?_)
        obtain ⟨n, hn, hT, h7⟩ := H
        have hnb2 : nB - (n + 1) = (i7).toNat := by omega
        have hcl := tAll_clt (all := mxF h0) (nb := nB) (cn := cnF h0 mB b) (it := itF h0 mB) (am := amF h0 mB) (n := n) (by omega) (by omega)
        have hc1 : cnF h0 mB b (nB - (n + 1)) = 1 := by rw [hnb2]; omega
        rw [h7, lshl_i (by omega), lor_nn (by show (tAll (mxF h0) nB (cnF h0 mB b) (itF h0 mB) (amF h0 mB) n).2.2.2 < _; omega) (Nat.pow_lt_pow_right (a := 2) (n := 63) (by omega) (show (i7).toNat < 63 by omega))] at ecv
        refine x_pfL d51_96 cl51 f7_75 (S.F.o rfl (by decide)) rfl (fun q => by cases q) (x_wr (fun g => Hv g mP mC mI mD mB nP nC nI nD nB ∧ Wk h0 g ∧ hI g 55 5 = b ∧ hI g 55 6 = 1 ∧ TR g (TN h0 mB nB b n) ∧ hI g 55 7 = cv) ⟨Hv_f55_7 S, Wk_sI A rfl (Or.inl (by decide)), by rw [hI_nk (by decide)]; exact m5, by rw [hI_nk (by decide)]; exact m6, fun s => by rw [hI_ne (by decide), hI_ne (by decide), hI_ne (by decide)]; exact hT s, hI_eq⟩ (fun h q12 => ?_))
        obtain ⟨S, A, m5, m6, hT, m7⟩ := q12
        refine x_aload_n d51_99 rfl ?_
        refine x_aload_n d51_100 rfl ?_
        refine x_gfR d51_101 cl51 f7_25 (S.F.o rfl (by decide)) rfl (S.F.r rfl) ?_
        refine x_iload_n d51_104 rfl ?_
        refine x_VV d51_105 cl51 m7_79 kd173 tg173 po173 le173 (by decide) (S.F.o rfl (by decide)) (C173 (d := d + 1) (S.F.o rfl (by decide)) rfl rfl S.lb V (by omega) (by omega)) ?_
        refine x_cast d51_108 cl51 ct7_50 (Bi.ob (Ls.mem S.lb (i7).toNat (by omega))) ?_
        refine x_lconst (z := 1) d51_111 rfl ?_
        refine x_iload_n d51_112 rfl ?_
        refine x_lshl d51_113 ?_
        have hBb := (Ls.mem S.lb (i7).toNat (by omega))
        have hit0 : hI h (mB (i7).toNat) 1 = ((itF h0 mB (nB - (n + 1)) : Nat) : Int) := by unfold itF; rw [hnb2, ← A.i (DV_ge hBb.g)]; have := hBb.items; omega
        have ham0 : hI h (mB (i7).toNat) 2 = amF h0 mB (nB - (n + 1)) := by unfold amF; rw [hnb2, ← A.i (DV_ge hBb.g)]
        have hm0 := A.i (a := 55) (j := 0) rfl
        refine x_VU d51_114 cl51 m7_87 kd53 tg53 po53 le53 (by decide) (S.F.o rfl (by decide)) (C53 (k := nB - (n + 1)) (M := mxF h0) S A (TN h0 mB nB b n) hT (TN_r hBB (by omega) (by omega)) hBb (by omega) (by have := hBb.items; omega) (by unfold mxF; rw [(all_nat (n := hI h0 55 0) (by have := S.items; omega)).1]) hm0 m5 m6 m7 hit0 ham0 (by rw [hnb2]; exact lshl_i (by omega))) (fun h q114 => ?_)
        obtain ⟨S, A, hT, m0, m5, m6, m7⟩ := q114
        have H : SV h0 mB nB b h (i7 + -1) := ⟨n + 1, by omega, by rw [TN_s hc1]; exact hT, by rw [TN_s hc1, m7, ecv, hnb2]; rfl⟩
        refine x_iinc [some (vR _), some (vI _), some (vI _)] d51_117 rfl rfl ?_
        refine x_goto (t := 65) d51_120 rfl ?_
        exact ih7 (by omega) _ ⟨S, A, m5, m6, H⟩ (by omega)
  · refine x_aload_n d51_7 rfl ?_
    refine x_gfI d51_8 cl51 f7_63 (by decide) (S.F.o rfl (by decide)) rfl ?_
    refine x_iload_n d51_11 rfl ?_
    refine x_icne (t := 16) d51_12 rfl (by omega) (fun c12_14 => ?_) (fun c12_14 => ?_)
    · refine x_aload_n d51_16 rfl ?_
      refine x_iload_n d51_17 rfl ?_
      refine x_pfI d51_18 cl51 f7_63 (S.F.o rfl (by decide)) rfl (fun q => by cases q) (x_wr (fun g => Hv g mP mC mI mD mB nP nC nI nD nB ∧ Wk h0 g ∧ hI g 55 5 = b) ⟨Hv_f55_5 S, Wk_sI A rfl (Or.inl (by decide)), hI_eq⟩ (fun h q15 => ?_))
      obtain ⟨S, A, m5⟩ := q15
      refine x_aload_n d51_21 rfl ?_
      refine x_iconst d51_22 ?_
      refine x_pfZ d51_23 cl51 f7_46 (S.F.o rfl (by decide)) rfl (fun q => by cases q) (by omega) (x_wr (fun g => Hv g mP mC mI mD mB nP nC nI nD nB ∧ Wk h0 g ∧ hI g 55 5 = b ∧ hI g 55 6 = 1) ⟨Hv_f55_6 S, Wk_sI A rfl (Or.inl (by decide)), by rw [hI_nk (by decide)]; exact m5, hI_eq⟩ (fun h q16 => ?_))
      obtain ⟨S, A, m5, m6⟩ := q16
      refine x_aload_n d51_26 rfl ?_
      refine x_gfR d51_27 cl51 f7_29 (S.F.o rfl (by decide)) rfl (S.F.r rfl) ?_
      refine x_iconst d51_30 ?_
      have hfl : ∀ n, n ≤ 256 → (fun g => Hv g mP mC mI mD mB nP nC nI nD nB ∧ Wk h0 g ∧ hI g 55 5 = b ∧ hI g 55 6 = 1) (fil h 60 n 0) := fun n hn => fil_ind (P := fun g => Hv g mP mC mI mD mB nP nC nI nD nB ∧ Wk h0 g ∧ hI g 55 5 = b ∧ hI g 55 6 = 1) ⟨S, A, m5, m6⟩ n (fun g k hk q => ⟨Hv_r60 q.1, Wk_sI q.2.1 rfl (Or.inl (by omega)), by rw [hI_ne (by decide)]; exact q.2.2.1, by rw [hI_ne (by decide)]; exact q.2.2.2⟩)
      have hzr : ∀ s, hI (fil h 60 256 0) 60 s = 0 := fun s => by rw [fil_I]; by_cases w : s < 256; rw [if_pos ⟨rfl, w⟩]; rw [if_neg (fun e => w e.2)]; exact (A.2.2 s (by omega)).1
      refine x_SU d51_31 cl51 m7_66 kd181 po181 le181 (PU_mono (C181 (by decide) (S.F.o (a := 60) rfl (by decide)) (by rw [S.F.l (a := 60) (n := 256) (by decide) rfl]; decide)) (R' := fun g => Hv g mP mC mI mD mB nP nC nI nD nB ∧ Wk h0 g ∧ hI g 55 5 = b ∧ hI g 55 6 = 1 ∧ (∀ s, hI g 60 s = 0)) (fun g eg => ?_)) (fun h q31 => ?_)
      · rw [eg, S.F.l (a := 60) (n := 256) (by decide) rfl]
        have hq := hfl 256 (by omega)
        exact ⟨hq.1, hq.2.1, hq.2.2.1, hq.2.2.2, hzr⟩
      obtain ⟨S, A, m5, m6, zr60⟩ := q31
      refine x_aload_n d51_34 rfl ?_
      refine x_gfR d51_35 cl51 f7_32 (S.F.o rfl (by decide)) rfl (S.F.r rfl) ?_
      refine x_iconst d51_38 ?_
      have hfl : ∀ n, n ≤ 256 → (fun g => Hv g mP mC mI mD mB nP nC nI nD nB ∧ Wk h0 g ∧ hI g 55 5 = b ∧ hI g 55 6 = 1) (fil h 61 n 0) := fun n hn => fil_ind (P := fun g => Hv g mP mC mI mD mB nP nC nI nD nB ∧ Wk h0 g ∧ hI g 55 5 = b ∧ hI g 55 6 = 1) ⟨S, A, m5, m6⟩ n (fun g k hk q => ⟨Hv_r61 q.1, Wk_sI q.2.1 rfl (Or.inl (by omega)), by rw [hI_ne (by decide)]; exact q.2.2.1, by rw [hI_ne (by decide)]; exact q.2.2.2⟩)
      have hzr : ∀ s, hI (fil h 61 256 0) 61 s = 0 := fun s => by rw [fil_I]; by_cases w : s < 256; rw [if_pos ⟨rfl, w⟩]; rw [if_neg (fun e => w e.2)]; exact (A.2.2 s (by omega)).2.1
      refine x_SU d51_39 cl51 m7_66 kd181 po181 le181 (PU_mono (C181 (by decide) (S.F.o (a := 61) rfl (by decide)) (by rw [S.F.l (a := 61) (n := 256) (by decide) rfl]; decide)) (R' := fun g => Hv g mP mC mI mD mB nP nC nI nD nB ∧ Wk h0 g ∧ hI g 55 5 = b ∧ hI g 55 6 = 1 ∧ (∀ s, hI g 60 s = 0) ∧ (∀ s, hI g 61 s = 0)) (fun g eg => ?_)) (fun h q39 => ?_)
      · rw [eg, S.F.l (a := 61) (n := 256) (by decide) rfl]
        have hq := hfl 256 (by omega)
        exact ⟨hq.1, hq.2.1, hq.2.2.1, hq.2.2.2, fun s => by rw [fil_I, if_neg (fun e => absurd e.1 (by decide))]; exact zr60 s, hzr⟩
      obtain ⟨S, A, m5, m6, zr60, zr61⟩ := q39
      refine x_aload_n d51_42 rfl ?_
      refine x_gfR d51_43 cl51 f7_35 (S.F.o rfl (by decide)) rfl (S.F.r rfl) ?_
      refine x_lconst (z := 0) d51_46 rfl ?_
      have hfl : ∀ n, n ≤ 256 → (fun g => Hv g mP mC mI mD mB nP nC nI nD nB ∧ Wk h0 g ∧ hI g 55 5 = b ∧ hI g 55 6 = 1) (fil h 62 n 0) := fun n hn => fil_ind (P := fun g => Hv g mP mC mI mD mB nP nC nI nD nB ∧ Wk h0 g ∧ hI g 55 5 = b ∧ hI g 55 6 = 1) ⟨S, A, m5, m6⟩ n (fun g k hk q => ⟨Hv_r62 q.1, Wk_sI q.2.1 rfl (Or.inl (by omega)), by rw [hI_ne (by decide)]; exact q.2.2.1, by rw [hI_ne (by decide)]; exact q.2.2.2⟩)
      have hzr : ∀ s, hI (fil h 62 256 0) 62 s = 0 := fun s => by rw [fil_I]; by_cases w : s < 256; rw [if_pos ⟨rfl, w⟩]; rw [if_neg (fun e => w e.2)]; exact (A.2.2 s (by omega)).2.2
      refine x_SU d51_47 cl51 m7_72 kd183 po183 le183 (PU_mono (C183 (by decide) (S.F.o (a := 62) rfl (by decide)) (by rw [S.F.l (a := 62) (n := 256) (by decide) rfl]; decide)) (R' := fun g => Hv g mP mC mI mD mB nP nC nI nD nB ∧ Wk h0 g ∧ hI g 55 5 = b ∧ hI g 55 6 = 1 ∧ (∀ s, hI g 60 s = 0) ∧ (∀ s, hI g 61 s = 0) ∧ (∀ s, hI g 62 s = 0)) (fun g eg => ?_)) (fun h q47 => ?_)
      · rw [eg, S.F.l (a := 62) (n := 256) (by decide) rfl]
        have hq := hfl 256 (by omega)
        exact ⟨hq.1, hq.2.1, hq.2.2.1, hq.2.2.2, fun s => by rw [fil_I, if_neg (fun e => absurd e.1 (by decide))]; exact zr60 s, fun s => by rw [fil_I, if_neg (fun e => absurd e.1 (by decide))]; exact zr61 s, hzr⟩
      obtain ⟨S, A, m5, m6, zr60, zr61, zr62⟩ := q47
      refine x_aload_n d51_50 rfl ?_
      refine x_lconst (z := 0) d51_51 rfl ?_
      refine x_pfL d51_52 cl51 f7_75 (S.F.o rfl (by decide)) rfl (fun q => by cases q) (x_wr (fun g => Hv g mP mC mI mD mB nP nC nI nD nB ∧ Wk h0 g ∧ hI g 55 5 = b ∧ hI g 55 6 = 1 ∧ hI g 55 7 = 0 ∧ (∀ s, hI g 60 s = 0) ∧ (∀ s, hI g 61 s = 0) ∧ (∀ s, hI g 62 s = 0)) ⟨Hv_f55_7 S, Wk_sI A rfl (Or.inl (by decide)), by rw [hI_nk (by decide)]; exact m5, by rw [hI_nk (by decide)]; exact m6, hI_eq, fun s => by rw [hI_ne (by decide)]; exact zr60 s, fun s => by rw [hI_ne (by decide)]; exact zr61 s, fun s => by rw [hI_ne (by decide)]; exact zr62 s⟩ (fun h q17 => ?_))
      obtain ⟨S, A, m5, m6, m7, zr60, zr61, zr62⟩ := q17
      refine x_aload_n d51_55 rfl ?_
      refine x_gfR d51_56 cl51 f7_25 (S.F.o rfl (by decide)) rfl (S.F.r rfl) ?_
      refine x_VE d51_59 cl51 m7_59 kd168 tg168 po168 le168 (by decide) (S.F.o rfl (by decide)) (C168 (S.F.o rfl (by decide)) rfl S.lb) (fun v18 r18 z18 => ?_)
      try dsimp only at r18
      refine x_iconst d51_62 ?_
      refine x_isub d51_63 ?_
      refine x_nm (fun w64_19 ew64_19 => ?_)
      refine x_istore_n [some (vR _), some (vI _), some (vI _)] d51_64 rfl ?_
      refine (x_dn (P := fun i20 => ∀ h : Hp, (Hv h mP mC mI mD mB nP nC nI nD nB ∧ Wk h0 h ∧ hI h 55 5 = b ∧ hI h 55 6 = 1 ∧ SV h0 mB nB b h i20) → (-1 ≤ i20) → wp DA (d + 5) 51 65 [some (vR (some 55)), some (vI b), some (vI i20)] [] h Q) w64_19 (fun i20 hi20 ih20 h hh20 hp20 => ?_)) _ ⟨S, A, m5, m6, SV_0 (by omega) zr60 zr61 zr62 m7⟩ (by omega)
      obtain ⟨S, A, m5, m6, H⟩ := hh20
      refine x_iload_n d51_65 rfl ?_
      refine x_iflt (t := 123) d51_66 rfl (by omega) (fun c66_21 => ?_) (fun c66_21 => ?_)
      · exact x_ret d51_123 rt51 (hQ _ ⟨S, A, ⟨A.2.1, A.2.2, by omega, by omega, fun _ => by have e := SV_e (by omega) (by omega) H; rw [m5, TN_agr A.1 (fun k hk => (Ls.mem S.lb k hk).g) (Nat.le_refl _)]; exact e⟩, m6, m5⟩)
      · refine x_aload_n d51_69 rfl ?_
        refine x_aload_n d51_70 rfl ?_
        refine x_gfR d51_71 cl51 f7_25 (S.F.o rfl (by decide)) rfl (S.F.r rfl) ?_
        refine x_iload_n d51_74 rfl ?_
        refine x_VV d51_75 cl51 m7_79 kd173 tg173 po173 le173 (by decide) (S.F.o rfl (by decide)) (C173 (d := d + 1) (S.F.o rfl (by decide)) rfl rfl S.lb V (by omega) (by omega)) ?_
        refine x_cast d51_78 cl51 ct7_50 (Bi.ob (Ls.mem S.lb (i20).toNat (by omega))) ?_
        refine x_VE d51_81 cl51 m7_83 kd52 tg52 po52 le52 (by decide) (S.F.o rfl (by decide)) (C52 V S VA (Ls.mem S.lb (i20).toNat (by omega))) (fun v23 r23 z23 => ?_)
        try dsimp only at r23
        have hBb := (Ls.mem S.lb (i20).toNat (by omega))
        have hcv : v23 = cnF h0 mB b (i20).toNat := by
          rw [r23.1]; unfold cnF; rw [m5, A.i (a := 55) (j := 0) rfl, A.i (DV_ge hBb.g), A.i (DV_ge hBb.g), show hI h 58 = hI h0 58 from funext fun j => A.i rfl]
        refine x_ifeq (t := 117) d51_84 rfl (by omega) (fun c84_24 => ?_) (fun c84_24 => ?_)
        · have H := SV_no (by omega) (by omega) H
          refine x_iinc [some (vR _), some (vI _), some (vI _)] d51_117 rfl rfl ?_
          refine x_goto (t := 65) d51_120 rfl ?_
          exact ih20 (by omega) _ ⟨S, A, m5, m6, H⟩ (by omega)
        · refine x_aload_n d51_87 rfl ?_
          refine x_dupR d51_88 ?_
          refine x_gfL d51_89 cl51 f7_75 (S.F.o rfl (by decide)) rfl ?_
          refine x_lconst (z := 1) d51_92 rfl ?_
          refine x_iload_n d51_93 rfl ?_
          refine x_lshl d51_94 ?_
          refine x_lor d51_95 ?_
          refine x_nmL (fun cv ecv => ?_)
          obtain ⟨n, hn, hT, h7⟩ := H
          have hnb2 : nB - (n + 1) = (i20).toNat := by omega
          have hcl := tAll_clt (all := mxF h0) (nb := nB) (cn := cnF h0 mB b) (it := itF h0 mB) (am := amF h0 mB) (n := n) (by omega) (by omega)
          have hc1 : cnF h0 mB b (nB - (n + 1)) = 1 := by rw [hnb2]; omega
          rw [h7, lshl_i (by omega), lor_nn (by show (tAll (mxF h0) nB (cnF h0 mB b) (itF h0 mB) (amF h0 mB) n).2.2.2 < _; omega) (Nat.pow_lt_pow_right (a := 2) (n := 63) (by omega) (show (i20).toNat < 63 by omega))] at ecv
          refine x_pfL d51_96 cl51 f7_75 (S.F.o rfl (by decide)) rfl (fun q => by cases q) (x_wr (fun g => Hv g mP mC mI mD mB nP nC nI nD nB ∧ Wk h0 g ∧ hI g 55 5 = b ∧ hI g 55 6 = 1 ∧ TR g (TN h0 mB nB b n) ∧ hI g 55 7 = cv) ⟨Hv_f55_7 S, Wk_sI A rfl (Or.inl (by decide)), by rw [hI_nk (by decide)]; exact m5, by rw [hI_nk (by decide)]; exact m6, fun s => by rw [hI_ne (by decide), hI_ne (by decide), hI_ne (by decide)]; exact hT s, hI_eq⟩ (fun h q25 => ?_))
          obtain ⟨S, A, m5, m6, hT, m7⟩ := q25
          refine x_aload_n d51_99 rfl ?_
          refine x_aload_n d51_100 rfl ?_
          refine x_gfR d51_101 cl51 f7_25 (S.F.o rfl (by decide)) rfl (S.F.r rfl) ?_
          refine x_iload_n d51_104 rfl ?_
          refine x_VV d51_105 cl51 m7_79 kd173 tg173 po173 le173 (by decide) (S.F.o rfl (by decide)) (C173 (d := d + 1) (S.F.o rfl (by decide)) rfl rfl S.lb V (by omega) (by omega)) ?_
          refine x_cast d51_108 cl51 ct7_50 (Bi.ob (Ls.mem S.lb (i20).toNat (by omega))) ?_
          refine x_lconst (z := 1) d51_111 rfl ?_
          refine x_iload_n d51_112 rfl ?_
          refine x_lshl d51_113 ?_
          have hBb := (Ls.mem S.lb (i20).toNat (by omega))
          have hit0 : hI h (mB (i20).toNat) 1 = ((itF h0 mB (nB - (n + 1)) : Nat) : Int) := by unfold itF; rw [hnb2, ← A.i (DV_ge hBb.g)]; have := hBb.items; omega
          have ham0 : hI h (mB (i20).toNat) 2 = amF h0 mB (nB - (n + 1)) := by unfold amF; rw [hnb2, ← A.i (DV_ge hBb.g)]
          have hm0 := A.i (a := 55) (j := 0) rfl
          refine x_VU d51_114 cl51 m7_87 kd53 tg53 po53 le53 (by decide) (S.F.o rfl (by decide)) (C53 (k := nB - (n + 1)) (M := mxF h0) S A (TN h0 mB nB b n) hT (TN_r hBB (by omega) (by omega)) hBb (by omega) (by have := hBb.items; omega) (by unfold mxF; rw [(all_nat (n := hI h0 55 0) (by have := S.items; omega)).1]) hm0 m5 m6 m7 hit0 ham0 (by rw [hnb2]; exact lshl_i (by omega))) (fun h q114 => ?_)
          obtain ⟨S, A, hT, m0, m5, m6, m7⟩ := q114
          have H : SV h0 mB nB b h (i20 + -1) := ⟨n + 1, by omega, by rw [TN_s hc1]; exact hT, by rw [TN_s hc1, m7, ecv, hnb2]; rfl⟩
          refine x_iinc [some (vR _), some (vI _), some (vI _)] d51_117 rfl rfl ?_
          refine x_goto (t := 65) d51_120 rfl ?_
          exact ih20 (by omega) _ ⟨S, A, m5, m6, H⟩ (by omega)
    · exact x_ret d51_15 rt51 (hQ _ ⟨S, A, K, by omega, by omega⟩)
