/-! ===== A SHEET'S OWN CELLS ===== -/
theorem Hv_sh {h : Hp} {a k s : Nat} {v : Int} {mP mC mI mD mB : Nat → Nat} {nP nC nI nD nB : Nat} (S : Hv h mP mC mI mD mB nP nC nI nD nB) (hs : s < 6) (ha : 7 + 5 * s ≤ a ∧ a ≤ 7 + 5 * s + 4) (own : Sh (sI h a k v) (7 + 5 * s)) : Hv (sI h a k v) mP mC mI mD mB nP nC nI nD nB :=
  Hv_new S S.F (fun b j q => hI_ne (by
    unfold okB at q
    simp only [Bool.and_eq_true, Bool.not_eq_true', Bool.or_eq_false_iff, Bool.and_eq_false_iff, decide_eq_true_eq, decide_eq_false_iff_not, beq_eq_false_iff_ne, ne_eq] at q
    omega)) (fun s' hs' => by
    by_cases c : s' = s
    · rw [c]; exact own
    · exact Sh_sI (S.sh s' hs') (by omega)) (Ls_sI S.lp (Or.inl (by omega)) (fun p q => Pc_sI q (by omega))) S.np (Ls_sI S.lc (Or.inl (by omega)) (fun p q => Cv_sI q (by omega))) S.nc (Ls_sI S.li (Or.inl (by omega)) (fun p q => Tm_sI q (by omega))) S.ni (Ls_sI S.ld (Or.inl (by omega)) (fun p q => Tm_sI q (by omega))) S.nd (Ls_sI S.lb (Or.inl (by omega)) (fun p q => Bi_sI q (by omega))) S.nb (Nat.le_refl _) (Nat.le_refl _)
theorem Hv_sf1 {h : Hp} {s : Nat} {v : Int} {mP mC mI mD mB : Nat → Nat} {nP nC nI nD nB : Nat} (S : Hv h mP mC mI mD mB nP nC nI nD nB) (hs : s < 6) (hv : 0 ≤ v ∧ v ≤ 3) : Hv (sI h (7 + 5 * s) 1 v) mP mC mI mD mB nP nC nI nD nB := by
  have R := S.sh s hs
  exact Hv_sh S hs (by omega) (Sh.mk (h := sI h (7 + 5 * s) 1 v) (p := 7 + 5 * s) R.g R.n R.t R.f R.t1 R.l1 R.r1 R.t2 R.l2 R.r2 R.t3 R.l3 R.r3 R.t4 R.l4 R.r4 (by rw [hI_eq]; exact hv) (by rw [hI_nk (by decide)]; exact R.platings) (by rw [hI_nk (by decide)]; exact R.printings) (Rg_ne R.places (by omega)))
theorem Hv_sf2 {h : Hp} {s : Nat} {v : Int} {mP mC mI mD mB : Nat → Nat} {nP nC nI nD nB : Nat} (S : Hv h mP mC mI mD mB nP nC nI nD nB) (hs : s < 6) (hv : 0 ≤ v ∧ v ≤ 1000000) : Hv (sI h (7 + 5 * s) 2 v) mP mC mI mD mB nP nC nI nD nB := by
  have R := S.sh s hs
  exact Hv_sh S hs (by omega) (Sh.mk (h := sI h (7 + 5 * s) 2 v) (p := 7 + 5 * s) R.g R.n R.t R.f R.t1 R.l1 R.r1 R.t2 R.l2 R.r2 R.t3 R.l3 R.r3 R.t4 R.l4 R.r4 (by rw [hI_nk (by decide)]; exact R.size) (by rw [hI_eq]; exact hv) (by rw [hI_nk (by decide)]; exact R.printings) (Rg_ne R.places (by omega)))
theorem Hv_sf3 {h : Hp} {s : Nat} {v : Int} {mP mC mI mD mB : Nat → Nat} {nP nC nI nD nB : Nat} (S : Hv h mP mC mI mD mB nP nC nI nD nB) (hs : s < 6) (hv : 0 ≤ v ∧ v ≤ 255) : Hv (sI h (7 + 5 * s) 3 v) mP mC mI mD mB nP nC nI nD nB := by
  have R := S.sh s hs
  exact Hv_sh S hs (by omega) (Sh.mk (h := sI h (7 + 5 * s) 3 v) (p := 7 + 5 * s) R.g R.n R.t R.f R.t1 R.l1 R.r1 R.t2 R.l2 R.r2 R.t3 R.l3 R.r3 R.t4 R.l4 R.r4 (by rw [hI_nk (by decide)]; exact R.size) (by rw [hI_nk (by decide)]; exact R.platings) (by rw [hI_eq]; exact hv) (Rg_ne R.places (by omega)))
theorem Hv_sf4 {h : Hp} {s : Nat} {v : Int} {mP mC mI mD mB : Nat → Nat} {nP nC nI nD nB : Nat} (S : Hv h mP mC mI mD mB nP nC nI nD nB) (hs : s < 6) : Hv (sI h (7 + 5 * s) 4 v) mP mC mI mD mB nP nC nI nD nB := by
  have R := S.sh s hs
  exact Hv_sh S hs (by omega) (Sh.mk (h := sI h (7 + 5 * s) 4 v) (p := 7 + 5 * s) R.g R.n R.t R.f R.t1 R.l1 R.r1 R.t2 R.l2 R.r2 R.t3 R.l3 R.r3 R.t4 R.l4 R.r4 (by rw [hI_nk (by decide)]; exact R.size) (by rw [hI_nk (by decide)]; exact R.platings) (by rw [hI_nk (by decide)]; exact R.printings) (Rg_ne R.places (by omega)))
theorem Hv_sr2 {h : Hp} {s j : Nat} {v : Int} {mP mC mI mD mB : Nat → Nat} {nP nC nI nD nB : Nat} (S : Hv h mP mC mI mD mB nP nC nI nD nB) (hs : s < 6) (hv : 0 ≤ v ∧ v ≤ 16777215) : Hv (sI h (7 + 5 * s + 2) j v) mP mC mI mD mB nP nC nI nD nB := by
  have R := S.sh s hs
  exact Hv_sh S hs (by omega) (Sh.mk (h := sI h (7 + 5 * s + 2) j v) (p := 7 + 5 * s) R.g R.n R.t R.f R.t1 R.l1 R.r1 R.t2 R.l2 R.r2 R.t3 R.l3 R.r3 R.t4 R.l4 R.r4 (by rw [hI_ne (by omega)]; exact R.size) (by rw [hI_ne (by omega)]; exact R.platings) (by rw [hI_ne (by omega)]; exact R.printings) (Rg_eq R.places hv))
theorem Hv_sr3 {h : Hp} {s j : Nat} {v : Int} {mP mC mI mD mB : Nat → Nat} {nP nC nI nD nB : Nat} (S : Hv h mP mC mI mD mB nP nC nI nD nB) (hs : s < 6) : Hv (sI h (7 + 5 * s + 3) j v) mP mC mI mD mB nP nC nI nD nB := by
  have R := S.sh s hs
  exact Hv_sh S hs (by omega) (Sh.mk (h := sI h (7 + 5 * s + 3) j v) (p := 7 + 5 * s) R.g R.n R.t R.f R.t1 R.l1 R.r1 R.t2 R.l2 R.r2 R.t3 R.l3 R.r3 R.t4 R.l4 R.r4 (by rw [hI_ne (by omega)]; exact R.size) (by rw [hI_ne (by omega)]; exact R.platings) (by rw [hI_ne (by omega)]; exact R.printings) (Rg_ne R.places (by omega)))
theorem Hv_sr4 {h : Hp} {s j : Nat} {v : Int} {mP mC mI mD mB : Nat → Nat} {nP nC nI nD nB : Nat} (S : Hv h mP mC mI mD mB nP nC nI nD nB) (hs : s < 6) : Hv (sI h (7 + 5 * s + 4) j v) mP mC mI mD mB nP nC nI nD nB := by
  have R := S.sh s hs
  exact Hv_sh S hs (by omega) (Sh.mk (h := sI h (7 + 5 * s + 4) j v) (p := 7 + 5 * s) R.g R.n R.t R.f R.t1 R.l1 R.r1 R.t2 R.l2 R.r2 R.t3 R.l3 R.r3 R.t4 R.l4 R.r4 (by rw [hI_ne (by omega)]; exact R.size) (by rw [hI_ne (by omega)]; exact R.platings) (by rw [hI_ne (by omega)]; exact R.printings) (Rg_ne R.places (by omega)))
/-! ===== PLATINGS ARE LOOKED FOR ===== -/
def Wsh (s a j : Nat) : Prop := (a = 7 + 5 * s ∧ (j = 2 ∨ j = 4)) ∨ a = 7 + 5 * s + 2 ∨ a = 7 + 5 * s + 3 ∨ a = 7 + 5 * s + 4
/-- the same but for what is known of the sheet s -/
def Sb (s : Nat) (h g : Hp) : Prop := hN g = hN h ∧ hC g = hC h ∧ hS g = hS h ∧ hT g = hT h ∧ hL g = hL h ∧ hR g = hR h ∧ ∀ a j, ¬ Wsh s a j → hI g a j = hI h a j
theorem Sb_r {s : Nat} {h : Hp} : Sb s h h := ⟨rfl, rfl, rfl, rfl, rfl, rfl, fun _ _ _ => rfl⟩
theorem Sb_t {s : Nat} {h g f : Hp} (A : Sb s h g) (B : Sb s g f) : Sb s h f := ⟨B.1.trans A.1, B.2.1.trans A.2.1, B.2.2.1.trans A.2.2.1, B.2.2.2.1.trans A.2.2.2.1, B.2.2.2.2.1.trans A.2.2.2.2.1, B.2.2.2.2.2.1.trans A.2.2.2.2.2.1, fun a j q => (B.2.2.2.2.2.2 a j q).trans (A.2.2.2.2.2.2 a j q)⟩
theorem Sb_w {s : Nat} {h g : Hp} {a k : Nat} {v : Int} (A : Sb s h g) (w : Wsh s a k) : Sb s h (sI g a k v) := by
  refine Sb_t A ⟨rfl, rfl, rfl, rfl, rfl, rfl, fun b j q => ?_⟩
  rw [hI_sI, if_neg]
  rintro ⟨rfl, rfl⟩
  exact q w
def hb (s x : Int) : Prop := 0 ≤ x ∧ x < 24 ∧ tb s x = 1
theorem hb_or {a b x : Int} (q : hb (o32 fior a b) x) : hb a x ∨ hb b x := by
  rcases (tb_or (by have := q.1; have := q.2.1; omega)).mp q.2.2 with w | w
  · exact Or.inl ⟨q.1, q.2.1, w⟩
  · exact Or.inr ⟨q.1, q.2.1, w⟩
theorem hb_ol {a b x : Int} (q : hb a x) : hb (o32 fior a b) x := ⟨q.1, q.2.1, (tb_or (by have := q.1; have := q.2.1; omega)).mpr (Or.inl q.2.2)⟩
theorem hb_oR {a b x : Int} (q : hb b x) : hb (o32 fior a b) x := ⟨q.1, q.2.1, (tb_or (by have := q.1; have := q.2.1; omega)).mpr (Or.inr q.2.2)⟩
/-- what placing from k on does: h before, g after, r answered -/
def Pf (s n : Nat) (fit : Nat → Int) (k : Nat) (tk U : Int) (h g : Hp) (r : Int) : Prop :=
  Sb s h g ∧ (r = 0 ∨ r = 1) ∧ (hI h (7 + 5 * s) 2 ≤ hI g (7 + 5 * s) 2 ∧ hI g (7 + 5 * s) 2 ≤ hI h (7 + 5 * s) 2 + U)
  ∧ (r = 0 → hI g (7 + 5 * s) 2 = hI h (7 + 5 * s) 2 ∧ hI g (7 + 5 * s) 4 = hI h (7 + 5 * s) 4 ∧ ∀ q, q < n → hI g (7 + 5 * s + 2) q = hI h (7 + 5 * s + 2) q)
  ∧ (r = 1 → hI h (7 + 5 * s) 2 < hI g (7 + 5 * s) 2 ∧ ∀ q, k ≤ q → q < n → ∃ x, hb (hI g (7 + 5 * s + 2) q) x)
  ∧ (∀ q, q < n → ∀ x, hb (hI h (7 + 5 * s + 2) q) x → hb (hI g (7 + 5 * s + 2) q) x)
  ∧ (∀ q, q < n → ∀ x, hb (hI g (7 + 5 * s + 2) q) x → hb (hI h (7 + 5 * s + 2) q) x ∨ hb (fit q) x)
  ∧ (∀ c : Int, 0 ≤ c → c < 24 → tb (hI g (7 + 5 * s) 4) c ≠ 1 → tb (hI h (7 + 5 * s) 4) c ≠ 1 ∨ (tb tk c ≠ 1 ∧ ∀ q, k ≤ q → q < n → ∃ x, x ≠ c ∧ hb (hI g (7 + 5 * s + 2) q) x))
section PF
variable {s n k : Nat} {fit : Nat → Int} {tk tk' U U1 U2 : Int} {h0 h g : Hp} {r r1 : Int}
theorem Pf_0 : Pf s n fit k tk 0 h h 0 := ⟨Sb_r, Or.inl rfl, ⟨Int.le_refl _, by omega⟩, fun _ => ⟨rfl, rfl, fun _ _ => rfl⟩, fun q => (by cases q), fun _ _ _ q => q, fun _ _ _ q => Or.inl q, fun _ _ _ q => Or.inl q⟩
theorem Pf_U (A : Pf s n fit k tk U1 h g r) (q : U1 ≤ U2) : Pf s n fit k tk U2 h g r := ⟨A.1, A.2.1, ⟨A.2.2.1.1, by have := A.2.2.1.2; omega⟩, A.2.2.2⟩
/-- the same places, platings, covered -/
theorem Pf_c (A : Pf s n fit k tk U h0 h r) (B : Sb s h g) (e2 : hI g (7 + 5 * s) 2 = hI h (7 + 5 * s) 2) (e4 : hI g (7 + 5 * s) 4 = hI h (7 + 5 * s) 4) (eq : ∀ q, q < n → hI g (7 + 5 * s + 2) q = hI h (7 + 5 * s + 2) q) : Pf s n fit k tk U h0 g r := by
  obtain ⟨a1, a2, a3, a4, a5, a6, a7, a8⟩ := A
  refine ⟨Sb_t a1 B, a2, by rw [e2]; exact a3, fun q => ?_, fun q => ?_, fun q hq x w => ?_, fun q hq x w => ?_, fun c c1 c2 c3 => ?_⟩
  · obtain ⟨b1, b2, b3⟩ := a4 q
    exact ⟨e2.trans b1, e4.trans b2, fun q hq => (eq q hq).trans (b3 q hq)⟩
  · obtain ⟨b1, b2⟩ := a5 q
    exact ⟨by rw [e2]; exact b1, fun q h1 h2 => by rw [eq q h2]; exact b2 q h1 h2⟩
  · rw [eq q hq]; exact a6 q hq x w
  · rw [eq q hq] at w; exact a7 q hq x w
  · rw [e4] at c3
    rcases a8 c c1 c2 c3 with w | ⟨w1, w2⟩
    · exact Or.inl w
    · exact Or.inr ⟨w1, fun q h1 h2 => by rw [eq q h2]; exact w2 q h1 h2⟩
/-- a position was tried in vain -/
theorem Pf_n (A : Pf s n fit k tk U1 h0 h r) (B : Pf s n fit (k + 1) tk' U2 h g 0) (hU : 0 ≤ U2) : Pf s n fit k tk (U1 + U2) h0 g r := by
  obtain ⟨b1, b2, b3⟩ := B.2.2.2.1 rfl
  exact Pf_U (Pf_c A B.1 b1 b2 b3) (by omega)
/-- a position was found -/
theorem Pf_y {i v : Int} (A : Pf s n fit k tk U1 h0 h r) (B : Pf s n fit (k + 1) tk' U2 h g 1) (hk : k < n) (hi : 0 ≤ i ∧ i < 24) (ev : v = o32 fior (hI g (7 + 5 * s + 2) k) (o32 fshl 1 i)) (hf : tb (fit k) i = 1) (ht : ∀ c : Int, 0 ≤ c → c < 24 → tb tk' c ≠ 1 → tb tk c ≠ 1 ∧ i ≠ c) : Pf s n fit k tk (U1 + U2) h0 (sI g (7 + 5 * s + 2) k v) 1 := by
  obtain ⟨a1, a2, a3, a4, a5, a6, a7, a8⟩ := A
  obtain ⟨b1, b2, b3, b4, b5, b6, b7, b8⟩ := B
  obtain ⟨b5a, b5b⟩ := b5 rfl
  have e2 : hI (sI g (7 + 5 * s + 2) k v) (7 + 5 * s) 2 = hI g (7 + 5 * s) 2 := hI_ne (by omega)
  have e4 : hI (sI g (7 + 5 * s + 2) k v) (7 + 5 * s) 4 = hI g (7 + 5 * s) 4 := hI_ne (by omega)
  have ek : hI (sI g (7 + 5 * s + 2) k v) (7 + 5 * s + 2) k = v := hI_eq
  have en : ∀ q, q ≠ k → hI (sI g (7 + 5 * s + 2) k v) (7 + 5 * s + 2) q = hI g (7 + 5 * s + 2) q := fun q w => hI_nk w
  have up : ∀ q x, hb (hI g (7 + 5 * s + 2) q) x → hb (hI (sI g (7 + 5 * s + 2) k v) (7 + 5 * s + 2) q) x := fun q x w => by
    by_cases c : q = k
    · subst c; rw [ek, ev]; exact hb_ol w
    · rw [en q c]; exact w
  have own : hb (hI (sI g (7 + 5 * s + 2) k v) (7 + 5 * s + 2) k) i := by
    rw [ek, ev]; exact hb_oR ⟨hi.1, hi.2, (tb_one (by omega) (by omega)).mpr rfl⟩
  refine ⟨Sb_w (Sb_t a1 b1) (Or.inr (Or.inl rfl)), Or.inr rfl, by rw [e2]; omega, fun q => (by cases q), fun _ => ⟨by rw [e2]; omega, fun q h1 h2 => ?_⟩, fun q hq x w => up q x (b6 q hq x (a6 q hq x w)), fun q hq x w => ?_, fun c c1 c2 c3 => ?_⟩
  · by_cases c : q = k
    · subst c; exact ⟨i, own⟩
    · obtain ⟨x, w⟩ := b5b q (by omega) h2
      exact ⟨x, up q x w⟩
  · have key : hb (hI g (7 + 5 * s + 2) q) x → hb (hI h0 (7 + 5 * s + 2) q) x ∨ hb (fit q) x := fun w => by
      rcases b7 q hq x w with w | w
      · exact a7 q hq x w
      · exact Or.inr w
    by_cases c : q = k
    · subst c
      rw [ek, ev] at w
      rcases hb_or w with w | w
      · exact key w
      · have : x = i := (tb_one (by omega) (by have := w.1; have := w.2.1; omega)).mp w.2.2
        exact Or.inr ⟨w.1, w.2.1, by rw [this]; exact hf⟩
    · rw [en q c] at w; exact key w
  · rw [e4] at c3
    rcases b8 c c1 c2 c3 with w | ⟨w1, w2⟩
    · rcases a8 c c1 c2 w with w | ⟨w1, w2⟩
      · exact Or.inl w
      · refine Or.inr ⟨w1, fun q h1 h2 => ?_⟩
        obtain ⟨x, x1, x2⟩ := w2 q h1 h2
        exact ⟨x, x1, up q x (b6 q h2 x x2)⟩
    · obtain ⟨t1, t2⟩ := ht c c1 c2 w1
      refine Or.inr ⟨t1, fun q h1 h2 => ?_⟩
      by_cases c9 : q = k
      · subst c9; exact ⟨i, t2, own⟩
      · obtain ⟨x, x1, x2⟩ := w2 q (by omega) h2
        exact ⟨x, x1, up q x x2⟩
/-- the last piece is placed -/
theorem Pf_l {f all bc : Int} (hk : k + 1 = n) (B : Sb s h g) (hbc : 1 ≤ bc ∧ bc ≤ 63) (e2 : hI g (7 + 5 * s) 2 = hI h (7 + 5 * s) 2 + bc) (e4 : hI g (7 + 5 * s) 4 = o32 fand (hI h (7 + 5 * s) 4) (o32 fior tk all)) (ek : hI g (7 + 5 * s + 2) k = o32 fior (hI h (7 + 5 * s + 2) k) f) (en : ∀ q, q ≠ k → hI g (7 + 5 * s + 2) q = hI h (7 + 5 * s + 2) q) (ff : ∀ x, hb f x → hb (fit k) x) (f0 : ∃ x, hb f x) (ha : ∀ c : Int, 0 ≤ c → c < 24 → tb all c ≠ 1 → ∃ y : Int, 0 ≤ y ∧ y < 24 ∧ tb f y = 1 ∧ y ≠ c) : Pf s n fit k tk 63 h g 1 := by
  refine ⟨B, Or.inr rfl, by omega, fun q => (by cases q), fun _ => ⟨by omega, fun q h1 h2 => ?_⟩, fun q hq x w => ?_, fun q hq x w => ?_, fun c c1 c2 c3 => ?_⟩
  · obtain ⟨x, w⟩ := f0
    rw [show q = k by omega, ek]; exact ⟨x, hb_oR w⟩
  · by_cases c : q = k
    · rw [c] at w ⊢; rw [ek]; exact hb_ol w
    · rw [en q c]; exact w
  · by_cases c : q = k
    · rw [c] at w ⊢; rw [ek] at w
      rcases hb_or w with w | w
      · exact Or.inl w
      · exact Or.inr (ff x w)
    · rw [en q c] at w; exact Or.inl w
  · rw [e4] at c3
    by_cases c4 : tb (hI h (7 + 5 * s) 4) c = 1
    · have c5 : tb (o32 fior tk all) c ≠ 1 := fun w => c3 ((tb_and (by omega)).mpr ⟨c4, w⟩)
      have c6 : tb tk c ≠ 1 := fun w => c5 ((tb_or (by omega)).mpr (Or.inl w))
      have c7 : tb all c ≠ 1 := fun w => c5 ((tb_or (by omega)).mpr (Or.inr w))
      refine Or.inr ⟨c6, fun q h1 h2 => ?_⟩
      obtain ⟨y, y1, y2, y3, y4⟩ := ha c c1 c2 c7
      rw [show q = k by omega, ek]
      exact ⟨y, y4, hb_oR ⟨y1, y2, y3⟩⟩
    · exact Or.inl c4
end PF
/-- what the search stands on -/
def BF (s n : Nat) (mP : Nat → Nat) (nP : Nat) (ix : Nat → Nat) (fit : Nat → Int) (pr : Int) (h : Hp) : Prop := hI h (7 + 5 * s) 1 = n ∧ (∀ q, q < n → ix q < nP ∧ hR h (7 + 5 * s + 1) q = some (mP (ix q)) ∧ hI h (mP (ix q) + 3) pr.toNat = fit q)
theorem BF_Sb {s n : Nat} {ix : Nat → Nat} {fit : Nat → Int} {pr : Int} {h g : Hp} {mP mC mI mD mB : Nat → Nat} {nP nC nI nD nB : Nat} (S : Hv h mP mC mI mD mB nP nC nI nD nB) (hs : s < 6) (B : BF s n mP nP ix fit pr h) (A : Sb s h g) : BF s n mP nP ix fit pr g := by
  obtain ⟨a1, a2, a3, a4, a5, a6, a7⟩ := A
  refine ⟨by rw [a7 _ _ (by unfold Wsh; omega)]; exact B.1, fun q hq => ?_⟩
  obtain ⟨b1, b2, b3⟩ := B.2 q hq
  exact ⟨b1, by rw [a6]; exact b2, by rw [a7 _ _ (by have := (Ls.mem S.lp (ix q) b1).g; unfold Wsh; omega)]; exact b3⟩
