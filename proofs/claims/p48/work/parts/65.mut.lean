/-! ===== THE WHOLE INVARIANT ===== -/
/-- how many PIECES the first SHEETS have -/
def szH (h : Hp) : Nat → Int
  | 0 => 0
  | n + 1 => szH h n + hI h (7 + 5 * n) 1
theorem szH_up (h : Hp) (i : Int) (q : 0 ≤ i) : szH h (i + 1).toNat = szH h i.toNat + hI h (7 + 5 * i.toNat) 1 := by
  rw [show (i + 1).toNat = i.toNat + 1 by omega]; rfl
/-- the PIECES of the SHEETS -/
def Mb (h : Hp) (mP : Nat → Nat) (nP : Nat) : Prop := (∀ k, k < nP → hI h (mP k) 5 < hI h (7 + 5 * (hI h (mP k) 3).toNat) 1 ∧ hR h (7 + 5 * (hI h (mP k) 3).toNat + 1) (hI h (mP k) 5).toNat = some (mP k)) ∧ (∀ s, s < 6 → ∀ q : Nat, (q : Int) < hI h (7 + 5 * s) 1 → ∃ k, k < nP ∧ hR h (7 + 5 * s + 1) q = some (mP k) ∧ hI h (mP k) 3 = s ∧ hI h (mP k) 5 = q) ∧ szH h 6 = nP
/-- the empty list's row, and the script -/
def B1 (h : Hp) : Prop := hL h 0 = 0 ∧ hT h 1 = 100 ∧ hL h 1 ≤ 260
theorem B1_t {h g : Hp} (a : hL g 0 = hL h 0) (b : hT g 1 = hT h 1) (c : hL g 1 = hL h 1) (q : B1 h) : B1 g := ⟨a.trans q.1, b.trans q.2.1, by rw [c]; exact q.2.2⟩
/-- no two lists have one row -/
def LD (h : Hp) : Prop := B1 h ∧ (∀ l e, (l = 5 ∨ l = 44 ∨ l = 45 ∨ l = 46 ∨ l = 59) → hR h l 1 = some e → hL h e ≤ 100) ∧ ∀ l l' e, (l = 5 ∨ l = 44 ∨ l = 45 ∨ l = 46 ∨ l = 59) → (l' = 5 ∨ l' = 44 ∨ l' = 45 ∨ l' = 46 ∨ l' = 59) → l ≠ l' → hR h l 1 = some e → hR h l' 1 = some e → e = 0
def EX0 (h : Hp) (mP mI : Nat → Nat) (nP nI : Nat) : Prop := (∀ k, k < nI → 1 ≤ hI h (mI k) 0) ∧ Mb h mP nP ∧ Si h mP nP ∧ LD h
/-- how many standards are told -/
def tcS (h : Hp) : Int := hI h 64 0 + hI h 64 1 + hI h 64 2 + hI h 64 3 + hI h 64 4 + hI h 64 5 + hI h 64 6 + hI h 64 7
def TC (h : Hp) : Prop := hI h 63 0 = tcS h
def EX (h : Hp) (mP mI mB : Nat → Nat) (nP nI nB : Nat) : Prop := EX0 h mP mI nP nI ∧ CI h mB nB ∧ TC h
def IV (h : Hp) (mP mC mI mD mB : Nat → Nat) (nP nC nI nD nB : Nat) : Prop := Hv h mP mC mI mD mB nP nC nI nD nB ∧ EX h mP mI mB nP nI nB
/-- after a call: the invariant, few cells made -/
def MR (h g : Hp) : Prop := ∃ (mP mC mI mD mB : Nat → Nat) (nP nC nI nD nB : Nat), IV g mP mC mI mD mB nP nC nI nD nB ∧ hC g ≤ hC h + 20 ∧ hS g ≤ hS h + 300
theorem MR_of {h g : Hp} {mP mC mI mD mB : Nat → Nat} {nP nC nI nD nB : Nat} (K : IV g mP mC mI mD mB nP nC nI nD nB) (c : hC g ≤ hC h + 20) (s : hS g ≤ hS h + 300) : MR h g := ⟨mP, mC, mI, mD, mB, nP, nC, nI, nD, nB, K, c, s⟩
def okB (a : Nat) : Bool := decide (a < 69) && !(decide (7 ≤ a) && decide (a ≤ 36)) && !(a == 5 || a == 44 || a == 45 || a == 46 || a == 59)
theorem Hv_new {h g : Hp} {mP mC mI mD mB : Nat → Nat} {nP nC nI nD nB : Nat} {mP' mC' mI' mD' mB' : Nat → Nat} {nP' nC' nI' nD' nB' : Nat} (S : Hv h mP mC mI mD mB nP nC nI nD nB) (F : Fx g) (e : ∀ b j, okB b = true → hI g b j = hI h b j) (hs : ∀ s, s < 6 → Sh g (7 + 5 * s)) (lp : Ls Pc g 5 mP' nP') (qnp : nP' ≤ 12) (lc : Ls Cv g 46 mC' nC') (qnc : nC' ≤ 12) (li : Ls Tm g 44 mI' nI') (qni : nI' ≤ 10) (ld : Ls Tm g 45 mD' nD') (qnd : nD' = 1) (lb : Ls Bi g 59 mB' nB') (qnb : nB' ≤ 40) (lep : nP ≤ nP') (lec : nC ≤ nC') : Hv g mP' mC' mI' mD' mB' nP' nC' nI' nD' nB' := Hv.mk (h := g) F ⟨by rw [e 3 0 (by decide)]; exact S.pl.1, by rw [e 3 1 (by decide)]; exact S.pl.2.1, by rw [e 3 2 (by decide)]; exact S.pl.2.2.1, fun j => by rw [e 4 j (by decide)]; exact S.pl.2.2.2 j⟩ lp qnp lc qnc li qni ld qnd lb qnb (by rw [e 2 11 (by decide)]; exact S.today) hs (by rw [e 37 2 (by decide)]; exact S.rates) (by rw [e 47 0 (by decide)]; exact S.hands) (by rw [e 49 1 (by decide)]; exact S.opinions) (by rw [e 55 0 (by decide)]; exact S.items) (by rw [e 63 0 (by decide)]; exact S.count) (fun j => by rw [e 38 j (by decide)]; exact S.a38 j) (fun j => by rw [e 39 j (by decide)]; exact S.a39 j) (fun j => by rw [e 40 j (by decide)]; exact S.a40 j) (fun j => by rw [e 41 j (by decide)]; exact S.a41 j) (fun j => by rw [e 42 j (by decide)]; exact S.a42 j) (fun j => by rw [e 43 j (by decide)]; exact S.a43 j) (fun j => by rw [e 48 j (by decide)]; exact S.a48 j) (fun j => by rw [e 50 j (by decide)]; exact S.a50 j) (fun j => by rw [e 51 j (by decide)]; exact S.a51 j) (fun j => by rw [e 52 j (by decide)]; exact S.a52 j) (fun j => by rw [e 53 j (by decide)]; exact S.a53 j) (fun j => by rw [e 54 j (by decide)]; exact S.a54 j) (fun j => by rw [e 56 j (by decide)]; exact S.a56 j) (fun j => by rw [e 57 j (by decide)]; exact S.a57 j) (fun j => by rw [e 58 j (by decide)]; exact S.a58 j) (fun j => by rw [e 64 j (by decide)]; exact S.a64 j) (fun j => by rw [e 65 j (by decide)]; exact S.a65 j) (fun i hi => by rw [e 55 0 (by decide)] at hi; rw [e 56 i (by decide), e 57 i (by decide)]; exact ⟨fun w => by have := (S.it i hi).1 w; omega, fun w => by have := (S.it i hi).2 w; omega⟩)
theorem Pc_w {h : Hp} {a k p : Nat} {v : Int} (S : Pc h p) (q : ∀ m, m ≤ 6 → p + m ≠ a) : Pc (sI h a k v) p := Pc.mk (h := sI h a k v) (p := p) S.g S.n S.t S.t1 S.l1 S.r1 S.t2 S.l2 S.r2 S.t3 S.l3 S.r3 S.t4 S.l4 S.r4 S.t5 S.l5 S.r5 S.t6 S.l6 S.r6 (by rw [hI_ne (show p ≠ a from q 0 (by decide))]; exact S.number) (by rw [hI_ne (show p ≠ a from q 0 (by decide))]; exact S.wide) (by rw [hI_ne (show p ≠ a from q 0 (by decide))]; exact S.high) (by rw [hI_ne (show p ≠ a from q 0 (by decide))]; exact S.sheet) (by rw [hI_ne (show p ≠ a from q 0 (by decide))]; exact S.isTop) (by rw [hI_ne (show p ≠ a from q 0 (by decide))]; exact S.place) (by rw [hI_ne (show p ≠ a from q 0 (by decide))]; exact S.plateWide) (by rw [hI_ne (show p ≠ a from q 0 (by decide))]; exact S.isTruthTold) (by rw [hI_ne (show p ≠ a from q 0 (by decide))]; exact S.hasShade) (by rw [hI_ne (show p ≠ a from q 0 (by decide))]; exact S.light) (Rg_ne S.seen (q 1 (by decide))) (Rg_ne S.isClear (q 2 (by decide))) (Rg_ne S.fits (q 3 (by decide))) (Rg_ne S.gauges (q 4 (by decide))) (Rg_ne S.marks (q 5 (by decide))) (Rg_ne S.shade (q 6 (by decide)))
theorem Cv_w {h : Hp} {a k p : Nat} {v : Int} (S : Cv h p) (q : ∀ m, m ≤ 1 → p + m ≠ a) : Cv (sI h a k v) p := Cv.mk (h := sI h a k v) (p := p) S.g S.n S.t S.t1 S.l1 S.r1 (by rw [hI_ne (show p ≠ a from q 0 (by decide))]; exact S.from) (by rw [hI_ne (show p ≠ a from q 0 (by decide))]; exact S.to) (by rw [hI_ne (show p ≠ a from q 0 (by decide))]; exact S.weight) (by rw [hI_ne (show p ≠ a from q 0 (by decide))]; exact S.die) (by rw [hI_ne (show p ≠ a from q 0 (by decide))]; exact S.day) (by rw [hI_ne (show p ≠ a from q 0 (by decide))]; exact S.arrived) (by rw [hI_ne (show p ≠ a from q 0 (by decide))]; exact S.isTaxed) (Rg_ne S.stamps (q 1 (by decide)))
theorem Tm_w {h : Hp} {a k p : Nat} {v : Int} (S : Tm h p) (q : ∀ m, m ≤ 0 → p + m ≠ a) : Tm (sI h a k v) p := Tm.mk (h := sI h a k v) (p := p) S.g S.n S.t (by rw [hI_ne (show p ≠ a from q 0 (by decide))]; exact S.what) (by rw [hI_ne (show p ≠ a from q 0 (by decide))]; exact S.frm) (by rw [hI_ne (show p ≠ a from q 0 (by decide))]; exact S.to)
theorem Bi_w {h : Hp} {a k p : Nat} {v : Int} (S : Bi h p) (q : ∀ m, m ≤ 0 → p + m ≠ a) : Bi (sI h a k v) p := Bi.mk (h := sI h a k v) (p := p) S.g S.n S.t (by rw [hI_ne (show p ≠ a from q 0 (by decide))]; exact S.bidder) (by rw [hI_ne (show p ≠ a from q 0 (by decide))]; exact S.items) (by rw [hI_ne (show p ≠ a from q 0 (by decide))]; exact S.amount)
theorem Pc.tg {h : Hp} {p m : Nat} (S : Pc h p) (q : m ≤ 6) : (m = 0 → hT h (p + m) = 4) ∧ (m ≠ 0 → 100 ≤ hT h (p + m)) := by
  refine ⟨fun e => by rw [e]; exact S.t, fun e => ?_⟩
  rcases (show m = 1 ∨ m = 2 ∨ m = 3 ∨ m = 4 ∨ m = 5 ∨ m = 6 by omega) with w | w | w | w | w | w <;> rw [w]
  · rw [S.t1]; omega
  · rw [S.t2]; omega
  · rw [S.t3]; omega
  · rw [S.t4]; omega
  · rw [S.t5]; omega
  · rw [S.t6]; omega
theorem Cv.tg {h : Hp} {p m : Nat} (S : Cv h p) (q : m ≤ 1) : (m = 0 → hT h (p + m) = 1) ∧ (m ≠ 0 → 100 ≤ hT h (p + m)) := by
  refine ⟨fun e => by rw [e]; exact S.t, fun e => ?_⟩
  rw [show m = 1 by omega, S.t1]; omega
theorem Pc_ne {h : Hp} {p q m k : Nat} (S : Pc h p) (R : Pc h q) (hn : q ≠ p) (hm : m ≤ 6) (hk : k ≤ 6) : q + m ≠ p + k := by
  intro e
  rcases Nat.lt_or_ge p q with w | w
  · have t := (S.tg (m := q - p) (by omega)).2 (by omega)
    rw [show p + (q - p) = q by omega, R.t] at t; omega
  · have t := (R.tg (m := p - q) (by omega)).2 (by omega)
    rw [show q + (p - q) = p by omega, S.t] at t; omega
theorem Cv_ne {h : Hp} {p q m k : Nat} (S : Cv h p) (R : Cv h q) (hn : q ≠ p) (hm : m ≤ 1) (hk : k ≤ 1) : q + m ≠ p + k := by
  intro e
  rcases Nat.lt_or_ge p q with w | w
  · have t := (S.tg (m := q - p) (by omega)).2 (by omega)
    rw [show p + (q - p) = q by omega, R.t] at t; omega
  · have t := (R.tg (m := p - q) (by omega)).2 (by omega)
    rw [show q + (p - q) = p by omega, S.t] at t; omega
theorem CvPc_ne {h : Hp} {p q m k : Nat} (S : Pc h p) (R : Cv h q) (hm : m ≤ 1) (hk : k ≤ 6) : q + m ≠ p + k := by
  intro e
  by_cases c : p ≤ q
  · by_cases w : q = p
    · have t := S.t
      rw [← w, R.t] at t; omega
    · have t := (S.tg (m := q - p) (by omega)).2 (by omega)
      rw [show p + (q - p) = q by omega, R.t] at t; omega
  · have t := (R.tg (m := p - q) (by omega)).2 (by omega)
    rw [show q + (p - q) = p by omega, S.t] at t; omega
theorem TmPc_ne {h : Hp} {p q m k : Nat} (S : Pc h p) (R : Tm h q) (hm : m ≤ 0) (hk : k ≤ 6) : q + m ≠ p + k := by
  intro e
  have t := S.tg (m := k) hk
  rw [← e, show q + m = q by omega, R.t] at t; omega
theorem BiPc_ne {h : Hp} {p q m k : Nat} (S : Pc h p) (R : Bi h q) (hm : m ≤ 0) (hk : k ≤ 6) : q + m ≠ p + k := by
  intro e
  have t := S.tg (m := k) hk
  rw [← e, show q + m = q by omega, R.t] at t; omega
theorem TmCv_ne {h : Hp} {p q m k : Nat} (S : Cv h p) (R : Tm h q) (hm : m ≤ 0) (hk : k ≤ 1) : q + m ≠ p + k := by
  intro e
  have t := S.tg (m := k) hk
  rw [← e, show q + m = q by omega, R.t] at t; omega
theorem BiCv_ne {h : Hp} {p q m k : Nat} (S : Cv h p) (R : Bi h q) (hm : m ≤ 0) (hk : k ≤ 1) : q + m ≠ p + k := by
  intro e
  have t := S.tg (m := k) hk
  rw [← e, show q + m = q by omega, R.t] at t; omega
theorem okB_lt {b : Nat} (q : okB b = true) : b < 69 := by
  unfold okB at q
  simp only [Bool.and_eq_true, decide_eq_true_eq] at q
  exact q.1.1
theorem Hv_w {h : Hp} {a k : Nat} {v : Int} {mP mC mI mD mB : Nat → Nat} {nP nC nI nD nB : Nat} (S : Hv h mP mC mI mD mB nP nC nI nD nB) (ha : 69 ≤ a) (hp : ∀ p, Pc h p → Pc (sI h a k v) p) (hc : ∀ p, Cv h p → Cv (sI h a k v) p) (ht : ∀ p, Tm h p → Tm (sI h a k v) p) (hb : ∀ p, Bi h p → Bi (sI h a k v) p) : Hv (sI h a k v) mP mC mI mD mB nP nC nI nD nB :=
  Hv_new S S.F (fun b j q => hI_ne (by have := okB_lt q; omega)) (fun s hs => Sh_sI (S.sh s hs) (by omega)) (Ls_sI S.lp (Or.inl (by omega)) hp) S.np (Ls_sI S.lc (Or.inl (by omega)) hc) S.nc (Ls_sI S.li (Or.inl (by omega)) ht) S.ni (Ls_sI S.ld (Or.inl (by omega)) ht) S.nd (Ls_sI S.lb (Or.inl (by omega)) hb) S.nb (Nat.le_refl _) (Nat.le_refl _)
theorem Hv_pr1 {h : Hp} {p j : Nat} {v : Int} {mP mC mI mD mB : Nat → Nat} {nP nC nI nD nB : Nat} (S : Hv h mP mC mI mD mB nP nC nI nD nB) (R : Pc h p) (hv : 0 ≤ v ∧ v ≤ 1023) : Hv (sI h (p + 1) j v) mP mC mI mD mB nP nC nI nD nB := by
  have own : Pc (sI h (p + 1) j v) p := Pc.mk (h := sI h (p + 1) j v) (p := p) R.g R.n R.t R.t1 R.l1 R.r1 R.t2 R.l2 R.r2 R.t3 R.l3 R.r3 R.t4 R.l4 R.r4 R.t5 R.l5 R.r5 R.t6 R.l6 R.r6 (by rw [hI_ne (by omega)]; exact R.number) (by rw [hI_ne (by omega)]; exact R.wide) (by rw [hI_ne (by omega)]; exact R.high) (by rw [hI_ne (by omega)]; exact R.sheet) (by rw [hI_ne (by omega)]; exact R.isTop) (by rw [hI_ne (by omega)]; exact R.place) (by rw [hI_ne (by omega)]; exact R.plateWide) (by rw [hI_ne (by omega)]; exact R.isTruthTold) (by rw [hI_ne (by omega)]; exact R.hasShade) (by rw [hI_ne (by omega)]; exact R.light) (Rg_eq R.seen hv) (Rg_ne R.isClear (by omega)) (Rg_ne R.fits (by omega)) (Rg_ne R.gauges (by omega)) (Rg_ne R.marks (by omega)) (Rg_ne R.shade (by omega))
  exact Hv_w S (by have := R.g; omega) (fun q Q => by
    by_cases e : q = p
    · subst e; exact own
    · exact Pc_w Q (fun m hm => Pc_ne (k := 1) R Q e hm (by decide))) (fun q Q => Cv_w Q (fun m hm => CvPc_ne (k := 1) R Q hm (by decide))) (fun q Q => Tm_w Q (fun m hm => TmPc_ne (k := 1) R Q hm (by decide))) (fun q Q => Bi_w Q (fun m hm => BiPc_ne (k := 1) R Q hm (by decide)))
theorem Hv_pr2 {h : Hp} {p j : Nat} {v : Int} {mP mC mI mD mB : Nat → Nat} {nP nC nI nD nB : Nat} (S : Hv h mP mC mI mD mB nP nC nI nD nB) (R : Pc h p) (hv : 0 ≤ v ∧ v ≤ 1) : Hv (sI h (p + 2) j v) mP mC mI mD mB nP nC nI nD nB := by
  have own : Pc (sI h (p + 2) j v) p := Pc.mk (h := sI h (p + 2) j v) (p := p) R.g R.n R.t R.t1 R.l1 R.r1 R.t2 R.l2 R.r2 R.t3 R.l3 R.r3 R.t4 R.l4 R.r4 R.t5 R.l5 R.r5 R.t6 R.l6 R.r6 (by rw [hI_ne (by omega)]; exact R.number) (by rw [hI_ne (by omega)]; exact R.wide) (by rw [hI_ne (by omega)]; exact R.high) (by rw [hI_ne (by omega)]; exact R.sheet) (by rw [hI_ne (by omega)]; exact R.isTop) (by rw [hI_ne (by omega)]; exact R.place) (by rw [hI_ne (by omega)]; exact R.plateWide) (by rw [hI_ne (by omega)]; exact R.isTruthTold) (by rw [hI_ne (by omega)]; exact R.hasShade) (by rw [hI_ne (by omega)]; exact R.light) (Rg_ne R.seen (by omega)) (Rg_eq R.isClear hv) (Rg_ne R.fits (by omega)) (Rg_ne R.gauges (by omega)) (Rg_ne R.marks (by omega)) (Rg_ne R.shade (by omega))
  exact Hv_w S (by have := R.g; omega) (fun q Q => by
    by_cases e : q = p
    · subst e; exact own
    · exact Pc_w Q (fun m hm => Pc_ne (k := 2) R Q e hm (by decide))) (fun q Q => Cv_w Q (fun m hm => CvPc_ne (k := 2) R Q hm (by decide))) (fun q Q => Tm_w Q (fun m hm => TmPc_ne (k := 2) R Q hm (by decide))) (fun q Q => Bi_w Q (fun m hm => BiPc_ne (k := 2) R Q hm (by decide)))
theorem Hv_pr3 {h : Hp} {p j : Nat} {v : Int} {mP mC mI mD mB : Nat → Nat} {nP nC nI nD nB : Nat} (S : Hv h mP mC mI mD mB nP nC nI nD nB) (R : Pc h p) (hv : 0 ≤ v ∧ v ≤ 16777215) : Hv (sI h (p + 3) j v) mP mC mI mD mB nP nC nI nD nB := by
  have own : Pc (sI h (p + 3) j v) p := Pc.mk (h := sI h (p + 3) j v) (p := p) R.g R.n R.t R.t1 R.l1 R.r1 R.t2 R.l2 R.r2 R.t3 R.l3 R.r3 R.t4 R.l4 R.r4 R.t5 R.l5 R.r5 R.t6 R.l6 R.r6 (by rw [hI_ne (by omega)]; exact R.number) (by rw [hI_ne (by omega)]; exact R.wide) (by rw [hI_ne (by omega)]; exact R.high) (by rw [hI_ne (by omega)]; exact R.sheet) (by rw [hI_ne (by omega)]; exact R.isTop) (by rw [hI_ne (by omega)]; exact R.place) (by rw [hI_ne (by omega)]; exact R.plateWide) (by rw [hI_ne (by omega)]; exact R.isTruthTold) (by rw [hI_ne (by omega)]; exact R.hasShade) (by rw [hI_ne (by omega)]; exact R.light) (Rg_ne R.seen (by omega)) (Rg_ne R.isClear (by omega)) (Rg_eq R.fits hv) (Rg_ne R.gauges (by omega)) (Rg_ne R.marks (by omega)) (Rg_ne R.shade (by omega))
  exact Hv_w S (by have := R.g; omega) (fun q Q => by
    by_cases e : q = p
    · subst e; exact own
    · exact Pc_w Q (fun m hm => Pc_ne (k := 3) R Q e hm (by decide))) (fun q Q => Cv_w Q (fun m hm => CvPc_ne (k := 3) R Q hm (by decide))) (fun q Q => Tm_w Q (fun m hm => TmPc_ne (k := 3) R Q hm (by decide))) (fun q Q => Bi_w Q (fun m hm => BiPc_ne (k := 3) R Q hm (by decide)))
theorem Hv_pr4 {h : Hp} {p j : Nat} {v : Int} {mP mC mI mD mB : Nat → Nat} {nP nC nI nD nB : Nat} (S : Hv h mP mC mI mD mB nP nC nI nD nB) (R : Pc h p) (hv : 0 ≤ v ∧ v ≤ 10000) : Hv (sI h (p + 4) j v) mP mC mI mD mB nP nC nI nD nB := by
  have own : Pc (sI h (p + 4) j v) p := Pc.mk (h := sI h (p + 4) j v) (p := p) R.g R.n R.t R.t1 R.l1 R.r1 R.t2 R.l2 R.r2 R.t3 R.l3 R.r3 R.t4 R.l4 R.r4 R.t5 R.l5 R.r5 R.t6 R.l6 R.r6 (by rw [hI_ne (by omega)]; exact R.number) (by rw [hI_ne (by omega)]; exact R.wide) (by rw [hI_ne (by omega)]; exact R.high) (by rw [hI_ne (by omega)]; exact R.sheet) (by rw [hI_ne (by omega)]; exact R.isTop) (by rw [hI_ne (by omega)]; exact R.place) (by rw [hI_ne (by omega)]; exact R.plateWide) (by rw [hI_ne (by omega)]; exact R.isTruthTold) (by rw [hI_ne (by omega)]; exact R.hasShade) (by rw [hI_ne (by omega)]; exact R.light) (Rg_ne R.seen (by omega)) (Rg_ne R.isClear (by omega)) (Rg_ne R.fits (by omega)) (Rg_eq R.gauges hv) (Rg_ne R.marks (by omega)) (Rg_ne R.shade (by omega))
  exact Hv_w S (by have := R.g; omega) (fun q Q => by
    by_cases e : q = p
    · subst e; exact own
    · exact Pc_w Q (fun m hm => Pc_ne (k := 4) R Q e hm (by decide))) (fun q Q => Cv_w Q (fun m hm => CvPc_ne (k := 4) R Q hm (by decide))) (fun q Q => Tm_w Q (fun m hm => TmPc_ne (k := 4) R Q hm (by decide))) (fun q Q => Bi_w Q (fun m hm => BiPc_ne (k := 4) R Q hm (by decide)))
theorem Hv_pr5 {h : Hp} {p j : Nat} {v : Int} {mP mC mI mD mB : Nat → Nat} {nP nC nI nD nB : Nat} (S : Hv h mP mC mI mD mB nP nC nI nD nB) (R : Pc h p) (hv : 0 ≤ v ∧ v ≤ 2) : Hv (sI h (p + 5) j v) mP mC mI mD mB nP nC nI nD nB := by
  have own : Pc (sI h (p + 5) j v) p := Pc.mk (h := sI h (p + 5) j v) (p := p) R.g R.n R.t R.t1 R.l1 R.r1 R.t2 R.l2 R.r2 R.t3 R.l3 R.r3 R.t4 R.l4 R.r4 R.t5 R.l5 R.r5 R.t6 R.l6 R.r6 (by rw [hI_ne (by omega)]; exact R.number) (by rw [hI_ne (by omega)]; exact R.wide) (by rw [hI_ne (by omega)]; exact R.high) (by rw [hI_ne (by omega)]; exact R.sheet) (by rw [hI_ne (by omega)]; exact R.isTop) (by rw [hI_ne (by omega)]; exact R.place) (by rw [hI_ne (by omega)]; exact R.plateWide) (by rw [hI_ne (by omega)]; exact R.isTruthTold) (by rw [hI_ne (by omega)]; exact R.hasShade) (by rw [hI_ne (by omega)]; exact R.light) (Rg_ne R.seen (by omega)) (Rg_ne R.isClear (by omega)) (Rg_ne R.fits (by omega)) (Rg_ne R.gauges (by omega)) (Rg_eq R.marks hv) (Rg_ne R.shade (by omega))
  exact Hv_w S (by have := R.g; omega) (fun q Q => by
    by_cases e : q = p
    · subst e; exact own
    · exact Pc_w Q (fun m hm => Pc_ne (k := 5) R Q e hm (by decide))) (fun q Q => Cv_w Q (fun m hm => CvPc_ne (k := 5) R Q hm (by decide))) (fun q Q => Tm_w Q (fun m hm => TmPc_ne (k := 5) R Q hm (by decide))) (fun q Q => Bi_w Q (fun m hm => BiPc_ne (k := 5) R Q hm (by decide)))
theorem Hv_pr6 {h : Hp} {p j : Nat} {v : Int} {mP mC mI mD mB : Nat → Nat} {nP nC nI nD nB : Nat} (S : Hv h mP mC mI mD mB nP nC nI nD nB) (R : Pc h p) (hv : 0 ≤ v ∧ v ≤ 99) : Hv (sI h (p + 6) j v) mP mC mI mD mB nP nC nI nD nB := by
  have own : Pc (sI h (p + 6) j v) p := Pc.mk (h := sI h (p + 6) j v) (p := p) R.g R.n R.t R.t1 R.l1 R.r1 R.t2 R.l2 R.r2 R.t3 R.l3 R.r3 R.t4 R.l4 R.r4 R.t5 R.l5 R.r5 R.t6 R.l6 R.r6 (by rw [hI_ne (by omega)]; exact R.number) (by rw [hI_ne (by omega)]; exact R.wide) (by rw [hI_ne (by omega)]; exact R.high) (by rw [hI_ne (by omega)]; exact R.sheet) (by rw [hI_ne (by omega)]; exact R.isTop) (by rw [hI_ne (by omega)]; exact R.place) (by rw [hI_ne (by omega)]; exact R.plateWide) (by rw [hI_ne (by omega)]; exact R.isTruthTold) (by rw [hI_ne (by omega)]; exact R.hasShade) (by rw [hI_ne (by omega)]; exact R.light) (Rg_ne R.seen (by omega)) (Rg_ne R.isClear (by omega)) (Rg_ne R.fits (by omega)) (Rg_ne R.gauges (by omega)) (Rg_ne R.marks (by omega)) (Rg_eq R.shade hv)
  exact Hv_w S (by have := R.g; omega) (fun q Q => by
    by_cases e : q = p
    · subst e; exact own
    · exact Pc_w Q (fun m hm => Pc_ne (k := 6) R Q e hm (by decide))) (fun q Q => Cv_w Q (fun m hm => CvPc_ne (k := 6) R Q hm (by decide))) (fun q Q => Tm_w Q (fun m hm => TmPc_ne (k := 6) R Q hm (by decide))) (fun q Q => Bi_w Q (fun m hm => BiPc_ne (k := 6) R Q hm (by decide)))
theorem Hv_pf5 {h : Hp} {p : Nat} {v : Int} {mP mC mI mD mB : Nat → Nat} {nP nC nI nD nB : Nat} (S : Hv h mP mC mI mD mB nP nC nI nD nB) (R : Pc h p) (hv : 0 ≤ v ∧ v ≤ 2) : Hv (sI h p 5 v) mP mC mI mD mB nP nC nI nD nB := by
  have own : Pc (sI h p 5 v) p := Pc.mk (h := sI h p 5 v) (p := p) R.g R.n R.t R.t1 R.l1 R.r1 R.t2 R.l2 R.r2 R.t3 R.l3 R.r3 R.t4 R.l4 R.r4 R.t5 R.l5 R.r5 R.t6 R.l6 R.r6 (by rw [hI_nk (by decide)]; exact R.number) (by rw [hI_nk (by decide)]; exact R.wide) (by rw [hI_nk (by decide)]; exact R.high) (by rw [hI_nk (by decide)]; exact R.sheet) (by rw [hI_nk (by decide)]; exact R.isTop) (by rw [hI_eq]; exact hv) (by rw [hI_nk (by decide)]; exact R.plateWide) (by rw [hI_nk (by decide)]; exact R.isTruthTold) (by rw [hI_nk (by decide)]; exact R.hasShade) (by rw [hI_nk (by decide)]; exact R.light) (Rg_ne R.seen (by omega)) (Rg_ne R.isClear (by omega)) (Rg_ne R.fits (by omega)) (Rg_ne R.gauges (by omega)) (Rg_ne R.marks (by omega)) (Rg_ne R.shade (by omega))
  exact Hv_w S (by have := R.g; omega) (fun q Q => by
    by_cases e : q = p
    · subst e; exact own
    · exact Pc_w Q (fun m hm => Pc_ne (k := 0) R Q e hm (by decide))) (fun q Q => Cv_w Q (fun m hm => CvPc_ne (k := 0) R Q hm (by decide))) (fun q Q => Tm_w Q (fun m hm => TmPc_ne (k := 0) R Q hm (by decide))) (fun q Q => Bi_w Q (fun m hm => BiPc_ne (k := 0) R Q hm (by decide)))
theorem Hv_pf9 {h : Hp} {p : Nat} {v : Int} {mP mC mI mD mB : Nat → Nat} {nP nC nI nD nB : Nat} (S : Hv h mP mC mI mD mB nP nC nI nD nB) (R : Pc h p) (hv : 0 ≤ v ∧ v ≤ 6) : Hv (sI h p 9 v) mP mC mI mD mB nP nC nI nD nB := by
  have own : Pc (sI h p 9 v) p := Pc.mk (h := sI h p 9 v) (p := p) R.g R.n R.t R.t1 R.l1 R.r1 R.t2 R.l2 R.r2 R.t3 R.l3 R.r3 R.t4 R.l4 R.r4 R.t5 R.l5 R.r5 R.t6 R.l6 R.r6 (by rw [hI_nk (by decide)]; exact R.number) (by rw [hI_nk (by decide)]; exact R.wide) (by rw [hI_nk (by decide)]; exact R.high) (by rw [hI_nk (by decide)]; exact R.sheet) (by rw [hI_nk (by decide)]; exact R.isTop) (by rw [hI_nk (by decide)]; exact R.place) (by rw [hI_eq]; exact hv) (by rw [hI_nk (by decide)]; exact R.isTruthTold) (by rw [hI_nk (by decide)]; exact R.hasShade) (by rw [hI_nk (by decide)]; exact R.light) (Rg_ne R.seen (by omega)) (Rg_ne R.isClear (by omega)) (Rg_ne R.fits (by omega)) (Rg_ne R.gauges (by omega)) (Rg_ne R.marks (by omega)) (Rg_ne R.shade (by omega))
  exact Hv_w S (by have := R.g; omega) (fun q Q => by
    by_cases e : q = p
    · subst e; exact own
    · exact Pc_w Q (fun m hm => Pc_ne (k := 0) R Q e hm (by decide))) (fun q Q => Cv_w Q (fun m hm => CvPc_ne (k := 0) R Q hm (by decide))) (fun q Q => Tm_w Q (fun m hm => TmPc_ne (k := 0) R Q hm (by decide))) (fun q Q => Bi_w Q (fun m hm => BiPc_ne (k := 0) R Q hm (by decide)))
theorem Hv_pf12 {h : Hp} {p : Nat} {v : Int} {mP mC mI mD mB : Nat → Nat} {nP nC nI nD nB : Nat} (S : Hv h mP mC mI mD mB nP nC nI nD nB) (R : Pc h p) (hv : 0 ≤ v ∧ v ≤ 1) : Hv (sI h p 12 v) mP mC mI mD mB nP nC nI nD nB := by
  have own : Pc (sI h p 12 v) p := Pc.mk (h := sI h p 12 v) (p := p) R.g R.n R.t R.t1 R.l1 R.r1 R.t2 R.l2 R.r2 R.t3 R.l3 R.r3 R.t4 R.l4 R.r4 R.t5 R.l5 R.r5 R.t6 R.l6 R.r6 (by rw [hI_nk (by decide)]; exact R.number) (by rw [hI_nk (by decide)]; exact R.wide) (by rw [hI_nk (by decide)]; exact R.high) (by rw [hI_nk (by decide)]; exact R.sheet) (by rw [hI_nk (by decide)]; exact R.isTop) (by rw [hI_nk (by decide)]; exact R.place) (by rw [hI_nk (by decide)]; exact R.plateWide) (by rw [hI_eq]; exact hv) (by rw [hI_nk (by decide)]; exact R.hasShade) (by rw [hI_nk (by decide)]; exact R.light) (Rg_ne R.seen (by omega)) (Rg_ne R.isClear (by omega)) (Rg_ne R.fits (by omega)) (Rg_ne R.gauges (by omega)) (Rg_ne R.marks (by omega)) (Rg_ne R.shade (by omega))
  exact Hv_w S (by have := R.g; omega) (fun q Q => by
    by_cases e : q = p
    · subst e; exact own
    · exact Pc_w Q (fun m hm => Pc_ne (k := 0) R Q e hm (by decide))) (fun q Q => Cv_w Q (fun m hm => CvPc_ne (k := 0) R Q hm (by decide))) (fun q Q => Tm_w Q (fun m hm => TmPc_ne (k := 0) R Q hm (by decide))) (fun q Q => Bi_w Q (fun m hm => BiPc_ne (k := 0) R Q hm (by decide)))
theorem Hv_pf13 {h : Hp} {p : Nat} {v : Int} {mP mC mI mD mB : Nat → Nat} {nP nC nI nD nB : Nat} (S : Hv h mP mC mI mD mB nP nC nI nD nB) (R : Pc h p) (hv : 0 ≤ v ∧ v ≤ 1) : Hv (sI h p 13 v) mP mC mI mD mB nP nC nI nD nB := by
  have own : Pc (sI h p 13 v) p := Pc.mk (h := sI h p 13 v) (p := p) R.g R.n R.t R.t1 R.l1 R.r1 R.t2 R.l2 R.r2 R.t3 R.l3 R.r3 R.t4 R.l4 R.r4 R.t5 R.l5 R.r5 R.t6 R.l6 R.r6 (by rw [hI_nk (by decide)]; exact R.number) (by rw [hI_nk (by decide)]; exact R.wide) (by rw [hI_nk (by decide)]; exact R.high) (by rw [hI_nk (by decide)]; exact R.sheet) (by rw [hI_nk (by decide)]; exact R.isTop) (by rw [hI_nk (by decide)]; exact R.place) (by rw [hI_nk (by decide)]; exact R.plateWide) (by rw [hI_nk (by decide)]; exact R.isTruthTold) (by rw [hI_eq]; exact hv) (by rw [hI_nk (by decide)]; exact R.light) (Rg_ne R.seen (by omega)) (Rg_ne R.isClear (by omega)) (Rg_ne R.fits (by omega)) (Rg_ne R.gauges (by omega)) (Rg_ne R.marks (by omega)) (Rg_ne R.shade (by omega))
  exact Hv_w S (by have := R.g; omega) (fun q Q => by
    by_cases e : q = p
    · subst e; exact own
    · exact Pc_w Q (fun m hm => Pc_ne (k := 0) R Q e hm (by decide))) (fun q Q => Cv_w Q (fun m hm => CvPc_ne (k := 0) R Q hm (by decide))) (fun q Q => Tm_w Q (fun m hm => TmPc_ne (k := 0) R Q hm (by decide))) (fun q Q => Bi_w Q (fun m hm => BiPc_ne (k := 0) R Q hm (by decide)))
theorem Hv_pf15 {h : Hp} {p : Nat} {v : Int} {mP mC mI mD mB : Nat → Nat} {nP nC nI nD nB : Nat} (S : Hv h mP mC mI mD mB nP nC nI nD nB) (R : Pc h p) (hv : 0 ≤ v ∧ v ≤ 50) : Hv (sI h p 15 v) mP mC mI mD mB nP nC nI nD nB := by
  have own : Pc (sI h p 15 v) p := Pc.mk (h := sI h p 15 v) (p := p) R.g R.n R.t R.t1 R.l1 R.r1 R.t2 R.l2 R.r2 R.t3 R.l3 R.r3 R.t4 R.l4 R.r4 R.t5 R.l5 R.r5 R.t6 R.l6 R.r6 (by rw [hI_nk (by decide)]; exact R.number) (by rw [hI_nk (by decide)]; exact R.wide) (by rw [hI_nk (by decide)]; exact R.high) (by rw [hI_nk (by decide)]; exact R.sheet) (by rw [hI_nk (by decide)]; exact R.isTop) (by rw [hI_nk (by decide)]; exact R.place) (by rw [hI_nk (by decide)]; exact R.plateWide) (by rw [hI_nk (by decide)]; exact R.isTruthTold) (by rw [hI_nk (by decide)]; exact R.hasShade) (by rw [hI_eq]; exact hv) (Rg_ne R.seen (by omega)) (Rg_ne R.isClear (by omega)) (Rg_ne R.fits (by omega)) (Rg_ne R.gauges (by omega)) (Rg_ne R.marks (by omega)) (Rg_ne R.shade (by omega))
  exact Hv_w S (by have := R.g; omega) (fun q Q => by
    by_cases e : q = p
    · subst e; exact own
    · exact Pc_w Q (fun m hm => Pc_ne (k := 0) R Q e hm (by decide))) (fun q Q => Cv_w Q (fun m hm => CvPc_ne (k := 0) R Q hm (by decide))) (fun q Q => Tm_w Q (fun m hm => TmPc_ne (k := 0) R Q hm (by decide))) (fun q Q => Bi_w Q (fun m hm => BiPc_ne (k := 0) R Q hm (by decide)))
theorem Hv_cr1 {h : Hp} {p j : Nat} {v : Int} {mP mC mI mD mB : Nat → Nat} {nP nC nI nD nB : Nat} (S : Hv h mP mC mI mD mB nP nC nI nD nB) (R : Cv h p) (hv : 0 ≤ v ∧ v ≤ 4) : Hv (sI h (p + 1) j v) mP mC mI mD mB nP nC nI nD nB := by
  have own : Cv (sI h (p + 1) j v) p := Cv.mk (h := sI h (p + 1) j v) (p := p) R.g R.n R.t R.t1 R.l1 R.r1 (by rw [hI_ne (by omega)]; exact R.from) (by rw [hI_ne (by omega)]; exact R.to) (by rw [hI_ne (by omega)]; exact R.weight) (by rw [hI_ne (by omega)]; exact R.die) (by rw [hI_ne (by omega)]; exact R.day) (by rw [hI_ne (by omega)]; exact R.arrived) (by rw [hI_ne (by omega)]; exact R.isTaxed) (Rg_eq R.stamps hv)
  exact Hv_w S (by have := R.g; omega) (fun q Q => Pc_w Q (fun m hm => Ne.symm (CvPc_ne (m := 1) Q R (by decide) hm))) (fun q Q => by
    by_cases e : q = p
    · subst e; exact own
    · exact Cv_w Q (fun m hm => Cv_ne (k := 1) R Q e hm (by decide))) (fun q Q => Tm_w Q (fun m hm => TmCv_ne (k := 1) R Q hm (by decide))) (fun q Q => Bi_w Q (fun m hm => BiCv_ne (k := 1) R Q hm (by decide)))
theorem Hv_cf5 {h : Hp} {p : Nat} {v : Int} {mP mC mI mD mB : Nat → Nat} {nP nC nI nD nB : Nat} (S : Hv h mP mC mI mD mB nP nC nI nD nB) (R : Cv h p) (hv : -100 ≤ v ∧ v ≤ 20000) : Hv (sI h p 5 v) mP mC mI mD mB nP nC nI nD nB := by
  have own : Cv (sI h p 5 v) p := Cv.mk (h := sI h p 5 v) (p := p) R.g R.n R.t R.t1 R.l1 R.r1 (by rw [hI_nk (by decide)]; exact R.from) (by rw [hI_nk (by decide)]; exact R.to) (by rw [hI_nk (by decide)]; exact R.weight) (by rw [hI_nk (by decide)]; exact R.die) (by rw [hI_nk (by decide)]; exact R.day) (by rw [hI_eq]; exact hv) (by rw [hI_nk (by decide)]; exact R.isTaxed) (Rg_ne R.stamps (by omega))
  exact Hv_w S (by have := R.g; omega) (fun q Q => Pc_w Q (fun m hm => Ne.symm (CvPc_ne (m := 0) Q R (by decide) hm))) (fun q Q => by
    by_cases e : q = p
    · subst e; exact own
    · exact Cv_w Q (fun m hm => Cv_ne (k := 0) R Q e hm (by decide))) (fun q Q => Tm_w Q (fun m hm => TmCv_ne (k := 0) R Q hm (by decide))) (fun q Q => Bi_w Q (fun m hm => BiCv_ne (k := 0) R Q hm (by decide)))
theorem Hv_cf6 {h : Hp} {p : Nat} {v : Int} {mP mC mI mD mB : Nat → Nat} {nP nC nI nD nB : Nat} (S : Hv h mP mC mI mD mB nP nC nI nD nB) (R : Cv h p) (hv : 0 ≤ v ∧ v ≤ 1) : Hv (sI h p 6 v) mP mC mI mD mB nP nC nI nD nB := by
  have own : Cv (sI h p 6 v) p := Cv.mk (h := sI h p 6 v) (p := p) R.g R.n R.t R.t1 R.l1 R.r1 (by rw [hI_nk (by decide)]; exact R.from) (by rw [hI_nk (by decide)]; exact R.to) (by rw [hI_nk (by decide)]; exact R.weight) (by rw [hI_nk (by decide)]; exact R.die) (by rw [hI_nk (by decide)]; exact R.day) (by rw [hI_nk (by decide)]; exact R.arrived) (by rw [hI_eq]; exact hv) (Rg_ne R.stamps (by omega))
  exact Hv_w S (by have := R.g; omega) (fun q Q => Pc_w Q (fun m hm => Ne.symm (CvPc_ne (m := 0) Q R (by decide) hm))) (fun q Q => by
    by_cases e : q = p
    · subst e; exact own
    · exact Cv_w Q (fun m hm => Cv_ne (k := 0) R Q e hm (by decide))) (fun q Q => Tm_w Q (fun m hm => TmCv_ne (k := 0) R Q hm (by decide))) (fun q Q => Bi_w Q (fun m hm => BiCv_ne (k := 0) R Q hm (by decide)))
/-! what the rest of the invariant stands on -/
theorem TN_eq {h g : Hp} {mB : Nat → Nat} {nB : Nat} {b : Int} (e0 : hI g 55 0 = hI h 55 0) (e1 : ∀ j, hI g 58 j = hI h 58 j) (e2 : ∀ k, k < nB → ∀ j, hI g (mB k) j = hI h (mB k) j) {n : Nat} (hn : n ≤ nB) : TN g mB nB b n = TN h mB nB b n := by
  have e58 : hI g 58 = hI h 58 := funext e1
  refine tAll_ext ?_ (fun k hk => ?_) (fun k hk => ?_) (fun k hk => ?_) n hn
  · unfold mxF; rw [e0]
  · unfold cnF; rw [e0, e58, e2 k hk 1, e2 k hk 2]
  · unfold itF; rw [e2 k hk 1]
  · unfold amF; rw [e2 k hk 2]
theorem CI_eq {h g : Hp} {mB : Nat → Nat} {nB : Nat} (r : ∀ a j, DV a j = false → hR g a j = hR h a j) (e0 : ∀ j, hI g 55 j = hI h 55 j) (e1 : ∀ j, hI g 58 j = hI h 58 j) (e3 : ∀ j, hI g 60 j = hI h 60 j ∧ hI g 61 j = hI h 61 j ∧ hI g 62 j = hI h 62 j) (e2 : ∀ k, k < nB → ∀ j, hI g (mB k) j = hI h (mB k) j) (K : CI h mB nB) : CI g mB nB := by
  obtain ⟨a, b, c, d, f⟩ := K
  refine ⟨fun x j q => by rw [r x j q]; exact a x j q, fun j q => by rw [(e3 j).1, (e3 j).2.1, (e3 j).2.2]; exact b j q, by rw [e0]; exact c, by rw [e0]; exact d, fun q => ?_⟩
  rw [e0] at q
  obtain ⟨f1, f2⟩ := f q
  rw [e0 5, e0 7, TN_eq (e0 0) e1 e2 (Nat.le_refl _)]
  refine ⟨fun s => ?_, f2⟩
  rw [(e3 s).1, (e3 s).2.1, (e3 s).2.2]
  exact f1 s
theorem Mb_eq {h g : Hp} {mP : Nat → Nat} {nP : Nat} (r : ∀ s, s < 6 → ∀ q, hR g (7 + 5 * s + 1) q = hR h (7 + 5 * s + 1) q) (e : ∀ s, s < 6 → hI g (7 + 5 * s) 1 = hI h (7 + 5 * s) 1) (p : ∀ k, k < nP → hI g (mP k) 3 = hI h (mP k) 3 ∧ hI g (mP k) 5 = hI h (mP k) 5) (b : ∀ k, k < nP → (hI h (mP k) 3).toNat < 6) (M : Mb h mP nP) : Mb g mP nP := by
  obtain ⟨m1, m2, m3⟩ := M
  refine ⟨fun k hk => ?_, fun s hs q hq => ?_, ?_⟩
  · rw [(p k hk).1, (p k hk).2, e _ (b k hk), r _ (b k hk)]; exact m1 k hk
  · rw [e s hs] at hq
    obtain ⟨k, k1, k2, k3, k4⟩ := m2 s hs q hq
    exact ⟨k, k1, by rw [r s hs]; exact k2, by rw [(p k k1).1]; exact k3, by rw [(p k k1).2]; exact k4⟩
  · rw [← m3]
    show szH g 6 = szH h 6
    simp only [szH]
    rw [e 0 (by decide), e 1 (by decide), e 2 (by decide), e 3 (by decide), e 4 (by decide), e 5 (by decide)]
theorem Si_eq {h g : Hp} {m : Nat → Nat} {n : Nat} (e : ∀ s, s < 6 → ∀ j, hI g (7 + 5 * s) j = hI h (7 + 5 * s) j ∧ hI g (7 + 5 * s + 2) j = hI h (7 + 5 * s + 2) j) (p : ∀ k, k < n → hI g (m k) 3 = hI h (m k) 3 ∧ hI g (m k) 5 = hI h (m k) 5 ∧ ∀ j, hI g (m k + 3) j = hI h (m k + 3) j) (b : ∀ k, k < n → (hI h (m k) 3).toNat < 6) (M : Si h m n) : Si g m n := by
  intro k hk
  have ep : plc g (m k) = plc h (m k) := by
    unfold plc
    rw [(p k hk).1, (p k hk).2.1, (e _ (b k hk) _).2]
  rw [ep, (p k hk).1, (e _ (b k hk) 2).1, (e _ (b k hk) 3).1, (e _ (b k hk) 4).1]
  obtain ⟨m1, m2, m3⟩ := M k hk
  refine ⟨fun x x0 x1 x2 => ?_, m2, m3⟩
  obtain ⟨r, r1, r2, r3, r4⟩ := m1 x x0 x1 x2
  exact ⟨r, r1, r2, r3, by rw [(p k hk).2.2]; exact r4⟩
def okX (a : Nat) : Bool := decide (a < 69) && !(decide (7 ≤ a) && decide (a ≤ 36)) && !(a == 55 || a == 58 || a == 60 || a == 61 || a == 62 || a == 63 || a == 64)
theorem okX_e {a : Nat} (q : okX a = true) : a < 69 ∧ ¬ (7 ≤ a ∧ a ≤ 36) ∧ (a ≠ 55 ∧ a ≠ 58 ∧ a ≠ 60 ∧ a ≠ 61 ∧ a ≠ 62) ∧ a ≠ 63 ∧ a ≠ 64 := by
  unfold okX at q
  simp only [Bool.and_eq_true, Bool.not_eq_true', Bool.or_eq_false_iff, Bool.and_eq_false_iff, decide_eq_true_eq, decide_eq_false_iff_not, beq_eq_false_iff_ne, ne_eq] at q
  omega
theorem tcS_eq {h g : Hp} (e : ∀ j, hI g 64 j = hI h 64 j) : tcS g = tcS h := by
  unfold tcS
  rw [e 0, e 1, e 2, e 3, e 4, e 5, e 6, e 7]
section EXW
variable {h : Hp} {mP mC mI mD mB : Nat → Nat} {nP nC nI nD nB : Nat} {a k : Nat} {v : Int}
theorem TC_w (X : TC h) (q : a ≠ 63 ∧ a ≠ 64) : TC (sI h a k v) := by
  unfold TC at X ⊢
  rw [hI_ne (Ne.symm q.1), tcS_eq (fun j => hI_ne (Ne.symm q.2))]
  exact X
theorem CI_wr (S : Hv h mP mC mI mD mB nP nC nI nD nB) (X : CI h mB nB) (c2 : a ≠ 55 ∧ a ≠ 58 ∧ a ≠ 60 ∧ a ≠ 61 ∧ a ≠ 62) (c4 : ∀ p, Bi h p → p ≠ a) : CI (sI h a k v) mB nB :=
  CI_eq (h := h) (fun _ _ _ => rfl) (fun j => hI_ne (Ne.symm c2.1)) (fun j => hI_ne (Ne.symm c2.2.1)) (fun j => ⟨hI_ne (Ne.symm c2.2.2.1), hI_ne (Ne.symm c2.2.2.2.1), hI_ne (Ne.symm c2.2.2.2.2)⟩) (fun i hi j => hI_ne (c4 _ (Ls.mem S.lb i hi))) X
theorem EX0_w (S : Hv h mP mC mI mD mB nP nC nI nD nB) (X : EX0 h mP mI nP nI) (c1 : ∀ s, s < 6 → a ≠ 7 + 5 * s ∧ a ≠ 7 + 5 * s + 2) (c3 : ∀ p, Tm h p → p ≠ a) (c5 : ∀ p, Pc h p → (p ≠ a ∨ (k ≠ 3 ∧ k ≠ 5)) ∧ p + 3 ≠ a) : EX0 (sI h a k v) mP mI nP nI := by
  obtain ⟨x1, x3, x4, x5⟩ := X
  have b : ∀ k, k < nP → (hI h (mP k) 3).toNat < 6 := fun k hk => by have := (Ls.mem S.lp k hk).sheet; omega
  have pf : ∀ i, i < nP → ∀ j, (j = 3 ∨ j = 5) → hI (sI h a k v) (mP i) j = hI h (mP i) j := fun i hi j hj => by
    rcases (c5 _ (Ls.mem S.lp i hi)).1 with w | w
    · exact hI_ne w
    · exact hI_nk (by omega)
  refine ⟨fun i hi => by rw [hI_ne (c3 _ (Ls.mem S.li i hi))]; exact x1 i hi, ?_, ?_, x5⟩
  · exact Mb_eq (h := h) (fun _ _ _ => rfl) (fun s hs => hI_ne (Ne.symm (c1 s hs).1)) (fun i hi => ⟨pf i hi 3 (Or.inl rfl), pf i hi 5 (Or.inr rfl)⟩) b x3
  · exact Si_eq (h := h) (fun s hs j => ⟨hI_ne (Ne.symm (c1 s hs).1), hI_ne (Ne.symm (c1 s hs).2)⟩) (fun i hi => ⟨pf i hi 3 (Or.inl rfl), pf i hi 5 (Or.inr rfl), fun j => hI_ne (c5 _ (Ls.mem S.lp i hi)).2⟩) b x4
theorem EX_f (S : Hv h mP mC mI mD mB nP nC nI nD nB) (X : EX h mP mI mB nP nI nB) (q : okX a = true) : EX (sI h a k v) mP mI mB nP nI nB := by
  obtain ⟨q1, q2, q3, q4⟩ := okX_e q
  exact ⟨EX0_w S X.1 (fun s hs => by omega) (fun p T => by have := T.g; omega) (fun p T => by have := T.g; omega), CI_wr S X.2.1 q3 (fun p T => by have := T.g; omega), TC_w X.2.2 q4⟩
theorem EX_p {p m : Nat} (S : Hv h mP mC mI mD mB nP nC nI nD nB) (X : EX h mP mI mB nP nI nB) (R : Pc h p) (hm : m ≤ 6 ∧ m ≠ 3) (hk : m ≠ 0 ∨ (k ≠ 3 ∧ k ≠ 5)) : EX (sI h (p + m) k v) mP mI mB nP nI nB := by
  have g := R.g
  refine ⟨EX0_w S X.1 (fun s hs => by omega) (fun q T => TmPc_ne (m := 0) R T (Nat.le_refl _) hm.1) (fun q T => ⟨?_, ?_⟩), CI_wr S X.2.1 (by omega) (fun q T => BiPc_ne (m := 0) R T (Nat.le_refl _) hm.1), TC_w X.2.2 (by omega)⟩
  · by_cases e : q = p
    · rcases hk with w | w
      · exact Or.inl (by omega)
      · exact Or.inr w
    · exact Or.inl (Pc_ne (m := 0) R T e (by decide) hm.1)
  · by_cases e : q = p
    · omega
    · exact Pc_ne R T e (by decide) hm.1
theorem EX_c {p m : Nat} (S : Hv h mP mC mI mD mB nP nC nI nD nB) (X : EX h mP mI mB nP nI nB) (R : Cv h p) (hm : m ≤ 1) : EX (sI h (p + m) k v) mP mI mB nP nI nB := by
  have g := R.g
  exact ⟨EX0_w S X.1 (fun s hs => by omega) (fun q T => TmCv_ne (m := 0) R T (Nat.le_refl _) hm) (fun q T => ⟨Or.inl (fun e => CvPc_ne (k := 0) T R hm (by decide) (Eq.symm e)), fun e => CvPc_ne (k := 3) T R hm (by decide) (Eq.symm e)⟩), CI_wr S X.2.1 (by omega) (fun q T => BiCv_ne (m := 0) R T (Nat.le_refl _) hm), TC_w X.2.2 (by omega)⟩
theorem tcS_set {p : Nat} (hp : p < 8) (e : hI h 64 p = 0) : tcS (sI h 64 p 1) = tcS h + 1 := by
  unfold tcS
  simp only [hI_row]
  rcases (show p = 0 ∨ p = 1 ∨ p = 2 ∨ p = 3 ∨ p = 4 ∨ p = 5 ∨ p = 6 ∨ p = 7 by omega) with w | w | w | w | w | w | w | w <;> subst w <;> simp <;> omega
end EXW
/-! calls that may be refused -/
def MX (D : Nat → Nat → Bool) (d z : Nat) (as : List XV) (h : Hp) (R : XV → Hp → Prop) : Prop := wp D d z 0 (ent z as) [] h (fun r => (∃ v, r.1 = .inl (some v) ∧ R v r.2) ∨ (∃ e, e < 3 ∧ r.1 = .inr e ∧ r.2 = tck h 1 6))
theorem MX_of {D : Nat → Nat → Bool} {d z : Nat} {as : List XV} {h : Hp} {R : Hp → Prop} (k : ∀ Q : XO × Hp → Prop, (∀ (v : Int) g, R g → Q (.inl (some (vI v)), g)) → (∀ e, e < 3 → Q (.inr e, tck h 1 6)) → wp D d z 0 (ent z as) [] h Q) : MX D d z as h (fun w g => ∃ v : Int, w = vI v ∧ R g) :=
  k _ (fun v g r => Or.inl ⟨_, rfl, v, rfl, r⟩) (fun e q => Or.inr ⟨e, q, rfl, rfl⟩)
section XCK
variable {D : Nat → Nat → Bool} {d y pc nx k c z : Nat} {ls : XL} {st as r : List XV} {h : Hp} {Q : XO × Hp → Prop}
theorem x_ck {x : Int} {e : Nat} (hd : cod y pc = some (.invokestatic k, nx)) (hc : cls y = c) (hl : lkp mthL c k = some z) (hk : mKnd z = 0) (hp : popN (mArg z) st = some (as, r)) (he : (entL as).length ≤ mLoc z) (hn : hnd y pc e = false) (c1 : x = 1 → wp D d z 0 (ent z as) [] h (fun r => r = (.inl none, h))) (c0 : x = 0 → wp D d z 0 (ent z as) [] h (fun r => r = (.inr e, tck h 1 6))) (hx : x = 0 ∨ x = 1) (q0 : Q (.inr e, tck h 1 6)) (kk : x = 1 → wp D (d + 1) y nx ls r h Q) (hz : z < 900 := by decide) (hs : szS r ≤ 8 := by exact Nat.le_of_ble_eq_true rfl) : wp D (d + 1) y pc ls st h Q := by
  rcases hx with w | w
  · exact x_cS hd hc hl hk hz hp he hs (c0 w) (fun v' h1 q => by cases q) (fun e1 h1 q => by cases q; rw [hn]; exact q0)
  · exact x_cS hd hc hl hk hz hp he hs (c1 w) (fun v' h1 q => by cases q; exact kk w) (fun e1 h1 q => by cases q)
end XCK
theorem C94x {D : Nat → Nat → Bool} {d : Nat} {h : Hp} {x : Int} (qx : x = 0) : wp D (d + 0) 94 0 (ent 94 [vI x]) [] h (fun r => r = (.inr 0, tck h 1 6)) := by
  refine x_ent en94 ?_
  refine x_iload_n d94_0 rfl ?_
  refine x_ifne (t := 15) d94_1 rfl (by omega) (fun c1 => ?_) (fun c1 => ?_)
  · exfalso; omega
  · exact x_thr d94_4 (by decide +kernel) (by decide +kernel) (by exact Nat.le_of_ble_eq_true rfl) rfl
theorem C84x {D : Nat → Nat → Bool} {d : Nat} {h : Hp} {x : Int} (qx : x = 0) : wp D (d + 0) 84 0 (ent 84 [vI x]) [] h (fun r => r = (.inr 1, tck h 1 6)) := by
  refine x_ent en84 ?_
  refine x_iload_n d84_0 rfl ?_
  refine x_ifne (t := 15) d84_1 rfl (by omega) (fun c1 => ?_) (fun c1 => ?_)
  · exfalso; omega
  · exact x_thr d84_4 (by decide +kernel) (by decide +kernel) (by exact Nat.le_of_ble_eq_true rfl) rfl
theorem C88x {D : Nat → Nat → Bool} {d : Nat} {h : Hp} {x : Int} (qx : x = 0) : wp D (d + 0) 88 0 (ent 88 [vI x]) [] h (fun r => r = (.inr 2, tck h 1 6)) := by
  refine x_ent en88 ?_
  refine x_iload_n d88_0 rfl ?_
  refine x_ifne (t := 15) d88_1 rfl (by omega) (fun c1 => ?_) (fun c1 => ?_)
  · exfalso; omega
  · exact x_thr d88_4 (by decide +kernel) (by decide +kernel) (by exact Nat.le_of_ble_eq_true rfl) rfl
