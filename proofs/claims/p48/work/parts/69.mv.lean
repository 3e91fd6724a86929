/-! ===== HEAPS THAT HAVE GROWN ===== -/
/-- a list or a list's row -/
def OkE (h : Hp) (E : Nat → Prop) : Prop := ∀ a, a < hN h → E a → hT h a = 12 ∨ hT h a = 103
/-- what was there stays but for E -/
def Mv (h g : Hp) (E : Nat → Prop) : Prop := Ge h g ∧ OkE h E ∧ ∀ a, a < hN h → ¬ E a → ∀ j, hI g a j = hI h a j ∧ hR g a j = hR h a j
theorem Mv.x {h g : Hp} {E : Nat → Prop} (M : Mv h g E) {a t : Nat} (l : a < hN h) (e : hT h a = t) (q : t ≠ 12 ∧ t ≠ 103) (j : Nat) : hI g a j = hI h a j ∧ hR g a j = hR h a j :=
  M.2.2 a l (fun w => by have := M.2.1 a l w; omega) j
theorem Mv.i {h g : Hp} {E : Nat → Prop} (M : Mv h g E) {a t : Nat} (l : a < hN h) (e : hT h a = t) (q : t ≠ 12 ∧ t ≠ 103) (j : Nat) : hI g a j = hI h a j := (M.x l e q j).1
theorem Mv.r {h g : Hp} {E : Nat → Prop} (M : Mv h g E) {a t : Nat} (l : a < hN h) (e : hT h a = t) (q : t ≠ 12 ∧ t ≠ 103) (j : Nat) : hR g a j = hR h a j := (M.x l e q j).2
theorem Mv.t {h g : Hp} {E : Nat → Prop} (M : Mv h g E) {a : Nat} (l : a < hN h) : hT g a = hT h a := (M.1.2 a l).1
theorem Mv.l {h g : Hp} {E : Nat → Prop} (M : Mv h g E) {a : Nat} (l : a < hN h) : hL g a = hL h a := (M.1.2 a l).2
theorem Pc_Mv {h g : Hp} {E : Nat → Prop} {p : Nat} (M : Mv h g E) (S : Pc h p) : Pc g p := Pc.mk (h := g) (p := p) S.g (by have := S.n; have := M.1.1; omega) (by rw [M.t (by have := S.n; omega)]; exact S.t) (by rw [M.t (by have := S.n; omega)]; exact S.t1) (by rw [M.l (by have := S.n; omega)]; exact S.l1) (by rw [M.r (by have := S.n; omega) S.t (by decide)]; exact S.r1) (by rw [M.t (by have := S.n; omega)]; exact S.t2) (by rw [M.l (by have := S.n; omega)]; exact S.l2) (by rw [M.r (by have := S.n; omega) S.t (by decide)]; exact S.r2) (by rw [M.t (by have := S.n; omega)]; exact S.t3) (by rw [M.l (by have := S.n; omega)]; exact S.l3) (by rw [M.r (by have := S.n; omega) S.t (by decide)]; exact S.r3) (by rw [M.t (by have := S.n; omega)]; exact S.t4) (by rw [M.l (by have := S.n; omega)]; exact S.l4) (by rw [M.r (by have := S.n; omega) S.t (by decide)]; exact S.r4) (by rw [M.t (by have := S.n; omega)]; exact S.t5) (by rw [M.l (by have := S.n; omega)]; exact S.l5) (by rw [M.r (by have := S.n; omega) S.t (by decide)]; exact S.r5) (by rw [M.t (by have := S.n; omega)]; exact S.t6) (by rw [M.l (by have := S.n; omega)]; exact S.l6) (by rw [M.r (by have := S.n; omega) S.t (by decide)]; exact S.r6) (by rw [M.i (by have := S.n; omega) S.t (by decide)]; exact S.number) (by rw [M.i (by have := S.n; omega) S.t (by decide)]; exact S.wide) (by rw [M.i (by have := S.n; omega) S.t (by decide)]; exact S.high) (by rw [M.i (by have := S.n; omega) S.t (by decide)]; exact S.sheet) (by rw [M.i (by have := S.n; omega) S.t (by decide)]; exact S.isTop) (by rw [M.i (by have := S.n; omega) S.t (by decide)]; exact S.place) (by rw [M.i (by have := S.n; omega) S.t (by decide)]; exact S.plateWide) (by rw [M.i (by have := S.n; omega) S.t (by decide)]; exact S.isTruthTold) (by rw [M.i (by have := S.n; omega) S.t (by decide)]; exact S.hasShade) (by rw [M.i (by have := S.n; omega) S.t (by decide)]; exact S.light) (fun j => by rw [M.i (by have := S.n; omega) S.t1 (by decide)]; exact S.seen j) (fun j => by rw [M.i (by have := S.n; omega) S.t2 (by decide)]; exact S.isClear j) (fun j => by rw [M.i (by have := S.n; omega) S.t3 (by decide)]; exact S.fits j) (fun j => by rw [M.i (by have := S.n; omega) S.t4 (by decide)]; exact S.gauges j) (fun j => by rw [M.i (by have := S.n; omega) S.t5 (by decide)]; exact S.marks j) (fun j => by rw [M.i (by have := S.n; omega) S.t6 (by decide)]; exact S.shade j)
theorem Cv_Mv {h g : Hp} {E : Nat → Prop} {p : Nat} (M : Mv h g E) (S : Cv h p) : Cv g p := Cv.mk (h := g) (p := p) S.g (by have := S.n; have := M.1.1; omega) (by rw [M.t (by have := S.n; omega)]; exact S.t) (by rw [M.t (by have := S.n; omega)]; exact S.t1) (by rw [M.l (by have := S.n; omega)]; exact S.l1) (by rw [M.r (by have := S.n; omega) S.t (by decide)]; exact S.r1) (by rw [M.i (by have := S.n; omega) S.t (by decide)]; exact S.from) (by rw [M.i (by have := S.n; omega) S.t (by decide)]; exact S.to) (by rw [M.i (by have := S.n; omega) S.t (by decide)]; exact S.weight) (by rw [M.i (by have := S.n; omega) S.t (by decide)]; exact S.die) (by rw [M.i (by have := S.n; omega) S.t (by decide)]; exact S.day) (by rw [M.i (by have := S.n; omega) S.t (by decide)]; exact S.arrived) (by rw [M.i (by have := S.n; omega) S.t (by decide)]; exact S.isTaxed) (fun j => by rw [M.i (by have := S.n; omega) S.t1 (by decide)]; exact S.stamps j)
theorem Tm_Mv {h g : Hp} {E : Nat → Prop} {p : Nat} (M : Mv h g E) (S : Tm h p) : Tm g p := Tm.mk (h := g) (p := p) S.g (by have := S.n; have := M.1.1; omega) (by rw [M.t (by have := S.n; omega)]; exact S.t) (by rw [M.i (by have := S.n; omega) S.t (by decide)]; exact S.what) (by rw [M.i (by have := S.n; omega) S.t (by decide)]; exact S.frm) (by rw [M.i (by have := S.n; omega) S.t (by decide)]; exact S.to)
theorem Bi_Mv {h g : Hp} {E : Nat → Prop} {p : Nat} (M : Mv h g E) (S : Bi h p) : Bi g p := Bi.mk (h := g) (p := p) S.g (by have := S.n; have := M.1.1; omega) (by rw [M.t (by have := S.n; omega)]; exact S.t) (by rw [M.i (by have := S.n; omega) S.t (by decide)]; exact S.bidder) (by rw [M.i (by have := S.n; omega) S.t (by decide)]; exact S.items) (by rw [M.i (by have := S.n; omega) S.t (by decide)]; exact S.amount)
theorem Sh_Mv {h g : Hp} {E : Nat → Prop} {p : Nat} (M : Mv h g E) (S : Sh h p) : Sh g p := Sh.mk (h := g) (p := p) S.g S.n (by rw [M.t (by have := S.n; have := S.f; omega)]; exact S.t) (by have := S.f; have := M.1.1; omega) (by rw [M.t (by have := S.n; have := S.f; omega)]; exact S.t1) (by rw [M.l (by have := S.n; have := S.f; omega)]; exact S.l1) (by rw [M.r (by have := S.n; have := S.f; omega) S.t (by decide)]; exact S.r1) (by rw [M.t (by have := S.n; have := S.f; omega)]; exact S.t2) (by rw [M.l (by have := S.n; have := S.f; omega)]; exact S.l2) (by rw [M.r (by have := S.n; have := S.f; omega) S.t (by decide)]; exact S.r2) (by rw [M.t (by have := S.n; have := S.f; omega)]; exact S.t3) (by rw [M.l (by have := S.n; have := S.f; omega)]; exact S.l3) (by rw [M.r (by have := S.n; have := S.f; omega) S.t (by decide)]; exact S.r3) (by rw [M.t (by have := S.n; have := S.f; omega)]; exact S.t4) (by rw [M.l (by have := S.n; have := S.f; omega)]; exact S.l4) (by rw [M.r (by have := S.n; have := S.f; omega) S.t (by decide)]; exact S.r4) (by rw [M.i (by have := S.n; have := S.f; omega) S.t (by decide)]; exact S.size) (by rw [M.i (by have := S.n; have := S.f; omega) S.t (by decide)]; exact S.platings) (by rw [M.i (by have := S.n; have := S.f; omega) S.t (by decide)]; exact S.printings) (fun j => by rw [M.i (by have := S.n; have := S.f; omega) S.t2 (by decide)]; exact S.places j)
theorem fxR_ok : ∀ t ∈ fxR, (fT t.1 ≠ 12 ∧ fT t.1 ≠ 103) ∧ fT t.1 ≠ 999 := by decide +kernel
theorem Fx_Mv {h g : Hp} {E : Nat → Prop} (M : Mv h g E) (F : Fx h) : Fx g := by
  refine ⟨by have := F.1; have := M.1.1; omega, fun a q => ?_, fun a j b q => ?_⟩
  · have l : a < hN h := Nat.lt_of_lt_of_le (fT_lt q) F.1
    rw [M.t l, M.l l]; exact F.2.1 a q
  · have w := fxR_ok _ (lkp_mem q)
    have l : a < hN h := Nat.lt_of_lt_of_le (fT_lt w.2) F.1
    rw [M.r l (F.2.1 a w.2).1 w.1]
    exact F.2.2 a j b q
/-- a list that is not touched -/
theorem Ls_Mv {K : Hp → Nat → Prop} {h g : Hp} {E : Nat → Prop} {l n : Nat} {m : Nat → Nat} (M : Mv h g E) (hl : l < hN h) (el : ¬ E l) (er : ∀ e, hR h l 1 = some e → ¬ E e) (hK : ∀ p, K h p → K g p) (L : Ls K h l m n) : Ls K g l m n := by
  obtain ⟨q1, e, q2, q3, q4, q5, q6, q7, q8⟩ := L
  refine ⟨by rw [(M.2.2 l hl el 2).1]; exact q1, e, by rw [(M.2.2 l hl el 1).2]; exact q2, q3, by have := M.1.1; omega, by rw [M.t q4]; exact q5, by rw [M.l q4]; exact q6, fun j hj => ⟨?_, hK _ (q7 j hj).2⟩, fun j hj => ?_⟩
  · rw [(M.2.2 e q4 (er e q2) j).2]; exact (q7 j hj).1
  · rw [(M.2.2 e q4 (er e q2) j).2]; exact q8 j hj
/-- the fixed cells that matter are cells of ours, not lists -/
theorem okB_i {h g : Hp} {E : Nat → Prop} (M : Mv h g E) (F : Fx h) {b : Nat} (n : fT b ≠ 12 ∧ fT b ≠ 103) (n9 : fT b ≠ 999) (j : Nat) : hI g b j = hI h b j ∧ hR g b j = hR h b j :=
  M.x (Nat.lt_of_lt_of_le (fT_lt n9) F.1) (F.2.1 b n9).1 n j
theorem Hv_Mv {h g : Hp} {E : Nat → Prop} {mP mC mI mD mB : Nat → Nat} {nP nC nI nD nB : Nat} {mP' mC' mI' mD' mB' : Nat → Nat} {nP' nC' nI' nD' nB' : Nat} (M : Mv h g E) (S : Hv h mP mC mI mD mB nP nC nI nD nB) (lp : Ls Pc g 5 mP' nP') (qnp : nP' ≤ 12) (lc : Ls Cv g 46 mC' nC') (qnc : nC' ≤ 12) (li : Ls Tm g 44 mI' nI') (qni : nI' ≤ 10) (ld : Ls Tm g 45 mD' nD') (qnd : nD' = 1) (lb : Ls Bi g 59 mB' nB') (qnb : nB' ≤ 40) (lep : nP ≤ nP') (lec : nC ≤ nC') : Hv g mP' mC' mI' mD' mB' nP' nC' nI' nD' nB' := by
  have F := S.F
  have e : ∀ b, fT b ≠ 12 → fT b ≠ 103 → fT b ≠ 999 → ∀ j, hI g b j = hI h b j := fun b q1 q2 q3 j => (okB_i M F ⟨q1, q2⟩ q3 j).1
  exact Hv.mk (h := g) (Fx_Mv M F) ⟨by rw [e 3 (by decide) (by decide) (by decide) 0]; exact S.pl.1, by rw [e 3 (by decide) (by decide) (by decide) 1]; exact S.pl.2.1, by rw [e 3 (by decide) (by decide) (by decide) 2]; exact S.pl.2.2.1, fun j => by rw [e 4 (by decide) (by decide) (by decide) j]; exact S.pl.2.2.2 j⟩ lp qnp lc qnc li qni ld qnd lb qnb (by rw [e 2 (by decide) (by decide) (by decide) 11]; exact S.today) (fun s hs => Sh_Mv M (S.sh s hs)) (by rw [e 37 (by decide) (by decide) (by decide) 2]; exact S.rates) (by rw [e 47 (by decide) (by decide) (by decide) 0]; exact S.hands) (by rw [e 49 (by decide) (by decide) (by decide) 1]; exact S.opinions) (by rw [e 55 (by decide) (by decide) (by decide) 0]; exact S.items) (by rw [e 63 (by decide) (by decide) (by decide) 0]; exact S.count) (fun j => by rw [e 38 (by decide) (by decide) (by decide) j]; exact S.a38 j) (fun j => by rw [e 39 (by decide) (by decide) (by decide) j]; exact S.a39 j) (fun j => by rw [e 40 (by decide) (by decide) (by decide) j]; exact S.a40 j) (fun j => by rw [e 41 (by decide) (by decide) (by decide) j]; exact S.a41 j) (fun j => by rw [e 42 (by decide) (by decide) (by decide) j]; exact S.a42 j) (fun j => by rw [e 43 (by decide) (by decide) (by decide) j]; exact S.a43 j) (fun j => by rw [e 48 (by decide) (by decide) (by decide) j]; exact S.a48 j) (fun j => by rw [e 50 (by decide) (by decide) (by decide) j]; exact S.a50 j) (fun j => by rw [e 51 (by decide) (by decide) (by decide) j]; exact S.a51 j) (fun j => by rw [e 52 (by decide) (by decide) (by decide) j]; exact S.a52 j) (fun j => by rw [e 53 (by decide) (by decide) (by decide) j]; exact S.a53 j) (fun j => by rw [e 54 (by decide) (by decide) (by decide) j]; exact S.a54 j) (fun j => by rw [e 56 (by decide) (by decide) (by decide) j]; exact S.a56 j) (fun j => by rw [e 57 (by decide) (by decide) (by decide) j]; exact S.a57 j) (fun j => by rw [e 58 (by decide) (by decide) (by decide) j]; exact S.a58 j) (fun j => by rw [e 64 (by decide) (by decide) (by decide) j]; exact S.a64 j) (fun j => by rw [e 65 (by decide) (by decide) (by decide) j]; exact S.a65 j) (fun i hi => by rw [e 55 (by decide) (by decide) (by decide) 0] at hi; rw [e 56 (by decide) (by decide) (by decide) i, e 57 (by decide) (by decide) (by decide) i]; exact ⟨fun w => by have := (S.it i hi).1 w; omega, fun w => by have := (S.it i hi).2 w; omega⟩)
theorem EX0_Mv {h g : Hp} {E : Nat → Prop} {mP mC mI mD mB : Nat → Nat} {nP nC nI nD nB : Nat} (M : Mv h g E) (S : Hv h mP mC mI mD mB nP nC nI nD nB) (X : EX0 h mP mI nP nI) (D : LD g) : EX0 g mP mI nP nI := by
  obtain ⟨x1, x2, x3, x4⟩ := X
  have F := S.F
  have b : ∀ k, k < nP → (hI h (mP k) 3).toNat < 6 := fun k hk => by have := (Ls.mem S.lp k hk).sheet; omega
  have ip : ∀ k, k < nP → ∀ j, hI g (mP k) j = hI h (mP k) j := fun k hk j => by
    have T := Ls.mem S.lp k hk
    exact M.i (by have := T.n; omega) T.t (by decide) j
  refine ⟨fun k hk => ?_, ?_, ?_, D⟩
  · have T := Ls.mem S.li k hk
    rw [M.i T.n T.t (by decide)]; exact x1 k hk
  · refine Mb_eq (h := h) (fun s hs q => ?_) (fun s hs => ?_) (fun k hk => ⟨ip k hk 3, ip k hk 5⟩) b x2
    · have T := S.sh s hs
      exact M.r (by have := T.n; have := T.f; omega) T.t1 (by decide) q
    · have T := S.sh s hs
      exact M.i (by have := T.n; have := T.f; omega) T.t (by decide) 1
  · refine Si_eq (h := h) (fun s hs j => ?_) (fun k hk => ⟨ip k hk 3, ip k hk 5, fun j => ?_⟩) b x3
    · have T := S.sh s hs
      exact ⟨M.i (by have := T.n; have := T.f; omega) T.t (by decide) j, M.i (by have := T.n; have := T.f; omega) T.t2 (by decide) j⟩
    · have T := Ls.mem S.lp k hk
      exact M.i (by have := T.n; omega) T.t3 (by decide) j
theorem CI0_Mv {h g : Hp} {E : Nat → Prop} (M : Mv h g E) (F : Fx h) (K : CI0 h) : CI0 g := by
  obtain ⟨k1, k2, k3, k4⟩ := K
  have e : ∀ b, fT b ≠ 12 → fT b ≠ 103 → fT b ≠ 999 → ∀ j, hI g b j = hI h b j ∧ hR g b j = hR h b j := fun b q1 q2 q3 j => okB_i M F ⟨q1, q2⟩ q3 j
  refine ⟨fun a j q => ?_, fun j hj => ?_, by rw [(e 55 (by decide) (by decide) (by decide) 5).1]; exact k3, by rw [(e 55 (by decide) (by decide) (by decide) 6).1]; exact k4⟩
  · rw [← k1 a j q]
    have w : a = 60 ∨ a = 61 ∨ a = 62 ∨ a = 66 ∨ a = 67 ∨ a = 68 ∨ a = 55 := by
      unfold DV at q
      simp only [Bool.not_eq_false', Bool.or_eq_true, Bool.and_eq_true, beq_iff_eq] at q
      omega
    rcases w with w | w | w | w | w | w | w <;> subst w
    · exact (e 60 (by decide) (by decide) (by decide) j).2
    · exact (e 61 (by decide) (by decide) (by decide) j).2
    · exact (e 62 (by decide) (by decide) (by decide) j).2
    · exact (e 66 (by decide) (by decide) (by decide) j).2
    · exact (e 67 (by decide) (by decide) (by decide) j).2
    · exact (e 68 (by decide) (by decide) (by decide) j).2
    · exact (e 55 (by decide) (by decide) (by decide) j).2
  · rw [(e 60 (by decide) (by decide) (by decide) j).1, (e 61 (by decide) (by decide) (by decide) j).1, (e 62 (by decide) (by decide) (by decide) j).1]
    exact k2 j hj
theorem CI_Mv {h g : Hp} {E : Nat → Prop} {mP mC mI mD mB : Nat → Nat} {nP nC nI nD nB : Nat} (M : Mv h g E) (S : Hv h mP mC mI mD mB nP nC nI nD nB) (K : CI h mB nB) : CI g mB nB := by
  have F := S.F
  have e : ∀ b, fT b ≠ 12 → fT b ≠ 103 → fT b ≠ 999 → ∀ j, hI g b j = hI h b j ∧ hR g b j = hR h b j := fun b q1 q2 q3 j => okB_i M F ⟨q1, q2⟩ q3 j
  have K0 := CI0_Mv M F (CI0_of K)
  refine CI_eq (h := h) (fun a j q => by rw [K0.1 a j q, K.1 a j q]) (fun j => (e 55 (by decide) (by decide) (by decide) j).1) (fun j => (e 58 (by decide) (by decide) (by decide) j).1) (fun j => ⟨(e 60 (by decide) (by decide) (by decide) j).1, (e 61 (by decide) (by decide) (by decide) j).1, (e 62 (by decide) (by decide) (by decide) j).1⟩) (fun k hk j => ?_) K
  have T := Ls.mem S.lb k hk
  exact M.i T.n T.t (by decide) j
theorem TC_Mv {h g : Hp} {E : Nat → Prop} (M : Mv h g E) (F : Fx h) (K : TC h) : TC g := by
  have e : ∀ b, fT b ≠ 12 → fT b ≠ 103 → fT b ≠ 999 → ∀ j, hI g b j = hI h b j := fun b q1 q2 q3 j => (okB_i M F ⟨q1, q2⟩ q3 j).1
  unfold TC at K ⊢
  rw [e 63 (by decide) (by decide) (by decide), tcS_eq (fun j => e 64 (by decide) (by decide) (by decide) j)]
  exact K
/-- nothing is touched, cells are made -/
theorem IV_ext {h g : Hp} {mP mC mI mD mB : Nat → Nat} {nP nC nI nD nB : Nat} (M : Mv h g (fun _ => False)) (K : IV h mP mC mI mD mB nP nC nI nD nB) : IV g mP mC mI mD mB nP nC nI nD nB := by
  obtain ⟨S, X0, XC, XT⟩ := K
  have F := S.F
  have hl : ∀ l, l < 69 → l < hN h := fun l q => Nat.lt_of_lt_of_le q F.1
  refine ⟨Hv_Mv M S (Ls_Mv M (hl 5 (by decide)) id (fun _ _ => id) (fun _ => Pc_Mv M) S.lp) S.np (Ls_Mv M (hl 46 (by decide)) id (fun _ _ => id) (fun _ => Cv_Mv M) S.lc) S.nc (Ls_Mv M (hl 44 (by decide)) id (fun _ _ => id) (fun _ => Tm_Mv M) S.li) S.ni (Ls_Mv M (hl 45 (by decide)) id (fun _ _ => id) (fun _ => Tm_Mv M) S.ld) S.nd (Ls_Mv M (hl 59 (by decide)) id (fun _ _ => id) (fun _ => Bi_Mv M) S.lb) S.nb (Nat.le_refl _) (Nat.le_refl _), EX0_Mv M S X0 ?_, CI_Mv M S XC, TC_Mv M F XT⟩
  obtain ⟨d0, d1, d2⟩ := X0.2.2.2
  have r : ∀ l, (l = 5 ∨ l = 44 ∨ l = 45 ∨ l = 46 ∨ l = 59) → hR g l 1 = hR h l 1 := fun l q => (M.2.2 l (hl l (by omega)) id 1).2
  refine ⟨B1_t (M.l (hl 0 (by decide))) (M.t (hl 1 (by decide))) (M.l (hl 1 (by decide))) d0, fun l e q w => ?_, fun l l' e q q' n w w' => ?_⟩
  · rw [r l q] at w
    rw [M.l ?_]
    · exact d1 l e q w
    · rcases q with q | q | q | q | q <;> subst q
      · obtain ⟨-, e2, w2, -, w3, -⟩ := S.lp; rw [w2] at w; cases w; exact w3
      · obtain ⟨-, e2, w2, -, w3, -⟩ := S.li; rw [w2] at w; cases w; exact w3
      · obtain ⟨-, e2, w2, -, w3, -⟩ := S.ld; rw [w2] at w; cases w; exact w3
      · obtain ⟨-, e2, w2, -, w3, -⟩ := S.lc; rw [w2] at w; cases w; exact w3
      · obtain ⟨-, e2, w2, -, w3, -⟩ := S.lb; rw [w2] at w; cases w; exact w3
  · rw [r l q] at w; rw [r l' q'] at w'
    exact d2 l l' e q q' n w (id w') 
