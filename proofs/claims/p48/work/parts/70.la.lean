/-! ===== WHAT ADDING TO A LIST KEEPS ===== -/
def isLs (l : Nat) : Prop := l = 5 ∨ l = 44 ∨ l = 45 ∨ l = 46 ∨ l = 59
/-- the rows of the lists -/
def RW (h : Hp) : Prop := ∀ l e, isLs l → hR h l 1 = some e → (e = 0 ∨ 69 ≤ e) ∧ e < hN h ∧ hT h e = 103
theorem Hv_RW {h : Hp} {mP mC mI mD mB : Nat → Nat} {nP nC nI nD nB : Nat} (S : Hv h mP mC mI mD mB nP nC nI nD nB) : RW h := by
  intro l e q w
  rcases q with q | q | q | q | q <;> subst q
  · obtain ⟨-, e2, w2, w0, w3, w4, -⟩ := S.lp; rw [w2] at w; cases w; exact ⟨w0, w3, w4⟩
  · obtain ⟨-, e2, w2, w0, w3, w4, -⟩ := S.li; rw [w2] at w; cases w; exact ⟨w0, w3, w4⟩
  · obtain ⟨-, e2, w2, w0, w3, w4, -⟩ := S.ld; rw [w2] at w; cases w; exact ⟨w0, w3, w4⟩
  · obtain ⟨-, e2, w2, w0, w3, w4, -⟩ := S.lc; rw [w2] at w; cases w; exact ⟨w0, w3, w4⟩
  · obtain ⟨-, e2, w2, w0, w3, w4, -⟩ := S.lb; rw [w2] at w; cases w; exact ⟨w0, w3, w4⟩
theorem isLs_o {h : Hp} (F : Fx h) {l : Nat} (q : isLs l) : Ob h l 12 ∧ l < 69 ∧ 2 ≤ l := by
  rcases q with q | q | q | q | q <;> subst q
  · exact ⟨F.o rfl (by decide), by decide, by decide⟩
  · exact ⟨F.o rfl (by decide), by decide, by decide⟩
  · exact ⟨F.o rfl (by decide), by decide, by decide⟩
  · exact ⟨F.o rfl (by decide), by decide, by decide⟩
  · exact ⟨F.o rfl (by decide), by decide, by decide⟩
/-- what the list l and its new row are -/
def GE (g : Hp) (l a : Nat) : Prop := a = l ∨ hR g l 1 = some a
theorem Gr_pk {h g : Hp} {l n b : Nat} (F : Fx h) (W : RW h) (D : LD h) (q : isLs l) (G : Gr h g l n b) : Mv h g (GE g l) ∧ (∀ l', isLs l' → l' ≠ l → ¬ GE g l l' ∧ ∀ e, hR h l' 1 = some e → ¬ GE g l e) ∧ LD g ∧ RW g := by
  obtain ⟨g1, g2, g3, e, e', w1, w2, w3, w4, w5, w6, w7, w8, w9, w10, w11⟩ := G
  have o := isLs_o F q
  have we := W l e q w1
  obtain ⟨d0, d1, d2⟩ := D
  have hx : ∀ a, GE g l a ↔ a = l ∨ a = e' := fun a => by
    unfold GE; rw [w2]
    exact ⟨fun k => k.elim Or.inl (fun k => Or.inr (Option.some.inj k).symm), fun k => k.elim Or.inl (fun k => Or.inr (by rw [k]))⟩
  have M : Mv h g (GE g l) := by
    refine ⟨g1, fun a ha k => ?_, fun a ha k j => ?_⟩
    · rcases (hx a).mp k with r | r
      · left; rw [r]; exact o.1.2
      · right
        rw [← (g1.2 a ha).1, r]; exact w6
    · rw [hx] at k
      exact ⟨g2 a ha (fun r => k (Or.inl r)) j, w11 a ha (fun r => k (Or.inr r)) (fun r => k (Or.inl r)) j⟩
  have key : ∀ l', isLs l' → l' ≠ l → ¬ GE g l l' ∧ ∀ e, hR h l' 1 = some e → ¬ GE g l e := by
    intro l' q' hn
    have o' := isLs_o F q'
    refine ⟨fun k => ?_, fun e2 k2 k => ?_⟩
    · rcases (hx l').mp k with r | r <;> omega
    · have we2 := W l' e2 q' k2
      rcases (hx e2).mp k with r | r
      · omega
      · rcases w3 with w3 | w3
        · have := d2 l' l e2 q' q hn k2 (by rw [r, w3.1]; exact w1)
          omega
        · omega
  have rr : ∀ l', isLs l' → l' ≠ l → hR g l' 1 = hR h l' 1 := fun l' q' hn => (M.2.2 l' (isLs_o F q').1.1 (key l' q' hn).1 1).2
  have RWg : RW g := by
    intro l' e2 q' k2
    by_cases hn : l' = l
    · rw [hn, w2] at k2; cases k2
      exact ⟨Or.inr w4, w5, w6⟩
    · rw [rr l' q' hn] at k2
      have := W l' e2 q' k2
      exact ⟨this.1, by have := g1.1; omega, by rw [(g1.2 e2 this.2.1).1]; exact this.2.2⟩
  refine ⟨M, key, ⟨B1_t (g1.2 0 (by have := F.1; omega)).2 (g1.2 1 (by have := F.1; omega)).1 (g1.2 1 (by have := F.1; omega)).2 d0, fun l' e2 q' k2 => ?_, fun l1 l2 e2 q1 q2 hn k1 k2 => ?_⟩, RWg⟩
  · by_cases hn : l' = l
    · rw [hn, w2] at k2; cases k2; exact w7.2
    · rw [rr l' q' hn] at k2
      rw [(g1.2 e2 (W l' e2 q' k2).2.1).2]; exact d1 l' e2 q' k2
  · by_cases c1 : l1 = l
    · have c2 : l2 ≠ l := fun c => hn (c1.trans c.symm)
      rw [rr l2 q2 c2] at k2
      rw [c1] at k1
      exact absurd (Or.inr k1) ((key l2 q2 c2).2 e2 k2)
    · by_cases c2 : l2 = l
      · rw [rr l1 q1 c1] at k1
        rw [c2] at k2
        exact absurd (Or.inr k2) ((key l1 q1 c1).2 e2 k1)
      · rw [rr l1 q1 c1] at k1; rw [rr l2 q2 c2] at k2
        exact d2 l1 l2 e2 q1 q2 hn k1 k2
theorem Ls_add {K : Hp → Nat → Prop} {h g : Hp} {l n b : Nat} {m : Nat → Nat} (L : Ls K h l m n) (G : Gr h g l n b) (hK : ∀ p, K h p → K g p) (hb : K g b) : Ls K g l (fun j => if j = n then b else m j) (n + 1) := by
  obtain ⟨g1, g2, g3, e, e', w1, w2, w3, w4, w5, w6, w7, w8, w9, w10, w11⟩ := G
  obtain ⟨q1, e2, q2, q3, q4, q5, q6, q7, q8⟩ := L
  rw [q2] at w1; cases w1
  refine ⟨by rw [g3]; omega, e', w2, Or.inr w4, w5, w6, w7.1, fun j hj => ?_, fun j hj => w10 j (by omega)⟩
  show hR g e' j = some (if j = n then b else m j) ∧ K g (if j = n then b else m j)
  by_cases c : j = n
  · rw [if_pos c, c]; exact ⟨w9, hb⟩
  · rw [if_neg c, w8 j (by omega)]
    exact ⟨(q7 j (by omega)).1, hK _ (q7 j (by omega)).2⟩
theorem Gr_s {h g : Hp} {l n b : Nat} {v : Int} (G : Gr (sI h l 0 v) g l n b) : Gr h g l n b := by
  obtain ⟨g1, g2, g3⟩ := G
  exact ⟨g1, fun a ha hn j => by rw [g2 a ha hn j]; exact hI_ne hn, g3⟩
theorem C169 {d : Nat} {h : Hp} {K : Hp → Nat → Prop} {l n b : Nat} {m : Nat → Nat} (F : Fx h) (W : RW h) (D : LD h) (q : isLs l) (L : Ls K h l m n) (hn : n ≤ 40) (hK : ∀ p, K h p → hT h p < 13) (hb : b < hN h ∧ hT h b < 13) : PW DA (d + 4) 169 [vR (some l), vR (some b)] h (fun w g => ∃ v : Int, w = vI v ∧ Gr h g l n b ∧ hC g ≤ hC h + 1 ∧ hS g ≤ hS h + 70) := by
  refine PW_of (fun Q hQ => ?_)
  have o := isLs_o F q
  obtain ⟨q1, e, q2, q3, q4, q5, q6, q7, q8⟩ := L
  refine x_ent en169 ?_
  refine x_aload_n d169_0 rfl ?_
  refine x_dupR d169_1 ?_
  refine x_gfI d169_2 cl169 f12_63 (by decide) o.1 rfl ?_
  refine x_iconst d169_5 ?_
  refine x_iadd d169_6 ?_
  refine x_pfI d169_7 cl169 f12_63 o.1 rfl (fun q => by cases q) ?_
  refine x_aload_n d169_10 rfl ?_
  refine x_aload_n d169_11 rfl ?_
  refine x_aload_n d169_12 rfl ?_
  refine x_gfR d169_13 cl169 f12_9 o.1 rfl q2 ?_
  refine x_aload_n d169_16 rfl ?_
  refine x_gfI d169_17 cl169 f12_48 (by decide) o.1 rfl ?_
  rw [show hI (sI h l 0 (hI h l 0 + 1)) l 2 = (n : Int) by rw [hI_nk (by decide)]; exact q1]
  refine x_VU d169_20 cl169 m12_131 kd170 tg170 po170 le170 o.2.2 o.1 (C170 (h := sI h l 0 (hI h l 0 + 1)) o.1 o.2.2 o.2.1 q2 q4 q5 q3 ⟨q6, D.2.1 l e q q2⟩ hn (fun j hj => ?_) (fun z => by rw [z]; exact D.1.1) (by rw [hI_nk (by decide)]; exact q1) F.1 hb q8) (fun g k => ?_)
  · show (match hR h e j with | none => true | some b => decide (hT h b < 13)) = true
    rw [(q7 j hj).1]
    exact decide_eq_true (hK _ (q7 j hj).2)
  refine x_iconst d169_23 ?_
  exact x_zret d169_24 rt169 (by omega) (hQ _ _ ⟨Gr_s k.1, k.2.1, k.2.2⟩)
theorem Hv_addP {h g : Hp} {b : Nat} {mP mC mI mD mB : Nat → Nat} {nP nC nI nD nB : Nat} (S : Hv h mP mC mI mD mB nP nC nI nD nB) (D : LD h) (G : Gr h g 5 nP b) (hb : Pc h b) (top : nP < 12) : Hv g (fun j => if j = nP then b else mP j) mC mI mD mB (nP + 1) nC nI nD nB ∧ Mv h g (GE g 5) ∧ LD g := by
  have F := S.F
  obtain ⟨M, k, D', -⟩ := Gr_pk F (Hv_RW S) D (by unfold isLs; decide) G
  exact ⟨Hv_Mv M S (Ls_add S.lp G (fun _ => Pc_Mv M) (Pc_Mv M hb)) (by omega) (Ls_Mv M (isLs_o F (by unfold isLs; decide)).1.1 (k 46 (by unfold isLs; decide) (by decide)).1 (k 46 (by unfold isLs; decide) (by decide)).2 (fun _ => Cv_Mv M) S.lc) S.nc (Ls_Mv M (isLs_o F (by unfold isLs; decide)).1.1 (k 44 (by unfold isLs; decide) (by decide)).1 (k 44 (by unfold isLs; decide) (by decide)).2 (fun _ => Tm_Mv M) S.li) S.ni (Ls_Mv M (isLs_o F (by unfold isLs; decide)).1.1 (k 45 (by unfold isLs; decide) (by decide)).1 (k 45 (by unfold isLs; decide) (by decide)).2 (fun _ => Tm_Mv M) S.ld) S.nd (Ls_Mv M (isLs_o F (by unfold isLs; decide)).1.1 (k 59 (by unfold isLs; decide) (by decide)).1 (k 59 (by unfold isLs; decide) (by decide)).2 (fun _ => Bi_Mv M) S.lb) S.nb (by omega) (by omega), M, D'⟩
theorem Hv_addC {h g : Hp} {b : Nat} {mP mC mI mD mB : Nat → Nat} {nP nC nI nD nB : Nat} (S : Hv h mP mC mI mD mB nP nC nI nD nB) (D : LD h) (G : Gr h g 46 nC b) (hb : Cv h b) (top : nC < 12) : Hv g mP (fun j => if j = nC then b else mC j) mI mD mB nP (nC + 1) nI nD nB ∧ Mv h g (GE g 46) ∧ LD g := by
  have F := S.F
  obtain ⟨M, k, D', -⟩ := Gr_pk F (Hv_RW S) D (by unfold isLs; decide) G
  exact ⟨Hv_Mv M S (Ls_Mv M (isLs_o F (by unfold isLs; decide)).1.1 (k 5 (by unfold isLs; decide) (by decide)).1 (k 5 (by unfold isLs; decide) (by decide)).2 (fun _ => Pc_Mv M) S.lp) S.np (Ls_add S.lc G (fun _ => Cv_Mv M) (Cv_Mv M hb)) (by omega) (Ls_Mv M (isLs_o F (by unfold isLs; decide)).1.1 (k 44 (by unfold isLs; decide) (by decide)).1 (k 44 (by unfold isLs; decide) (by decide)).2 (fun _ => Tm_Mv M) S.li) S.ni (Ls_Mv M (isLs_o F (by unfold isLs; decide)).1.1 (k 45 (by unfold isLs; decide) (by decide)).1 (k 45 (by unfold isLs; decide) (by decide)).2 (fun _ => Tm_Mv M) S.ld) S.nd (Ls_Mv M (isLs_o F (by unfold isLs; decide)).1.1 (k 59 (by unfold isLs; decide) (by decide)).1 (k 59 (by unfold isLs; decide) (by decide)).2 (fun _ => Bi_Mv M) S.lb) S.nb (by omega) (by omega), M, D'⟩
theorem Hv_addI {h g : Hp} {b : Nat} {mP mC mI mD mB : Nat → Nat} {nP nC nI nD nB : Nat} (S : Hv h mP mC mI mD mB nP nC nI nD nB) (D : LD h) (G : Gr h g 44 nI b) (hb : Tm h b) (top : nI < 10) : Hv g mP mC (fun j => if j = nI then b else mI j) mD mB nP nC (nI + 1) nD nB ∧ Mv h g (GE g 44) ∧ LD g := by
  have F := S.F
  obtain ⟨M, k, D', -⟩ := Gr_pk F (Hv_RW S) D (by unfold isLs; decide) G
  exact ⟨Hv_Mv M S (Ls_Mv M (isLs_o F (by unfold isLs; decide)).1.1 (k 5 (by unfold isLs; decide) (by decide)).1 (k 5 (by unfold isLs; decide) (by decide)).2 (fun _ => Pc_Mv M) S.lp) S.np (Ls_Mv M (isLs_o F (by unfold isLs; decide)).1.1 (k 46 (by unfold isLs; decide) (by decide)).1 (k 46 (by unfold isLs; decide) (by decide)).2 (fun _ => Cv_Mv M) S.lc) S.nc (Ls_add S.li G (fun _ => Tm_Mv M) (Tm_Mv M hb)) (by omega) (Ls_Mv M (isLs_o F (by unfold isLs; decide)).1.1 (k 45 (by unfold isLs; decide) (by decide)).1 (k 45 (by unfold isLs; decide) (by decide)).2 (fun _ => Tm_Mv M) S.ld) S.nd (Ls_Mv M (isLs_o F (by unfold isLs; decide)).1.1 (k 59 (by unfold isLs; decide) (by decide)).1 (k 59 (by unfold isLs; decide) (by decide)).2 (fun _ => Bi_Mv M) S.lb) S.nb (by omega) (by omega), M, D'⟩
theorem Hv_addB {h g : Hp} {b : Nat} {mP mC mI mD mB : Nat → Nat} {nP nC nI nD nB : Nat} (S : Hv h mP mC mI mD mB nP nC nI nD nB) (D : LD h) (G : Gr h g 59 nB b) (hb : Bi h b) (top : nB < 40) : Hv g mP mC mI mD (fun j => if j = nB then b else mB j) nP nC nI nD (nB + 1) ∧ Mv h g (GE g 59) ∧ LD g := by
  have F := S.F
  obtain ⟨M, k, D', -⟩ := Gr_pk F (Hv_RW S) D (by unfold isLs; decide) G
  exact ⟨Hv_Mv M S (Ls_Mv M (isLs_o F (by unfold isLs; decide)).1.1 (k 5 (by unfold isLs; decide) (by decide)).1 (k 5 (by unfold isLs; decide) (by decide)).2 (fun _ => Pc_Mv M) S.lp) S.np (Ls_Mv M (isLs_o F (by unfold isLs; decide)).1.1 (k 46 (by unfold isLs; decide) (by decide)).1 (k 46 (by unfold isLs; decide) (by decide)).2 (fun _ => Cv_Mv M) S.lc) S.nc (Ls_Mv M (isLs_o F (by unfold isLs; decide)).1.1 (k 44 (by unfold isLs; decide) (by decide)).1 (k 44 (by unfold isLs; decide) (by decide)).2 (fun _ => Tm_Mv M) S.li) S.ni (Ls_Mv M (isLs_o F (by unfold isLs; decide)).1.1 (k 45 (by unfold isLs; decide) (by decide)).1 (k 45 (by unfold isLs; decide) (by decide)).2 (fun _ => Tm_Mv M) S.ld) S.nd (Ls_add S.lb G (fun _ => Bi_Mv M) (Bi_Mv M hb)) (by omega) (by omega) (by omega), M, D'⟩
theorem IV_addC {h g : Hp} {b : Nat} {mP mC mI mD mB : Nat → Nat} {nP nC nI nD nB : Nat} (K : IV h mP mC mI mD mB nP nC nI nD nB) (G : Gr h g 46 nC b) (hb : Cv h b) (top : nC < 12) : IV g mP (fun j => if j = nC then b else mC j) mI mD mB nP (nC + 1) nI nD nB := by
  obtain ⟨S, X0, XC, XT⟩ := K
  obtain ⟨S', M, D⟩ := Hv_addC S X0.2.2.2 G hb top
  exact ⟨S', EX0_Mv M S X0 D, CI_Mv M S XC, TC_Mv M S.F XT⟩
theorem IV_addI {h g : Hp} {b : Nat} {mP mC mI mD mB : Nat → Nat} {nP nC nI nD nB : Nat} (K : IV h mP mC mI mD mB nP nC nI nD nB) (G : Gr h g 44 nI b) (hb : Tm h b) (h1 : 1 ≤ hI h b 0) (top : nI < 10) : IV g mP mC (fun j => if j = nI then b else mI j) mD mB nP nC (nI + 1) nD nB := by
  obtain ⟨S, X0, XC, XT⟩ := K
  obtain ⟨S', M, D⟩ := Hv_addI S X0.2.2.2 G hb top
  have Y := EX0_Mv M S X0 D
  refine ⟨S', ⟨fun k hk => ?_, Y.2⟩, CI_Mv M S XC, TC_Mv M S.F XT⟩
  show 1 ≤ hI g (if k = nI then b else mI k) 0
  by_cases c : k = nI
  · rw [if_pos c, M.i hb.n hb.t (by decide)]; exact h1
  · rw [if_neg c]; exact Y.1 k (by omega)
/-- a bid more; the caches are not right yet -/
theorem IV_addB {h g : Hp} {b : Nat} {mP mC mI mD mB : Nat → Nat} {nP nC nI nD nB : Nat} (K : IV h mP mC mI mD mB nP nC nI nD nB) (G : Gr h g 59 nB b) (hb : Bi h b) (top : nB < 40) : Hv g mP mC mI mD (fun j => if j = nB then b else mB j) nP nC nI nD (nB + 1) ∧ EX0 g mP mI nP nI ∧ TC g ∧ CI0 g := by
  obtain ⟨S, X0, XC, XT⟩ := K
  obtain ⟨S', M, D⟩ := Hv_addB S X0.2.2.2 G hb top
  exact ⟨S', EX0_Mv M S X0 D, TC_Mv M S.F XT, CI0_Mv M S.F (CI0_of XC)⟩
/-- a piece more, which is on no sheet yet -/
theorem IV_addP {h g : Hp} {b : Nat} {mP mC mI mD mB : Nat → Nat} {nP nC nI nD nB : Nat} (K : IV h mP mC mI mD mB nP nC nI nD nB) (G : Gr h g 5 nP b) (hb : Pc h b) (top : nP < 12) : Hv g (fun j => if j = nP then b else mP j) mC mI mD mB (nP + 1) nC nI nD nB ∧ EX g mP mI mB nP nI nB := by
  obtain ⟨S, X0, XC, XT⟩ := K
  obtain ⟨S', M, D⟩ := Hv_addP S X0.2.2.2 G hb top
  exact ⟨S', EX0_Mv M S X0 D, CI_Mv M S XC, TC_Mv M S.F XT⟩
