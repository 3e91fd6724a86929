/-! ===== WHAT IS ANSWERED THE SAME WHATEVER THE CACHES HOLD: rules ===== -/
def TD (mB : Nat → Nat) (nB : Nat) (h : Hp) (d y pc : Nat) (ls : XL) (st : List XV) (P : XV → Prop) : Prop := ∃ v : XV, P v ∧ ∀ g, Agr DV h g → CI g mB nB → wp DA d y pc ls st g (fun r => r.1 = .inl (some v) ∧ Agr DV h r.2 ∧ CI r.2 mB nB)
def DW (mB : Nat → Nat) (nB : Nat) (d z : Nat) (as : List XV) (h : Hp) (v : XV) : Prop := ∀ g, Agr DV h g → CI g mB nB → wp DA d z 0 (ent z as) [] g (fun r => r.1 = .inl (some v) ∧ Agr DV h r.2 ∧ CI r.2 mB nB)
theorem DW_agr {mB : Nat → Nat} {nB d z : Nat} {as : List XV} {h h' : Hp} {v : XV} (A : Agr DV h h') (q : DW mB nB d z as h v) : DW mB nB d z as h' v := fun g B K => wp_mono (q g (A.tr B) K) (fun r k => ⟨k.1, (Agr_symm A).tr k.2.1, k.2.2⟩)
theorem DW_det {mB : Nat → Nat} {nB d d' z : Nat} {as : List XV} {h : Hp} {v w : XV} (K : CI h mB nB) (q : DW mB nB d z as h v) (q' : DW mB nB d' z as h w) : v = w := by
  have h1 := wp_dep d' (q h Agr_refl K)
  have h2 := wp_dep d (q' h Agr_refl K)
  rw [Nat.add_comm d' d] at h2
  obtain ⟨n, r, e, k1, -⟩ := h1
  obtain ⟨m, r', e', k2, -⟩ := h2
  have := exec_det e e'
  subst this
  rw [k1] at k2
  simpa using k2
theorem PV_DW {mB : Nat → Nat} {nB d z : Nat} {as : List XV} {h : Hp} {v : XV} (q : PV DV d z as h v) : DW mB nB d z as h v := fun g A K => wp_mono (PV_sub DV_DA (PV_loc A q)) (fun r e => by rw [e]; exact ⟨rfl, A, K⟩)
section TDR
variable {mB : Nat → Nat} {nB : Nat} {d y pc nx k c z pc' pc2 y2 : Nat} {ls ls' ls2 : XL} {st st' st2 as r : List XV} {h : Hp} {P : XV → Prop}
theorem t_s (hs : ∀ (g : Hp) (Q : XO × Hp → Prop), wp DA d y pc' ls' st' g Q → wp DA d y pc ls st g Q) (kk : TD mB nB h d y pc' ls' st' P) : TD mB nB h d y pc ls st P := by
  obtain ⟨v, p, q⟩ := kk
  exact ⟨v, p, fun g A K => hs g _ (q g A K)⟩
theorem t_b {A B : Prop} (hs : ∀ (g : Hp) (Q : XO × Hp → Prop), (A → wp DA d y pc' ls' st' g Q) → (B → wp DA d y pc2 ls2 st2 g Q) → wp DA d y pc ls st g Q) (hab : A ∨ B) (hx : A → B → False) (k1 : A → TD mB nB h d y pc' ls' st' P) (k2 : B → TD mB nB h d y pc2 ls2 st2 P) : TD mB nB h d y pc ls st P := by
  rcases hab with a | b
  · obtain ⟨v, p, q⟩ := k1 a
    exact ⟨v, p, fun g A K => hs g _ (fun _ => q g A K) (fun b => (hx a b).elim)⟩
  · obtain ⟨v, p, q⟩ := k2 b
    exact ⟨v, p, fun g A K => hs g _ (fun a => (hx a b).elim) (fun _ => q g A K)⟩
theorem t_nm {x : Int} (kk : ∀ f : Int, f = x → TD mB nB h d y pc ls (vI f :: st) P) : TD mB nB h d y pc ls (vI x :: st) P := kk x rfl
theorem t_nmL {x : Int} (kk : ∀ f : Int, f = x → TD mB nB h d y pc ls (vL f :: st) P) : TD mB nB h d y pc ls (vL x :: st) P := kk x rfl
theorem t_gfI {t j kd a : Nat} {f : Bool} (hd : cod y pc = some (.getfield k, nx)) (hc : cls y = c) (hl : lkp fldL c k = some (t, j, kd, f)) (hk : kd < 2) (o : Ob h a t) (hD : DV a j = true) (kk : TD mB nB h d y nx ls (vI (hI h a j) :: st) P) : TD mB nB h d y pc ls (vR (some a) :: st) P := by
  obtain ⟨v, p, q⟩ := kk
  exact ⟨v, p, fun g A K => x_gfI hd hc hl hk (Ob_agr A o) rfl (by rw [A.i hD]; exact q g A K)⟩
theorem t_gfR {t j a : Nat} {f : Bool} {b : Option Nat} (hd : cod y pc = some (.getfield k, nx)) (hc : cls y = c) (hl : lkp fldL c k = some (t, j, 3, f)) (o : Ob h a t) (hD : DV a j = true) (e : hR h a j = b) (kk : TD mB nB h d y nx ls (vR b :: st) P) : TD mB nB h d y pc ls (vR (some a) :: st) P := by
  obtain ⟨v, p, q⟩ := kk
  exact ⟨v, p, fun g A K => x_gfR hd hc hl (Ob_agr A o) rfl (by rw [A.r hD]; exact e) (q g A K)⟩
theorem t_iaload {a : Nat} {x : Int} (hd : cod y pc = some (.iaload, nx)) (o : Ob h a 100) (hx : 0 ≤ x ∧ x < (hL h a : Int)) (hD : DV a x.toNat = true) (kk : TD mB nB h d y nx ls (vI (hI h a x.toNat) :: st) P) : TD mB nB h d y pc ls (vI x :: vR (some a) :: st) P := by
  obtain ⟨v, p, q⟩ := kk
  exact ⟨v, p, fun g A K => x_iaload hd (Ob_agr A o) (by rw [A.l]; exact hx) rfl (by rw [A.i hD]; exact q g A K)⟩
theorem t_cast {t a : Nat} (hd : cod y pc = some (.checkcast k, nx)) (hc : cls y = c) (hl : lkp cstT c k = some t) (o : Ob h a t) (kk : TD mB nB h d y nx ls (vR (some a) :: st) P) : TD mB nB h d y pc ls (vR (some a) :: st) P := by
  obtain ⟨v, p, q⟩ := kk
  exact ⟨v, p, fun g A K => x_cast hd hc hl (Ob_agr A o) (q g A K)⟩
theorem t_SV {v : XV} (hd : cod y pc = some (.invokestatic k, nx)) (hc : cls y = c) (hl : lkp mthL c k = some z) (hk : mKnd z = 0) (hp : popN (mArg z) st = some (as, r)) (he : (entL as).length ≤ mLoc z) (cc : PV DV d z as h v) (kk : TD mB nB h (d + 1) y nx ls (v :: r) P) (hz : z < 900 := by decide) (hs : szS r ≤ 8 := by exact Nat.le_of_ble_eq_true rfl) : TD mB nB h (d + 1) y pc ls st P := by
  obtain ⟨w, p, q⟩ := kk
  exact ⟨w, p, fun g A K => x_SV hd hc hl hk hp he (PV_sub DV_DA (PV_loc A cc)) (q g A K) hz hs⟩
theorem t_VV {a : Nat} {v : XV} {t : Nat} (hd : cod y pc = some (.invokevirtual k, nx)) (hc : cls y = c) (hl : lkp mthL c k = some z) (hk : mKnd z = 1) (ht : mTag z = t) (hp : popN (mArg z) st = some (vR (some a) :: as, r)) (he : (entL (vR (some a) :: as)).length ≤ mLoc z) (h2 : 2 ≤ a) (o : Ob h a t) (cc : PV DV d z (vR (some a) :: as) h v) (kk : TD mB nB h (d + 1) y nx ls (v :: r) P) (hs : szS r ≤ 8 := by exact Nat.le_of_ble_eq_true rfl) : TD mB nB h (d + 1) y pc ls st P := by
  obtain ⟨w, p, q⟩ := kk
  exact ⟨w, p, fun g A K => x_VV hd hc hl hk ht hp he h2 (Ob_agr A o) (PV_sub DV_DA (PV_loc A cc)) (q g A K) hs⟩
theorem t_SE {R : Int → Prop} (hd : cod y pc = some (.invokestatic k, nx)) (hc : cls y = c) (hl : lkp mthL c k = some z) (hk : mKnd z = 0) (hp : popN (mArg z) st = some (as, r)) (he : (entL as).length ≤ mLoc z) (cc : ∃ v : Int, R v ∧ PV DV d z as h (vI v)) (kk : ∀ v : Int, R v → PV DV d z as h (vI v) → TD mB nB h (d + 1) y nx ls (vI v :: r) P) (hz : z < 900 := by decide) (hs : szS r ≤ 8 := by exact Nat.le_of_ble_eq_true rfl) : TD mB nB h (d + 1) y pc ls st P := by
  obtain ⟨v, h1, h2⟩ := cc
  exact t_SV hd hc hl hk hp he h2 (kk v h1 h2) hz hs
theorem t_SEL {R : Int → Prop} (hd : cod y pc = some (.invokestatic k, nx)) (hc : cls y = c) (hl : lkp mthL c k = some z) (hk : mKnd z = 0) (hp : popN (mArg z) st = some (as, r)) (he : (entL as).length ≤ mLoc z) (cc : ∃ v : Int, R v ∧ PV DV d z as h (vL v)) (kk : ∀ v : Int, R v → PV DV d z as h (vL v) → TD mB nB h (d + 1) y nx ls (vL v :: r) P) (hz : z < 900 := by decide) (hs : szS r ≤ 8 := by exact Nat.le_of_ble_eq_true rfl) : TD mB nB h (d + 1) y pc ls st P := by
  obtain ⟨v, h1, h2⟩ := cc
  exact t_SV hd hc hl hk hp he h2 (kk v h1 h2) hz hs
theorem t_VE {a t : Nat} {R : Int → Prop} (hd : cod y pc = some (.invokevirtual k, nx)) (hc : cls y = c) (hl : lkp mthL c k = some z) (hk : mKnd z = 1) (ht : mTag z = t) (hp : popN (mArg z) st = some (vR (some a) :: as, r)) (he : (entL (vR (some a) :: as)).length ≤ mLoc z) (h2 : 2 ≤ a) (o : Ob h a t) (cc : ∃ v : Int, R v ∧ PV DV d z (vR (some a) :: as) h (vI v)) (kk : ∀ v : Int, R v → PV DV d z (vR (some a) :: as) h (vI v) → TD mB nB h (d + 1) y nx ls (vI v :: r) P) (hs : szS r ≤ 8 := by exact Nat.le_of_ble_eq_true rfl) : TD mB nB h (d + 1) y pc ls st P := by
  obtain ⟨v, h1, h3⟩ := cc
  exact t_VV hd hc hl hk ht hp he h2 o h3 (kk v h1 h3) hs
theorem t_VEL {a t : Nat} {R : Int → Prop} (hd : cod y pc = some (.invokevirtual k, nx)) (hc : cls y = c) (hl : lkp mthL c k = some z) (hk : mKnd z = 1) (ht : mTag z = t) (hp : popN (mArg z) st = some (vR (some a) :: as, r)) (he : (entL (vR (some a) :: as)).length ≤ mLoc z) (h2 : 2 ≤ a) (o : Ob h a t) (cc : ∃ v : Int, R v ∧ PV DV d z (vR (some a) :: as) h (vL v)) (kk : ∀ v : Int, R v → PV DV d z (vR (some a) :: as) h (vL v) → TD mB nB h (d + 1) y nx ls (vL v :: r) P) (hs : szS r ≤ 8 := by exact Nat.le_of_ble_eq_true rfl) : TD mB nB h (d + 1) y pc ls st P := by
  obtain ⟨v, h1, h3⟩ := cc
  exact t_VV hd hc hl hk ht hp he h2 o h3 (kk v h1 h3) hs
theorem t_SN (hd : cod y pc = some (.invokestatic k, nx)) (hc : cls y = c) (hl : lkp mthL c k = some z) (hk : mKnd z = 0) (hp : popN (mArg z) st = some (as, r)) (he : (entL as).length ≤ mLoc z) (cc : ∀ g : Hp, wp DA d z 0 (ent z as) [] g (fun r => r = (.inl none, g))) (kk : TD mB nB h (d + 1) y nx ls r P) (hz : z < 900 := by decide) (hs : szS r ≤ 8 := by exact Nat.le_of_ble_eq_true rfl) : TD mB nB h (d + 1) y pc ls st P := by
  obtain ⟨w, p, q⟩ := kk
  exact ⟨w, p, fun g A K => x_SN hd hc hl hk hp he (cc g) (q g A K) hz hs⟩
/-- a callee that may work things out anew -/
theorem t_VW {a t : Nat} {v : XV} (hd : cod y pc = some (.invokevirtual k, nx)) (hc : cls y = c) (hl : lkp mthL c k = some z) (hk : mKnd z = 1) (ht : mTag z = t) (hp : popN (mArg z) st = some (vR (some a) :: as, r)) (he : (entL (vR (some a) :: as)).length ≤ mLoc z) (h2 : 2 ≤ a) (o : Ob h a t) (cc : DW mB nB d z (vR (some a) :: as) h v) (kk : TD mB nB h (d + 1) y nx ls (v :: r) P) (hs : szS r ≤ 8 := by exact Nat.le_of_ble_eq_true rfl) : TD mB nB h (d + 1) y pc ls st P := by
  obtain ⟨w, p, q⟩ := kk
  exact ⟨w, p, fun g A K => x_cV hd hc hl hk ht hp he h2 (Ob_agr A o) hs (cc g A K) (fun v' h1 e => by
    obtain ⟨e1, e2, e3⟩ := e
    cases e1
    exact q h1 e2 e3) (fun x h1 e => by cases e.1)⟩
theorem t_VD {a t : Nat} {R : Int → Prop} (hd : cod y pc = some (.invokevirtual k, nx)) (hc : cls y = c) (hl : lkp mthL c k = some z) (hk : mKnd z = 1) (ht : mTag z = t) (hp : popN (mArg z) st = some (vR (some a) :: as, r)) (he : (entL (vR (some a) :: as)).length ≤ mLoc z) (h2 : 2 ≤ a) (o : Ob h a t) (cc : ∃ v : Int, R v ∧ DW mB nB d z (vR (some a) :: as) h (vI v)) (kk : ∀ v : Int, R v → DW mB nB d z (vR (some a) :: as) h (vI v) → TD mB nB h (d + 1) y nx ls (vI v :: r) P) (hs : szS r ≤ 8 := by exact Nat.le_of_ble_eq_true rfl) : TD mB nB h (d + 1) y pc ls st P := by
  obtain ⟨v, h1, h3⟩ := cc
  exact t_VW hd hc hl hk ht hp he h2 o h3 (kk v h1 h3) hs
theorem t_VDL {a t : Nat} {R : Int → Prop} (hd : cod y pc = some (.invokevirtual k, nx)) (hc : cls y = c) (hl : lkp mthL c k = some z) (hk : mKnd z = 1) (ht : mTag z = t) (hp : popN (mArg z) st = some (vR (some a) :: as, r)) (he : (entL (vR (some a) :: as)).length ≤ mLoc z) (h2 : 2 ≤ a) (o : Ob h a t) (cc : ∃ v : Int, R v ∧ DW mB nB d z (vR (some a) :: as) h (vL v)) (kk : ∀ v : Int, R v → DW mB nB d z (vR (some a) :: as) h (vL v) → TD mB nB h (d + 1) y nx ls (vL v :: r) P) (hs : szS r ≤ 8 := by exact Nat.le_of_ble_eq_true rfl) : TD mB nB h (d + 1) y pc ls st P := by
  obtain ⟨v, h1, h3⟩ := cc
  exact t_VW hd hc hl hk ht hp he h2 o h3 (kk v h1 h3) hs
theorem t_iret {x : Int} (hd : cod y pc = some (.ireturn, nx)) (hm : mRet y = 0) (p : P (vI x)) : TD mB nB h d y pc ls [vI x] P := ⟨_, p, fun g A K => x_iret hd hm ⟨rfl, A, K⟩⟩
theorem t_zret {x : Int} (hd : cod y pc = some (.ireturn, nx)) (hm : mRet y = 1) (hx : x = 0 ∨ x = 1) (p : P (vI x)) : TD mB nB h d y pc ls [vI x] P := ⟨_, p, fun g A K => x_zret hd hm hx ⟨rfl, A, K⟩⟩
theorem t_lret {x : Int} (hd : cod y pc = some (.lreturn, nx)) (hm : mRet y = 2) (p : P (vL x)) : TD mB nB h d y pc ls [vL x] P := ⟨_, p, fun g A K => x_lret hd hm ⟨rfl, A, K⟩⟩
theorem t_ent {l : XL} (e : ent z as = l) (kk : TD mB nB h d z 0 l [] P) : TD mB nB h d z 0 (ent z as) [] P := by rw [e]; exact kk
theorem TE_of {R : Int → Prop} (kk : ∀ Q : XV → Prop, (∀ v : Int, R v → Q (vI v)) → TD mB nB h d z 0 (ent z as) [] Q) : ∃ v : Int, R v ∧ DW mB nB d z as h (vI v) := by
  obtain ⟨w, ⟨v, hv, rfl⟩, q⟩ := kk (fun w => ∃ v : Int, R v ∧ w = vI v) (fun v hv => ⟨v, hv, rfl⟩)
  exact ⟨v, hv, q⟩
theorem TEL_of {R : Int → Prop} (kk : ∀ Q : XV → Prop, (∀ v : Int, R v → Q (vL v)) → TD mB nB h d z 0 (ent z as) [] Q) : ∃ v : Int, R v ∧ DW mB nB d z as h (vL v) := by
  obtain ⟨w, ⟨v, hv, rfl⟩, q⟩ := kk (fun w => ∃ v : Int, R v ∧ w = vL v) (fun v hv => ⟨v, hv, rfl⟩)
  exact ⟨v, hv, q⟩
end TDR
/-! the house with its sale settled -/
def Cn (h : Hp) (b : Int) (T : Tb) : Hp := (hN h, hC h, hS h, hT h, hL h, fun a j => if DV a j = true then hI h a j else if a = 60 then T.1 j else if a = 61 then T.2.1 j else if a = 62 then ((T.2.2.1 j : Nat) : Int) else if a = 55 then (if j = 5 then b else if j = 6 then 1 else ((T.2.2.2 : Nat) : Int)) else 0, fun a j => if DV a j = true then hR h a j else none)
theorem Cn_agr {h : Hp} {b : Int} {T : Tb} : Agr DV h (Cn h b T) := ⟨rfl, rfl, rfl, rfl, rfl, fun a j q => ⟨by show _ = (if DV a j = true then _ else _); rw [if_pos q], by show _ = (if DV a j = true then _ else _); rw [if_pos q]⟩⟩
theorem DV_no {a j : Nat} (q : DV a j = false) : a = 60 ∨ a = 61 ∨ a = 62 ∨ a = 66 ∨ a = 67 ∨ a = 68 ∨ (a = 55 ∧ (j = 5 ∨ j = 6 ∨ j = 7)) := by
  unfold DV at q
  simp only [Bool.not_eq_false', Bool.or_eq_true, beq_iff_eq, Bool.and_eq_true] at q
  omega
theorem Cn_to {h g : Hp} {b : Int} {T : Tb} (A : Agr DV h g) (R : ∀ a j, DV a j = false → hR g a j = none) (t : TR g T) (e5 : hI g 55 5 = b) (e6 : hI g 55 6 = 1) (e7 : hI g 55 7 = ((T.2.2.2 : Nat) : Int)) : Agr DB (Cn h b T) g := ⟨A.1, A.2.1, A.2.2.1, A.2.2.2.1, A.2.2.2.2.1, fun a j q => by
  cases w : DV a j with
  | true =>
    refine ⟨?_, ?_⟩
    · show (if DV a j = true then _ else _) = _
      rw [if_pos w]; exact (A.2.2.2.2.2 a j w).1
    · show (if DV a j = true then _ else _) = _
      rw [if_pos w]; exact (A.2.2.2.2.2 a j w).2
  | false =>
    have n : ¬ DV a j = true := by rw [w]; exact Bool.false_ne_true
    refine ⟨?_, ?_⟩
    · show (if DV a j = true then _ else _) = _
      rw [if_neg n]
      rcases DV_no w with e | e | e | e | e | e | ⟨e, e9⟩
      · subst e; rw [if_pos rfl]; exact (t j).1.symm
      · subst e; rw [if_neg (by decide), if_pos rfl]; exact (t j).2.1.symm
      · subst e; rw [if_neg (by decide), if_neg (by decide), if_pos rfl]; exact (t j).2.2.symm
      · subst e; cases q
      · subst e; cases q
      · subst e; cases q
      · subst e
        rw [if_neg (by decide), if_neg (by decide), if_neg (by decide), if_pos rfl]
        rcases e9 with e | e | e
        · subst e; rw [if_pos rfl]; exact e5.symm
        · subst e; rw [if_neg (by decide), if_pos rfl]; exact e6.symm
        · subst e; rw [if_neg (by decide), if_neg (by decide)]; exact e7.symm
    · show (if DV a j = true then _ else _) = _
      rw [if_neg n]; exact (R a j w).symm⟩
theorem Cn_CI {h : Hp} {b : Int} {mB : Nat → Nat} {nB : Nat} (m : ∀ k, k < nB → 69 ≤ mB k) (hx : mxF h < 256) (qb : -2147483648 ≤ b ∧ b < 2147483648) : CI (Cn h b (TN h mB nB b nB)) mB nB ∧ hI (Cn h b (TN h mB nB b nB)) 55 5 = b ∧ hI (Cn h b (TN h mB nB b nB)) 55 6 = 1 := by
  have e5 : hI (Cn h b (TN h mB nB b nB)) 55 5 = b := rfl
  refine ⟨⟨fun a j q => ?_, fun j hj => ?_, by rw [e5]; exact qb, Or.inr rfl, fun _ => ?_⟩, rfl, rfl⟩
  · show (if DV a j = true then _ else _) = _
    rw [if_neg (by rw [q]; exact Bool.false_ne_true)]
  · have z := tAll_big (all := mxF h) (nb := nB) (cn := cnF h mB b) (it := itF h mB) (am := amF h mB) nB j (by omega)
    exact ⟨z.1, z.2.1, by show ((_ : Nat) : Int) = 0; unfold TN; rw [z.2.2]; rfl⟩
  · rw [e5, TN_agr Cn_agr m (Nat.le_refl _)]
    exact ⟨fun s => ⟨rfl, rfl, rfl⟩, rfl⟩
/-- a walk that changes nothing, on cells that look the same -/
theorem wp_pure {D : Nat → Nat → Bool} {d y pc : Nat} {ls : XL} {st : List XV} {h g : Hp} {o : XO} (A : Agr D h g) (e : wp D d y pc ls st h (fun r => r = (o, h))) : wp D d y pc ls st g (fun r => r = (o, g)) := by
  obtain ⟨n, r, e1, rfl⟩ := e
  obtain ⟨g2, f1, f2, f3, f4⟩ := exec_loc A e1
  refine ⟨n, _, f1, ?_⟩
  obtain ⟨N, C, S, T, L, I, R⟩ := h
  obtain ⟨N1, C1, S1, T1, L1, I1, R1⟩ := g
  obtain ⟨N2, C2, S2, T2, L2, I2, R2⟩ := g2
  obtain ⟨rfl, rfl, rfl, rfl, rfl, a6⟩ : N = N1 ∧ C = C1 ∧ S = S1 ∧ T = T1 ∧ L = L1 ∧ ∀ a j, D a j = true → I a j = I1 a j ∧ R a j = R1 a j := A
  obtain ⟨rfl, rfl, rfl, rfl, rfl, b6⟩ : N = N2 ∧ C = C2 ∧ S = S2 ∧ T = T2 ∧ L = L2 ∧ ∀ a j, D a j = true → I a j = I2 a j ∧ R a j = R2 a j := f2
  have hI : I2 = I1 := by
    funext a j
    cases q : D a j with
    | true => rw [← (a6 a j q).1, (b6 a j q).1]
    | false => exact (f3 a j q (Nat.lt_or_ge a N)).1
  have hR : R2 = R1 := by
    funext a j
    cases q : D a j with
    | true => rw [← (a6 a j q).2, (b6 a j q).2]
    | false => exact (f3 a j q (Nat.lt_or_ge a N)).2
  rw [hI, hR]
theorem wp_sub {D D' : Nat → Nat → Bool} (s : SubD D D') {d y pc : Nat} {ls : XL} {st : List XV} {h : Hp} {Q : XO × Hp → Prop} (e : wp D d y pc ls st h Q) : wp D' d y pc ls st h Q := by
  obtain ⟨n, r, e1, q⟩ := e
  exact ⟨n, r, exec_sub s e1, q⟩
/-- the sale is settled, then what follows only reads -/
theorem t_stl {mP mC mI mD mB : Nat → Nat} {nP nC nI nD nB : Nat} {d y pc nx k c : Nat} {ls : XL} {r : List XV} {h : Hp} {P : XV → Prop} {b : Int} (S : Hv h mP mC mI mD mB nP nC nI nD nB) (hd : cod y pc = some (.invokevirtual k, nx)) (hc : cls y = c) (hl : lkp mthL c k = some 51) (qb : -2147483648 ≤ b ∧ b < 2147483648) (hs : szS r ≤ 8) (hm : 5 ≤ d)
    (tail : ∀ (g : Hp) (Q : XO × Hp → Prop), Hv g mP mC mI mD mB nP nC nI nD nB → Agr DV h g → CI g mB nB → hI g 55 5 = b → hI g 55 6 = 1 → (∀ v, P v → Q (.inl (some v), g)) → wp DB (d + 1) y nx ls r g Q) : TD mB nB h (d + 1) y pc ls (vI b :: vR (some 55) :: r) P := by
  have hm0 : ∀ k, k < nB → 69 ≤ mB k := fun k hk => (Ls.mem S.lb k hk).g
  have hx : mxF h < 256 := (all_nat (n := hI h 55 0) S.items).2.1
  have C := Cn_CI (b := b) hm0 hx qb
  obtain ⟨n, r1, e1, v, hv, rfl⟩ := tail (Cn h b (TN h mB nB b nB)) (fun r => ∃ v, P v ∧ r = (.inl (some v), Cn h b (TN h mB nB b nB))) (Hv_agr Cn_agr S) Cn_agr C.1 C.2.1 C.2.2 (fun v hv => ⟨v, hv, rfl⟩)
  have e1 : wp DB (d + 1) y nx ls r (Cn h b (TN h mB nB b nB)) (fun r => r = (.inl (some v), Cn h b (TN h mB nB b nB))) := ⟨n, _, e1, rfl⟩
  refine ⟨v, hv, fun g A K => ?_⟩
  have Sg := Hv_agr A S
  have Ag : Wk h g := ⟨A, K.1, K.2.1⟩
  obtain ⟨d, rfl⟩ : ∃ d', d = d' + 5 := ⟨d - 5, by omega⟩
  refine x_VU hd hc hl kd51 tg51 po51 le51 (by decide) (Sg.F.o rfl (by decide)) (C51 Sg Ag K qb) (fun g1 q => ?_) hs
  obtain ⟨S1, A1, K1, k6, k5⟩ := q
  have t := K1.2.2.2.2 k6
  rw [k5, TN_agr A1.1 hm0 (Nat.le_refl _)] at t
  have B := Cn_to A1.1 K1.1 t.1 k5 k6 t.2
  exact wp_mono (wp_sub (fun _ _ _ => rfl) (wp_pure B e1)) (fun r e => by rw [e]; exact ⟨rfl, A1.1, K1⟩)
