/-! ===== CALLS ===== -/
section XC
variable {D : Nat → Nat → Bool} {d y pc nx k c z : Nat} {ls : XL} {st as r : List XV} {h : Hp} {Q Q1 : XO × Hp → Prop}
theorem x_cS (hd : cod y pc = some (.invokestatic k, nx)) (hc : cls y = c) (hl : lkp mthL c k = some z) (hk : mKnd z = 0) (hz : z < 900) (hp : popN (mArg z) st = some (as, r)) (he : (entL as).length ≤ mLoc z) (hs : szS r ≤ 8) (cc : wp D d z 0 (ent z as) [] h Q1)
    (kk : ∀ (v : Option XV) (h1 : Hp), Q1 (.inl v, h1) → wp D (d + 1) y nx ls (v.toList ++ r) h1 Q) (kx : ∀ (e : Nat) (h1 : Hp), Q1 (.inr e, h1) → Q (if hnd y pc e then (.inl none, h1) else (.inr e, h1))) : wp D (d + 1) y pc ls st h Q :=
  wp_cal hd (by simp only [stp, sop, lop, jop, hop, hc, hl, hp]; rw [if_neg (by omega), if_neg (by omega), if_pos hk]) he cc kk kx
theorem x_cV {a : Nat} (hd : cod y pc = some (.invokevirtual k, nx)) (hc : cls y = c) (hl : lkp mthL c k = some z) (hk : mKnd z = 1) {t : Nat} (ht : mTag z = t) (hp : popN (mArg z) st = some (vR (some a) :: as, r)) (he : (entL (vR (some a) :: as)).length ≤ mLoc z) (h2 : 2 ≤ a) (o : Ob h a t) (hs : szS r ≤ 8) (cc : wp D d z 0 (ent z (vR (some a) :: as)) [] h Q1)
    (kk : ∀ (v : Option XV) (h1 : Hp), Q1 (.inl v, h1) → wp D (d + 1) y nx ls (v.toList ++ r) h1 Q) (kx : ∀ (e : Nat) (h1 : Hp), Q1 (.inr e, h1) → Q (if hnd y pc e then (.inl none, h1) else (.inr e, h1))) : wp D (d + 1) y pc ls st h Q :=
  wp_cal hd (by simp only [stp, sop, lop, jop, hop, hc, hl, hp]; rw [if_pos ⟨hk, o.1, h2, by rw [o.2, ht], hs⟩]) he cc kk kx
theorem x_cP {a : Nat} (hd : cod y pc = some (.invokespecial k, nx)) (hc : cls y = c) (hl : lkp mthL c k = some z) (hk : mKnd z = 2) (hz : z < 900) (hp : popN (mArg z) st = some (vR (some a) :: as, r)) (he : (entL (vR (some a) :: as)).length ≤ mLoc z) (h2 : 2 ≤ a) (ho : a < hN h) (hs : szS r ≤ 8) (cc : wp D d z 0 (ent z (vR (some a) :: as)) [] h Q1)
    (kk : ∀ (v : Option XV) (h1 : Hp), Q1 (.inl v, h1) → wp D (d + 1) y nx ls (v.toList ++ r) h1 Q) (kx : ∀ (e : Nat) (h1 : Hp), Q1 (.inr e, h1) → Q (if hnd y pc e then (.inl none, h1) else (.inr e, h1))) : wp D (d + 1) y pc ls st h Q :=
  wp_cal hd (by simp only [stp, sop, lop, jop, hop, hc, hl, hp]; rw [if_neg (by omega), if_neg (by omega), if_pos ⟨hk, ho, h2⟩]) he cc kk kx
/-- Object's constructor -/
theorem x_cO {a : Nat} (hd : cod y pc = some (.invokespecial k, nx)) (hc : cls y = c) (hl : lkp mthL c k = some 901) (hs : szS r ≤ 8) (kk : wp D d y nx ls r h Q) : wp D d y pc ls (vR (some a) :: r) h Q :=
  wp_loc hd (by simp only [stp, sop, lop, jop, hop, hc, hl, show popN (mArg 901) (vR (some a) :: r) = some ([vR (some a)], r) from popN_of (q := [vR (some a)]) (by show mArg 901 = 1; decide +kernel) rfl rfl]; rw [if_neg (by omega), if_pos trivial, if_pos trivial]) kk
theorem x_nat {v : Option XV} {h1 : Hp} (hd : cod y pc = some (.invokestatic k, nx)) (hc : cls y = c) (hl : lkp mthL c k = some z) (hz : 900 ≤ z) (hp : popN (mArg z) st = some (as, r)) (hs : szS r ≤ 8) (hn : nat D z as h = some (v, h1)) (kk : wp D d y nx ls (v.toList ++ r) h1 Q) : wp D d y pc ls st h Q :=
  wp_loc hd (by simp only [stp, sop, lop, jop, hop, hc, hl, hp]; rw [if_neg (by omega), if_pos hz, hn]) kk
/-- a pure value; a pure value of some kind; nothing, with what holds of the cells after it; a value, with ... -/
def PV (D : Nat → Nat → Bool) (d z : Nat) (as : List XV) (h : Hp) (v : XV) : Prop := wp D d z 0 (ent z as) [] h (fun r => r = (.inl (some v), h))
def PU (D : Nat → Nat → Bool) (d z : Nat) (as : List XV) (h : Hp) (R : Hp → Prop) : Prop := wp D d z 0 (ent z as) [] h (fun r => r.1 = .inl none ∧ R r.2)
def PW (D : Nat → Nat → Bool) (d z : Nat) (as : List XV) (h : Hp) (R : XV → Hp → Prop) : Prop := wp D d z 0 (ent z as) [] h (fun r => ∃ v, r.1 = .inl (some v) ∧ R v r.2)
theorem x_SV {v : XV} (hd : cod y pc = some (.invokestatic k, nx)) (hc : cls y = c) (hl : lkp mthL c k = some z) (hk : mKnd z = 0) (hp : popN (mArg z) st = some (as, r)) (he : (entL as).length ≤ mLoc z) (cc : PV D d z as h v) (kk : wp D (d + 1) y nx ls (v :: r) h Q) (hz : z < 900 := by decide) (hs : szS r ≤ 8 := by exact Nat.le_of_ble_eq_true rfl) : wp D (d + 1) y pc ls st h Q :=
  x_cS hd hc hl hk hz hp he hs cc (fun v' h1 q => by cases q; exact kk) (fun e h1 q => by cases q)
theorem x_SU {R : Hp → Prop} (hd : cod y pc = some (.invokestatic k, nx)) (hc : cls y = c) (hl : lkp mthL c k = some z) (hk : mKnd z = 0) (hp : popN (mArg z) st = some (as, r)) (he : (entL as).length ≤ mLoc z) (cc : PU D d z as h R) (kk : ∀ h1, R h1 → wp D (d + 1) y nx ls r h1 Q) (hz : z < 900 := by decide) (hs : szS r ≤ 8 := by exact Nat.le_of_ble_eq_true rfl) : wp D (d + 1) y pc ls st h Q :=
  x_cS hd hc hl hk hz hp he hs cc (fun v' h1 q => by obtain ⟨q1, q2⟩ := q; cases q1; exact kk h1 q2) (fun e h1 q => by cases q.1)
theorem x_SW {R : XV → Hp → Prop} (hd : cod y pc = some (.invokestatic k, nx)) (hc : cls y = c) (hl : lkp mthL c k = some z) (hk : mKnd z = 0) (hp : popN (mArg z) st = some (as, r)) (he : (entL as).length ≤ mLoc z) (cc : PW D d z as h R) (kk : ∀ v h1, R v h1 → wp D (d + 1) y nx ls (v :: r) h1 Q) (hz : z < 900 := by decide) (hs : szS r ≤ 8 := by exact Nat.le_of_ble_eq_true rfl) : wp D (d + 1) y pc ls st h Q :=
  x_cS hd hc hl hk hz hp he hs cc (fun v' h1 q => by obtain ⟨w, q1, q2⟩ := q; cases q1; exact kk w h1 q2) (fun e h1 q => by obtain ⟨w, q1, -⟩ := q; cases q1)
theorem x_VV {a : Nat} {v : XV} {t : Nat} (hd : cod y pc = some (.invokevirtual k, nx)) (hc : cls y = c) (hl : lkp mthL c k = some z) (hk : mKnd z = 1) (ht : mTag z = t) (hp : popN (mArg z) st = some (vR (some a) :: as, r)) (he : (entL (vR (some a) :: as)).length ≤ mLoc z) (h2 : 2 ≤ a) (o : Ob h a t) (cc : PV D d z (vR (some a) :: as) h v) (kk : wp D (d + 1) y nx ls (v :: r) h Q) (hs : szS r ≤ 8 := by exact Nat.le_of_ble_eq_true rfl) : wp D (d + 1) y pc ls st h Q :=
  x_cV hd hc hl hk ht hp he h2 o hs cc (fun v' h1 q => by cases q; exact kk) (fun e h1 q => by cases q)
theorem x_VU {a : Nat} {R : Hp → Prop} {t : Nat} (hd : cod y pc = some (.invokevirtual k, nx)) (hc : cls y = c) (hl : lkp mthL c k = some z) (hk : mKnd z = 1) (ht : mTag z = t) (hp : popN (mArg z) st = some (vR (some a) :: as, r)) (he : (entL (vR (some a) :: as)).length ≤ mLoc z) (h2 : 2 ≤ a) (o : Ob h a t) (cc : PU D d z (vR (some a) :: as) h R) (kk : ∀ h1, R h1 → wp D (d + 1) y nx ls r h1 Q) (hs : szS r ≤ 8 := by exact Nat.le_of_ble_eq_true rfl) : wp D (d + 1) y pc ls st h Q :=
  x_cV hd hc hl hk ht hp he h2 o hs cc (fun v' h1 q => by obtain ⟨q1, q2⟩ := q; cases q1; exact kk h1 q2) (fun e h1 q => by cases q.1)
theorem x_VW {a : Nat} {R : XV → Hp → Prop} {t : Nat} (hd : cod y pc = some (.invokevirtual k, nx)) (hc : cls y = c) (hl : lkp mthL c k = some z) (hk : mKnd z = 1) (ht : mTag z = t) (hp : popN (mArg z) st = some (vR (some a) :: as, r)) (he : (entL (vR (some a) :: as)).length ≤ mLoc z) (h2 : 2 ≤ a) (o : Ob h a t) (cc : PW D d z (vR (some a) :: as) h R) (kk : ∀ v h1, R v h1 → wp D (d + 1) y nx ls (v :: r) h1 Q) (hs : szS r ≤ 8 := by exact Nat.le_of_ble_eq_true rfl) : wp D (d + 1) y pc ls st h Q :=
  x_cV hd hc hl hk ht hp he h2 o hs cc (fun v' h1 q => by obtain ⟨w, q1, q2⟩ := q; cases q1; exact kk w h1 q2) (fun e h1 q => by obtain ⟨w, q1, -⟩ := q; cases q1)
theorem x_PU {a : Nat} {R : Hp → Prop} (hd : cod y pc = some (.invokespecial k, nx)) (hc : cls y = c) (hl : lkp mthL c k = some z) (hk : mKnd z = 2) (hp : popN (mArg z) st = some (vR (some a) :: as, r)) (he : (entL (vR (some a) :: as)).length ≤ mLoc z) (h2 : 2 ≤ a) (ho : a < hN h) (cc : PU D d z (vR (some a) :: as) h R) (kk : ∀ h1, R h1 → wp D (d + 1) y nx ls r h1 Q) (hz : z < 900 := by decide) (hs : szS r ≤ 8 := by exact Nat.le_of_ble_eq_true rfl) : wp D (d + 1) y pc ls st h Q :=
  x_cP hd hc hl hk hz hp he h2 ho hs cc (fun v' h1 q => by obtain ⟨q1, q2⟩ := q; cases q1; exact kk h1 q2) (fun e h1 q => by cases q.1)
/-- to begin -/
theorem x_ent {l : XL} (e : ent z as = l) (k : wp D d z 0 l [] h Q) : wp D d z 0 (ent z as) [] h Q := by rw [e]; exact k
/-- the top of the stack by another word -/
theorem x_top {x x' : Int} (e : x = x') (k : wp D d y pc ls (vI x' :: st) h Q) : wp D d y pc ls (vI x :: st) h Q := by rw [e]; exact k
theorem x_gen {x : Int} (P : Int → Prop) (e : P x) (k : ∀ x', P x' → wp D d y pc ls (vI x' :: st) h Q) : wp D d y pc ls (vI x :: st) h Q := k x e
end XC
/-! loops: what holds at the head, from the turn after it -/
theorem x_up {N : Int} {P : Int → Prop} (a : Int) (hs : ∀ i, a ≤ i → (i < N → P (i + 1)) → P i) : P a := by
  have key : ∀ n : Nat, ∀ i : Int, a ≤ i → (N - i).toNat = n → P i := by
    intro n
    induction n with
    | zero => intro i hi e; exact hs i hi (fun q => by omega)
    | succ n ih => intro i hi e; exact hs i hi (fun q => ih (i + 1) (by omega) (by omega))
  exact key _ a (by omega) rfl
theorem x_dn {P : Int → Prop} (a : Int) (hs : ∀ i, i ≤ a → (0 ≤ i → P (i + -1)) → P i) : P a := by
  have key : ∀ n : Nat, ∀ i : Int, i ≤ a → (i + 1).toNat = n → P i := by
    intro n
    induction n with
    | zero => intro i hi e; exact hs i hi (fun q => by omega)
    | succ n ih => intro i hi e; exact hs i hi (fun q => ih (i + -1) (by omega) (by omega))
  exact key _ a (by omega) rfl
/-! more depth, more cells allowed -/
theorem exec_dep {D : Nat → Nat → Bool} : ∀ {n d y pc : Nat} {ls : XL} {st : List XV} {h : Hp} {r : XO × Hp}, exec D n d y pc ls st h = some r → exec D n (d + 1) y pc ls st h = some r := by
  intro n
  induction n with
  | zero => intro d y pc ls st h r e; simp [exec] at e
  | succ n ih =>
    intro d y pc ls st h r e
    rw [exec] at e ⊢
    split at e
    · cases e
    · split at e
      · cases e
      · exact ih e
      · exact e
      · split at e
        · cases e
        · split at e
          · rename_i hc9
            rw [if_pos hc9]
            split at e
            · cases e
            · rename_i q; rw [ih q]; exact ih e
            · rename_i q; rw [ih q]; exact e
          · cases e
theorem wp_dep {D : Nat → Nat → Bool} {d y pc : Nat} {ls : XL} {st : List XV} {h : Hp} {Q : XO × Hp → Prop} (e : Nat) (k : wp D d y pc ls st h Q) : wp D (d + e) y pc ls st h Q := by
  induction e with
  | zero => exact k
  | succ e ih => obtain ⟨n, r, q, w⟩ := ih; exact ⟨n, r, exec_dep q, w⟩
theorem exec_det {D : Nat → Nat → Bool} {n m d y pc : Nat} {ls : XL} {st : List XV} {h : Hp} {r r' : XO × Hp} (e : exec D n d y pc ls st h = some r) (e' : exec D m d y pc ls st h = some r') : r = r' := by
  have h1 := exec_le (show n ≤ n + m by omega) e
  have h2 := exec_le (show m ≤ n + m by omega) e'
  rw [h1] at h2; exact Option.some.inj h2
theorem PV_det {D : Nat → Nat → Bool} {d d' z : Nat} {as : List XV} {h : Hp} {v v' : XV} (e : PV D d z as h v) (e' : PV D d' z as h v') : v = v' := by
  have h1 := wp_dep d' e
  have h2 := wp_dep d e'
  rw [Nat.add_comm d' d] at h2
  obtain ⟨n, r, q, rfl⟩ := h1
  obtain ⟨m, r', q', rfl⟩ := h2
  have := exec_det q q'
  simpa using this
