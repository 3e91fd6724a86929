/-! ===== the whole machine: what ours does, the machine does ===== -/
section SIM
variable {p : Program} {l : Launch} {e : Env} {R : Room} {s : State} {m : MethodId} {args : Array Value} {below : List Frame} {meth : Method} {c : Code} {H : Heap} {locs : List Loc} {cells slots : Nat} {Q : State → Prop} {y pc nx d : Nat} {lsR : Array Slot} {ad : Nat → Nat} {E : XE} {h h' : Hp} {D : Nat → Nat → Bool} {o : XO}
theorem loc_cl {pc' : Nat} {ls ls' : XL} {st st' : List XV} {i : Instr} (hO : okH E h) (hcl : clL (hN h) ls) (hcs : clS (hN h) st) (hs : stp D y pc nx i ls st h = some (.inl (pc', ls', st', h'))) : leH h h' ∧ clL (hN h') ls' ∧ clS (hN h') st' := by
  rcases stp_cases hs with ⟨st2, e1, e2⟩ | ⟨ls2, st2, e1, e2⟩ | ⟨t, st2, e1, e2⟩ | ⟨st2, h2, e1, e2⟩ | ⟨-, -, -, e2⟩ | ⟨x, -, -, -, e2⟩ | ⟨x, -, -, -, e2⟩ | ⟨x, -, -, -, e2⟩ | ⟨k, e9, -, -, -, e2⟩ | ⟨k, z, as, r, v, h2, -, -, e3, -, -, e4, e2⟩ | ⟨k, z, as, r, -, -, -, -, -, -, e2⟩ | ⟨k, z, a, as, r, -, -, -, -, -, -, -, -, e2⟩ | ⟨k, a, r, -, -, e3, -, e2⟩ | ⟨k, z, a, as, r, -, -, -, -, -, -, -, -, e2⟩
  · cases e2; exact ⟨leH.rfl, hcl, sop_cl hcs e1⟩
  · cases e2; obtain ⟨q1, q2⟩ := lop_cl hcl hcs e1; exact ⟨leH.rfl, q1, q2⟩
  · cases e2; exact ⟨leH.rfl, hcl, jop_cl hcs e1⟩
  · cases e2; obtain ⟨q1, q2⟩ := hop_cl hO hcs e1; exact ⟨q1, clL_mono q1.1 hcl, q2⟩
  · cases e2
  · cases e2
  · cases e2
  · cases e2
  · cases e2
  · cases e2
    obtain ⟨q1, q2⟩ := nat_cl hO e4
    refine ⟨q1, clL_mono q1.1 hcl, fun w hw => ?_⟩
    rcases List.mem_append.mp hw with hw | hw
    · cases v with
      | none => cases hw
      | some v9 =>
        have : w = v9 := by simpa using hw
        subst this; exact q2 _ rfl
    · exact clV_mono q1.1 ((popN_cl hcs e3).2.1 w hw)
  · cases e2
  · cases e2
  · cases e2; exact ⟨leH.rfl, hcl, (popN_cl hcs e3).2.1⟩
  · cases e2
set_option maxHeartbeats 4000000 in
theorem sim_loc (hCT : CT E y d p R s m args meth c o) {pc' : Nat} {ls ls' : XL} {st st' : List XV} {i : Instr} (hd : cod y pc = some (i, nx)) (hs : stp D y pc nx i ls st h = some (.inl (pc', ls', st', h')))
    (hG : GR E ad h s.heap H locs) (hL9 : LR ad (mLoc y) lsR ls) (hcl : clL (hN h) ls) (hcs : clS (hN h) st) (hr1 : cells + (hC h' - hC h) ≤ R.cells) (hr2 : slots + (hS h' - hS h) ≤ R.slots)
    (kk : ∀ (ad' : Nat → Nat) (lsR' : Array Slot) (H' : Heap) (locs' : List Loc), (∀ a, a < hN h → ad' a = ad a) → GR E ad' h' s.heap H' locs' → LR ad' (mLoc y) lsR' ls' → W p l e R s m args below meth c H' locs' (cells + (hC h' - hC h)) (slots + (hS h' - hS h)) Q (F0 m pc' lsR' (st'.map (cv ad')))) :
    W p l e R s m args below meth c H locs cells slots Q (F0 m pc lsR (st.map (cv ad))) := by
  obtain ⟨hx, hb, hml, hown, hts, hcx, hrt, hlocks, hini, hfr, hlo, htab⟩ := id hCT
  rcases stp_cases hs with ⟨st2, e1, e2⟩ | ⟨ls2, st2, e1, e2⟩ | ⟨t, st2, e1, e2⟩ | ⟨st2, h2, e1, e2⟩ | ⟨-, -, -, e2⟩ | ⟨x, -, -, -, e2⟩ | ⟨x, -, -, -, e2⟩ | ⟨x, -, -, -, e2⟩ | ⟨k, e9, -, -, -, e2⟩ | ⟨k, z, as, r, v, h2, rfl, q1, q2, q3, q4, q5, e2⟩ | ⟨k, z, as, r, -, -, -, -, -, -, e2⟩ | ⟨k, z, a, as, r, -, -, -, -, -, -, -, -, e2⟩ | ⟨k, a, r, rfl, q1, q2, q3, e2⟩ | ⟨k, z, a, as, r, -, -, -, -, -, -, -, -, e2⟩
  · cases e2
    have k9 := kk ad lsR H locs (fun _ _ => rfl) hG hL9
    simp only [Nat.sub_self, Nat.add_zero] at k9
    exact sim_sop hx hb hown hts hd e1 k9
  · cases e2
    simp only [Nat.sub_self, Nat.add_zero] at kk
    exact sim_lop hx hb hd hL9 e1 (fun lsR' hl' => kk ad lsR' H locs (fun _ _ => rfl) hG hl')
  · cases e2
    have k9 := kk ad lsR H locs (fun _ _ => rfl) hG hL9
    simp only [Nat.sub_self, Nat.add_zero] at k9
    exact sim_jop hx hb (hG.inj hcx) hd hcs e1 k9
  · cases e2
    exact sim_hop hx hb hown hts hcx hini hd e1 hG hcs hr1 hr2 (fun ad' H' locs' ha hg => kk ad' lsR H' locs' ha hg (hL9.ext hcl ha))
  · cases e2
  · cases e2
  · cases e2
  · cases e2
  · cases e2
  · cases e2
    rcases mth_w q1 with ⟨-, hlk⟩ | ⟨w, -⟩
    · exact sim_nat hCT hd hlk q2 q3 q5 hG hL9.1.1 hcs hr1 hr2 (fun ad' H' locs' ha hg => kk ad' lsR H' locs' ha hg (hL9.ext hcl ha))
    · exact absurd q4 w
  · cases e2
  · cases e2
  · cases e2
    rcases mth_w q1 with ⟨-, hlk⟩ | ⟨w, -⟩
    · obtain ⟨d1, rfl⟩ := dec_of hd rfl
      have k9 := kk ad lsR H locs (fun _ _ => rfl) hG hL9
      simp only [Nat.sub_self, Nat.add_zero] at k9
      have hst := popN_map (ad := ad) q2
      rw [hst]
      have hl2 : Cond.methodLink (cnm (cls y)) k Lib.objectInit ∈ LWG := hlk
      exact W.objInit hx hb hown (hts _ hl2) (hts _ w_obj.1) (hts _ w_obj.2) rfl (by rw [hml]; exact hL9.1.1) rfl d1 (by omega) (by show 2 * 0 + ((st'.map (cv ad)).map fun v => v.category).sum + 12 ≤ _; rw [szS_eq]; omega) k9
    · exact absurd (by omega) w
  · cases e2
/-- what our machine does from here on, the machine does -/
def SIMn (l : Launch) (D : Nat → Nat → Bool) (n : Nat) : Prop := ∀ (d y pc : Nat) (ls : XL) (st : List XV) (h : Hp) (o : XO) (h' : Hp), exec D n d y pc ls st h = some (o, h') →
  ∀ (E : XE) (ad0 : Nat → Nat) (h0 : Hp) (ad : Nat → Nat) (lsR : Array Slot) (p : Program) (e : Env) (R : Room) (s : State) (m : MethodId) (args : Array Value) (below : List Frame) (meth : Method) (c : Code) (H : Heap) (locs : List Loc) (cells slots mc ms : Nat),
  CT E y d p R s m args meth c o → GR E ad h s.heap H locs → LR ad (mLoc y) lsR ls → clL (hN h) ls → clS (hN h) st → (hN h0 ≤ hN h ∧ ∀ a, a < hN h0 → ad a = ad0 a) → cells + (hC h' - hC h) ≤ mc → slots + (hS h' - hS h) ≤ ms → mc ≤ R.cells → ms ≤ R.slots →
  leH h h' ∧ W p l e R s m args below meth c H locs cells slots (vx_MQ below (QX E ad0 h0 o h') (XX E ad0 h0 o h') args s mc ms (eN E)) (F0 m pc lsR (st.map (cv ad)))
theorem PX_of {E : XE} {ad : Nat → Nat} {h : Hp} {s : State} {H : Heap} {locs : List Loc} (hcx : CX E s) (hG : GR E ad h s.heap H locs) {U : State} (hU : U.heap = H) (hW : s.WarmedH U.vm) : PX E ad h U :=
  ⟨CX.moved hcx hW (by rw [hU]; exact hG.2.2.1.1) (fun q hq hn => by rw [hU]; exact hG.2.2.1.2.1 q hq hn), by rw [hU]; exact hG.1, hG.2.1⟩
/-- a callee's contract out of the walk of its body -/
def RC (l : Launch) (E : XE) (z d : Nat) (ad : Nat → Nat) (h : Hp) (as : List XV) (o : XO) (h' : Hp) : Prop :=
  vx_Met l (yNm z) (wsZ z) (rmD d (hC h' - hC h) (hS h' - hS h)) (va_Pc (as.map (cv ad)) (PX E ad h)) (QX E ad h o h') (XX E ad h o h') (hC h' - hC h) (hS h' - hS h) (eN E)
theorem entL_lg {ad : Nat → Nat} {as : List XV} : ∀ {i : Nat}, toL ad i (entL as) = lv_args i (as.map (cv ad)) ∧ (entL as).length = (lg_sl (as.map (cv ad))).length := by
  induction as with
  | nil => intro i; exact ⟨rfl, rfl⟩
  | cons v as ih =>
    intro i
    simp only [entL, List.map_cons, lv_args]
    have hc := cv_cat ad v
    unfold lg_sl at ih ⊢
    cases hv : isL v with
    | true =>
      rw [hv] at hc
      simp only [if_true] at hc ⊢
      rw [hc]
      simp only [if_true, toL, List.flatMap_cons, hc, List.length_cons, List.length_append, List.length_nil]
      exact ⟨by rw [(ih (i := i + 2)).1], by rw [(ih (i := 0)).2]; omega⟩
    | false =>
      rw [hv] at hc
      simp only [Bool.false_eq_true, if_false] at hc ⊢
      rw [hc]
      simp only [Nat.reduceEqDiff, if_false, toL, List.flatMap_cons, hc, List.length_cons, List.length_append, List.length_nil]
      exact ⟨by rw [(ih (i := i + 1)).1], by rw [(ih (i := 0)).2]; omega⟩
theorem toL_none {ad : Nat → Nat} {n : Nat} : ∀ {i : Nat} {l : XL}, toL ad i (l ++ List.replicate n none) = toL ad i l := by
  intro i l
  induction l generalizing i with
  | nil =>
    induction n generalizing i with
    | zero => rfl
    | succ n ih => simp only [List.nil_append] at ih ⊢; rw [List.replicate_succ]; simp only [toL]; exact ih
  | cons a l ih =>
    cases a with
    | none => simp only [List.cons_append, toL]; exact ih
    | some v => simp only [List.cons_append, toL]; rw [ih]
theorem LR_ent {ad : Nat → Nat} {z : Nat} {as : List XV} (h : (entL as).length ≤ mLoc z) : LR ad (mLoc z) ((lg_sl (as.map (cv ad)) ++ List.replicate (mLoc z - (lg_sl (as.map (cv ad))).length) Slot.unset).toArray) (ent z as) := by
  obtain ⟨e1, e2⟩ := entL_lg (ad := ad) (as := as) (i := 0)
  refine ⟨?_, ?_⟩
  · unfold ent padL
    rw [toL_none, e1]
    exact lv_entry (as.map (cv ad)) (by rw [← e2]; exact h)
  · unfold ent padL
    simp; omega
theorem clL_ent {n z : Nat} {as : List XV} (h : clS n as) : clL n (ent z as) := by
  have key : ∀ (as : List XV), clS n as → ∀ (k : Nat) (v : XV) (r : XL), (∀ k v, ln r k = some (some v) → clV n v) → ln (entL as ++ r) k = some (some v) → clV n v := by
    intro as
    induction as with
    | nil => intro _ k v r hr hk; exact hr k v hk
    | cons a as ih =>
      intro ha k v r hr hk
      have h1 := clS_cons.mp ha
      simp only [entL] at hk
      split at hk
      · cases k with
        | zero => simp only [List.cons_append, ln, Option.some.injEq] at hk; subst hk; exact h1.1
        | succ k =>
          cases k with
          | zero => simp [ln] at hk
          | succ k => exact ih h1.2 k v r hr hk
      · cases k with
        | zero => simp only [List.cons_append, ln, Option.some.injEq] at hk; subst hk; exact h1.1
        | succ k => exact ih h1.2 k v r hr hk
  intro k v hk
  refine key as h k v _ (fun k v q => ?_) hk
  have : ∀ (m k : Nat) (v : XV), ln (List.replicate m (none : Option XV)) k = some (some v) → False := by
    intro m
    induction m with
    | zero => intro k v q; simp [ln] at q
    | succ m ih =>
      intro k v q
      cases k with
      | zero => simp [List.replicate_succ, ln] at q
      | succ k => rw [List.replicate_succ] at q; exact ih k v q
  exact (this _ _ _ q).elim
theorem w_act : Cond.codeWith (yNm 177) (bts 177) (mLoc 177) (rtT 177) hhA ∈ LWG := List.mem_filter.mpr ⟨by decide +kernel, rfl⟩
set_option maxHeartbeats 4000000 in
theorem RC_of {n : Nat} (hsim : SIMn l D n) {z : Nat} {as : List XV} {o : XO} (hz : MOK z) (h193 : z ≠ 193) (hen : (entL as).length ≤ mLoc z) (hex : exec D n d z 0 (ent z as) [] h = some (o, h')) (hO : okH E h) (had0 : ad 0 = e0 E) (had1 : ad 1 = e1 E) (hca : clS (hN h) as) : RC l E z d ad h as o h' := by
  obtain ⟨hcode, hst0, hin0, hsel, hini0, hcls, hno, hkn, hrt2, hpl, hrec, hml20, hpar, -⟩ := hz
  have body : ∀ (p : Program) (e : Env) (s : State) (m : MethodId) (args : Array Value) (below : List Frame) (meth : Method) (c : Code) (s₁ : State), BodyLoose p l (yNm z) (headSpec (wsZ z) (rmD d (hC h' - hC h) (hS h' - hS h))) (bts z) (mLoc z) (rtT z) e s m args below meth c s₁ → c.maxLocals = mLoc z → (if z = 193 then (∃ v, o = .inl v) else if z = 177 then c.exceptionTable.toList = tableOf hhA else ∀ x ∈ c.exceptionTable.toList, False) → va_Pc (as.map (cv ad)) (PX E ad h) args s →
      W p l e (headSpec (wsZ z) (rmD d (hC h' - hC h) (hS h' - hS h))).room s m args below meth c s.heap [] 0 0 (vx_MQ below (QX E ad h o h') (XX E ad h o h') args s (hC h' - hC h) (hS h' - hS h) (eN E)) (entryFrame m args (mLoc z)) := by
    intro p e s m args below meth c s₁ B hml ht hv
    obtain ⟨rfl, hcx, hP, hDD⟩ := hv
    have hts0 := atoms_spec (ws := wsZ z) B.pre
    have hts : ∀ w ∈ LWG, w.before _ s = true := fun w hw => hts0 w (by unfold wsZ; split <;> exact List.mem_cons_of_mem _ hw)
    have hown : s.vm.findClass (cnm (cls z)) = some m.cls := by rw [← hcls]; exact findClass_of_methodNamed B.named
    have hnm : isIni z = true → meth.name = "<init>" := fun q => by
      have q2 : mKnd z = 2 := by simpa [isIni] using q
      rw [← hkn.mp q2]
      exact (name_of_methodNamed B.named B.method).1
    have hCT : CT E z d p (headSpec (wsZ z) (rmD d (hC h' - hC h) (hS h' - hS h))).room s m ((as.map (cv ad)).toArray) meth c o := ⟨B.exec, B.bytes, hml, hown, hts, hcx, B.returns, B.notSynchronized, hnm, Nat.le_refl _, Nat.le_refl _, ht⟩
    have hG : GR E ad h s.heap s.heap [] := ⟨hP, hDD, va_S.rf, hO, had0, had1⟩
    rw [lg_entry_eq]
    exact (hsim d z 0 (ent z as) [] h o h' hex E ad h ad _ p e _ s m _ below meth c s.heap [] 0 0 (hC h' - hC h) (hS h' - hS h) hCT hG (LR_ent hen) (clL_ent hca) clS_nil ⟨Nat.le_refl _, fun _ _ => rfl⟩ (by omega) (by omega) (Nat.le_refl _) (Nat.le_refl _)).2
  by_cases hz : z = 177
  · subst hz
    refine vx_ofWH (cc := bts 177) (maxL := mLoc 177) (ret := rtT 177) (hh := hhA) (ws' := LWG) hpl (by unfold wsZ; rw [if_pos rfl]) ?_
    intro p e s m args below meth c s₁ B hml hv
    refine body p e s m args below meth c s₁ B hml ?_ hv
    rw [if_neg (by decide), if_pos rfl]
    have hts0 := atoms_spec (ws := wsZ 177) B.pre
    exact vx_table (x := yNm 177) B (hts0 _ (by unfold wsZ; rw [if_pos rfl]; exact List.mem_cons_self))
  · refine vx_ofW (cc := bts z) (maxL := mLoc z) (ret := rtT z) (ws' := LWG) hpl (by unfold wsZ; rw [if_neg hz]) ?_
    intro p e s m args below meth c s₁ B hml htb hv
    refine body p e s m args below meth c s₁ B hml ?_ hv
    rw [if_neg h193, if_neg hz]
    exact htb
end SIM
