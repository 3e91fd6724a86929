theorem hop_le {D : Nat → Nat → Bool} {y c : Nat} {i : Instr} {st st' : List XV} {h h' : Hp} (hs : hop D y c i st h = some (st', h')) : leH h h' := by
  cases i <;> simp only [hop] at hs <;> first
    | (cases hs; done)
    | ((repeat' split at hs) <;> first
        | (cases hs; done)
        | (cases hs; exact leH.rfl)
        | (cases hs; exact leH_alc))
theorem nat_le {D : Nat → Nat → Bool} {z : Nat} {as : List XV} {v : Option XV} {h h' : Hp} (hs : nat D z as h = some (v, h')) : leH h h' := by
  unfold nat at hs
  (repeat' split at hs) <;> first
    | (cases hs; done)
    | (cases hs; exact leH.rfl)
    | (cases hs; exact ⟨Nat.le_succ _, Nat.le_succ _, Nat.le_add_right _ _⟩)
theorem stp_le {D : Nat → Nat → Bool} {y pc nx pc' : Nat} {i : Instr} {ls ls' : XL} {st st' : List XV} {h h' : Hp} (hs : stp D y pc nx i ls st h = some (.inl (pc', ls', st', h'))) : leH h h' := by
  rcases stp_cases hs with ⟨st2, e1, e2⟩ | ⟨ls2, st2, e1, e2⟩ | ⟨t, st2, e1, e2⟩ | ⟨st2, h2, e1, e2⟩ | ⟨-, -, -, e2⟩ | ⟨x, -, -, -, e2⟩ | ⟨x, -, -, -, e2⟩ | ⟨x, -, -, -, e2⟩ | ⟨k, e9, -, -, -, e2⟩ | ⟨k, z, as, r, v, h2, -, -, e3, -, -, e4, e2⟩ | ⟨k, z, as, r, -, -, -, -, -, -, e2⟩ | ⟨k, z, a, as, r, -, -, -, -, -, -, -, -, e2⟩ | ⟨k, a, r, -, -, e3, -, e2⟩ | ⟨k, z, a, as, r, -, -, -, -, -, -, -, -, e2⟩ <;> cases e2 <;> first
    | exact leH.rfl
    | exact hop_le e1
    | exact nat_le e4
theorem stp_fle {D : Nat → Nat → Bool} {y pc nx : Nat} {i : Instr} {ls : XL} {st : List XV} {h : Hp} {r : XO × Hp} (hs : stp D y pc nx i ls st h = some (.inr (.inl r))) : leH h r.2 := by
  rcases stp_cases hs with ⟨st2, e1, e2⟩ | ⟨ls2, st2, e1, e2⟩ | ⟨t, st2, e1, e2⟩ | ⟨st2, h2, e1, e2⟩ | ⟨-, -, -, e2⟩ | ⟨x, -, -, -, e2⟩ | ⟨x, -, -, -, e2⟩ | ⟨x, -, -, -, e2⟩ | ⟨k, e9, -, -, -, e2⟩ | ⟨k, z, as, r, v, h2, -, -, e3, -, -, e4, e2⟩ | ⟨k, z, as, r, -, -, -, -, -, -, e2⟩ | ⟨k, z, a, as, r, -, -, -, -, -, -, -, -, e2⟩ | ⟨k, a, r, -, -, e3, -, e2⟩ | ⟨k, z, a, as, r, -, -, -, -, -, -, -, -, e2⟩ <;> cases e2 <;> first
    | exact leH.rfl
    | exact ⟨Nat.le_refl _, Nat.le_add_right _ _, Nat.le_add_right _ _⟩
theorem exec_leH {D : Nat → Nat → Bool} : ∀ {n d y pc : Nat} {ls : XL} {st : List XV} {h : Hp} {r : XO × Hp}, exec D n d y pc ls st h = some r → leH h r.2 := by
  intro n
  induction n with
  | zero => intro d y pc ls st h r e; simp [exec] at e
  | succ n ih =>
    intro d y pc ls st h r e
    rw [exec] at e
    split at e
    · cases e
    · split at e
      · cases e
      · rename_i q; exact (stp_le q).trans (ih e)
      · rename_i q; cases e; exact stp_fle q
      · split at e
        · cases e
        · split at e
          · split at e
            · cases e
            · rename_i q; exact (ih q).trans (ih e)
            · rename_i q
              have := ih q
              split at e <;> cases e <;> exact this
          · cases e
/-- the values that a call pushes -/
theorem v_cl {D : Nat → Nat → Bool} {E : XE} : ∀ {n d y pc : Nat} {ls : XL} {st : List XV} {h : Hp} {o : XO} {h' : Hp}, exec D n d y pc ls st h = some (o, h') → True := fun _ => trivial
theorem mth_w2 {c k z : Nat} (h : lkp mthL c k = some z) (hz : ¬ 900 ≤ z) : Cond.methodLink (cnm c) k (yNm z) ∈ LWG ∨ ((cnm c, k, yNm z, "PerfgaugeHouse") ∈ nestW ∧ mKnd z ≠ 1 ∧ z ≠ 177) := by
  have hchk : mthX.all (fun e => !e.2.2.2.2 || (decide (mKnd e.2.2.1 ≠ 1) && decide (e.2.2.1 ≠ 177))) = true := by decide +kernel
  have h1 := lkp_mem h
  rw [mthL_X] at h1
  obtain ⟨e, he, hq⟩ := List.mem_map.mp h1
  have h2 := List.all_eq_true.mp mthX_ok e he
  have h3 := List.all_eq_true.mp hchk e he
  obtain ⟨c', k', z', i, nest⟩ := e
  simp only [Prod.mk.injEq] at hq
  obtain ⟨rfl, rfl, rfl⟩ := hq
  simp only [mthChk] at h2
  rw [if_neg hz] at h2
  cases nest with
  | true =>
    simp only [if_true, List.any_eq_true, decide_eq_true_eq] at h2
    obtain ⟨q, hq, rfl⟩ := h2
    simp only [Bool.not_true, Bool.false_or, Bool.and_eq_true, decide_eq_true_eq] at h3
    exact Or.inr ⟨hq, h3⟩
  | false => exact Or.inl (atI_mem h2)
theorem z193 : mPl.all (fun e => decide (e.1 ≠ 193)) = true := by decide +kernel
theorem mthL193 {c k z : Nat} (h : lkp mthL c k = some z) : z ≠ 193 := by
  have hchk : mthL.all (fun e => decide (e.2.2 ≠ 193)) = true := by decide +kernel
  have := List.all_eq_true.mp hchk _ (lkp_mem h)
  simpa using this
theorem wsZ_good {z : Nat} (hz : MOK z) : ∀ w ∈ wsZ z, w ∈ LWG := by
  intro w hw
  unfold wsZ at hw
  split at hw
  · rcases List.mem_cons.mp hw with rfl | hw
    · exact w_act
    · exact hw
  · rename_i q
    rcases List.mem_cons.mp hw with rfl | hw
    · rcases hz.1 with w9 | w9
      · exact absurd w9 q
      · exact w9
    · exact hw
theorem good_of_mem {ws : List Cond} (h : ∀ w ∈ ws, w ∈ LWG) : GoodIn LWG ws := fun w hw => ⟨h w hw, good_of_word (lwg_good w (h w hw))⟩
section RUN
variable {p : Program} {l : Launch} {e : Env} {R : Room} {s : State} {m : MethodId} {args : Array Value} {below : List Frame} {meth : Method} {c : Code} {H : Heap} {locs : List Loc} {cells slots : Nat} {Q : State → Prop} {y pc nx d : Nat} {lsR : Array Slot} {ad : Nat → Nat} {E : XE} {h h1 : Hp} {D : Nat → Nat → Bool} {o o1 : XO}
theorem blindZ {as : List Value} : FrameBlind (va_Pc as (PX E ad h)) := fun _ _ _ _ q => ⟨q.1, PX_blind q.2⟩
set_option maxHeartbeats 4000000 in
/-- a call of ours is a call of the machine's -/
theorem run_call (hCT : CT E y (d + 1) p R s m args meth c o) {i : Instr} (hd : cod y pc = some (i, nx)) {z : Nat} {ls : XL} {st as r : List XV} (hs : stp D y pc nx i ls st h = some (.inr (.inr (z, as, r)))) (hG : GR E ad h s.heap H locs) (hls : lsR.size = mLoc y) (hcs : clS (hN h) st)
    (hRC : MOK z → RC l E z d ad h as o1 h1) (hf1 : cells + (hC h1 - hC h) ≤ R.cells) (hf2 : slots + (hS h1 - hS h) ≤ R.slots) :
    nx = pc + 3 ∧ z ≠ 193 ∧ ¬ 900 ≤ z ∧ MOK z ∧ clS (hN h) as ∧ clS (hN h) r ∧ ∃ a9 : Array Value, vx_Run p l e R s m args below meth c H locs cells slots (hC h1 - hC h) (hS h1 - hS h) (F0 m pc lsR (st.map (cv ad))) (r.map (cv ad)) (QX E ad h o1 h1 a9) (XX E ad h o1 h1) (eN E) := by
  obtain ⟨hx, hb, hml, hown, hts, hcx, hrt, hlocks, hini, hfr, hlo, htab⟩ := id hCT
  have S : CallFix p m c (bts y) (mLoc y) s args LWG (cnm (cls y)) := ⟨hx, hb, hml, hown, hts⟩
  rcases stp_cases hs with ⟨st2, e1, e2⟩ | ⟨ls2, st2, e1, e2⟩ | ⟨t, st2, e1, e2⟩ | ⟨st2, h2, e1, e2⟩ | ⟨-, -, -, e2⟩ | ⟨x, -, -, -, e2⟩ | ⟨x, -, -, -, e2⟩ | ⟨x, -, -, -, e2⟩ | ⟨k, e9, -, -, -, e2⟩ | ⟨k, z2, as2, r2, v, h2, -, -, e3, -, -, e4, e2⟩ | ⟨k, z2, as2, r2, rfl, q1, q2, q3, q4, q5, e2⟩ | ⟨k, z2, a, as2, r2, rfl, q1, q2, q3, q4, q5, q6, q7, e2⟩ | ⟨k, a, r2, -, -, e3, -, e2⟩ | ⟨k, z2, a, as2, r2, rfl, q1, q2, q3, q4, q5, q6, q7, e2⟩
  · cases e2
  · cases e2
  · cases e2
  · cases e2
  · cases e2
  · cases e2
  · cases e2
  · cases e2
  · cases e2
  · cases e2
  · cases e2
    obtain ⟨d1, rfl⟩ := dec_of hd rfl
    obtain ⟨hca, hcr, -, hlen⟩ := popN_cl hcs q2
    have hM : MOK z := by
      rcases mth_w q1 with ⟨w, -⟩ | ⟨-, w, -⟩
      · exact absurd w q4
      · exact w
    obtain ⟨hcode, hst0, hin0, hsel, hini0, hcls, hno, hkn, hrt2, hpl, hrec, hml20, hpar, -⟩ := id hM
    rw [if_pos q5] at hpar
    refine ⟨rfl, mthL193 q1, q4, hM, hca, hcr, (as.map (cv ad)).toArray, ?_⟩
    have hrc := hRC hM
    have hroom : (rmD d (hC h1 - hC h) (hS h1 - hS h)).frames + 1 ≤ R.frames ∧ 8 + (mLoc z + 11) + (rmD d (hC h1 - hC h) (hS h1 - hS h)).locals ≤ R.locals := ⟨by show d + 8 + 1 ≤ _; omega, by show 8 + (mLoc z + 11) + (40 * d + 140) ≤ _; omega⟩
    have hp : PreS s H (va_Pc (as.map (cv ad)) (PX E ad h)) (as.map (cv ad)) := ⟨blindZ, fun U hU hW => ⟨rfl, PX_of hcx hG hU hW⟩⟩
    have hstk : (F0 m pc lsR (st.map (cv ad))).stack = (as.map (cv ad)).reverse ++ r.map (cv ad) := popN_map q2
    have hW8 : 2 * (F0 m pc lsR (st.map (cv ad))).monitorRoom + ((r.map (cv ad)).map fun v => v.category).sum ≤ 8 := by rw [szS_eq]; show 2 * 0 + _ ≤ 8; omega
    rcases mth_w2 q1 q4 with hlk | ⟨hlk, -, h177⟩
    · have hgood : GoodIn LWG (va_wsS (cnm (cls y)) k (yNm z) (wsZ z)) := good_of_mem (fun w hw => by
        unfold va_wsS at hw
        simp only [List.cons_append, List.nil_append, List.mem_cons] at hw
        rcases hw with rfl | rfl | rfl | hw
        · exact hlk
        · exact hst0 q5
        · exact hini0
        · exact wsZ_good hM w hw)
      by_cases h177 : z = 177
      · subst h177
        exact vx_runSX S hrc (vx_cwSW (mArg 177) hts hgood (by unfold wsZ; rw [if_pos rfl]) rfl rfl ⟨hno.1, hno.2, hpar⟩ hroom) hp rfl (by rw [List.length_map]; exact hlen) hls hstk hW8 d1 ⟨hf1, hf2⟩
      · exact vx_runS S hrc (va_cwS (mArg z) hts hgood (by unfold wsZ; rw [if_neg h177]) rfl rfl ⟨hno.1, hno.2, hpar⟩ hroom) hp rfl (by rw [List.length_map]; exact hlen) hls hstk hW8 d1 ⟨hf1, hf2⟩
    · have hnl := hcx.2.2.2.2.2.2.1 _ hlk
      exact vx_runSN S hrc ⟨va_cnB (mArg z) hts (good_of_mem (wsZ_good hM)) (by unfold wsZ; rw [if_neg h177]) rfl rfl hnl (hts _ hini0) ⟨hno.1, hno.2, hpar⟩ hroom, hts _ (hst0 q5), trivial⟩ hp rfl (by rw [List.length_map]; exact hlen) hls hstk hW8 d1 ⟨hf1, hf2⟩
  · cases e2
    obtain ⟨d1, rfl⟩ := dec_of hd rfl
    obtain ⟨hca, hcr, -, hlen⟩ := popN_cl hcs q2
    have q9 : ¬ 900 ≤ z := fun w => by
      have hk0 : mKnd z = 9 := by
        unfold mKnd mtr
        rw [List.getElem?_eq_none (by have : MT.length = 194 := (by decide +kernel); omega)]; rfl
      omega
    have hM : MOK z := by
      rcases mth_w q1 with ⟨w, -⟩ | ⟨-, w, -⟩
      · exact absurd w q9
      · exact w
    obtain ⟨hcode, hst0, hin0, hsel, hini0, hcls, hno, hkn, hrt2, hpl, hrec, hml20, hpar, hma⟩ := id hM
    rw [if_neg (by omega)] at hpar
    refine ⟨rfl, mthL193 q1, q9, hM, hca, hcr, (Value.ref (ad a) :: as2.map (cv ad)).toArray, ?_⟩
    have hrc := hRC hM
    have hroom : (rmD d (hC h1 - hC h) (hS h1 - hS h)).frames + 1 ≤ R.frames ∧ 8 + (mLoc z + 11) + (rmD d (hC h1 - hC h) (hS h1 - hS h)).locals ≤ R.locals := ⟨by show d + 8 + 1 ≤ _; omega, by show 8 + (mLoc z + 11) + (40 * d + 140) ≤ _; omega⟩
    have h177 : z ≠ 177 := fun w => by subst w; exact absurd q4 (by decide +kernel)
    have hstk : (F0 m pc lsR (st.map (cv ad))).stack = (as2.map (cv ad)).reverse ++ Value.ref (ad a) :: r.map (cv ad) := by
      show st.map (cv ad) = _
      rw [popN_map q2, List.map_cons, List.reverse_cons, List.append_assoc]; rfl
    have hW8 : 2 * (F0 m pc lsR (st.map (cv ad))).monitorRoom + ((r.map (cv ad)).map fun v => v.category).sum ≤ 8 := by rw [szS_eq]; show 2 * 0 + _ ≤ 8; omega
    have hlk : Cond.methodLink (cnm (cls y)) k (yNm z) ∈ LWG := by
      rcases mth_w2 q1 q9 with w | ⟨-, w, -⟩
      · exact w
      · exact absurd q4 w
    have hcell : ∃ cellB : Cell, H[ad a]? = some cellB ∧ cellB.vm.isStatics = false ∧ s.vm.findClass (yNm z).cls = some cellB.cls := by
      have hr9 := hrec q4
      cases hxc : xcl[mTag z]? with
      | none => rw [hxc] at hr9; cases hr9
      | some q =>
        obtain ⟨C, T, N⟩ := q
        rw [hxc] at hr9
        simp only [Option.map_some, Option.some.injEq] at hr9
        obtain ⟨-, ht13, -⟩ := cls_w _ _ _ _ hxc
        have hg := hG.cell q6 q5
        rw [cE_obj q7 ht13] at hg
        obtain ⟨r9, h9, cell, c1, c2, c3, c4⟩ := hg
        have hr10 : r9 = (C, T, N) := Option.some.inj (h9.symm.trans hxc)
        subst hr10
        obtain ⟨-, hcaa⟩ := hcx.1.1 _ _ hxc
        exact ⟨cell, c1, by rw [c3]; rfl, by rw [← hr9, c2]; exact hcaa.1⟩
    have hp : PreV s H (yNm z).cls (ad a) (va_Pc ((vR (some a) :: as2).map (cv ad)) (PX E ad h)) (as2.map (cv ad)) := ⟨blindZ, hcell, fun U hU hW => ⟨rfl, PX_of hcx hG hU hW⟩⟩
    have hgood : GoodIn LWG (wsV (cnm (cls y)) k (yNm z).cls (yNm z) (wsZ z)) := good_of_mem (fun w hw => by
      unfold wsV at hw
      simp only [List.cons_append, List.nil_append, List.mem_cons] at hw
      rcases hw with rfl | rfl | rfl | rfl | hw
      · exact hlk
      · exact hin0 (by omega)
      · exact hsel q4
      · exact hini0
      · exact wsZ_good hM w hw)
    have hlen2 : (as2.map (cv ad)).length = mArg z - 1 := by
      rw [List.length_map]
      simp only [List.length_cons] at hlen
      omega
    exact vx_runV S hrc (cwV (mArg z - 1) hts hgood (by unfold wsZ; rw [if_neg h177]) rfl rfl ⟨rfl, hno.1, hno.2, hpar⟩ hroom) hp rfl hlen2 hls hstk hW8 d1 ⟨hf1, hf2⟩
  · cases e2
  · cases e2
    obtain ⟨d1, rfl⟩ := dec_of hd rfl
    obtain ⟨hca, hcr, -, hlen⟩ := popN_cl hcs q2
    have q9 : ¬ 900 ≤ z := fun w => by
      have hk0 : mKnd z = 9 := by
        unfold mKnd mtr
        rw [List.getElem?_eq_none (by have : MT.length = 194 := (by decide +kernel); omega)]; rfl
      omega
    have hM : MOK z := by
      rcases mth_w q1 with ⟨w, -⟩ | ⟨-, w, -⟩
      · exact absurd w q9
      · exact w
    obtain ⟨hcode, hst0, hin0, hsel, hini0, hcls, hno, hkn, hrt2, hpl, hrec, hml20, hpar, hma⟩ := id hM
    rw [if_neg (by omega)] at hpar
    refine ⟨rfl, mthL193 q1, q9, hM, hca, hcr, (Value.ref (ad a) :: as2.map (cv ad)).toArray, ?_⟩
    have hrc := hRC hM
    have hroom : (rmD d (hC h1 - hC h) (hS h1 - hS h)).frames + 1 ≤ R.frames ∧ 8 + (mLoc z + 11) + (rmD d (hC h1 - hC h) (hS h1 - hS h)).locals ≤ R.locals := ⟨by show d + 8 + 1 ≤ _; omega, by show 8 + (mLoc z + 11) + (40 * d + 140) ≤ _; omega⟩
    have h177 : z ≠ 177 := fun w => by subst w; exact absurd q5 (by decide +kernel)
    have hstk : (F0 m pc lsR (st.map (cv ad))).stack = (as2.map (cv ad)).reverse ++ Value.ref (ad a) :: r.map (cv ad) := by
      show st.map (cv ad) = _
      rw [popN_map q2, List.map_cons, List.reverse_cons, List.append_assoc]; rfl
    have hW8 : 2 * (F0 m pc lsR (st.map (cv ad))).monitorRoom + ((r.map (cv ad)).map fun v => v.category).sum ≤ 8 := by rw [szS_eq]; show 2 * 0 + _ ≤ 8; omega
    have hp : PreS s H (va_Pc ((vR (some a) :: as2).map (cv ad)) (PX E ad h)) (.ref (ad a) :: as2.map (cv ad)) := ⟨blindZ, fun U hU hW => ⟨rfl, PX_of hcx hG hU hW⟩⟩
    have hlen2 : (as2.map (cv ad)).length = mArg z - 1 := by
      rw [List.length_map]
      simp only [List.length_cons] at hlen
      omega
    have hws : wsZ z = Cond.code (yNm z) (bts z) (mLoc z) none :: LWG := by unfold wsZ; rw [if_neg h177, hrt2 q5]
    rcases mth_w2 q1 q9 with hlk | ⟨hlk, -, -⟩
    · exact vx_runI S hrc (cwI (mArg z - 1) hts (good_of_mem (wsZ_good hM)) hws rfl rfl (hts _ hini0) (hts _ hlk) (hts _ (hin0 (by omega))) (hkn.mp q5) ⟨hno.1, hno.2, hpar⟩ hroom) hp rfl hlen2 hls hstk hW8 d1 ⟨hf1, hf2⟩
    · have hnl := hcx.2.2.2.2.2.2.1 _ hlk
      exact vx_runIN S hrc ⟨va_cnB (mArg z - 1) hts (good_of_mem (wsZ_good hM)) hws rfl rfl hnl (hts _ hini0) ⟨hno.1, hno.2, hpar⟩ hroom, hkn.mp q5, hts _ (hin0 (by omega))⟩ hp rfl hlen2 hls hstk hW8 d1 ⟨hf1, hf2⟩
end RUN
