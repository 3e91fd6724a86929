/-! ===== returns, throws, and the whole by induction on the fuel ===== -/
theorem ret_w : (List.range 194).all (fun y => match mRet y with | 0 => decide (rtT y = some .int) | 1 => decide (rtT y = some .boolean) | 2 => decide (rtT y = some .long) | 3 => (match rtT y with | some (.object _) => true | some (.array _) => true | _ => false) | 4 => decide (rtT y = none) | _ => true) = true := by decide +kernel
theorem ret_of {y : Nat} (hy : mRet y ≤ 4) : (mRet y = 0 → rtT y = some .int) ∧ (mRet y = 1 → rtT y = some .boolean) ∧ (mRet y = 2 → rtT y = some .long) ∧ (mRet y = 3 → ∃ rt, rtT y = some rt ∧ ((∃ n, rt = .object n) ∨ ∃ t, rt = .array t)) ∧ (mRet y = 4 → rtT y = none) := by
  have hlt : y < 194 := by
    rcases Nat.lt_or_ge y 194 with q | q
    · exact q
    · have : mRet y = 9 := by
        unfold mRet mtr
        rw [List.getElem?_eq_none (by have : MT.length = 194 := (by decide +kernel); omega)]; rfl
      omega
  have h := List.all_eq_true.mp ret_w y (List.mem_range.mpr hlt)
  refine ⟨fun q => ?_, fun q => ?_, fun q => ?_, fun q => ?_, fun q => ?_⟩ <;> rw [q] at h
  · simpa using h
  · simpa using h
  · simpa using h
  · simp only at h
    cases hr : rtT y with
    | none => rw [hr] at h; cases h
    | some rt =>
      rw [hr] at h
      cases rt <;> first | (cases h; done) | exact ⟨_, rfl, Or.inl ⟨_, rfl⟩⟩ | exact ⟨_, rfl, Or.inr ⟨_, rfl⟩⟩
  · simpa using h
def xcls (e : Nat) : String × Nat × Nat × Nat × Nat × String := if e = 0 then ("java/lang/IndexOutOfBoundsException", 94, 518, 520, 522, "there is no such thing") else if e = 1 then ("java/lang/IllegalArgumentException", 84, 525, 527, 529, "what is given is out of its range") else ("java/lang/IllegalStateException", 88, 530, 532, 534, "this cannot be done now")
def xnames : List String := ["java/lang/RuntimeException", "java/lang/Exception"]
theorem hat_of {args : Array Value} {s : State} {cls : String} {ic : Nat} (h1 : ((vx_atS "PerfgaugeHouse" ic cls xnames).filter goodWord).all (fun w => decide (w ∈ LWG)) = true)
    (h2 : ((vx_atS "PerfgaugeHouse" ic cls xnames).filter (fun w => !goodWord w)).all (fun w => decide (w = .castable cls cls) || decW.any (fun x => decide (w = .declares x))) = true)
    (hts : ∀ w ∈ LWG, w.before args s = true) (hc : va_Nw (.castable cls cls) s) (hd : ∀ x ∈ decW, va_Nw (.declares x) s) : ∀ w ∈ vx_atS "PerfgaugeHouse" ic cls xnames, w.before args s = true := by
  intro w hw
  by_cases g : goodWord w = true
  · have := List.all_eq_true.mp h1 w (List.mem_filter.mpr ⟨hw, g⟩)
    simp only [decide_eq_true_eq] at this
    exact hts w this
  · have := List.all_eq_true.mp h2 w (List.mem_filter.mpr ⟨hw, by simpa using g⟩)
    simp only [Bool.or_eq_true, decide_eq_true_eq, List.any_eq_true] at this
    rcases this with rfl | ⟨x, hx, rfl⟩
    · exact va_Nw.use rfl hc
    · exact va_Nw.use rfl (hd x hx)
set_option maxRecDepth 100000 in
theorem hat0 : ((vx_atS "PerfgaugeHouse" 522 "java/lang/IndexOutOfBoundsException" xnames).filter goodWord).all (fun w => decide (w ∈ LWG)) = true := by decide +kernel
set_option maxRecDepth 100000 in
theorem hat1 : ((vx_atS "PerfgaugeHouse" 529 "java/lang/IllegalArgumentException" xnames).filter goodWord).all (fun w => decide (w ∈ LWG)) = true := by decide +kernel
set_option maxRecDepth 100000 in
theorem hat2 : ((vx_atS "PerfgaugeHouse" 534 "java/lang/IllegalStateException" xnames).filter goodWord).all (fun w => decide (w ∈ LWG)) = true := by decide +kernel
theorem hatN0 : ((vx_atS "PerfgaugeHouse" 522 "java/lang/IndexOutOfBoundsException" xnames).filter (fun w => !goodWord w)).all (fun w => decide (w = .castable "java/lang/IndexOutOfBoundsException" "java/lang/IndexOutOfBoundsException") || decW.any (fun x => decide (w = .declares x))) = true := by decide +kernel
theorem hatN1 : ((vx_atS "PerfgaugeHouse" 529 "java/lang/IllegalArgumentException" xnames).filter (fun w => !goodWord w)).all (fun w => decide (w = .castable "java/lang/IllegalArgumentException" "java/lang/IllegalArgumentException") || decW.any (fun x => decide (w = .declares x))) = true := by decide +kernel
theorem hatN2 : ((vx_atS "PerfgaugeHouse" 534 "java/lang/IllegalStateException" xnames).filter (fun w => !goodWord w)).all (fun w => decide (w = .castable "java/lang/IllegalStateException" "java/lang/IllegalStateException") || decW.any (fun x => decide (w = .declares x))) = true := by decide +kernel
theorem hgd0 : ∀ w ∈ Cond.classLink "PerfgaugeHouse" 518 "java/lang/IndexOutOfBoundsException" :: Cond.initialized "java/lang/IndexOutOfBoundsException" :: vx_atS "PerfgaugeHouse" 522 "java/lang/IndexOutOfBoundsException" xnames, vx_ot w = true := by decide +kernel
theorem hgd1 : ∀ w ∈ Cond.classLink "PerfgaugeHouse" 525 "java/lang/IllegalArgumentException" :: Cond.initialized "java/lang/IllegalArgumentException" :: vx_atS "PerfgaugeHouse" 529 "java/lang/IllegalArgumentException" xnames, vx_ot w = true := by decide +kernel
theorem hgd2 : ∀ w ∈ Cond.classLink "PerfgaugeHouse" 530 "java/lang/IllegalStateException" :: Cond.initialized "java/lang/IllegalStateException" :: vx_atS "PerfgaugeHouse" 534 "java/lang/IllegalStateException" xnames, vx_ot w = true := by decide +kernel
theorem wx0 : Cond.classLink "PerfgaugeHouse" 518 "java/lang/IndexOutOfBoundsException" ∈ LWG ∧ Cond.initialized "java/lang/IndexOutOfBoundsException" ∈ LWG := ⟨by decide +kernel, by decide +kernel⟩
theorem wx1 : Cond.classLink "PerfgaugeHouse" 525 "java/lang/IllegalArgumentException" ∈ LWG ∧ Cond.initialized "java/lang/IllegalArgumentException" ∈ LWG := ⟨by decide +kernel, by decide +kernel⟩
theorem wx2 : Cond.classLink "PerfgaugeHouse" 530 "java/lang/IllegalStateException" ∈ LWG ∧ Cond.initialized "java/lang/IllegalStateException" ∈ LWG := ⟨by decide +kernel, by decide +kernel⟩
theorem wxh : Cond.classLink "PerfgaugeHouseLaw" 104 "java/lang/IndexOutOfBoundsException" ∈ LWG ∧ Cond.classLink "PerfgaugeHouseLaw" 106 "java/lang/IllegalArgumentException" ∈ LWG ∧ Cond.classLink "PerfgaugeHouseLaw" 108 "java/lang/IllegalStateException" ∈ LWG := ⟨by decide +kernel, by decide +kernel, by decide +kernel⟩
theorem dh601 : decode (bts 177) 601 = .ok (.astore 6, 2) ∧ decode (bts 177) 603 = .ok (.return_, 1) := ⟨by decide +kernel, by decide +kernel⟩
theorem dh604 : decode (bts 177) 604 = .ok (.astore 6, 2) ∧ decode (bts 177) 606 = .ok (.return_, 1) := ⟨by decide +kernel, by decide +kernel⟩
theorem dh607 : decode (bts 177) 607 = .ok (.astore 6, 2) ∧ decode (bts 177) 609 = .ok (.return_, 1) := ⟨by decide +kernel, by decide +kernel⟩
theorem dx94 : decode (bts 94) 4 = .ok (.new 518, 3) ∧ decode (bts 94) 7 = .ok (.dup, 1) ∧ decode (bts 94) 8 = .ok (.ldc_w 520, 3) ∧ decode (bts 94) 11 = .ok (.invokespecial 522, 3) ∧ decode (bts 94) 14 = .ok (.athrow, 1) := ⟨by decide +kernel, by decide +kernel, by decide +kernel, by decide +kernel, by decide +kernel⟩
theorem dx84 : decode (bts 84) 4 = .ok (.new 525, 3) ∧ decode (bts 84) 7 = .ok (.dup, 1) ∧ decode (bts 84) 8 = .ok (.ldc_w 527, 3) ∧ decode (bts 84) 11 = .ok (.invokespecial 529, 3) ∧ decode (bts 84) 14 = .ok (.athrow, 1) := ⟨by decide +kernel, by decide +kernel, by decide +kernel, by decide +kernel, by decide +kernel⟩
theorem dx88 : decode (bts 88) 4 = .ok (.new 530, 3) ∧ decode (bts 88) 7 = .ok (.dup, 1) ∧ decode (bts 88) 8 = .ok (.ldc_w 532, 3) ∧ decode (bts 88) 11 = .ok (.invokespecial 534, 3) ∧ decode (bts 88) 14 = .ok (.athrow, 1) := ⟨by decide +kernel, by decide +kernel, by decide +kernel, by decide +kernel, by decide +kernel⟩
theorem WL_tck {E : XE} {ad : Nat → Nat} {h : Hp} {c s : Nat} : WL E ad (tck h c s) = WL E ad h := by
  unfold WL
  apply List.map_congr_left
  intro i _
  exact congrArg (fun e => (ad (i + 2), e)) (cE_congr rfl rfl rfl (fun _ => rfl))
section FIN
variable {p : Program} {l : Launch} {e : Env} {R : Room} {s : State} {m : MethodId} {args : Array Value} {below : List Frame} {meth : Method} {c : Code} {H : Heap} {locs : List Loc} {cells slots mc ms : Nat} {Q : State → Prop} {y pc nx d : Nat} {lsR : Array Slot} {ad ad0 : Nat → Nat} {E : XE} {h h0 h' : Hp} {D : Nat → Nat → Bool} {o : XO}
/-- an exception of ours is thrown: all three -/
theorem thr_of (hl : l.stackTraces = false) (hx : p.tables.exec = Jvm.exec) (hb : c.code = bts y) (hown : s.vm.findClass "PerfgaugeHouse" = some m.cls) (hcx : CX E s) (hlocks : meth.locks = false) (hfr : d + 8 ≤ R.frames) (hlo : 40 * d + 140 ≤ R.locals)
    (htab : ∀ x ∈ c.exceptionTable.toList, False) (hG : GR E ad h s.heap H locs) (hls : lsR.size = c.maxLocals) (hag : hN h0 ≤ hN h ∧ ∀ a, a < hN h0 → ad a = ad0 a) {st : List XV} (hsz : szS st ≤ 8) {X tx : String} {k9 ik is ic : Nat} (hX : X = exN k9) (hfit : Bundle.fit X = true)
    (hk : (Cond.classLink "PerfgaugeHouse" ik X).before args s = true) (hini : (Cond.initialized X).before args s = true) {sa : Nat} (hstr : vk_R "PerfgaugeHouse" is tx sa s) (hat : ∀ w ∈ vx_atS "PerfgaugeHouse" ic X xnames, w.before args s = true)
    (hgood : ∀ w ∈ Cond.classLink "PerfgaugeHouse" ik X :: Cond.initialized X :: vx_atS "PerfgaugeHouse" ic X xnames, vx_ot w = true)
    (d0 : decode (bts y) 4 = .ok (.new ik, 3)) (d3 : decode (bts y) 7 = .ok (.dup, 1)) (d4 : decode (bts y) 8 = .ok (.ldc_w is, 3)) (d7 : decode (bts y) 11 = .ok (.invokespecial ic, 3)) (d10 : decode (bts y) 14 = .ok (.athrow, 1))
    (hc : cells + 1 ≤ mc) (hs : slots + 6 ≤ ms) (hmc : mc ≤ R.cells) (hms : ms ≤ R.slots) :
    W p l e R s m args below meth c H locs cells slots (vx_MQ below (QX E ad0 h0 (.inr k9) (tck h 1 6)) (XX E ad0 h0 (.inr k9) (tck h 1 6)) args s mc ms (eN E)) (F0 m 4 lsR (st.map (cv ad))) := by
  obtain ⟨hP, hDD, hS0, -⟩ := id hG
  obtain ⟨hU, hNn⟩ := hcx.2.2.2.2.1
  refine vx_throwSW (cls := X) (names := xnames) hx hb hl hown hfit (by decide +kernel) hk hini hstr hat hgood hU hNn hS0 hls d0 d3 d4 d7 d10 (fun x hx9 => (htab x hx9).elim) (by show 2 + 3 < _; omega) (by rw [szS_eq]; show szS st + (13 * (2 + 1) + 43) ≤ _; omega) (by omega) (by omega) hlocks (fun t hal hsz9 hold => ?_) hS0.2.2 hc hs
  refine ⟨k9, rfl, hX, ad, hag.2, ?_, by rw [WL_tck]; exact hDD, ?_⟩
  · rw [WL_tck]
    intro k q hq
    exact (hP k q hq).kept (hold _ (hP k q hq).lt)
  · refine ⟨Nat.le_trans hS0.1 hsz9, fun q hq hn => ?_⟩
    rw [hold q (Nat.lt_of_lt_of_le hq hS0.1)]
    exact hS0.2.1 q hq hn
set_option maxHeartbeats 4000000 in
theorem sim_fin (hl : l.stackTraces = false) (hCT : CT E y d p R s m args meth c o) {i : Instr} (hd : cod y pc = some (i, nx)) {ls : XL} {st : List XV} (hs : stp D y pc nx i ls st h = some (.inr (.inl (o, h'))))
    (hG : GR E ad h s.heap H locs) (hls : lsR.size = mLoc y) (hag : hN h0 ≤ hN h ∧ ∀ a, a < hN h0 → ad a = ad0 a) (hc1 : cells + (hC h' - hC h) ≤ mc) (hc2 : slots + (hS h' - hS h) ≤ ms) (hmc : mc ≤ R.cells) (hms : ms ≤ R.slots) :
    W p l e R s m args below meth c H locs cells slots (vx_MQ below (QX E ad0 h0 o h') (XX E ad0 h0 o h') args s mc ms (eN E)) (F0 m pc lsR (st.map (cv ad))) := by
  obtain ⟨hx, hb, hml, hown, hts, hcx, hrt, hlocks, hini, hfr, hlo, htab⟩ := id hCT
  obtain ⟨hP, hDD, hS0, -⟩ := id hG
  have post : ∀ (v : Option XV) (t : State), t.heap = H → QX E ad0 h0 (.inl v) h args s (.returned (v.map (cv ad))) t := fun v t ht => ⟨v, rfl, ad, hag.2, rfl, by rw [ht]; exact hP, hDD, hS0.F ht⟩
  rcases stp_cases hs with ⟨st2, e1, e2⟩ | ⟨ls2, st2, e1, e2⟩ | ⟨t, st2, e1, e2⟩ | ⟨st2, h2, e1, e2⟩ | ⟨rfl, rfl, q1, e2⟩ | ⟨x, rfl, rfl, q1, e2⟩ | ⟨x, rfl, rfl, q1, e2⟩ | ⟨x, rfl, rfl, q1, e2⟩ | ⟨k, e9, rfl, q1, q2, e2⟩ | ⟨k, z2, as2, r2, v, h2, -, -, e3, -, -, e4, e2⟩ | ⟨k, z, as, r, -, -, -, -, -, -, e2⟩ | ⟨k, z, a, as, r, -, -, -, -, -, -, -, -, e2⟩ | ⟨k, a, r, -, -, e3, -, e2⟩ | ⟨k, z, a, as, r, -, -, -, -, -, -, -, -, e2⟩
  · cases e2
  · cases e2
  · cases e2
  · cases e2
  · cases e2
    obtain ⟨d1, rfl⟩ := dec_of hd rfl
    refine W.widen (k := mc) (n := ms) (by omega) (by omega) (vx_ret ?_)
    exact W.vret hx hb (by rw [hrt]; exact (ret_of (by omega)).2.2.2.2 q1) (fun t ht _ => post none t ht) hS0.2.2 d1
  · cases e2
    obtain ⟨d1, rfl⟩ := dec_of hd rfl
    refine W.widen (k := mc) (n := ms) (by omega) (by omega) (vx_ret ?_)
    rcases q1 with q1 | ⟨q1, q2⟩
    · exact W.zret (ty := .int) hx hb (by rw [hrt]; exact (ret_of (by omega)).1 q1) rfl (fun t ht _ => post _ t ht) hS0.2.2 d1
    · exact W.zret (ty := .boolean) hx hb (by rw [hrt]; exact (ret_of (by omega)).2.1 q1) (bool_n q2).1 (fun t ht _ => post _ t ht) hS0.2.2 d1
  · cases e2
    obtain ⟨d1, rfl⟩ := dec_of hd rfl
    refine W.widen (k := mc) (n := ms) (by omega) (by omega) (vx_ret ?_)
    exact W.lret hx hb (by rw [hrt]; exact (ret_of (by omega)).2.2.1 q1) (fun t ht _ => post _ t ht) hS0.2.2 d1
  · cases e2
    obtain ⟨d1, rfl⟩ := dec_of hd rfl
    refine W.widen (k := mc) (n := ms) (by omega) (by omega) (vx_ret ?_)
    obtain ⟨rt, hr9, hrt9⟩ := (ret_of (y := y) (by omega)).2.2.2.1 q1
    exact W.aret (v := va_rf (x.map ad)) hx hb (by rw [hrt]; exact hr9) hrt9 (by cases x with | none => exact Or.inl rfl | some b => exact Or.inr ⟨_, rfl⟩) (fun t ht _ => post _ t ht) hS0.2.2 d1
  · cases e2
    have hcc : hC (tck h 1 6) - hC h = 1 := by show hC h + 1 - hC h = 1; omega
    have hss : hS (tck h 1 6) - hS h = 6 := by show hS h + 6 - hS h = 6; omega
    rw [hcc] at hc1
    rw [hss] at hc2
    unfold exq at q1
    obtain ⟨x0, x1, x2⟩ := hcx.2.2.2.2.2.1
    obtain ⟨c0, c1, c2⟩ := hcx.2.2.2.2.2.2.2.2.2.2.1
    have hdecl := hcx.2.2.2.2.2.2.2.2.2.2.2.2.2
    split at q1
    · rename_i w
      obtain ⟨rfl, rfl⟩ := w
      cases q1
      rw [if_neg (by decide), if_neg (by decide)] at htab
      obtain ⟨sa, hstr⟩ := x0
      exact thr_of hl hx hb hown hcx hlocks hfr hlo htab hG (by rw [hml]; exact hls) hag q2 rfl (by decide +kernel) (hts _ wx0.1) (hts _ wx0.2) hstr (hat_of hat0 hatN0 hts c0 hdecl) hgd0 dx94.1 dx94.2.1 dx94.2.2.1 dx94.2.2.2.1 dx94.2.2.2.2 hc1 hc2 hmc hms
    · split at q1
      · rename_i w
        obtain ⟨rfl, rfl⟩ := w
        cases q1
        rw [if_neg (by decide), if_neg (by decide)] at htab
        obtain ⟨sa, hstr⟩ := x1
        exact thr_of hl hx hb hown hcx hlocks hfr hlo htab hG (by rw [hml]; exact hls) hag q2 rfl (by decide +kernel) (hts _ wx1.1) (hts _ wx1.2) hstr (hat_of hat1 hatN1 hts c1 hdecl) hgd1 dx84.1 dx84.2.1 dx84.2.2.1 dx84.2.2.2.1 dx84.2.2.2.2 hc1 hc2 hmc hms
      · split at q1
        · rename_i w
          obtain ⟨rfl, rfl⟩ := w
          cases q1
          rw [if_neg (by decide), if_neg (by decide)] at htab
          obtain ⟨sa, hstr⟩ := x2
          exact thr_of hl hx hb hown hcx hlocks hfr hlo htab hG (by rw [hml]; exact hls) hag q2 rfl (by decide +kernel) (hts _ wx2.1) (hts _ wx2.2) hstr (hat_of hat2 hatN2 hts c2 hdecl) hgd2 dx88.1 dx88.2.1 dx88.2.2.1 dx88.2.2.2.1 dx88.2.2.2.2 hc1 hc2 hmc hms
        · cases q1
  · cases e2
  · cases e2
  · cases e2
  · cases e2
  · cases e2
end FIN
