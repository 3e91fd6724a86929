/-! THE CLAIM OUT OF ONE WALK OF THE LAW'S BODY. Your part is whole_start (and what it stands on); all else here is the same for every law, but numbers. -/
def R_law : String := "PerfgaugeHouseLaw"
def lw_P (b : Addr) (xs : List Int32) (args : Array Value) (s : State) : Prop := args = #[.ref b] ∧ s.IntsAt b xs ∧ xs.length ≤ 260 ∧ (Jvm.Cond.and given_1 narrow_1).before args s = true
def lw_Q (_ : Array Value) (s : State) (o : Outcome) (t : State) : Prop := o = .returned (some (.int 1)) ∧ Framed s o t [] 600086 7301442
def lw_Z (below : List Frame) (a : Array Value) (s : State) : State → Prop := fun t => ∃ o, t.status = .running ∧ Ended t below o ∧ lw_Q a s o t
/-- the law's own end, with 1 on the stack, nothing written that was there before, its room as the claim has it -/
theorem lw_ret {p : Program} {l : Launch} {e : Env} {s : State} {m : MethodId} {below : List Frame} {meth : Method} {c : Code} {b : Nat} (hx : p.tables.exec = Jvm.exec) (hb : c.code = code) (hr : meth.sig.returnType = ret) (hlocks : meth.locks = false) {pc : Nat} {H : Heap} {ls : Array Slot} (hdg : decode code pc = .ok (.ireturn, 1)) : W p l e room_1 s m #[Value.ref b] below meth c H [] 600086 7301442 (lw_Z below #[Value.ref b] s) (F0 m pc ls [.int 1]) := by
  intro T hT X
  obtain ⟨fs, hret, hrun, hended, hW, hframe⟩ := X.leave (v := some (.int 1)) (hlocks := hlocks) (fun h => by rw [hr] at h; cases h)
  have hmeth' : T.vm.method? m = some meth := X.method'
  refine ⟨T.setFrames fs, ?_, .returned (some (.int 1)), hrun, hended, rfl, ⟨_, rfl⟩, hW, hframe⟩
  jvm_step X.here [X.here.top, hx, hb, hdg, hmeth', hr, ret, narrow_b1]
  (try refine ⟨rfl, ?_⟩); (try refine ⟨rfl, ?_⟩)
  first | (intro acts; rw [hret _ acts rfl rfl rfl]) | rw [hret _ _ rfl rfl rfl]
  exact Steps.refl _
/-- what holds at the law's entry: the machine, the code, the tables' words (any of lw_tbl by 'hts w (by decide +kernel)'), the script of L ints xs at the cell b, what the Statement gives of the start (any of its parts by flat_of_before) -/
def lw_At (p : Program) (s : State) (m : MethodId) (meth : Method) (c : Code) (b L : Nat) (xs : Nat → Int32) : Prop :=
  p.tables.exec = Jvm.exec ∧ c.code = code ∧ meth.sig.returnType = ret ∧ c.maxLocals = 4 ∧ s.vm.findClass R_law = some m.cls ∧ (∀ w ∈ lw_tbl, w.before #[Value.ref b] s = true) ∧ va_X b L xs s s.heap ∧ b < s.heap.size ∧ meth.locks = false ∧ (Jvm.Cond.and given_1 narrow_1).before #[Value.ref b] s = true
/-! ===== the law's start and end ===== -/
def hp0 (L : Nat) (xs : Nat → Int32) : Hp := (2, 0, 0, fun a => if a = 0 then 103 else 100, fun a => if a = 0 then 0 else L, fun _ j => (xs j).toInt, fun _ _ => none)
/-- the law, in our machine, on every script -/
def lawGoal : Prop := ∀ (L : Nat) (xs : Nat → Int32), L ≤ 260 → wp (fun _ _ => true) 30 193 0 [some (vR (some 1)), none, none, none] [] (hp0 L xs) (fun r => r.1 = .inl (some (vI 1)) ∧ hC r.2 ≤ 600086 ∧ hS r.2 ≤ 7301442)
theorem inst_w : (List.range 13).all (fun t => newX.any (fun e => e.2.2.1 == t)) = true := by decide +kernel
theorem inst_of (t : Nat) (C : String) (T : u_T) (N : Nat) (h : xcl[t]? = some (C, T, N)) : Cond.instantiable C N ∈ LWG := by
  have ht := (cls_w t C T N h).2.1
  have h1 := List.all_eq_true.mp inst_w t (List.mem_range.mpr ht)
  simp only [List.any_eq_true, beq_iff_eq] at h1
  obtain ⟨e, he, rfl⟩ := h1
  have h2 := List.all_eq_true.mp newX_ok e he
  obtain ⟨c', k', t', n', i1, i2, i3⟩ := e
  simp only [newChk] at h2
  rw [h] at h2
  simp only [Bool.and_eq_true, decide_eq_true_eq] at h2
  obtain ⟨⟨⟨rfl, a2⟩, a3⟩, a4⟩ := h2
  exact atI_mem a3
theorem nest_in : nestW.all (fun q => decide (Cond.methodLinkNest q.1 q.2.1 q.2.2.1 q.2.2.2 ∈ lw_tbl)) = true := by decide +kernel
theorem cast_in : xcl.all (fun q => decide (Cond.castable q.1 "java/lang/Object" ∈ lw_tbl)) = true := by decide +kernel
theorem dec_in : decW.all (fun x => decide (Cond.declares x ∈ lw_tbl)) = true := by decide +kernel
theorem lwg_tbl {w : Cond} (h : w ∈ LWG) : w ∈ lw_tbl := (List.mem_filter.mp h).1
theorem arr_of {args : Array Value} {s : State} {ty : FieldType} (hp : refKind ty = false) (h : (Cond.arrayClass ty).before args s = true) : ∃ cA, ArrOfT s cA ty ∧ s.vm.findClass ("[" ++ ty.toString) = some cA := by
  obtain ⟨c, k, comp, h1, h2, h3⟩ := Cond.arrayClass_spec h
  exact ⟨c, fun n z => ⟨(fun k h => by cases h), k, h2, comp, h3⟩, h1⟩
theorem arr_ofO {args : Array Value} {s : State} {C : String} (h : (Cond.arrayOver (.object C)).before args s = true) : ∃ cA, ArrOfT s cA (.object C) ∧ va_RA s cA (.object C) := by
  obtain ⟨comp, c, k, h1, h2, h3, h4, h5⟩ := Cond.arrayOver_spec h
  exact ⟨c, fun n z => ⟨(fun k h => by cases h), k, h3, comp, h4⟩, k, comp, h3, h4, h1, h5⟩
set_option maxHeartbeats 8000000 in
set_option maxRecDepth 100000 in
theorem cx_start {args : Array Value} {s : State} {b L : Nat} {xs : Nat → Int32} (hts : ∀ w ∈ lw_tbl, w.before args s = true) (hX : va_X b L xs s s.heap) (hbl : b < s.heap.size) (hgv : (Jvm.Cond.and given_1 narrow_1).before args s = true) : ∃ (e0 : Nat) (dC : Nat → ClassId) (dI : Nat → Nat → Nat) (dA : Nat → ClassId), CX (s.heap.size, e0, b, L, xs, dC, dI, dA) s := by
  have hs := flat_of_before _ hgv
  have hA : ∀ a : Nat, a < s.heap.size → ¬ (fun q : Nat => s.heap.size ≤ q) a := fun a ha => Nat.not_le.mpr ha
  have hcl : ∀ t : Nat, ∃ (cC : ClassId) (iS : Nat → Nat), ∀ q : vw_C, xcl[t]? = some q → u_Kn s q.1 q.2.1 q.2.2 cC iS := fun t => by
    cases hq : xcl[t]? with
    | none => exact ⟨0, fun _ => 0, fun q h => by cases h⟩
    | some q =>
      obtain ⟨C, T, N⟩ := q
      obtain ⟨cC, iS, h⟩ := u_known (ws := lw_tbl) (C := C) (T := T) (N := N) (n := N) hts (fun w hw => lwg_tbl ((cls_w t C T N hq).1 w hw)) (hts _ (lwg_tbl (inst_of t C T N hq)))
      exact ⟨cC, iS, fun q h => by cases h; exact h⟩
  let dC : Nat → ClassId := fun t => Classical.choose (hcl t)
  have hcl2 : ∀ t, ∃ iS : Nat → Nat, ∀ q : vw_C, xcl[t]? = some q → u_Kn s q.1 q.2.1 q.2.2 (dC t) iS := fun t => Classical.choose_spec (hcl t)
  let dI : Nat → Nat → Nat := fun t => Classical.choose (hcl2 t)
  have hcl3 : ∀ t (q : vw_C), xcl[t]? = some q → u_Kn s q.1 q.2.1 q.2.2 (dC t) (dI t) := fun t => Classical.choose_spec (hcl2 t)
  obtain ⟨a0, b0, b0'⟩ := arr_of rfl (hts _ (lwg_tbl acls_w.1))
  obtain ⟨a1, b1, b1'⟩ := arr_of rfl (hts _ (lwg_tbl acls_w.2.1))
  obtain ⟨a2, b2, b2'⟩ := arr_of rfl (hts _ (lwg_tbl acls_w.2.2))
  have hO3 := hts (.arrayOver (.object "java/lang/Object")) (by decide +kernel)
  have hO4 := hts (.arrayOver (.object "PerfgaugeHouse$Sheet")) (by decide +kernel)
  have hO5 := hts (.arrayOver (.object "PerfgaugeHouse$Piece")) (by decide +kernel)
  obtain ⟨a3, b3, b3'⟩ := arr_ofO hO3
  obtain ⟨a4, b4, b4'⟩ := arr_ofO hO4
  obtain ⟨a5, b5, b5'⟩ := arr_ofO hO5
  let dA : Nat → ClassId := fun k => match k with
    | 0 => a0
    | 1 => a1
    | 2 => a2
    | 3 => a3
    | 4 => a4
    | _ => a5
  have hlen : (Term.length (.static "java/util/ArrayList" "DEFAULTCAPACITY_EMPTY_ELEMENTDATA" "[Ljava/lang/Object;")).eval args s none [] s = some (.int (Int32.ofNat 0)) := va_eqt (hs _ (by decide +kernel))
  obtain ⟨e0, ht0, hT0⟩ := va_Tof (N := 0) (f := fun _ => .null) (A := fun q : Nat => s.heap.size ≤ q) (by decide) (hs (.arrayOf (.static "java/util/ArrayList" "DEFAULTCAPACITY_EMPTY_ELEMENTDATA" "[Ljava/lang/Object;") (.object "java/lang/Object")) (by decide +kernel)) hlen (fun j hj => absurd hj (Nat.not_lt_zero j)) hA
  have hst : ∀ (k : Nat) (tx : String), Cond.stringRef "PerfgaugeHouse" k tx ∈ lw_tbl → (Cond.exactly (.string "PerfgaugeHouse" k) "java/lang/String").before args s = true → ∃ sa, vk_R "PerfgaugeHouse" k tx sa s := fun k tx h1 h2 => by
    obtain ⟨a, c, cell, k9, q1, -⟩ := Cond.exactly_spec h2
    have q2 : (Term.string "PerfgaugeHouse" k).eval args s none [] s = some (.ref a) := q1
    exact ⟨a, vk_R.of (A := args) (hts _ h1) q2⟩
  refine ⟨e0, dC, dI, dA, ⟨fun c q hq => hcl3 c q hq, fun k q hq => ?_⟩, ?_, hT0, ⟨hX, hbl, hA b hbl, ?_, Nat.le_refl _⟩, ⟨?_, ?_⟩, ⟨hst 520 _ (by decide +kernel) (hs _ (by decide +kernel)), hst 527 _ (by decide +kernel) (hs _ (by decide +kernel)), hst 532 _ (by decide +kernel) (hs _ (by decide +kernel))⟩, fun q hq => ?_, ⟨va_AO.of (A := args) hO3, va_AO.of (A := args) hO4, va_AO.of (A := args) hO5⟩, fun t ht q hq => ?_, ⟨va_Nc.of (hs _ (by decide +kernel)), va_Nc.of (hs _ (by decide +kernel)), va_Nc.of (hs _ (by decide +kernel))⟩, ⟨va_Nw.of rfl (hts _ (by decide +kernel)), va_Nw.of rfl (hts _ (by decide +kernel)), va_Nw.of rfl (hts _ (by decide +kernel))⟩, va_Mi.of (hs _ (by decide +kernel)), va_Dc.of (hts _ (by decide +kernel)), fun x hx => ?_⟩
  · match k, hq with
    | 0, hq => cases hq; exact ⟨b0, b0'⟩
    | 1, hq => cases hq; exact ⟨b1, b1'⟩
    | 2, hq => cases hq; exact ⟨b2, b2'⟩
    | 3, hq => cases hq; exact ⟨b3, b3'⟩
    | 4, hq => cases hq; exact ⟨b4, b4'⟩
    | 5, hq => cases hq; exact ⟨b5, b5'⟩
    | n + 6, hq => simp [xty] at hq
  · exact va_Zof (hts _ (by decide +kernel)) (hts _ (by decide +kernel)) ht0 hA
  · intro he
    have he : e0 = b := he
    subst he
    obtain ⟨cell, c1, c2, -⟩ := hT0
    obtain ⟨scr, d1, d2, -⟩ := hX
    cases Option.some.inj (c1.symm.trans d1)
    obtain ⟨-, k1, f1, comp1, g1⟩ := c2
    obtain ⟨-, k2, f2, comp2, g2⟩ := d2
    cases Option.some.inj (f1.symm.trans f2)
    rw [g1] at g2
    cases g2
  · exact vx_Zqof (hts _ (by decide +kernel)) (hts _ (by decide +kernel)) (hs _ (by decide +kernel)) hA
  · exact vx_Zqof (hts _ (by decide +kernel)) (hts _ (by decide +kernel)) (hs _ (by decide +kernel)) hA
  · have := List.all_eq_true.mp nest_in q hq
    exact va_Nw.of rfl (hts _ (by simpa using this))
  · have := List.all_eq_true.mp cast_in q (List.mem_of_getElem? hq)
    exact va_Nw.of rfl (hts _ (by simpa using this))
  · have := List.all_eq_true.mp dec_in x hx
    exact va_Nw.of rfl (hts _ (by simpa using this))
theorem okH_0 {E : XE} : okH E (hp0 (eL E) (eX E)) ∨ 65536 < eL E := by
  rcases Nat.lt_or_ge 65536 (eL E) with q | q
  · exact Or.inr q
  · left
    unfold okH
    refine ⟨Nat.le_refl 2, fun a k b _ h => ?_, fun a ha => ?_, ⟨rfl, rfl⟩, ⟨rfl, rfl, fun j hj => ?_⟩⟩
    · have h : (none : Option Nat) = some b := h
      cases h
    · show (if a = 0 then 0 else eL E) ≤ 65536
      split <;> omega
    · show Int32.ofInt (eX E j).toInt = eX E j
      exact Int32.ofInt_toInt _
set_option maxHeartbeats 4000000 in
/-- THE LAW, from its entry, out of our machine's run -/
theorem whole_of (hgoal : lawGoal) {p : Program} {e : Env} {s : State} {m : MethodId} {below : List Frame} {meth : Method} {c : Code} (l : Launch) (hflags : l.flags = flags0) {b L : Nat} {xs : Nat → Int32} (hL260 : L ≤ 260) (C0 : lw_At p s m meth c b L xs) : W p l e room_1 s m #[Value.ref b] below meth c s.heap [] 0 0 (lw_Z below #[Value.ref b] s) (entryFrame m ([Value.ref b] : List Value).toArray 4) := by
  obtain ⟨hx, hb, hr, hml, hown, hts, hX, hbl, hlocks, hgv⟩ := C0
  obtain ⟨e0, dC, dI, dA, hcx⟩ := cx_start hts hX hbl hgv
  have hst : l.stackTraces = false := by
    unfold Launch.stackTraces
    rw [hflags]
    decide
  obtain ⟨n, ⟨o, h'⟩, hex, ho, hc, hs⟩ := hgoal L xs hL260
  have hc : hC h' ≤ 600086 := hc
  have hs : hS h' ≤ 7301442 := hs
  simp only at ho
  subst ho
  generalize hE : ((s.heap.size, e0, b, L, xs, dC, dI, dA) : XE) = E at hcx
  have hEL : eL E = L := by rw [← hE]; rfl
  have hEX : eX E = xs := by rw [← hE]; rfl
  have hE1 : e1 E = b := by rw [← hE]; rfl
  have hEB : eB E = s.heap.size := by rw [← hE]; rfl
  have hok : okH E (hp0 L xs) := by
    have := okH_0 (E := E)
    rw [hEL, hEX] at this
    rcases this with q | q
    · exact q
    · omega
  have hWL : WL E (fun a => if a = 0 then E.2.1 else b) (hp0 L xs) = [] := rfl
  have hG : GR E (fun a => if a = 0 then E.2.1 else b) (hp0 L xs) s.heap s.heap [] := by
    refine ⟨by rw [hWL]; intro k q h; simp at h, by rw [hWL]; exact ⟨fun i j p q h => by simp at h, fun k q h => by simp at h⟩, va_S.rf, hok, rfl, ?_⟩
    rw [hE1]; rfl
  have hCT : CT E 193 30 p room_1 s m #[Value.ref b] meth c (.inl (some (vI 1))) := by
    have q1 : isIni 193 = true → meth.name = "<init>" := fun q => absurd q (by decide +kernel)
    have q2 : 30 + 8 ≤ room_1.frames := by decide
    have q3 : 40 * 30 + 140 ≤ room_1.locals := by decide
    unfold CT
    refine ⟨hx, hb, hml, hown, fun w hw => hts w (lwg_tbl hw), hcx, hr, hlocks, q1, q2, q3, ?_⟩
    rw [if_pos rfl]; exact ⟨_, rfl⟩
  rw [lg_entry_eq]
  have hLR := LR_ent (ad := fun a => if a = 0 then E.2.1 else b) (z := 193) (as := [vR (some 1)]) (by decide +kernel)
  have hsim := (sim l hst (fun _ _ => true) n 30 193 0 _ [] (hp0 L xs) _ h' hex E (fun a => if a = 0 then E.2.1 else b) (hp0 L xs) (fun a => if a = 0 then E.2.1 else b) _ p e room_1 s m #[Value.ref b] below meth c s.heap [] 0 0 600086 7301442 hCT hG hLR (clL_ent (z := 193) (as := [vR (some 1)]) (fun v hv => by
    have : v = vR (some 1) := by simpa using hv
    subst this
    show 1 < 2; omega)) clS_nil ⟨Nat.le_refl _, fun _ _ => rfl⟩ (by have : hC (hp0 L xs) = 0 := rfl; omega) (by have : hS (hp0 L xs) = 0 := rfl; omega) (Nat.le_refl _) (Nat.le_refl _)).2
  intro T hT X
  obtain ⟨t, a1, o9, b1, b2, b3⟩ := hsim T hT X
  refine ⟨t, a1, o9, b1, b2, ?_⟩
  rcases b3 with ⟨⟨v, q1, ad', q2, q3, -⟩, L9, hF, hL9⟩ | ⟨q, -, EX, ce, L9, ⟨k, q1, -⟩, -⟩
  · simp only [Sum.inl.injEq] at q1
    subst q1
    refine ⟨by rw [q3]; rfl, hF.1, hF.2.1, ?_⟩
    refine State.sameButNew.drop_fresh (L := []) (J := L9) hF.2.2 (fun x hx9 => ?_)
    have := hL9 x hx9
    show s.heap.size ≤ x.base
    rw [← hEB]; exact this
  · cases q1
