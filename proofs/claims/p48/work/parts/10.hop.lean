/-! ===== an instruction on cells ===== -/
theorem newL_w {c k t n : Nat} (h : lkp newL c k = some (t, n)) : ∃ (C : String) (T : u_T), xcl[t]? = some (C, T, n) ∧ Cond.classLink (cnm c) k C ∈ LWG ∧ Cond.instantiable C n ∈ LWG ∧ Cond.initialized C ∈ LWG := by
  have h1 := lkp_mem h
  rw [newL_X] at h1
  obtain ⟨e, he, hq⟩ := List.mem_map.mp h1
  have h2 := List.all_eq_true.mp newX_ok e he
  obtain ⟨c', k', t', n', i1, i2, i3⟩ := e
  simp only [Prod.mk.injEq] at hq
  obtain ⟨rfl, rfl, rfl, rfl⟩ := hq
  simp only [newChk] at h2
  cases hx : xcl[t']? with
  | none => rw [hx] at h2; cases h2
  | some q =>
    obtain ⟨C, T, N⟩ := q
    rw [hx] at h2
    simp only [Bool.and_eq_true, decide_eq_true_eq] at h2
    obtain ⟨⟨⟨rfl, a2⟩, a3⟩, a4⟩ := h2
    exact ⟨C, T, rfl, atI_mem a2, atI_mem a3, atI_mem a4⟩
theorem anwL_w {c k g : Nat} (h : lkp anwL c k = some g) : Cond.classLink (cnm c) k (aEl g) ∈ LWG ∧ 103 ≤ g ∧ g ≤ 105 := by
  have h1 := lkp_mem h
  rw [anwL_X] at h1
  obtain ⟨e, he, hq⟩ := List.mem_map.mp h1
  have h2 := List.all_eq_true.mp anwX_ok e he
  obtain ⟨c', k', g', i⟩ := e
  simp only [Prod.mk.injEq] at hq
  obtain ⟨rfl, rfl, rfl⟩ := hq
  simp only [Bool.and_eq_true, decide_eq_true_eq] at h2
  exact ⟨atI_mem h2.1.1, h2.1.2, h2.2⟩
theorem cstT_w {c k t : Nat} (h : lkp cstT c k = some t) : ∃ (C : String) (T : u_T) (N : Nat), xcl[t]? = some (C, T, N) ∧ Cond.classLink (cnm c) k C ∈ LWG := by
  have h1 := lkp_mem h
  rw [cstT_X] at h1
  obtain ⟨e, he, hq⟩ := List.mem_map.mp h1
  have h2 := List.all_eq_true.mp cstX_ok e he
  obtain ⟨c', k', t', i⟩ := e
  simp only [Prod.mk.injEq] at hq
  obtain ⟨rfl, rfl, rfl⟩ := hq
  simp only at h2
  cases hx : xcl[t']? with
  | none => rw [hx] at h2; cases h2
  | some q =>
    obtain ⟨C, T, N⟩ := q
    rw [hx] at h2
    exact ⟨C, T, N, rfl, atI_mem h2⟩
theorem acls_w : Cond.arrayClass .int ∈ LWG ∧ Cond.arrayClass .boolean ∈ LWG ∧ Cond.arrayClass .long ∈ LWG := ⟨by decide +kernel, by decide +kernel, by decide +kernel⟩
theorem bool_n {x : Int} (h : x = 0 ∨ x = 1) : narrow .boolean (.int (Int32.ofInt x)) = .int (Int32.ofInt x) ∧ fits .boolean (.int (Int32.ofInt x)) = true ∧ vp_nar .boolean (Int32.ofInt x) = Int32.ofInt x := by
  rcases h with rfl | rfl <;> exact ⟨by decide, by decide, by decide⟩
theorem ieq {cA : ClassId} {n : Nat} {f g : Nat → Int32} (q : ∀ k, f k = g k) : (.inl (cA, n, .inl f) : va_E) = .inl (cA, n, .inl g) := by rw [funext q]
theorem leq {cA : ClassId} {n : Nat} {f g : Nat → Int64} (q : ∀ k, f k = g k) : (.inl (cA, n, .inr (.inl f)) : va_E) = .inl (cA, n, .inr (.inl g)) := by rw [funext q]
theorem qeq {cA : ClassId} {n : Nat} {f g : Nat → Option Nat} (q : ∀ k, f k = g k) : (.inl (cA, n, .inr (.inr (.inr (.inr f)))) : va_E) = .inl (cA, n, .inr (.inr (.inr (.inr g)))) := by rw [funext q]
theorem oeq {t : Nat} {f g : List Value} (q : f = g) : (.inr (t, f) : va_E) = .inr (t, g) := by rw [q]
theorem fv_eq {ad : Nat → Nat} {h : Hp} {a j kd : Nat} : cv ad (if kd = 3 then vR (hR h a j) else if kd = 2 then vL (hI h a j) else vI (hI h a j)) = fv ad h a j kd := by
  unfold fv
  by_cases h3 : kd = 3
  · subst h3; rfl
  · by_cases h2 : kd = 2
    · subst h2; rfl
    · rw [if_neg h3, if_neg h2]
      split
      · exact absurd rfl h3
      · exact absurd rfl h2
      · rfl
section HOP
variable {p : Program} {l : Launch} {e : Env} {R : Room} {s : State} {m : MethodId} {args : Array Value} {below : List Frame} {meth : Method} {c : Code} {H : Heap} {locs : List Loc} {cells slots : Nat} {Q : State → Prop} {y pc nx : Nat} {lsR : Array Slot} {ad : Nat → Nat} {E : XE} {h h' : Hp} {D : Nat → Nat → Bool}
theorem GR.cell {H0 : Heap} (g : GR E ad h H0 H locs) {a : Nat} (h2 : 2 ≤ a) (ha : a < hN h) : va_at (eC E, eI E) xcl (ad a, cE E ad h a) H := g.1 _ _ (WL_get h2 ha)
theorem GR.fresh {H0 : Heap} (g : GR E ad h H0 H locs) : ∀ q, H0.size ≤ q → eB E ≤ H0.size → eN E q := fun q h1 h2 => Nat.le_trans h2 h1
set_option maxHeartbeats 8000000 in
theorem sim_hop (hx : p.tables.exec = Jvm.exec) (hb : c.code = bts y) (hown : s.vm.findClass (cnm (cls y)) = some m.cls) (hts : ∀ w ∈ LWG, w.before args s = true) (hcx : CX E s) (hini : isIni y = true → meth.name = "<init>") {i : Instr} (hd : cod y pc = some (i, nx)) {st st' : List XV} (hs : hop D y (cls y) i st h = some (st', h'))
    (hG : GR E ad h s.heap H locs) (hc : clS (hN h) st) (hr1 : cells + (hC h' - hC h) ≤ R.cells) (hr2 : slots + (hS h' - hS h) ≤ R.slots)
    (kk : ∀ (ad' : Nat → Nat) (H' : Heap) (locs' : List Loc), (∀ a, a < hN h → ad' a = ad a) → GR E ad' h' s.heap H' locs' → W p l e R s m args below meth c H' locs' (cells + (hC h' - hC h)) (slots + (hS h' - hS h)) Q (F0 m nx lsR (st'.map (cv ad')))) :
    W p l e R s m args below meth c H locs cells slots Q (F0 m pc lsR (st.map (cv ad))) := by
  obtain ⟨hP, hD, hS0, hO, had0, had1⟩ := id hG
  have hK := hcx.1
  have hsz : eB E ≤ s.heap.size := hcx.2.2.2.1.2.2.2.2
  have hA : ∀ q, s.heap.size ≤ q → eN E q := fun q hq => Nat.le_trans hsz hq
  obtain ⟨o1, o2, o3, ⟨o4, o4b⟩, o5, o6, o7⟩ := id hO
  cases i with
  | getfield k =>
    obtain ⟨d1, rfl⟩ := dec_of hd rfl
    simp only [hop] at hs
    split at hs
    · rename_i t j kd fin hf
      obtain ⟨C, T, N, ref, hxc, hj, hlk, hsm, hfin, hdecl, hkd⟩ := fld_w hf
      obtain ⟨hin, ht13, hCn, hlen, ty, hty, hnm, hkk⟩ := cls_w t C T N hxc
      split at hs
      · rename_i a r
        split at hs
        · rename_i hq
          obtain ⟨ha, hta, -⟩ := hq
          simp only [Option.some.injEq, Prod.mk.injEq] at hs
          obtain ⟨rfl, rfl⟩ := hs
          have h2 : 2 ≤ a := by
            rcases Nat.lt_or_ge a 2 with q | q
            · have : a = 0 ∨ a = 1 := by omega
              rcases this with rfl | rfl <;> omega
            · exact q
          have hg := WL_get (E := E) (ad := ad) h2 ha
          rw [cE_obj hta ht13] at hg
          have hv := fvl_get (ad := ad) (h := h) (a := a) (i := 0) hkd
          rw [Nat.zero_add] at hv
          have kk0 := kk ad H locs (fun _ _ => rfl) hG
          simp only [Nat.sub_self, Nat.add_zero] at kk0
          refine va_get hx hb hts hin hown hK hP (a - 2) hg hxc j hj (hts _ hlk) (fun x hx9 => ?_) hv d1 ?_
          · rcases hsm with rfl | q
            · exact hx9
            · exact u_same (hts _ q) x hx9
          · rw [List.map_cons, fv_eq] at kk0
            exact kk0
        · cases hs
      · cases hs
    · cases hs
  | putfield k =>
    obtain ⟨d1, rfl⟩ := dec_of hd rfl
    simp only [hop] at hs
    split at hs
    · rename_i t j kd fin hf
      obtain ⟨C, T, N, ref, hxc, hj, hlk, hsm, hfin, hdecl, hkd⟩ := fld_w hf
      obtain ⟨hin, ht13, hCn, hlen, ty, hty, hnm, hkk⟩ := cls_w t C T N hxc
      have hsame : ∀ x, s.fieldFound? (T j).1 (T j).2.1 (T j).2.2.1 = some x → s.fieldFound? ref (T j).2.1 (T j).2.2.1 = some x := fun x hx9 => by
        rcases hsm with rfl | q
        · exact hx9
        · exact u_same (hts _ q) x hx9
      have hkt : kd = kdT (ty j) := Option.some.inj (hkd.symm.trans (hkk j hj).1)
      have h2a : ∀ a, hT h a = t → 2 ≤ a := fun a hta => by
        rcases Nat.lt_or_ge a 2 with q | q
        · have : a = 0 ∨ a = 1 := by omega
          rcases this with rfl | rfl <;> omega
        · exact q
      have fin : ∀ (a : Nat) (h9 : Hp) (r : List XV) (v : Value), a < hN h → hT h a = t → (fin = true → isIni y = true ∧ cls y = t) → narrow (ty j) v = v → fits (ty j) v = true → v = fv ad h9 a j kd → hN h9 = hN h → hC h9 = hC h → hS h9 = hS h → hT h9 = hT h → hL h9 = hL h → (∀ b, b ≠ a → hI h9 b = hI h b ∧ hR h9 b = hR h b) → (∀ x, x ≠ j → hI h9 a x = hI h a x ∧ hR h9 a x = hR h a x) → okH E h9 → (r, h9) = (st', h') → W p l e R s m args below meth c H locs cells slots Q (F0 m pc lsR (v :: .ref (ad a) :: r.map (cv ad))) := by
        intro a h9 r v ha hta hfi hnv hfv ev n1 n2 n3 n4 n5 n6 n7 ok9 eq
        simp only [Prod.mk.injEq] at eq
        obtain ⟨rfl, rfl⟩ := eq
        have h2 := h2a a hta
        have hg := WL_get (E := E) (ad := ad) h2 ha
        rw [cE_obj hta ht13] at hg
        have hset : (fvl ad h a 0 (kdl t)).set j v = fvl ad h9 a 0 (kdl t) := by
          rw [ev]
          have := fvl_set (ad := ad) (h := h) (h' := h9) (a := a) (i := 0) hkd (fun x k9 hx9 => by
            unfold fv
            rw [(n7 x (by omega)).1, (n7 x (by omega)).2])
          rw [Nat.zero_add] at this
          exact this
        have he : (Sum.inr (t, (fvl ad h a 0 (kdl t)).set j v) : va_E) = cE E ad h9 a := by
          rw [cE_obj (by rw [n4]; exact hta) ht13, hset]
        have kk1 : ∀ (H1 : Heap) (locs1 : List Loc), va_P (eC E, eI E) xcl ((WL E ad h).set (a - 2) (ad a, .inr (t, (fvl ad h a 0 (kdl t)).set j v))) H1 → va_D (eN E) ((WL E ad h).set (a - 2) (ad a, .inr (t, (fvl ad h a 0 (kdl t)).set j v))) → va_S (eN E) s.heap H1 locs1 → W p l e R s m args below meth c H1 locs1 cells slots Q (F0 m (pc + 3) lsR (r.map (cv ad))) := fun H1 locs1 q1 q2 q3 => by
          have k9 := kk ad H1 locs1 (fun _ _ => rfl) (GR.set h2 ha had0 had1 n1 n4 n5 n6 he ok9 q1 q2 q3)
          rw [n2, n3, Nat.sub_self, Nat.sub_self, Nat.add_zero, Nat.add_zero] at k9
          exact k9
        cases hfin9 : (T j).2.2.2 with
        | false => exact va_put hx hb hts hin ty hty hnm hown hK hP hD hS0 (a - 2) hg hxc j hj (hts _ hlk) hsame hfin9 (hty j hj) hnv hfv (by rw [fvl_len, hlen]; exact hj) d1 kk1
        | true =>
          have hf9 : fin = true := by rw [← hfin]; exact hfin9
          obtain ⟨i1, i2⟩ := hfi hf9
          exact va_putF hx hb hts hin ty hty hnm hown hK hP hD hS0 (a - 2) hg hxc j hj (hts _ hlk) hsame hfin9 (hini i1) (by rw [i2]; exact hdecl hf9) (hty j hj) hnv hfv (by rw [fvl_len, hlen]; exact hj) d1 kk1
      split at hs
      · rename_i q9 a r
        split at hs
        · rename_i hq
          obtain ⟨ha, hta, -, hfi, hk3⟩ := hq
          have hcq : clV (hN h) (vR q9) := (clS_cons.mp hc).1
          have ev : va_rf (q9.map ad) = fv ad (sR h a j q9) a j kd := by
            rw [hk3]
            show va_rf (q9.map ad) = va_rf ((u2 (hR h) a j q9 a j).map ad)
            simp [u2]
          have hrt : (∃ n9, ty j = .object n9) ∨ ∃ t9, ty j = .array t9 := by
            have k3 : kdT (ty j) = 3 := by rw [← hkt]; exact hk3
            cases htt : ty j <;> rw [htt] at k3 <;> first | exact Or.inl ⟨_, rfl⟩ | exact Or.inr ⟨_, rfl⟩ | (simp [kdT] at k3; done)
          refine fin a (sR h a j q9) r (va_rf (q9.map ad)) ha hta hfi ?_ ?_ ev rfl rfl rfl rfl rfl (fun b hb9 => ⟨rfl, u2_ne hb9⟩) (fun x hx9 => ⟨rfl, by show u2 (hR h) a j q9 a x = _; simp [u2, hx9]⟩) (okH_sR (fun b hb9 => by rw [hb9] at hcq; exact hcq) hO) (Option.some.inj hs)
          · rcases hrt with ⟨n9, e9⟩ | ⟨t9, e9⟩ <;> rw [e9] <;> cases q9 <;> rfl
          · rcases hrt with ⟨n9, e9⟩ | ⟨t9, e9⟩ <;> rw [e9] <;> cases q9 <;> rfl
        · cases hs
      · rename_i x9 a r
        split at hs
        · rename_i hq
          obtain ⟨ha, hta, -, hfi, hk3⟩ := hq
          have ev : Value.long (Int64.ofInt x9) = fv ad (sI h a j x9) a j kd := by
            rw [hk3]
            show _ = Value.long (Int64.ofInt (u2 (hI h) a j x9 a j))
            simp [u2]
          have hrt : ty j = .long := by
            have k3 : kdT (ty j) = 2 := by rw [← hkt]; exact hk3
            cases htt : ty j <;> rw [htt] at k3 <;> first | rfl | (simp [kdT] at k3; done)
          refine fin a (sI h a j x9) r _ ha hta hfi ?_ ?_ ev rfl rfl rfl rfl rfl (fun b hb9 => ⟨u2_ne hb9, rfl⟩) (fun x hx9 => ⟨by show u2 (hI h) a j x9 a x = _; simp [u2, hx9], rfl⟩) (okH_sI (h2a a hta) hO) (Option.some.inj hs)
          · rw [hrt]; rfl
          · rw [hrt]; rfl
        · cases hs
      · rename_i x9 a r
        split at hs
        · rename_i hq
          obtain ⟨ha, hta, -, hfi, hk3⟩ := hq
          have ev : Value.int (Int32.ofInt x9) = fv ad (sI h a j x9) a j kd := by
            have : kd ≠ 3 ∧ kd ≠ 2 := by omega
            unfold fv
            split
            · omega
            · omega
            · show _ = Value.int (Int32.ofInt (u2 (hI h) a j x9 a j))
              simp [u2]
          have hnf : narrow (ty j) (.int (Int32.ofInt x9)) = .int (Int32.ofInt x9) ∧ fits (ty j) (.int (Int32.ofInt x9)) = true := by
            rcases hk3 with hk3 | ⟨hk3, hx01⟩
            · have k3 : kdT (ty j) = 0 := by rw [← hkt]; exact hk3
              have hrt : ty j = .int := by
                cases htt : ty j <;> rw [htt] at k3 <;> first | rfl | (simp [kdT] at k3; done)
              rw [hrt]; exact ⟨rfl, rfl⟩
            · have k3 : kdT (ty j) = 1 := by rw [← hkt]; exact hk3
              have hrt : ty j = .boolean := by
                cases htt : ty j <;> rw [htt] at k3 <;> first | rfl | (simp [kdT] at k3; done)
              rw [hrt]; exact ⟨(bool_n hx01).1, (bool_n hx01).2.1⟩
          exact fin a (sI h a j x9) r _ ha hta hfi hnf.1 hnf.2 ev rfl rfl rfl rfl rfl (fun b hb9 => ⟨u2_ne hb9, rfl⟩) (fun x hx9 => ⟨by show u2 (hI h) a j x9 a x = _; simp [u2, hx9], rfl⟩) (okH_sI (h2a a hta) hO) (Option.some.inj hs)
        · cases hs
      · cases hs
    · cases hs
  | getstatic k =>
    obtain ⟨d1, rfl⟩ := dec_of hd rfl
    simp only [hop] at hs
    split at hs
    · rename_i hq
      obtain ⟨hcl, rfl⟩ := hq
      simp only [Option.some.injEq, Prod.mk.injEq] at hs
      obtain ⟨rfl, rfl⟩ := hs
      rw [hcl] at hown
      have kk0 := kk ad H locs (fun _ _ => rfl) hG
      simp only [Nat.sub_self, Nat.add_zero] at kk0
      refine va_gets hx hb hcx.2.1 hS0 hown (hts (.fieldLink "java/util/ArrayList" 39 "java/util/ArrayList" "DEFAULTCAPACITY_EMPTY_ELEMENTDATA" "[Ljava/lang/Object;") (by decide +kernel)) (fun x hx9 => hx9) d1 ?_
      rw [List.map_cons] at kk0
      have e2 : cv ad (vR (some 0)) = .ref (e0 E) := by show Value.ref (ad 0) = _; rw [had0]
      rw [e2] at kk0
      exact kk0
    · cases hs
  | iaload =>
    obtain ⟨d1, rfl⟩ := dec_of hd rfl
    simp only [hop] at hs
    split at hs
    · rename_i x a r
      split at hs
      · rename_i hq
        obtain ⟨ha, hta, hx0, hx1, -⟩ := hq
        simp only [Option.some.injEq, Prod.mk.injEq] at hs
        obtain ⟨rfl, rfl⟩ := hs
        obtain ⟨hin, hcl⟩ := ix_conv hx0 hx1 (o3 a ha)
        have kk0 := kk ad H locs (fun _ _ => rfl) hG
        simp only [Nat.sub_self, Nat.add_zero] at kk0
        by_cases ha1 : a = 1
        · subst ha1
          obtain ⟨hX, hbl, hbA, -⟩ := hcx.2.2.2.1
          have hin2 : vp_in (Int32.ofInt x) (eL E) := by rw [← o6]; exact hin
          show W p l e R s m args below meth c H locs cells slots Q (F0 m pc lsR (Value.int (Int32.ofInt x) :: Value.ref (ad 1) :: r.map (cv ad)))
          rw [had1]
          refine va_sld hx hb hX hbl hbA hS0 hin2 d1 ?_
          rw [hcl, ← o7 x.toNat (by omega)]
          exact kk0
        have h2 : 2 ≤ a := by
          rcases Nat.lt_or_ge a 2 with q | q
          · have : a = 0 ∨ a = 1 := by omega
            rcases this with rfl | rfl <;> omega
          · exact q
        have hg := WL_get (E := E) (ad := ad) h2 ha
        rw [cE_100 hta] at hg
        refine va_iald hx hb hK hP (a - 2) 0 hg rfl hin d1 ?_
        rw [hcl]
        exact kk0
      · cases hs
    · cases hs
  | baload =>
    obtain ⟨d1, rfl⟩ := dec_of hd rfl
    simp only [hop] at hs
    split at hs
    · rename_i x a r
      split at hs
      · rename_i hq
        obtain ⟨ha, hta, hx0, hx1, -⟩ := hq
        simp only [Option.some.injEq, Prod.mk.injEq] at hs
        obtain ⟨rfl, rfl⟩ := hs
        obtain ⟨hin, hcl⟩ := ix_conv hx0 hx1 (o3 a ha)
        have kk0 := kk ad H locs (fun _ _ => rfl) hG
        simp only [Nat.sub_self, Nat.add_zero] at kk0
        have h2 : 2 ≤ a := by
          rcases Nat.lt_or_ge a 2 with q | q
          · have : a = 0 ∨ a = 1 := by omega
            rcases this with rfl | rfl <;> omega
          · exact q
        have hg := WL_get (E := E) (ad := ad) h2 ha
        rw [cE_101 hta] at hg
        refine va_zald hx hb hK hP (a - 2) 1 hg rfl hin d1 ?_
        rw [hcl]
        exact kk0
      · cases hs
    · cases hs
  | laload =>
    obtain ⟨d1, rfl⟩ := dec_of hd rfl
    simp only [hop] at hs
    split at hs
    · rename_i x a r
      split at hs
      · rename_i hq
        obtain ⟨ha, hta, hx0, hx1, -⟩ := hq
        simp only [Option.some.injEq, Prod.mk.injEq] at hs
        obtain ⟨rfl, rfl⟩ := hs
        obtain ⟨hin, hcl⟩ := ix_conv hx0 hx1 (o3 a ha)
        have kk0 := kk ad H locs (fun _ _ => rfl) hG
        simp only [Nat.sub_self, Nat.add_zero] at kk0
        have h2 : 2 ≤ a := by
          rcases Nat.lt_or_ge a 2 with q | q
          · have : a = 0 ∨ a = 1 := by omega
            rcases this with rfl | rfl <;> omega
          · exact q
        have hg := WL_get (E := E) (ad := ad) h2 ha
        rw [cE_102 hta] at hg
        refine va_lald hx hb hK hP (a - 2) 2 hg rfl hin d1 ?_
        rw [hcl]
        exact kk0
      · cases hs
    · cases hs
  | aaload =>
    obtain ⟨d1, rfl⟩ := dec_of hd rfl
    simp only [hop] at hs
    split at hs
    · rename_i x a r
      split at hs
      · rename_i hq
        obtain ⟨ha, ht1, ht2, hx0, hx1, -⟩ := hq
        simp only [Option.some.injEq, Prod.mk.injEq] at hs
        obtain ⟨rfl, rfl⟩ := hs
        obtain ⟨hin, hcl⟩ := ix_conv hx0 hx1 (o3 a ha)
        have kk0 := kk ad H locs (fun _ _ => rfl) hG
        simp only [Nat.sub_self, Nat.add_zero] at kk0
        have h2 : 2 ≤ a := by
          rcases Nat.lt_or_ge a 2 with q | q
          · have : a = 0 ∨ a = 1 := by omega
            rcases this with rfl | rfl <;> omega
          · exact q
        have hg := WL_get (E := E) (ad := ad) h2 ha
        rw [cE_103 rfl ht1] at hg
        refine va_aldq hx hb hK hP (a - 2) (hT h a - 100) hg (xty_get ht1 ht2) hin d1 ?_
        rw [hcl]
        exact kk0
      · cases hs
    · cases hs
  | iastore =>
    obtain ⟨d1, rfl⟩ := dec_of hd rfl
    simp only [hop] at hs
    split at hs
    · rename_i v x a r
      split at hs
      · rename_i hq
        obtain ⟨h2, ha, hta, hx0, hx1, hq9⟩ := hq
        simp only [Option.some.injEq, Prod.mk.injEq] at hs
        obtain ⟨rfl, rfl⟩ := hs
        obtain ⟨hin, hcl⟩ := ix_conv hx0 hx1 (o3 a ha)
        have hg := WL_get (E := E) (ad := ad) h2 ha
        rw [cE_100 hta] at hg
        refine va_iast hx hb hK hP hD hS0 (a - 2) 0 hg rfl hin d1 (fun H1 locs1 q1 q2 q3 => ?_)
        have k9 := kk ad H1 locs1 (fun _ _ => rfl) (GR.set h2 ha had0 had1 rfl rfl rfl (fun b hb9 => ⟨u2_ne hb9, rfl⟩) ?_ (okH_sI h2 hO) q1 q2 q3)
        · rw [show hC (sI h a x.toNat v) - hC h = 0 from Nat.sub_self _, show hS (sI h a x.toNat v) - hS h = 0 from Nat.sub_self _, Nat.add_zero, Nat.add_zero] at k9
          exact k9
        · rw [cE_100 (by exact hta)]
          refine ieq (fun k => ?_)
          rw [hcl]
          show (if k = x.toNat then Int32.ofInt v else Int32.ofInt (hI h a k)) = Int32.ofInt (u2 (hI h) a x.toNat v a k)
          simp only [u2, true_and]
          split <;> rfl
      · cases hs
    · cases hs
  | bastore =>
    obtain ⟨d1, rfl⟩ := dec_of hd rfl
    simp only [hop] at hs
    split at hs
    · rename_i v x a r
      split at hs
      · rename_i hq
        obtain ⟨h2, ha, hta, hx0, hx1, hq9⟩ := hq
        simp only [Option.some.injEq, Prod.mk.injEq] at hs
        obtain ⟨rfl, rfl⟩ := hs
        obtain ⟨hin, hcl⟩ := ix_conv hx0 hx1 (o3 a ha)
        have hg := WL_get (E := E) (ad := ad) h2 ha
        rw [cE_101 hta] at hg
        refine va_zast hx hb hK hP hD hS0 (a - 2) 1 hg rfl hin d1 (fun H1 locs1 q1 q2 q3 => ?_)
        have k9 := kk ad H1 locs1 (fun _ _ => rfl) (GR.set h2 ha had0 had1 rfl rfl rfl (fun b hb9 => ⟨u2_ne hb9, rfl⟩) ?_ (okH_sI h2 hO) q1 q2 q3)
        · rw [show hC (sI h a x.toNat v) - hC h = 0 from Nat.sub_self _, show hS (sI h a x.toNat v) - hS h = 0 from Nat.sub_self _, Nat.add_zero, Nat.add_zero] at k9
          exact k9
        · rw [cE_101 (by exact hta), (bool_n hq9.2).2.2]
          refine ieq (fun k => ?_)
          rw [hcl]
          show (if k = x.toNat then Int32.ofInt v else Int32.ofInt (hI h a k)) = Int32.ofInt (u2 (hI h) a x.toNat v a k)
          simp only [u2, true_and]
          split <;> rfl
      · cases hs
    · cases hs
  | lastore =>
    obtain ⟨d1, rfl⟩ := dec_of hd rfl
    simp only [hop] at hs
    split at hs
    · rename_i v x a r
      split at hs
      · rename_i hq
        obtain ⟨h2, ha, hta, hx0, hx1, hq9⟩ := hq
        simp only [Option.some.injEq, Prod.mk.injEq] at hs
        obtain ⟨rfl, rfl⟩ := hs
        obtain ⟨hin, hcl⟩ := ix_conv hx0 hx1 (o3 a ha)
        have hg := WL_get (E := E) (ad := ad) h2 ha
        rw [cE_102 hta] at hg
        refine va_last hx hb hK hP hD hS0 (a - 2) 2 hg rfl hin d1 (fun H1 locs1 q1 q2 q3 => ?_)
        have k9 := kk ad H1 locs1 (fun _ _ => rfl) (GR.set h2 ha had0 had1 rfl rfl rfl (fun b hb9 => ⟨u2_ne hb9, rfl⟩) ?_ (okH_sI h2 hO) q1 q2 q3)
        · rw [show hC (sI h a x.toNat v) - hC h = 0 from Nat.sub_self _, show hS (sI h a x.toNat v) - hS h = 0 from Nat.sub_self _, Nat.add_zero, Nat.add_zero] at k9
          exact k9
        · rw [cE_102 (by exact hta)]
          refine leq (fun k => ?_)
          rw [hcl]
          show (if k = x.toNat then Int64.ofInt v else Int64.ofInt (hI h a k)) = Int64.ofInt (u2 (hI h) a x.toNat v a k)
          simp only [u2, true_and]
          split <;> rfl
      · cases hs
    · cases hs
  | aastore =>
    obtain ⟨d1, rfl⟩ := dec_of hd rfl
    simp only [hop] at hs
    split at hs
    · rename_i x a r
      split at hs
      · rename_i hq
        obtain ⟨h2, ha, ht1, ht2, hx0, hx1, -⟩ := hq
        simp only [Option.some.injEq, Prod.mk.injEq] at hs
        obtain ⟨rfl, rfl⟩ := hs
        obtain ⟨hin, hcl⟩ := ix_conv hx0 hx1 (o3 a ha)
        have hg := WL_get (E := E) (ad := ad) h2 ha
        rw [cE_103 rfl ht1] at hg
        refine va_astqN hx hb hK hP hD hS0 (a - 2) (hT h a - 100) hg (xty_get ht1 ht2) hin d1 (fun H1 locs1 q1 q2 q3 => ?_)
        have k9 := kk ad H1 locs1 (fun _ _ => rfl) (GR.set h2 ha had0 had1 rfl rfl rfl (fun b hb9 => ⟨rfl, u2_ne hb9⟩) ?_ (okH_sR (fun b hb9 => by cases hb9) hO) q1 q2 q3)
        · rw [show hC (sR h a x.toNat none) - hC h = 0 from Nat.sub_self _, show hS (sR h a x.toNat none) - hS h = 0 from Nat.sub_self _, Nat.add_zero, Nat.add_zero] at k9
          exact k9
        · rw [cE_103 (h := sR h a x.toNat none) (t := hT h a) rfl ht1]
          refine qeq (fun k => ?_)
          rw [hcl]
          show (if k = x.toNat then none else (hR h a k).map ad) = (u2 (hR h) a x.toNat none a k).map ad
          simp only [u2, true_and]
          split <;> rfl
      · cases hs
    · rename_i b x a r
      split at hs
      · rename_i hq
        obtain ⟨h2, ha, hx0, hx1, -, hbn, hel⟩ := hq
        simp only [Option.some.injEq, Prod.mk.injEq] at hs
        obtain ⟨rfl, rfl⟩ := hs
        have ht1 : 103 ≤ hT h a := by omega
        have ht2 : hT h a ≤ 105 := by omega
        have htb : hT h b < 13 := by omega
        have hb2 : 2 ≤ b := by
          rcases Nat.lt_or_ge b 2 with q | q
          · have : b = 0 ∨ b = 1 := by omega
            rcases this with rfl | rfl <;> omega
          · exact q
        obtain ⟨hin, hcl⟩ := ix_conv hx0 hx1 (o3 a ha)
        have hg := WL_get (E := E) (ad := ad) h2 ha
        rw [cE_103 rfl ht1] at hg
        have hgb := WL_get (E := E) (ad := ad) hb2 hbn
        rw [cE_obj rfl htb] at hgb
        obtain ⟨q0, hq0⟩ : ∃ q : vw_C, xcl[hT h b]? = some q := ⟨_, List.getElem?_eq_getElem (by show hT h b < 13; exact htb)⟩
        have fin : ∀ (H1 : Heap) (locs1 : List Loc), va_P (eC E, eI E) xcl ((WL E ad h).set (a - 2) (ad a, .inl (eA E (hT h a - 100), hL h a, .inr (.inr (.inr (.inr (va_up (fun j => (hR h a j).map ad) (Int32.ofInt x).toNatClampNeg (some (ad b))))))))) H1 → va_D (eN E) ((WL E ad h).set (a - 2) (ad a, .inl (eA E (hT h a - 100), hL h a, .inr (.inr (.inr (.inr (va_up (fun j => (hR h a j).map ad) (Int32.ofInt x).toNatClampNeg (some (ad b))))))))) → va_S (eN E) s.heap H1 locs1 → W p l e R s m args below meth c H1 locs1 cells slots Q (F0 m (pc + 1) lsR (r.map (cv ad))) := fun H1 locs1 q1 q2 q3 => by
          have k9 := kk ad H1 locs1 (fun _ _ => rfl) (GR.set h2 ha had0 had1 rfl rfl rfl (fun b hb9 => ⟨rfl, u2_ne hb9⟩) ?_ (okH_sR (fun b9 hb9 => by cases hb9; exact hbn) hO) q1 q2 q3)
          · rw [show hC (sR h a x.toNat (some b)) - hC h = 0 from Nat.sub_self _, show hS (sR h a x.toNat (some b)) - hS h = 0 from Nat.sub_self _, Nat.add_zero, Nat.add_zero] at k9
            exact k9
          · rw [cE_103 (h := sR h a x.toNat (some b)) (t := hT h a) rfl ht1]
            refine qeq (fun k => ?_)
            rw [hcl]
            show (if k = x.toNat then some (ad b) else (hR h a k).map ad) = (u2 (hR h) a x.toNat (some b) a k).map ad
            simp only [u2, true_and]
            split <;> rfl
        rcases hel with ⟨q1, q2⟩ | ⟨q1, q2⟩ | ⟨q1, q2⟩
        · have hany : va_Any "java/lang/Object" s H (ad b) := by
            obtain ⟨C, T, N⟩ := q0
            obtain ⟨r9, h9, cell, c1, c2, c3, c4⟩ := hP _ _ hgb
            have hr9 : r9 = (C, T, N) := Option.some.inj (h9.symm.trans hq0)
            subst hr9
            have hkn := hK.1 _ _ hq0
            obtain ⟨-, hca, kC, hkC, -⟩ := hkn
            refine ⟨cell, c1, by rw [c3]; rfl, ⟨kC, by rw [c2]; exact hkC⟩, fun comp hcomp => ?_⟩
            have hcst := hcx.2.2.2.2.2.2.2.2.1 _ htb _ hq0
            obtain ⟨c3', c4', z1, z2, z3⟩ := Cond.castable_spec (va_Nw.use (A := args) rfl hcst)
            cases Option.some.inj (z1.symm.trans hca)
            cases Option.some.inj (z2.symm.trans hcomp)
            rw [c2]; exact z3
          refine va_astqM hx hb hK hP hD hS0 (a - 2) (hT h a - 100) hg (by rw [q1]; rfl) hany hin d1 fin
        · refine va_astq hx hb hK hP hD hS0 (a - 2) (hT h a - 100) (b - 2) (hT h b) hg ?_ hgb hq0 hin d1 fin
          have := xty_get (E := E) ht1 ht2
          rw [this, q1]
          rw [q2] at hq0
          have : q0 = ("PerfgaugeHouse$Sheet", cT8, 8) := Option.some.inj (hq0.symm.trans rfl)
          rw [this]; rfl
        · refine va_astq hx hb hK hP hD hS0 (a - 2) (hT h a - 100) (b - 2) (hT h b) hg ?_ hgb hq0 hin d1 fin
          have := xty_get (E := E) ht1 ht2
          rw [this, q1]
          rw [q2] at hq0
          have : q0 = ("PerfgaugeHouse$Piece", cT4, 16) := Option.some.inj (hq0.symm.trans rfl)
          rw [this]; rfl
      · cases hs
    · cases hs
  | arraylength =>
    obtain ⟨d1, rfl⟩ := dec_of hd rfl
    simp only [hop] at hs
    split at hs
    · rename_i a r
      split at hs
      · rename_i hq
        obtain ⟨ha, ht1, ht2⟩ := hq
        simp only [Option.some.injEq, Prod.mk.injEq] at hs
        obtain ⟨rfl, rfl⟩ := hs
        have kk0 := kk ad H locs (fun _ _ => rfl) hG
        simp only [Nat.sub_self, Nat.add_zero] at kk0
        have eI : Int32.ofInt ((hL h a : Nat) : Int) = Int32.ofNat (hL h a) := rfl
        by_cases ha0 : a = 0
        · subst ha0
          show W p l e R s m args below meth c H locs cells slots Q (F0 m pc lsR (Value.ref (ad 0) :: r.map (cv ad)))
          rw [had0]
          exact va_tlen (v := Int32.ofInt ((hL h 0 : Nat) : Int)) hx hb hcx.2.2.1 hS0 (by rw [o4b]; rfl) d1 kk0
        · by_cases ha1 : a = 1
          · subst ha1
            obtain ⟨hX, hbl, hbA, -⟩ := hcx.2.2.2.1
            show W p l e R s m args below meth c H locs cells slots Q (F0 m pc lsR (Value.ref (ad 1) :: r.map (cv ad)))
            rw [had1]
            refine va_slen hx hb hX hbl hbA hS0 d1 ?_
            rw [← o6]
            exact kk0
          · have h2 : 2 ≤ a := by omega
            have hg := WL_get (E := E) (ad := ad) h2 ha
            rcases (show hT h a = 100 ∨ hT h a = 101 ∨ hT h a = 102 ∨ 103 ≤ hT h a by omega) with q | q | q | q
            · rw [cE_100 q] at hg
              exact va_alen hx hb hK hP (a - 2) 0 hg rfl eI.symm d1 kk0
            · rw [cE_101 q] at hg
              exact va_alen hx hb hK hP (a - 2) 1 hg rfl eI.symm d1 kk0
            · rw [cE_102 q] at hg
              exact va_alen hx hb hK hP (a - 2) 2 hg rfl eI.symm d1 kk0
            · rw [cE_103 rfl q] at hg
              exact va_alen hx hb hK hP (a - 2) (hT h a - 100) hg (xty_get q ht2) eI.symm d1 kk0
      · cases hs
    · cases hs
  | new k =>
    obtain ⟨d1, rfl⟩ := dec_of hd rfl
    simp only [hop] at hs
    split at hs
    · rename_i t n hf
      simp only [Option.some.injEq, Prod.mk.injEq] at hs
      obtain ⟨rfl, rfl⟩ := hs
      obtain ⟨C, T, hxc, hlk, hins, hini9⟩ := newL_w hf
      obtain ⟨hin, ht13, hCn, hlen, ty, hty, hnm, hkk⟩ := cls_w t C T n hxc
      have eC1 : hC (alc h t 0 n) - hC h = 1 := by show hC h + 1 - hC h = 1; omega
      have eS1 : hS (alc h t 0 n) - hS h = n := by show hS h + n - hS h = n; omega
      rw [eC1] at hr1
      rw [eS1] at hr2
      rw [eC1, eS1] at kk
      have hfs : ∀ (q : Nat), cE E (u1 ad (hN h) q) (alc h t 0 n) (hN h) = .inr (t, fvl ad (alc h t 0 n) (hN h) 0 (kdl t)) := fun q => by
        rw [cE_obj (by show u1 (hT h) (hN h) t (hN h) = t; simp [u1]) ht13]
        refine oeq ?_
        apply fvl_congr
        intro x k9
        unfold fv
        have : hR (alc h t 0 n) (hN h) x = none := by show ur (hR h) (hN h) (fun _ => none) (hN h) x = none; simp [ur]
        rw [this]; rfl
      refine va_new (ci := t) (fs := fvl ad (alc h t 0 n) (hN h) 0 (kdl t)) hx hb hts hin ty hty hown (hts _ hlk) (hts _ hins) (hts _ hini9) hK hP hD hS0 hA hxc (fun j hj => ?_) hr1 hr2 d1 (fun q H1 q1 q2 q3 => ?_)
      · obtain ⟨k1, k2⟩ := hkk j hj
        have hv := fvl_get (ad := ad) (h := alc h t 0 n) (a := hN h) (i := 0) k1
        unfold vp_V
        rw [List.getD_eq_getElem?_getD, hv, Nat.zero_add]
        have r1 : hR (alc h t 0 n) (hN h) j = none := by show ur (hR h) (hN h) (fun _ => none) (hN h) j = none; simp [ur]
        have r2 : hI (alc h t 0 n) (hN h) j = 0 := by show ur (hI h) (hN h) (fun _ => 0) (hN h) j = 0; simp [ur]
        unfold fv
        rw [r1, r2]
        cases htt : ty j <;> rw [htt] at k2 <;> first | rfl | exact absurd rfl k2
      · have k9 := kk (u1 ad (hN h) q) H1 locs (fun a ha => by simp only [u1]; rw [if_neg (by omega)]) (GR.push hO had0 had1 (by omega) (hfs q).symm q1 q2 q3)
        rw [List.map_cons] at k9
        have e9 : cv (u1 ad (hN h) q) (vR (some (hN h))) = .ref q := by show Value.ref (u1 ad (hN h) q (hN h)) = _; simp [u1]
        rw [e9, map_ext (n := hN h) (ad := ad) (fun a ha => by simp only [u1]; rw [if_neg (by omega)]) hc] at k9
        exact k9
    · cases hs
  | newarray t =>
    obtain ⟨d1, rfl⟩ := dec_of hd rfl
    simp only [hop] at hs
    split at hs
    · rename_i x r
      split at hs
      · rename_i hq
        obtain ⟨ht0, hx0, hx1⟩ := hq
        simp only [Option.some.injEq, Prod.mk.injEq] at hs
        obtain ⟨rfl, rfl⟩ := hs
        have eC1 : hC (alc h (nwTag t) x.toNat x.toNat) - hC h = 1 := by show hC h + 1 - hC h = 1; omega
        have eS1 : hS (alc h (nwTag t) x.toNat x.toNat) - hS h = x.toNat := by show hS h + x.toNat - hS h = x.toNat; omega
        rw [eC1] at hr1
        rw [eS1] at hr2
        rw [eC1, eS1] at kk
        have eti : (Int32.ofInt x).toInt = x := Int32.toInt_ofInt_of_le (by omega) (by omega)
        have hng : ¬ Int32.ofInt x < 0 := fun q => by
          have := Int32.lt_iff_toInt_lt.mp q
          rw [eti] at this
          have h0' : (0 : Int32).toInt = 0 := by decide
          rw [h0'] at this; omega
        have hcl : (Int32.ofInt x).toNatClampNeg = x.toNat := by
          show (Int32.ofInt x).toInt.toNat = x.toNat
          rw [eti]
        have hc' := (clS_cons.mp hc).2
        have fin : ∀ (q : Nat) (H1 : Heap) (e9 : va_E), e9 = cE E (u1 ad (hN h) q) (alc h (nwTag t) x.toNat x.toNat) (hN h) → va_P (eC E, eI E) xcl (WL E ad h ++ [(q, e9)]) H1 → va_D (eN E) (WL E ad h ++ [(q, e9)]) → va_S (eN E) s.heap H1 locs → W p l e R s m args below meth c H1 locs (cells + 1) (slots + x.toNat) Q (F0 m (pc + 2) lsR (.ref q :: r.map (cv ad))) := fun q H1 e9 he q1 q2 q3 => by
          have k9 := kk (u1 ad (hN h) q) H1 locs (fun a ha => by simp only [u1]; rw [if_neg (by omega)]) (GR.push hO had0 had1 (by omega) he q1 q2 q3)
          rw [List.map_cons] at k9
          have e9 : cv (u1 ad (hN h) q) (vR (some (hN h))) = .ref q := by show Value.ref (u1 ad (hN h) q (hN h)) = _; simp [u1]
          rw [e9, map_ext (n := hN h) (ad := ad) (fun a ha => by simp only [u1]; rw [if_neg (by omega)]) hc'] at k9
          exact k9
        have eT : ∀ t9, nwTag t = t9 → hT (alc h (nwTag t) x.toNat x.toNat) (hN h) = t9 := fun t9 q => by show u1 (hT h) (hN h) (nwTag t) (hN h) = t9; simp [u1, q]
        have eL : hL (alc h (nwTag t) x.toNat x.toNat) (hN h) = x.toNat := by show u1 (hL h) (hN h) x.toNat (hN h) = _; simp [u1]
        have eI0 : ∀ j, hI (alc h (nwTag t) x.toNat x.toNat) (hN h) j = 0 := fun j => by show ur (hI h) (hN h) (fun _ => 0) (hN h) j = 0; simp [ur]
        cases t with
        | int =>
          refine va_newa (a0 := (x.toNat, .inl (fun _ => 0))) hx hb (atype := .int) (hts _ acls_w.1) rfl hK hP hD hS0 hA (fun cA => rfl) hng hcl (by show x.toNat * 4 ≤ _; omega) hr1 hr2 d1 (fun q cA H1 k0 q1 q2 q3 => ?_)
          have ecA : cA = eA E 0 := by
            have z1 := (hK.2 0 _ rfl).2
            have z2 := (k0.2 6 (cA, .int) rfl).2
            exact Option.some.inj (z2.symm.trans z1)
          subst ecA
          refine fin q H1 _ ?_ q1 q2 q3
          rw [cE_100 (eT 100 rfl), eL]
          exact ieq (fun j => by rw [eI0]; rfl)
        | boolean =>
          refine va_newa (a0 := (x.toNat, .inl (fun _ => 0))) hx hb (atype := .boolean) (hts _ acls_w.2.1) rfl hK hP hD hS0 hA (fun cA => rfl) hng hcl (by show x.toNat * 1 ≤ _; omega) hr1 hr2 d1 (fun q cA H1 k0 q1 q2 q3 => ?_)
          have ecA : cA = eA E 1 := by
            have z1 := (hK.2 1 _ rfl).2
            have z2 := (k0.2 6 (cA, .boolean) rfl).2
            exact Option.some.inj (z2.symm.trans z1)
          subst ecA
          refine fin q H1 _ ?_ q1 q2 q3
          rw [cE_101 (eT 101 rfl), eL]
          exact ieq (fun j => by rw [eI0]; rfl)
        | long =>
          refine va_newa (a0 := (x.toNat, .inr (.inl (fun _ => 0)))) hx hb (atype := .long) (hts _ acls_w.2.2) rfl hK hP hD hS0 hA (fun cA => rfl) hng hcl (by show x.toNat * 8 ≤ _; omega) hr1 hr2 d1 (fun q cA H1 k0 q1 q2 q3 => ?_)
          have ecA : cA = eA E 2 := by
            have z1 := (hK.2 2 _ rfl).2
            have z2 := (k0.2 6 (cA, .long) rfl).2
            exact Option.some.inj (z2.symm.trans z1)
          subst ecA
          refine fin q H1 _ ?_ q1 q2 q3
          rw [cE_102 (eT 102 rfl), eL]
          exact leq (fun j => by rw [eI0]; rfl)
        | _ => exact absurd rfl ht0
      · cases hs
    · cases hs
  | anewarray k =>
    obtain ⟨d1, rfl⟩ := dec_of hd rfl
    simp only [hop] at hs
    split at hs
    · rename_i g hf
      obtain ⟨hlk, hg1, hg2⟩ := anwL_w hf
      split at hs
      · rename_i x r
        split at hs
        · rename_i hq
          obtain ⟨hx0, hx1⟩ := hq
          simp only [Option.some.injEq, Prod.mk.injEq] at hs
          obtain ⟨rfl, rfl⟩ := hs
          have eC1 : hC (alc h g x.toNat x.toNat) - hC h = 1 := by show hC h + 1 - hC h = 1; omega
          have eS1 : hS (alc h g x.toNat x.toNat) - hS h = x.toNat := by show hS h + x.toNat - hS h = x.toNat; omega
          rw [eC1] at hr1
          rw [eS1] at hr2
          rw [eC1, eS1] at kk
          have eti : (Int32.ofInt x).toInt = x := Int32.toInt_ofInt_of_le (by omega) (by omega)
          have hng : ¬ Int32.ofInt x < 0 := fun q => by
            have := Int32.lt_iff_toInt_lt.mp q
            rw [eti] at this
            have h0' : (0 : Int32).toInt = 0 := by decide
            rw [h0'] at this; omega
          have hcl : (Int32.ofInt x).toNatClampNeg = x.toNat := by
            show (Int32.ofInt x).toInt.toNat = x.toNat
            rw [eti]
          have hc' := (clS_cons.mp hc).2
          have hover : va_AO (aEl g) s := by
            obtain ⟨b1, b2, b3⟩ := hcx.2.2.2.2.2.2.2.1
            rcases (show g = 103 ∨ g = 104 ∨ g = 105 by omega) with rfl | rfl | rfl
            · exact b1
            · exact b2
            · exact b3
          refine va_newq hx hb hown (hts _ hlk) hover hK hP hD hS0 hA hng hcl (by omega) hr1 hr2 d1 (fun q cA H1 k0 q1 q2 q3 => ?_)
          have ecA : cA = eA E (g - 100) := by
            have z1 := (hK.2 (g - 100) _ (xty_get hg1 hg2)).2
            have z2 := (k0.2 6 (cA, .object (aEl g)) rfl).2
            obtain ⟨k1, c1, x1, x2, x3, x4⟩ := z1
            obtain ⟨k2, c2, y1, y2, y3, y4⟩ := z2
            exact Option.some.inj (y4.symm.trans x4)
          subst ecA
          have k9 := kk (u1 ad (hN h) q) H1 locs (fun a ha => by simp only [u1]; rw [if_neg (by omega)]) (GR.push hO had0 had1 (by omega) ?_ q1 q2 q3)
          · rw [List.map_cons] at k9
            have e9 : cv (u1 ad (hN h) q) (vR (some (hN h))) = .ref q := by show Value.ref (u1 ad (hN h) q (hN h)) = _; simp [u1]
            rw [e9, map_ext (n := hN h) (ad := ad) (fun a ha => by simp only [u1]; rw [if_neg (by omega)]) hc'] at k9
            exact k9
          · rw [cE_103 (h := alc h g x.toNat x.toNat) (t := g) (by show u1 (hT h) (hN h) g (hN h) = g; simp [u1]) hg1]
            have eL : hL (alc h g x.toNat x.toNat) (hN h) = x.toNat := by show u1 (hL h) (hN h) x.toNat (hN h) = _; simp [u1]
            rw [eL]
            refine qeq (fun j => ?_)
            have : hR (alc h g x.toNat x.toNat) (hN h) j = none := by show ur (hR h) (hN h) (fun _ => none) (hN h) j = none; simp [ur]
            rw [this]; rfl
        · cases hs
      · cases hs
    · cases hs
  | checkcast k =>
    obtain ⟨d1, rfl⟩ := dec_of hd rfl
    simp only [hop] at hs
    split at hs
    · rename_i t hf
      obtain ⟨C, T, N, hxc, hlk⟩ := cstT_w hf
      obtain ⟨hin, ht13, hCn, hlen, ty, hty, hnm, hkk⟩ := cls_w t C T N hxc
      split at hs
      · rename_i a r
        split at hs
        · rename_i hq
          obtain ⟨ha, hta⟩ := hq
          simp only [Option.some.injEq, Prod.mk.injEq] at hs
          obtain ⟨rfl, rfl⟩ := hs
          have kk0 := kk ad H locs (fun _ _ => rfl) hG
          simp only [Nat.sub_self, Nat.add_zero] at kk0
          have h2 : 2 ≤ a := by
            rcases Nat.lt_or_ge a 2 with q | q
            · have : a = 0 ∨ a = 1 := by omega
              rcases this with rfl | rfl <;> omega
            · exact q
          have hg := hG.cell h2 ha
          rw [cE_obj hta ht13] at hg
          obtain ⟨r9, h9, cell, c1, c2, c3, c4⟩ := hg
          have hr9 : r9 = (C, T, N) := Option.some.inj (h9.symm.trans hxc)
          subst hr9
          obtain ⟨-, hca⟩ := hK.1 _ _ hxc
          exact va_castS hx hb hown (hts _ hlk) hca ⟨cell, c1, by rw [c3]; rfl, by rw [c2]; exact hca.1⟩ d1 kk0
        · cases hs
      · cases hs
    · cases hs
  | _ => cases hs
end HOP
