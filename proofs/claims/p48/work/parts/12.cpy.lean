/-! ===== Arrays.copyOf of references ===== -/
def QX (E : XE) (ad : Nat → Nat) (h : Hp) (o : XO) (h' : Hp) : Array Value → State → Outcome → State → Prop := fun _ st oc t => ∃ v, o = .inl v ∧ ∃ ad' : Nat → Nat, (∀ a, a < hN h → ad' a = ad a) ∧ oc = .returned (v.map (cv ad')) ∧ va_P (eC E, eI E) xcl (WL E ad' h') t.heap ∧ va_D (eN E) (WL E ad' h') ∧ va_F (eN E) st t
def PX (E : XE) (ad : Nat → Nat) (h : Hp) : State → Prop := fun U => CX E U ∧ va_P (eC E, eI E) xcl (WL E ad h) U.heap ∧ va_D (eN E) (WL E ad h)
def y3 : MethodName := ⟨"java/util/Arrays", "copyOf", "([Ljava/lang/Object;ILjava/lang/Class;)[Ljava/lang/Object;"⟩
def ws3 : List Cond := .code y3 prog_35_method_120_code 4 (some (.array (.object "java/lang/Object"))) :: LWG
def ws2 : List Cond := .code (yNm 182) (bts 182) 2 (some (.array (.object "java/lang/Object"))) :: LWG
theorem dc3_0 : decode prog_35_method_120_code 0 = .ok (.aload_n 2, 1) := by decide +kernel
theorem dc3_1 : decode prog_35_method_120_code 1 = .ok (.ldc 110, 2) := by decide +kernel
theorem dc3_3 : decode prog_35_method_120_code 3 = .ok (.if_acmp .ne 10, 3) := by decide +kernel
theorem dc3_6 : decode prog_35_method_120_code 6 = .ok (.iload_n 1, 1) := by decide +kernel
theorem dc3_7 : decode prog_35_method_120_code 7 = .ok (.anewarray 2, 3) := by decide +kernel
theorem dc3_10 : decode prog_35_method_120_code 10 = .ok (.goto 14, 3) := by decide +kernel
theorem dc3_24 : decode prog_35_method_120_code 24 = .ok (.astore_n 3, 1) := by decide +kernel
theorem dc3_25 : decode prog_35_method_120_code 25 = .ok (.aload_n 0, 1) := by decide +kernel
theorem dc3_26 : decode prog_35_method_120_code 26 = .ok (.iconst 0, 1) := by decide +kernel
theorem dc3_27 : decode prog_35_method_120_code 27 = .ok (.aload_n 3, 1) := by decide +kernel
theorem dc3_28 : decode prog_35_method_120_code 28 = .ok (.iconst 0, 1) := by decide +kernel
theorem dc3_29 : decode prog_35_method_120_code 29 = .ok (.aload_n 0, 1) := by decide +kernel
theorem dc3_30 : decode prog_35_method_120_code 30 = .ok (.arraylength, 1) := by decide +kernel
theorem dc3_31 : decode prog_35_method_120_code 31 = .ok (.iload_n 1, 1) := by decide +kernel
theorem dc3_32 : decode prog_35_method_120_code 32 = .ok (.invokestatic 304, 3) := by decide +kernel
theorem dc3_35 : decode prog_35_method_120_code 35 = .ok (.invokestatic 150, 3) := by decide +kernel
theorem dc3_38 : decode prog_35_method_120_code 38 = .ok (.aload_n 3, 1) := by decide +kernel
theorem dc3_39 : decode prog_35_method_120_code 39 = .ok (.areturn, 1) := by decide +kernel
theorem w3_1 : Cond.classLink "java/util/Arrays" 110 "[Ljava/lang/Object;" ∈ LWG := by decide +kernel
theorem w3_2 : Cond.classLink "java/util/Arrays" 2 "java/lang/Object" ∈ LWG := by decide +kernel
theorem w3_3 : Cond.methodLink "java/util/Arrays" 304 Lib.Math.min.name ∈ LWG := by decide +kernel
theorem w3_4 : Cond.static Lib.Math.min.name ∈ LWG := by decide +kernel
theorem w3_5 : Cond.initialized "java/lang/Math" ∈ LWG := by decide +kernel
theorem w3_6 : Cond.methodLink "java/util/Arrays" 150 arraycopyName ∈ LWG := by decide +kernel
theorem w3_7 : Cond.native arraycopyName ∈ LWG := by decide +kernel
theorem w3_8 : Cond.static arraycopyName ∈ LWG := by decide +kernel
theorem w3_9 : Cond.initialized "java/lang/System" ∈ LWG := by decide +kernel
theorem w3_10 : Cond.code Lib.Math.min.name Lib.Math.min.code 2 (some .int) ∈ LWG := List.mem_filter.mpr ⟨by decide +kernel, rfl⟩
theorem w3_11 : Cond.methodLink "java/util/Arrays" 86 ⟨"java/lang/Object", "getClass", "()Ljava/lang/Class;"⟩ ∈ LWG := by decide +kernel
theorem w3_12 : Cond.selects "[Ljava/lang/Object;" ⟨"java/lang/Object", "getClass", "()Ljava/lang/Class;"⟩ ⟨"java/lang/Object", "getClass", "()Ljava/lang/Class;"⟩ ∈ LWG := by decide +kernel
theorem w3_13 : Cond.instanceMethod ⟨"java/lang/Object", "getClass", "()Ljava/lang/Class;"⟩ ∈ LWG := by decide +kernel
theorem w3_14 : Cond.native ⟨"java/lang/Object", "getClass", "()Ljava/lang/Class;"⟩ ∈ LWG := by decide +kernel
theorem w3_15 : Cond.methodLink "java/util/Arrays" 300 y3 ∈ LWG := by decide +kernel
theorem w3_16 : Cond.static y3 ∈ LWG := by decide +kernel
theorem w3_17 : Cond.initialized "java/util/Arrays" ∈ LWG := by decide +kernel
theorem any_obj {E : XE} {ad : Nat → Nat} {h : Hp} {s : State} {H : Heap} {a : Nat} (hcx : CX E s) (hP : va_P (eC E, eI E) xcl (WL E ad h) H) (h2 : 2 ≤ a) (ha : a < hN h) (ht : hT h a < 13) : va_Any "java/lang/Object" s H (ad a) := by
  have hgb := WL_get (E := E) (ad := ad) h2 ha
  rw [cE_obj rfl ht] at hgb
  obtain ⟨⟨C, T, N⟩, hq0⟩ : ∃ q : vw_C, xcl[hT h a]? = some q := ⟨_, List.getElem?_eq_getElem (by show hT h a < 13; exact ht)⟩
  obtain ⟨r9, h9, cell, c1, c2, c3, c4⟩ := hP _ _ hgb
  have hr9 : r9 = (C, T, N) := Option.some.inj (h9.symm.trans hq0)
  subst hr9
  have hkn := hcx.1.1 _ _ hq0
  obtain ⟨-, hca, kC, hkC, -⟩ := hkn
  refine ⟨cell, c1, by rw [c3]; rfl, ⟨kC, by rw [c2]; exact hkC⟩, fun comp hcomp => ?_⟩
  have hcst := hcx.2.2.2.2.2.2.2.2.1 _ ht _ hq0
  obtain ⟨c3', c4', z1, z2, z3⟩ := Cond.castable_spec (va_Nw.use (A := #[]) rfl hcst)
  cases Option.some.inj (z1.symm.trans hca)
  cases Option.some.inj (z2.symm.trans hcomp)
  rw [c2]; exact z3
set_option maxHeartbeats 4000000 in
set_option maxRecDepth 100000 in
theorem c_copyOf3 (l : Launch) (E : XE) (ad : Nat → Nat) (h : Hp) (a : Nat) (n : Int) (mi : Nat) (hO : okH E h) (h0 : ad 0 = e0 E) (h1 : ad 1 = e1 E) (h2 : 2 ≤ a) (ha : a < hN h) (hta : hT h a = 103) (hn0 : 0 ≤ n) (hn1 : n < 60000) (hle : (hL h a : Int) ≤ n) (hel : ∀ j, j < hL h a → elB h a j = true) :
    Met l y3 ws3 ({ frames := 2, cells := 1, slots := n.toNat, locals := 60 }) (va_Pc [.ref (ad a), .int (Int32.ofInt n), .ref mi] (fun U => PX E ad h U ∧ va_Mi "[Ljava/lang/Object;" mi U)) (QX E ad h (.inl (some (vR (some (hN h))))) (cpyR h a n.toNat)) 1 n.toNat (eN E) := by
  refine Met.ofW (cc := prog_35_method_120_code) (maxL := 4) (ret := some (.array (.object "java/lang/Object"))) (by decide) rfl ?_
  intro p e s m args below meth c s₁ B hml hv
  obtain ⟨rfl, ⟨hcx, hP, hD⟩, hM⟩ := hv
  have hx := B.exec
  have hb := B.bytes
  have hr := B.returns
  have hts0 := atoms_spec (ws := ws3) B.pre
  have hts : ∀ w ∈ LWG, w.before _ s = true := fun w hw => hts0 w (List.mem_cons_of_mem _ hw)
  have hown : s.vm.findClass "java/util/Arrays" = some m.cls := findClass_of_methodNamed B.named
  have hlocks := B.notSynchronized
  have hS : va_S (eN E) s.heap s.heap [] := va_S.rf
  have hsz : eB E ≤ s.heap.size := hcx.2.2.2.1.2.2.2.2
  have hA : ∀ q, s.heap.size ≤ q → eN E q := fun q hq => Nat.le_trans hsz hq
  have hK := hcx.1
  obtain ⟨o1, o2, o3, -⟩ := id hO
  have hl := lv_entry ([.ref (ad a), .int (Int32.ofInt n), .ref mi]) (n := 4) (Nat.le_of_ble_eq_true rfl)
  rw [lg_entry_eq]
  generalize (lg_sl ([.ref (ad a), .int (Int32.ofInt n), .ref mi]) ++ List.replicate (4 - (lg_sl ([.ref (ad a), .int (Int32.ofInt n), .ref mi])).length) Slot.unset).toArray = ls at hl ⊢
  have hl : lv_has ls 4 [(0, .ref (ad a)), (1, .int (Int32.ofInt n)), (2, .ref mi)] := hl
  have eti : (Int32.ofInt n).toInt = n := Int32.toInt_ofInt_of_le (by omega) (by omega)
  have z0 : (0 : Int32).toInt = 0 := by decide
  have hng : ¬ Int32.ofInt n < 0 := fun q => by
    have := Int32.lt_iff_toInt_lt.mp q
    rw [eti, z0] at this; omega
  have hcl : (Int32.ofInt n).toNatClampNeg = n.toNat := by
    show (Int32.ofInt n).toInt.toNat = n.toNat
    rw [eti]
  have etl : (Int32.ofInt (hL h a : Int)).toInt = hL h a := Int32.toInt_ofInt_of_le (by omega) (by omega)
  have hngl : ¬ Int32.ofInt (hL h a : Int) < 0 := fun q => by
    have := Int32.lt_iff_toInt_lt.mp q
    rw [etl, z0] at this; omega
  have hcll : (Int32.ofInt (hL h a : Int)).toNatClampNeg = hL h a := by
    show (Int32.ofInt (hL h a : Int)).toInt.toNat = hL h a
    rw [etl]; omega
  refine lv_aload_n hx hb dc3_0 rfl (lv_at hl 2 rfl) ?_
  refine va_ldcM hx hb hown (hts _ w3_1) hM dc3_1 ?_
  refine lv_acmp_ne (rx := some mi) (ry := some mi) (tgt := 13) hx hb dc3_3 (by decide) (fun q => absurd rfl q) (fun _ => ?_)
  refine lv_iload_n hx hb dc3_6 rfl (lv_at hl 1 rfl) ?_
  refine va_newq hx hb hown (hts _ w3_2) hcx.2.2.2.2.2.2.2.1.1 hK hP hD hS hA hng hcl (by omega) (Nat.le_of_eq (Nat.zero_add 1)) (Nat.le_of_eq (Nat.zero_add _)) dc3_7 (fun q cA H1 k0 q1 q2 q3 => ?_)
  have ecA : cA = eA E 3 := by
    have z1 := (hK.2 3 _ rfl).2
    have z2 := (k0.2 6 (cA, .object "java/lang/Object") rfl).2
    obtain ⟨k1, c1, x1, x2, x3, x4⟩ := z1
    obtain ⟨k2, c2, y1, y2, y3, y4⟩ := z2
    exact Option.some.inj (y4.symm.trans x4)
  subst ecA
  refine lv_goto (tgt := 24) hx hb dc3_10 (by decide) ?_
  refine lv_astore_n (lv' := [(3, .ref q), (0, .ref (ad a)), (1, .int (Int32.ofInt n)), (2, .ref mi)]) hx hb dc3_24 rfl hl (by decide) rfl (fun ls hl => ?_)
  refine lv_aload_n hx hb dc3_25 rfl (lv_at hl 1 rfl) ?_
  refine lv_iconst (v := 0) hx hb dc3_26 (by decide) ?_
  refine lv_aload_n hx hb dc3_27 rfl (lv_at hl 0 rfl) ?_
  refine lv_iconst (v := 0) hx hb dc3_28 (by decide) ?_
  refine lv_aload_n hx hb dc3_29 rfl (lv_at hl 1 rfl) ?_
  have hlenW : (WL E ad h).length = hN h - 2 := by simp [WL]
  have hga : (WL E ad h ++ [(q, (.inl (eA E 3, n.toNat, .inr (.inr (.inr (.inr (fun _ => none))))) : va_E))])[a - 2]? = some (ad a, .inl (eA E 3, hL h a, .inr (.inr (.inr (.inr (fun j => (hR h a j).map ad)))))) := by
    rw [List.getElem?_append_left (by rw [hlenW]; omega), WL_get h2 ha, cE_103 hta (by omega)]
  have hgq : (WL E ad h ++ [(q, (.inl (eA E 3, n.toNat, .inr (.inr (.inr (.inr (fun _ => none))))) : va_E))])[hN h - 2]? = some (q, .inl (eA E 3, n.toNat, .inr (.inr (.inr (.inr (fun _ => none)))))) := by
    rw [List.getElem?_append_right (by rw [hlenW]; omega), hlenW, Nat.sub_self]; rfl
  refine va_alen (v := Int32.ofInt (hL h a : Int)) hx hb hK q1 (a - 2) 3 hga rfl rfl dc3_30 ?_
  refine lv_iload_n hx hb dc3_31 rfl (lv_at hl 2 rfl) ?_
  refine va_mmin hx hb (by rw [hml]; exact hl.1.symm) hown (hts _ w3_3) (hts _ w3_4) (hts _ w3_5) (hts _ w3_10) (by show 1 ≤ 2; omega) (by show _ ≤ 60; simp [Value.category]) (Nat.le_of_eq (Nat.zero_add 1)) (Nat.le_of_eq (Nat.zero_add _)) dc3_32 ?_
  rw [if_neg (fun w => by
    have := Int32.lt_iff_toInt_lt.mp w
    rw [eti, etl] at this; omega)]
  refine va_copyM hx hb (by rw [hml]; exact hl.1.symm) hown (hts _ w3_6) (hts _ w3_7) (hts _ w3_8) (hts _ w3_9) hK q1 q2 q3 (a - 2) (hN h - 2) 3 3 hga hgq rfl rfl (by decide) (by decide) hngl (by rw [hcll]; show 0 + hL h a ≤ hL h a; omega) (by rw [hcll]; show 0 + hL h a ≤ n.toNat; omega) (fun i hi y hy => ?_) (by show 1 ≤ 2; omega) (by show _ ≤ 60; simp [Value.category, nativeFrameWords] <;> decide) dc3_35 (fun H2 locs2 r1 r2 r3 => ?_)
  · rw [hcll] at hi
    have hy : (hR h a (0 + i)).map ad = some y := hy
    rw [Nat.zero_add] at hy
    have he9 := hel i hi
    unfold elB at he9
    cases hrr : hR h a i with
    | none => rw [hrr] at hy; cases hy
    | some b =>
      rw [hrr] at hy he9
      simp only [Option.map_some, Option.some.injEq, decide_eq_true_eq] at hy he9
      subst hy
      have hbn := o2 a i b ha hrr
      have hb2 : 2 ≤ b := by
        obtain ⟨-, -, -, ⟨p1, -⟩, p2, -⟩ := hO
        rcases Nat.lt_or_ge b 2 with w | w
        · have : b = 0 ∨ b = 1 := by omega
          rcases this with rfl | rfl <;> omega
        · exact w
      exact any_obj hcx (fun k z hz => q1 k z (by rw [List.getElem?_append_left (List.getElem?_eq_some_iff.mp hz).1]; exact hz)) hb2 hbn he9
  refine lv_aload_n hx hb dc3_38 rfl (lv_at hl 0 rfl) ?_
  have hset : (WL E ad h ++ [(q, (.inl (eA E 3, n.toNat, .inr (.inr (.inr (.inr (fun _ => none))))) : va_E))]).set (hN h - 2) (q, .inl (eA E 3, n.toNat, .inr (.inr (.inr (.inr (va_cpy (fun j => (hR h a j).map ad) (fun _ => none) (0 : Int32).toNatClampNeg (0 : Int32).toNatClampNeg (Int32.ofInt (hL h a : Int)).toNatClampNeg)))))) = WL E (u1 ad (hN h) q) (cpyR h a n.toNat) := by
    rw [List.set_append_right _ _ (by rw [hlenW]; omega), hlenW, Nat.sub_self]
    show WL E ad h ++ [_] = _
    have hau : ∀ b, b < hN h → u1 ad (hN h) q b = ad b := fun b hb => by simp only [u1]; rw [if_neg (by omega)]
    refine WL_push o1 rfl hau (by simp [u1]) (fun b hb => ?_) ?_
    · apply cE_congr
      · show u1 (hT h) (hN h) 103 b = hT h b
        simp only [u1]; rw [if_neg (by omega)]
      · show u1 (hL h) (hN h) n.toNat b = hL h b
        simp only [u1]; rw [if_neg (by omega)]
      · show ur (hI h) (hN h) (fun _ => 0) b = hI h b
        funext j; simp only [ur]; rw [if_neg (by omega)]
      · intro j
        have e1 : hR (cpyR h a n.toNat) b j = hR h b j := by
          show ur (ur (hR h) (hN h) (fun _ => none)) (hN h) (fun j => if j < hL h a then hR h a j else none) b j = hR h b j
          simp only [ur]; rw [if_neg (by omega), if_neg (by omega)]
        rw [e1]
        cases hr9 : hR h b j with
        | none => rfl
        | some x => simp only [Option.map_some]; rw [hau x (o2 b j x hb hr9)]
    · rw [cE_103 (h := cpyR h a n.toNat) (t := 103) (by show u1 (hT h) (hN h) 103 (hN h) = 103; simp [u1]) (by omega)]
      have eL : hL (cpyR h a n.toNat) (hN h) = n.toNat := by show u1 (hL h) (hN h) n.toNat (hN h) = _; simp [u1]
      rw [eL]
      refine qeq (fun k => ?_)
      have e1 : hR (cpyR h a n.toNat) (hN h) k = if k < hL h a then hR h a k else none := by
        show ur (ur (hR h) (hN h) (fun _ => none)) (hN h) (fun j => if j < hL (h) a then hR (h) a j else none) (hN h) k = _
        simp only [ur, if_true]
      rw [e1, hcll]
      show (if 0 ≤ k ∧ k < 0 + hL h a then (hR h a (0 + (k - 0))).map ad else none) = _
      by_cases hk : k < hL h a
      · rw [if_pos (by omega), if_pos hk, Nat.sub_zero, Nat.zero_add]
        cases hr9 : hR h a k with
        | none => rfl
        | some x => simp only [Option.map_some]; rw [hau x (o2 a k x ha hr9)]
      · rw [if_neg (by omega), if_neg hk]; rfl
  rw [hset] at r1 r2
  refine W.cs (cells' := 1) (slots' := n.toNat) (Nat.zero_add 1) (Nat.zero_add _) ?_
  exact W.aret (v := .ref q) hx hb hr (Or.inr ⟨_, rfl⟩) (Or.inr ⟨_, rfl⟩) (fun t ht hW => ⟨some (vR (some (hN h))), rfl, u1 ad (hN h) q, fun b hb => by simp only [u1]; rw [if_neg (by omega)], by simp [cv, u1, va_rf], by rw [ht]; exact r1, r2, r3.F ht⟩) r3.2.2 dc3_39

theorem dc2_0 : decode (bts 182) 0 = .ok (.aload_n 0, 1) := by decide +kernel
theorem dc2_1 : decode (bts 182) 1 = .ok (.iload_n 1, 1) := by decide +kernel
theorem dc2_2 : decode (bts 182) 2 = .ok (.aload_n 0, 1) := by decide +kernel
theorem dc2_3 : decode (bts 182) 3 = .ok (.invokevirtual 86, 3) := by decide +kernel
theorem dc2_6 : decode (bts 182) 6 = .ok (.invokestatic 300, 3) := by decide +kernel
theorem dc2_9 : decode (bts 182) 9 = .ok (.areturn, 1) := by decide +kernel
theorem good3 : GoodIn LWG (wsS "java/util/Arrays" 300 y3 ws3) := by
  intro w hw
  have hm : w ∈ LWG := by
    unfold wsS ws3 at hw
    simp only [List.cons_append, List.nil_append, List.mem_cons] at hw
    rcases hw with rfl | rfl | rfl | rfl | hw
    · exact w3_15
    · exact w3_16
    · exact w3_17
    · exact List.mem_filter.mpr ⟨by decide +kernel, rfl⟩
    · exact hw
  exact ⟨hm, good_of_word (lwg_good w hm)⟩
theorem PX_blind {E : XE} {ad : Nat → Nat} {h : Hp} {U : State} {g : JFrame} {mk : MethodId} {a : Array Value} (q : PX E ad h U) : PX E ad h (U.calling g mk a) :=
  ⟨CX.moved (s := U) (U := U.calling g mk a) q.1 (State.WarmedH.refl U) (Nat.le_refl _) (fun _ _ _ => rfl), q.2⟩
set_option maxHeartbeats 4000000 in
set_option maxRecDepth 100000 in
theorem c_copyOf2 (l : Launch) (E : XE) (ad : Nat → Nat) (h : Hp) (a : Nat) (n : Int) (hO : okH E h) (h0 : ad 0 = e0 E) (h1 : ad 1 = e1 E) (h2 : 2 ≤ a) (ha : a < hN h) (hta : hT h a = 103) (hn0 : 0 ≤ n) (hn1 : n < 60000) (hle : (hL h a : Int) ≤ n) (hel : ∀ j, j < hL h a → elB h a j = true) :
    Met l (yNm 182) ws2 ({ frames := 3, cells := 1, slots := n.toNat, locals := 100 }) (va_Pc [.ref (ad a), .int (Int32.ofInt n)] (PX E ad h)) (QX E ad h (.inl (some (vR (some (hN h))))) (cpyR h a n.toNat)) 1 n.toNat (eN E) := by
  refine Met.ofW (cc := bts 182) (maxL := 2) (ret := some (.array (.object "java/lang/Object"))) (by decide) rfl ?_
  intro p e s m args below meth c s₁ B hml hv
  obtain ⟨rfl, hcx, hP, hD⟩ := hv
  have hx := B.exec
  have hb := B.bytes
  have hr := B.returns
  have hts0 := atoms_spec (ws := ws2) B.pre
  have hts : ∀ w ∈ LWG, w.before _ s = true := fun w hw => hts0 w (List.mem_cons_of_mem _ hw)
  have hown : s.vm.findClass "java/util/Arrays" = some m.cls := findClass_of_methodNamed B.named
  have hlocks := B.notSynchronized
  have hS : va_S (eN E) s.heap s.heap [] := va_S.rf
  have hK := hcx.1
  have hl := lv_entry ([.ref (ad a), .int (Int32.ofInt n)]) (n := 2) (Nat.le_of_ble_eq_true rfl)
  rw [lg_entry_eq]
  generalize (lg_sl ([.ref (ad a), .int (Int32.ofInt n)]) ++ List.replicate (2 - (lg_sl ([.ref (ad a), .int (Int32.ofInt n)])).length) Slot.unset).toArray = ls at hl ⊢
  have hl : lv_has ls 2 [(0, .ref (ad a)), (1, .int (Int32.ofInt n))] := hl
  obtain ⟨mi, hM⟩ := hcx.2.2.2.2.2.2.2.2.2.2.2.1
  have hDc := hcx.2.2.2.2.2.2.2.2.2.2.2.2.1
  refine lv_aload_n hx hb dc2_0 rfl (lv_at hl 0 rfl) ?_
  refine lv_iload_n hx hb dc2_1 rfl (lv_at hl 1 rfl) ?_
  refine lv_aload_n hx hb dc2_2 rfl (lv_at hl 0 rfl) ?_
  have hca : ∃ cell : Cell, s.heap[ad a]? = some cell ∧ cell.vm.isStatics = false ∧ s.vm.findClass "[Ljava/lang/Object;" = some cell.cls := by
    have hg := hP _ _ (WL_get (E := E) (ad := ad) h2 ha)
    rw [cE_103 hta (by omega)] at hg
    exact ⟨_, hg, rfl, va_nmO (hK.2 3 _ rfl).2 (by decide +kernel)⟩
  refine va_getC hx hb (by rw [hml]; exact hl.1.symm) hown (hts _ w3_11) hDc.use (hts _ w3_12) (hts _ w3_13) (hts _ w3_14) hM hca (by show 1 ≤ 3; omega) (by show _ ≤ 100; simp [Value.category]) dc2_3 ?_
  have hcr := W.runS (Qc := QX E ad h (.inl (some (vR (some (hN h))))) (cpyR h a n.toNat)) (mc := 1) (ms := n.toNat) (free := eN E) (rest := []) (cells := 0) (slots := 0) (locs := []) (H := s.heap) (g := F0 m 6 ls [.ref mi, .int (Int32.ofInt n), .ref (ad a)]) (R := (headSpec ws2 ({ frames := 3, cells := 1, slots := n.toNat, locals := 100 })).room) (below := below) (e := e) (l := l) (meth := meth) (As := [.ref (ad a), .int (Int32.ofInt n), .ref mi]) (⟨hx, hb, hml, hown, hts⟩ : CallFix p m c (bts 182) 2 s _ LWG "java/util/Arrays") (c_copyOf3 l E ad h a n mi hO h0 h1 h2 ha hta hn0 hn1 hle hel)
    (cwS 3 hts good3 rfl rfl rfl (by decide +kernel) ⟨by show 2 + 1 ≤ 3; omega, by show 8 + (4 + 11) + 60 ≤ 100; omega⟩)
    ⟨fun a U g mk q => ⟨q.1, PX_blind q.2.1, q.2.2⟩, fun U hU hW => ⟨rfl, ⟨CX.moved hcx hW (by rw [hU]; exact Nat.le_refl _) (fun q _ _ => by rw [hU]), by rw [hU]; exact hP, hD⟩, va_Mi.moved hW.alike hM⟩⟩
    rfl rfl hl.1 rfl (lv_room (Nat.le_of_ble_eq_true rfl)) dc2_6 ⟨by show 0 + 1 ≤ 1; omega, by show 0 + n.toNat ≤ n.toNat; omega⟩
  intro T hT X
  obtain ⟨v, st₀, t, T', L, g0, X', hL, e1, ⟨v9, q1, ad', q2, q3, q4, q5, q6⟩, st⟩ := hcr T hT X
  cases q1
  simp only [Option.map_some, Outcome.returned.injEq] at q3
  subst q3
  have hS' : va_S (eN E) s.heap T'.heap ([] ++ L) := by
    refine ⟨?_, fun q hq hn => ?_, fun z hz => ?_⟩
    · rw [e1, ← g0]; exact q6.1
    · rw [e1, q6.2 q (by rw [g0]; exact hq) hn, g0]
    · exact hL z (by simpa using hz)
  have k9 : W p l e (headSpec ws2 ({ frames := 3, cells := 1, slots := n.toNat, locals := 100 })).room s m #[Value.ref (ad a), Value.int (Int32.ofInt n)] below meth c T'.heap ([] ++ L) 1 n.toNat (MQ below (QX E ad h (.inl (some (vR (some (hN h))))) (cpyR h a n.toNat)) #[Value.ref (ad a), Value.int (Int32.ofInt n)] s 1 n.toNat (eN E)) (F0 m 9 ls [cv ad' (vR (some (hN h)))]) :=
    W.aret (v := cv ad' (vR (some (hN h)))) hx hb hr (Or.inr ⟨_, rfl⟩) (Or.inr ⟨_, rfl⟩) (fun t2 ht hW => ⟨some (vR (some (hN h))), rfl, ad', q2, rfl, by rw [ht, e1]; exact q4, q5, hS'.F ht⟩) hS'.2.2 dc2_9
  have X2 : Stand p l e (headSpec ws2 ({ frames := 3, cells := 1, slots := n.toNat, locals := 100 })).room s m #[Value.ref (ad a), Value.int (Int32.ofInt n)] below meth c T' ([] ++ L) 1 n.toNat := by
    have := X'
    simp only [Nat.zero_add] at this
    exact this
  obtain ⟨t2, a1, b1⟩ := k9 T' rfl X2
  exact ⟨t2, st t2 a1, b1⟩
