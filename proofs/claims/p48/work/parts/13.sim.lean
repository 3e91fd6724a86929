/-! ===== one whole instruction; calls ===== -/
theorem stp_cases {D : Nat → Nat → Bool} {y pc nx : Nat} {i : Instr} {ls : XL} {st : List XV} {h : Hp} {o : Out} (hs : stp D y pc nx i ls st h = some o) :
    (∃ st', sop (cls y) i st = some st' ∧ o = .inl (nx, ls, st', h)) ∨ (∃ ls' st', lop i ls st = some (ls', st') ∧ o = .inl (nx, ls', st', h)) ∨ (∃ t st', jop pc nx i st = some (t, st') ∧ o = .inl (t, ls, st', h)) ∨ (∃ st' h', hop D y (cls y) i st h = some (st', h') ∧ o = .inl (nx, ls, st', h')) ∨
    (i = .return_ ∧ st = [] ∧ mRet y = 4 ∧ o = .inr (.inl (.inl none, h))) ∨ (∃ x, i = .ireturn ∧ st = [.inl x] ∧ (mRet y = 0 ∨ (mRet y = 1 ∧ (x = 0 ∨ x = 1))) ∧ o = .inr (.inl (.inl (some (vI x)), h))) ∨ (∃ x, i = .lreturn ∧ st = [.inr (.inl x)] ∧ mRet y = 2 ∧ o = .inr (.inl (.inl (some (vL x)), h))) ∨ (∃ x, i = .areturn ∧ st = [.inr (.inr x)] ∧ mRet y = 3 ∧ o = .inr (.inl (.inl (some (vR x)), h))) ∨
    (∃ k e, i = .new k ∧ exq y pc = some e ∧ szS st ≤ 8 ∧ o = .inr (.inl (.inr e, tck h 1 6))) ∨
    (∃ k z as r v h', i = .invokestatic k ∧ lkp mthL (cls y) k = some z ∧ popN (mArg z) st = some (as, r) ∧ szS r ≤ 8 ∧ 900 ≤ z ∧ nat D z as h = some (v, h') ∧ o = .inl (nx, ls, v.toList ++ r, h')) ∨
    (∃ k z as r, i = .invokestatic k ∧ lkp mthL (cls y) k = some z ∧ popN (mArg z) st = some (as, r) ∧ szS r ≤ 8 ∧ ¬ 900 ≤ z ∧ mKnd z = 0 ∧ o = .inr (.inr (z, as, r))) ∨
    (∃ k z a as r, i = .invokevirtual k ∧ lkp mthL (cls y) k = some z ∧ popN (mArg z) st = some (vR (some a) :: as, r) ∧ szS r ≤ 8 ∧ mKnd z = 1 ∧ a < hN h ∧ 2 ≤ a ∧ hT h a = mTag z ∧ o = .inr (.inr (z, vR (some a) :: as, r))) ∨
    (∃ k a r, i = .invokespecial k ∧ lkp mthL (cls y) k = some 901 ∧ popN 1 st = some ([vR (some a)], r) ∧ szS r ≤ 8 ∧ o = .inl (nx, ls, r, h)) ∨
    (∃ k z a as r, i = .invokespecial k ∧ lkp mthL (cls y) k = some z ∧ popN (mArg z) st = some (vR (some a) :: as, r) ∧ szS r ≤ 8 ∧ z ≠ 901 ∧ mKnd z = 2 ∧ a < hN h ∧ 2 ≤ a ∧ o = .inr (.inr (z, vR (some a) :: as, r))) := by
  unfold stp at hs
  split at hs
  · rename_i st' e
    exact Or.inl ⟨st', e, (Option.some.inj hs).symm⟩
  · rename_i w9; clear w9
    right
    split at hs
    · rename_i ls' st' e
      exact Or.inl ⟨ls', st', e, (Option.some.inj hs).symm⟩
    · rename_i w9; clear w9
      right
      split at hs
      · rename_i t st' e
        exact Or.inl ⟨t, st', e, (Option.some.inj hs).symm⟩
      · rename_i w9; clear w9
        right
        split at hs
        · rename_i st' h' e
          exact Or.inl ⟨st', h', e, (Option.some.inj hs).symm⟩
        · rename_i w9; clear w9
          right
          split at hs
          · split at hs
            · split at hs
              · rename_i q; exact Or.inl ⟨rfl, rfl, q, (Option.some.inj hs).symm⟩
              · cases hs
            · cases hs
          · split at hs
            · split at hs
              · rename_i x q; exact Or.inr (Or.inl ⟨x, rfl, rfl, q, (Option.some.inj hs).symm⟩)
              · cases hs
            · cases hs
          · split at hs
            · split at hs
              · rename_i x q; exact Or.inr (Or.inr (Or.inl ⟨x, rfl, rfl, q, (Option.some.inj hs).symm⟩))
              · cases hs
            · cases hs
          · split at hs
            · split at hs
              · rename_i x q; exact Or.inr (Or.inr (Or.inr (Or.inl ⟨x, rfl, rfl, q, (Option.some.inj hs).symm⟩)))
              · cases hs
            · cases hs
          · rename_i k
            split at hs
            · rename_i e9 q
              split at hs
              · rename_i q8
                exact Or.inr (Or.inr (Or.inr (Or.inr (Or.inl ⟨k, e9, rfl, q, q8, (Option.some.inj hs).symm⟩))))
              · cases hs
            · cases hs
          · rename_i k
            split at hs
            · rename_i z q
              split at hs
              · rename_i as r q2
                split at hs
                · cases hs
                · rename_i q8
                  split at hs
                  · rename_i q9
                    split at hs
                    · rename_i v h' q3
                      exact Or.inr (Or.inr (Or.inr (Or.inr (Or.inr (Or.inl ⟨k, z, as, r, v, h', rfl, q, q2, by omega, q9, q3, (Option.some.inj hs).symm⟩)))))
                    · cases hs
                  · rename_i q9
                    split at hs
                    · rename_i q3
                      exact Or.inr (Or.inr (Or.inr (Or.inr (Or.inr (Or.inr (Or.inl ⟨k, z, as, r, rfl, q, q2, by omega, q9, q3, (Option.some.inj hs).symm⟩))))))
                    · cases hs
              · cases hs
            · cases hs
          · rename_i k
            split at hs
            · rename_i z q
              split at hs
              · rename_i a as r q2
                split at hs
                · rename_i q3
                  obtain ⟨c1, c2, c3, c4, c5⟩ := q3
                  exact Or.inr (Or.inr (Or.inr (Or.inr (Or.inr (Or.inr (Or.inr (Or.inl ⟨k, z, a, as, r, rfl, q, q2, c5, c1, c2, c3, c4, (Option.some.inj hs).symm⟩)))))))
                · cases hs
              · cases hs
            · cases hs
          · rename_i k
            split at hs
            · rename_i z q
              split at hs
              · rename_i a as r q2
                split at hs
                · cases hs
                · rename_i q8
                  split at hs
                  · rename_i q9
                    subst q9
                    split at hs
                    · rename_i q3
                      subst q3
                      exact Or.inr (Or.inr (Or.inr (Or.inr (Or.inr (Or.inr (Or.inr (Or.inr (Or.inl ⟨k, a, r, rfl, q, q2, by omega, (Option.some.inj hs).symm⟩))))))))
                    · cases hs
                  · rename_i q9
                    split at hs
                    · rename_i q3
                      obtain ⟨c1, c2, c3⟩ := q3
                      exact Or.inr (Or.inr (Or.inr (Or.inr (Or.inr (Or.inr (Or.inr (Or.inr (Or.inr ⟨k, z, a, as, r, rfl, q, q2, by omega, q9, c1, c2, c3, (Option.some.inj hs).symm⟩))))))))
                    · cases hs
              · cases hs
            · cases hs
          · cases hs
def exN (k : Nat) : String := if k = 0 then "java/lang/IndexOutOfBoundsException" else if k = 1 then "java/lang/IllegalArgumentException" else "java/lang/IllegalStateException"
def XX (E : XE) (ad : Nat → Nat) (h : Hp) (o : XO) (h' : Hp) : String → State → State → Prop := fun X st t => ∃ k, o = .inr k ∧ X = exN k ∧ ∃ ad' : Nat → Nat, (∀ a, a < hN h → ad' a = ad a) ∧ va_P (eC E, eI E) xcl (WL E ad' h') t.heap ∧ va_D (eN E) (WL E ad' h') ∧ va_F (eN E) st t
def hhA : List (Nat × Nat × Nat × Nat) := [(27, 598, 601, 104), (27, 598, 604, 106), (27, 598, 607, 108)]
def wsZ (z : Nat) : List Cond := if z = 177 then Cond.codeWith (yNm 177) (bts 177) (mLoc 177) (rtT 177) hhA :: LWG else Cond.code (yNm z) (bts z) (mLoc z) (rtT z) :: LWG
def rmD (d a b : Nat) : Room := { frames := d + 8, cells := a, slots := b, locals := 40 * d + 140 }
/-- what a method's body stands on -/
def CT (E : XE) (y d : Nat) (p : Program) (R : Room) (s : State) (m : MethodId) (args : Array Value) (meth : Method) (c : Code) (o : XO) : Prop :=
  p.tables.exec = Jvm.exec ∧ c.code = bts y ∧ c.maxLocals = mLoc y ∧ s.vm.findClass (cnm (cls y)) = some m.cls ∧ (∀ w ∈ LWG, w.before args s = true) ∧ CX E s ∧ meth.sig.returnType = rtT y ∧ meth.locks = false ∧ (isIni y = true → meth.name = "<init>") ∧ d + 8 ≤ R.frames ∧ 40 * d + 140 ≤ R.locals ∧
  (if y = 193 then (∃ v, o = .inl v) else if y = 177 then c.exceptionTable.toList = tableOf hhA else ∀ x ∈ c.exceptionTable.toList, False)
section LOC
variable {p : Program} {l : Launch} {e : Env} {R : Room} {s : State} {m : MethodId} {args : Array Value} {below : List Frame} {meth : Method} {c : Code} {H : Heap} {locs : List Loc} {cells slots : Nat} {Q : State → Prop} {y pc nx d : Nat} {lsR : Array Slot} {ad : Nat → Nat} {E : XE} {h h' : Hp} {D : Nat → Nat → Bool}
theorem v32 {x : Int} (hx : r32 x = true) {y : Int} (hy : r32 y = true) : Int32.ofInt (if y < x then y else x) = (if Int32.ofInt y < Int32.ofInt x then Int32.ofInt y else Int32.ofInt x) := by
  by_cases q : y < x
  · rw [if_pos q, if_pos ((r32_lt hy hx).mpr q)]
  · rw [if_neg q, if_neg (fun w => q ((r32_lt hy hx).mp w))]
theorem w_nat : Cond.static Lib.Math.max.name ∈ LWG ∧ Cond.static Lib.Math.abs.name ∈ LWG ∧ Cond.code Lib.Math.max.name Lib.Math.max.code 2 (some .int) ∈ LWG ∧ Cond.code Lib.Math.abs.name Lib.Math.abs.code 1 (some .int) ∈ LWG ∧ Cond.static (yNm 182) ∈ LWG := ⟨by decide +kernel, by decide +kernel, List.mem_filter.mpr ⟨by decide +kernel, rfl⟩, List.mem_filter.mpr ⟨by decide +kernel, rfl⟩, by decide +kernel⟩
theorem w_obj : Cond.instanceMethod Lib.objectInit ∈ LWG ∧ Cond.code Lib.objectInit ⟨#[0xb1]⟩ 1 none ∈ LWG := ⟨by decide +kernel, List.mem_filter.mpr ⟨by decide +kernel, rfl⟩⟩
theorem good2 {c k : Nat} (hl : Cond.methodLink (cnm c) k (yNm 182) ∈ LWG) : GoodIn LWG (va_wsS (cnm c) k (yNm 182) ws2) := by
  intro w hw
  have hm : w ∈ LWG := by
    unfold va_wsS ws2 at hw
    simp only [List.cons_append, List.nil_append, List.mem_cons] at hw
    rcases hw with rfl | rfl | rfl | rfl | hw
    · exact hl
    · exact w_nat.2.2.2.2
    · exact w3_17
    · exact List.mem_filter.mpr ⟨by decide +kernel, rfl⟩
    · exact hw
  exact ⟨hm, good_of_word (lwg_good w hm)⟩
theorem popN_map {n : Nat} {st as r : List XV} (q : popN n st = some (as, r)) : st.map (cv ad) = (as.map (cv ad)).reverse ++ r.map (cv ad) := by
  unfold popN at q
  split at q
  · cases q
    rw [List.map_reverse, List.reverse_reverse, ← List.map_append, List.take_append_drop]
  · cases q
end LOC
section NAT
variable {p : Program} {l : Launch} {e : Env} {R : Room} {s : State} {m : MethodId} {args : Array Value} {below : List Frame} {meth : Method} {c : Code} {H : Heap} {locs : List Loc} {cells slots : Nat} {Q : State → Prop} {y pc nx d : Nat} {lsR : Array Slot} {ad : Nat → Nat} {E : XE} {h h' : Hp} {D : Nat → Nat → Bool} {o : XO}
theorem pos32 {n : Int} (h0 : 0 ≤ n) (h1 : n < 2147483648) : ¬ Int32.ofInt n < 0 ∧ (Int32.ofInt n).toNatClampNeg = n.toNat ∧ (Int32.ofInt n).toInt = n := by
  have eti : (Int32.ofInt n).toInt = n := Int32.toInt_ofInt_of_le (by omega) (by omega)
  refine ⟨fun q => ?_, ?_, eti⟩
  · have := Int32.lt_iff_toInt_lt.mp q
    have z0 : (0 : Int32).toInt = 0 := by decide
    rw [eti, z0] at this; omega
  · show (Int32.ofInt n).toInt.toNat = n.toNat
    rw [eti]
set_option maxHeartbeats 8000000 in
set_option maxRecDepth 20000 in
theorem sim_nat (hCT : CT E y d p R s m args meth c o) {k z : Nat} (hd : cod y pc = some (.invokestatic k, nx)) (hlk : Cond.methodLink (cnm (cls y)) k (pNm z) ∈ LWG) {st as r : List XV} {v : Option XV} (hp : popN (mArg z) st = some (as, r)) (hsz : szS r ≤ 8) (hs : nat D z as h = some (v, h'))
    (hG : GR E ad h s.heap H locs) (hls : lsR.size = mLoc y) (hcs : clS (hN h) st) (hr1 : cells + (hC h' - hC h) ≤ R.cells) (hr2 : slots + (hS h' - hS h) ≤ R.slots)
    (kk : ∀ (ad' : Nat → Nat) (H' : Heap) (locs' : List Loc), (∀ a, a < hN h → ad' a = ad a) → GR E ad' h' s.heap H' locs' → W p l e R s m args below meth c H' locs' (cells + (hC h' - hC h)) (slots + (hS h' - hS h)) Q (F0 m nx lsR ((v.toList ++ r).map (cv ad')))) :
    W p l e R s m args below meth c H locs cells slots Q (F0 m pc lsR (st.map (cv ad))) := by
  obtain ⟨hx, hb, hml, hown, hts, hcx, hrt, hlocks, hini, hfr, hlo, htab⟩ := hCT
  obtain ⟨hP, hDD, hS0, hO, had0, had1⟩ := id hG
  have hK := hcx.1
  obtain ⟨o1, o2, o3, ⟨o4, o4b⟩, o5, o6, o7⟩ := id hO
  obtain ⟨d1, rfl⟩ := dec_of hd rfl
  have hmlR : c.maxLocals = lsR.size := by rw [hml, hls]
  have hrs : ((r.map (cv ad)).map fun v => v.category).sum = szS r := szS_eq
  obtain ⟨hca, hcr, -, -⟩ := popN_cl hcs hp
  have hst := popN_map (ad := ad) hp
  have hwN : nativeFrameWords "java/lang/System" "arraycopy" 5 + 11 ≤ 100 := by decide
  rw [hst]
  unfold nat at hs
  split at hs
  · rename_i a b n
    split at hs
    · rename_i hq
      obtain ⟨ha2, ha, hb2, hbn, hta, htb, hn0, hna, hnb, -⟩ := hq
      simp only [Option.some.injEq, Prod.mk.injEq] at hs
      obtain ⟨rfl, rfl⟩ := hs
      have hga := WL_get (E := E) (ad := ad) ha2 ha
      rw [cE_100 hta] at hga
      have hgb := WL_get (E := E) (ad := ad) hb2 hbn
      rw [cE_100 htb] at hgb
      have la := o3 a ha
      obtain ⟨hng, hcl, -⟩ := pos32 hn0 (by omega)
      show W p l e R s m args below meth c H locs cells slots Q (F0 m pc lsR (Value.int (Int32.ofInt n) :: Value.int (Int32.ofInt 0) :: Value.ref (ad b) :: Value.int (Int32.ofInt 0) :: Value.ref (ad a) :: r.map (cv ad)))
      have z0 : ¬ Int32.ofInt 0 < 0 ∧ (Int32.ofInt 0).toNatClampNeg = 0 := by decide
      have hl2 : Cond.methodLink (cnm (cls y)) k arraycopyName ∈ LWG := hlk
      refine va_copyi hx hb hmlR hown (hts _ hl2) (hts _ w3_7) (hts _ w3_8) (hts _ w3_9) hK hP hDD hS0 (a - 2) (b - 2) 0 0 hga hgb rfl rfl rfl z0.1 z0.1 hng (by rw [z0.2, hcl]; omega) (by rw [z0.2, hcl]; omega) (fun i _ => rfl) (by omega) (by rw [hrs]; exact Nat.le_trans (Nat.add_le_add hsz hwN) (by omega)) d1 (fun H1 locs1 q1 q2 q3 => ?_)
      have k9 := kk ad H1 locs1 (fun _ _ => rfl) (GR.set hb2 hbn had0 had1 rfl rfl rfl (fun x hx9 => ⟨by show ur (hI h) b _ x = _; funext j; simp [ur, hx9], rfl⟩) ?_ ?_ q1 q2 q3)
      · rw [show hC (cpyI h a b n.toNat) - hC h = 0 from Nat.sub_self _, show hS (cpyI h a b n.toNat) - hS h = 0 from Nat.sub_self _, Nat.add_zero, Nat.add_zero] at k9
        exact k9
      · rw [cE_100 (h := cpyI h a b n.toNat) (by exact htb)]
        refine ieq (fun j => ?_)
        rw [z0.2, hcl]
        show (if 0 ≤ j ∧ j < 0 + n.toNat then Int32.ofInt (hI h a (0 + (j - 0))) else Int32.ofInt (hI h b j)) = Int32.ofInt (ur (hI h) b (fun j => if j < n.toNat then hI h a j else hI h b j) b j)
        simp only [ur, if_true]
        by_cases hj : j < n.toNat
        · rw [if_pos (by omega), if_pos hj, Nat.sub_zero, Nat.zero_add]
        · rw [if_neg (by omega), if_neg hj]
      · refine ⟨o1, o2, o3, ⟨o4, o4b⟩, o5, o6, fun j hj => ?_⟩
        show Int32.ofInt (ur (hI h) b (fun j => if j < n.toNat then hI h a j else hI h b j) 1 j) = eX E j
        simp only [ur]; rw [if_neg (by omega)]; exact o7 j hj
    · cases hs
  · rename_i a n
    split at hs
    · rename_i hq
      obtain ⟨ha2, ha, hta, hn0, hn1, hle, hel⟩ := hq
      simp only [Option.some.injEq, Prod.mk.injEq] at hs
      obtain ⟨rfl, rfl⟩ := hs
      have eC1 : hC (cpyR h a n.toNat) - hC h = 1 := by show hC h + 1 - hC h = 1; omega
      have eS1 : hS (cpyR h a n.toNat) - hS h = n.toNat := by show hS h + n.toNat - hS h = n.toNat; omega
      rw [eC1] at hr1
      rw [eS1] at hr2
      rw [eC1, eS1] at kk
      show W p l e R s m args below meth c H locs cells slots Q (F0 m pc lsR (Value.int (Int32.ofInt n) :: Value.ref (ad a) :: r.map (cv ad)))
      have hcr := W.runS (Qc := QX E ad h (.inl (some (vR (some (hN h))))) (cpyR h a n.toNat)) (mc := 1) (ms := n.toNat) (free := eN E) (rest := r.map (cv ad)) (cells := cells) (slots := slots) (locs := locs) (H := H) (g := F0 m pc lsR (Value.int (Int32.ofInt n) :: Value.ref (ad a) :: r.map (cv ad))) (R := R) (below := below) (e := e) (l := l) (meth := meth) (As := [.ref (ad a), .int (Int32.ofInt n)]) (⟨hx, hb, hml, hown, hts⟩ : CallFix p m c (bts y) (mLoc y) s args LWG (cnm (cls y))) (c_copyOf2 l E ad h a n hO had0 had1 ha2 ha hta hn0 hn1 hle (fun j hj => (hel j hj).2))
        (va_cwS (index := k) 2 hts (good2 hlk) rfl rfl rfl (by decide +kernel) ⟨by show 3 + 1 ≤ _; omega, by show 8 + (2 + 11) + 100 ≤ _; omega⟩)
        ⟨fun a U g mk q => ⟨q.1, PX_blind q.2⟩, fun U hU hW => ⟨rfl, CX.moved hcx hW (by rw [hU]; exact hS0.1) (fun q hq hn => by rw [hU]; exact hS0.2.1 q hq hn), by rw [hU]; exact hP, hDD⟩⟩
        rfl rfl hls rfl (by show 2 * 0 + _ ≤ 8; rw [hrs]; omega) d1 ⟨hr1, hr2⟩
      intro T hT X
      have hcr9 := (popN_cl hcs hp).2.1
      obtain ⟨v9, st₀, t, T', L, g0, X', hLL, e9, ⟨w9, q1, ad', q2, q3, q4, q5, q6⟩, st9⟩ := hcr T hT X
      cases q1
      simp only [Option.map_some, Outcome.returned.injEq] at q3
      subst q3
      have hS' : va_S (eN E) s.heap T'.heap (locs ++ L) := by
        have hsz9 : st₀.heap.size = H.size := by rw [g0]
        refine ⟨?_, fun q hq hn => ?_, fun z hz => ?_⟩
        · rw [e9]; exact Nat.le_trans hS0.1 (by rw [← g0]; exact q6.1)
        · rw [e9, q6.2 q (by rw [g0]; exact Nat.lt_of_lt_of_le hq hS0.1) hn, g0]; exact hS0.2.1 q hq hn
        · rcases List.mem_append.mp hz with hz | hz
          · exact hS0.2.2 z hz
          · exact hLL z hz
      have hok : okH E (cpyR h a n.toNat) := by
        have hoa := okH_alc (t := 103) (len := n.toNat) (sl := n.toNat) (by omega) hO
        obtain ⟨p1, p2, p3⟩ := hoa
        refine ⟨p1, fun x j b hx9 hr9 => ?_, p3⟩
        have hr9 : ur (hR (alc h 103 n.toNat n.toNat)) (hN h) (fun j => if j < hL h a then hR h a j else none) x j = some b := hr9
        simp only [ur] at hr9
        show b < hN h + 1
        by_cases hxn : x = hN h
        · rw [if_pos hxn] at hr9
          by_cases hj : j < hL h a
          · rw [if_pos hj] at hr9
            have := o2 a j b ha hr9
            omega
          · rw [if_neg hj] at hr9; cases hr9
        · rw [if_neg hxn] at hr9
          exact p2 x j b hx9 hr9
      have k9 := kk ad' T'.heap (locs ++ L) q2 ⟨by rw [e9]; exact q4, q5, hS', hok, by rw [q2 0 (by omega)]; exact had0, by rw [q2 1 (by omega)]; exact had1⟩
      rw [show ((some (vR (some (hN h)))).toList ++ r).map (cv ad') = cv ad' (vR (some (hN h))) :: r.map (cv ad) by
        rw [← map_ext q2 hcr9]; rfl] at k9
      obtain ⟨t2, a1, b1⟩ := k9 T' rfl X'
      exact ⟨t2, st9 t2 a1, b1⟩
    · cases hs
  · rename_i x9 y9
    split at hs
    · rename_i hq
      simp only [Option.some.injEq, Prod.mk.injEq] at hs
      obtain ⟨rfl, rfl⟩ := hs
      have k9 := kk ad H locs (fun _ _ => rfl) hG
      simp only [Nat.sub_self, Nat.add_zero] at k9 hr1 hr2
      show W p l e R s m args below meth c H locs cells slots Q (F0 m pc lsR (Value.int (Int32.ofInt y9) :: Value.int (Int32.ofInt x9) :: r.map (cv ad)))
      have hl2 : Cond.methodLink (cnm (cls y)) k Lib.Math.min.name ∈ LWG := hlk
      refine va_mmin hx hb hmlR hown (hts _ hl2) (hts _ w3_4) (hts _ w3_5) (hts _ w3_10) (by omega) (by rw [hrs]; omega) hr1 hr2 d1 ?_
      rw [← v32 hq.1 hq.2]
      exact k9
    · cases hs
  · rename_i x9 y9
    split at hs
    · rename_i hq
      simp only [Option.some.injEq, Prod.mk.injEq] at hs
      obtain ⟨rfl, rfl⟩ := hs
      have k9 := kk ad H locs (fun _ _ => rfl) hG
      simp only [Nat.sub_self, Nat.add_zero] at k9 hr1 hr2
      show W p l e R s m args below meth c H locs cells slots Q (F0 m pc lsR (Value.int (Int32.ofInt y9) :: Value.int (Int32.ofInt x9) :: r.map (cv ad)))
      have hl2 : Cond.methodLink (cnm (cls y)) k Lib.Math.max.name ∈ LWG := hlk
      refine va_mmax hx hb hmlR hown (hts _ hl2) (hts _ w_nat.1) (hts _ w3_5) (hts _ w_nat.2.2.1) (by omega) (by rw [hrs]; omega) hr1 hr2 d1 ?_
      have ev : Int32.ofInt (if x9 < y9 then y9 else x9) = (if Int32.ofInt x9 < Int32.ofInt y9 then Int32.ofInt y9 else Int32.ofInt x9) := by
        by_cases q : x9 < y9
        · rw [if_pos q, if_pos ((r32_lt hq.1 hq.2).mpr q)]
        · rw [if_neg q, if_neg (fun w => q ((r32_lt hq.1 hq.2).mp w))]
      rw [← ev]
      exact k9
    · cases hs
  · rename_i x9
    split at hs
    · rename_i hq
      simp only [Option.some.injEq, Prod.mk.injEq] at hs
      obtain ⟨rfl, rfl⟩ := hs
      have k9 := kk ad H locs (fun _ _ => rfl) hG
      simp only [Nat.sub_self, Nat.add_zero] at k9 hr1 hr2
      show W p l e R s m args below meth c H locs cells slots Q (F0 m pc lsR (Value.int (Int32.ofInt x9) :: r.map (cv ad)))
      have hl2 : Cond.methodLink (cnm (cls y)) k Lib.Math.abs.name ∈ LWG := hlk
      refine va_mabs hx hb hmlR hown (hts _ hl2) (hts _ w_nat.2.1) (hts _ w3_5) (hts _ w_nat.2.2.2.1) (by omega) (by rw [hrs]; omega) hr1 hr2 d1 ?_
      have ev : Int32.ofInt (if 0 ≤ x9 then x9 else 0 - x9) = (if 0 ≤ Int32.ofInt x9 then Int32.ofInt x9 else 0 - Int32.ofInt x9) := by
        have q0 := r32_le r32_0 hq
        rw [of0] at q0
        by_cases q : 0 ≤ x9
        · rw [if_pos q, if_pos (q0.mpr q)]
        · rw [if_neg q, if_neg (fun w => q (q0.mp w)), Int32.ofInt_sub, of0]
      rw [← ev]
      exact k9
    · cases hs
  · cases hs
end NAT
