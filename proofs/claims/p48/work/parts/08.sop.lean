/-! ===== one instruction of ours is one of the machine's: stack, locals, jumps ===== -/
theorem dec_of {y pc nx k : Nat} {i : Instr} (h : cod y pc = some (i, nx)) (hl : lenI i = some k) : decode (bts y) pc = .ok (i, k) ∧ nx = pc + k := by
  obtain ⟨n, h1, h2, h3⟩ := cod_of h
  unfold lenOk at h3
  rw [hl] at h3
  have : k = n := by simpa using h3
  subst this
  exact ⟨h1, h2⟩
theorem r32_iff {x : Int} : r32 x = true ↔ -2147483648 ≤ x ∧ x < 2147483648 := by simp [r32]
theorem r32_toInt {x : Int} (h : r32 x = true) : (Int32.ofInt x).toInt = x := by
  obtain ⟨h1, h2⟩ := r32_iff.mp h
  exact Int32.toInt_ofInt_of_le (by omega) (by omega)
theorem r32_eq {x y : Int} (hx : r32 x = true) (hy : r32 y = true) : Int32.ofInt x = Int32.ofInt y ↔ x = y := by
  constructor
  · intro h
    have := congrArg Int32.toInt h
    rwa [r32_toInt hx, r32_toInt hy] at this
  · intro h; rw [h]
theorem r32_lt {x y : Int} (hx : r32 x = true) (hy : r32 y = true) : Int32.ofInt x < Int32.ofInt y ↔ x < y := by
  rw [Int32.lt_iff_toInt_lt, r32_toInt hx, r32_toInt hy]
theorem r32_le {x y : Int} (hx : r32 x = true) (hy : r32 y = true) : Int32.ofInt x ≤ Int32.ofInt y ↔ x ≤ y := by
  rw [Int32.le_iff_toInt_le, r32_toInt hx, r32_toInt hy]
theorem r32_0 : r32 0 = true := by decide
theorem of0 : Int32.ofInt 0 = 0 := by decide
theorem div_conv {x y : Int} (hx : r32 x = true) (hy : r32 y = true) : Int32.ofInt (x.tdiv y) = Int32.ofInt x / Int32.ofInt y := by
  obtain ⟨h1, h2⟩ := r32_iff.mp hx
  obtain ⟨h3, h4⟩ := r32_iff.mp hy
  apply Int32.ofInt_tdiv
  · show (-2147483648 : Int) ≤ x; omega
  · show x ≤ (2147483647 : Int); omega
  · show (-2147483648 : Int) ≤ y; omega
  · show y ≤ (2147483647 : Int); omega
theorem rem_conv {x y : Int} (hx : r32 x = true) (hy : r32 y = true) : Int32.ofInt (x.tmod y) = Int32.ofInt x - Int32.ofInt x / Int32.ofInt y * Int32.ofInt y := by
  rw [← div_conv hx hy, ← Int32.ofInt_mul, ← Int32.ofInt_sub]
  congr 1
  have := Int.tmod_add_mul_tdiv x y
  rw [Int.mul_comm] at this
  omega
theorem nz_conv {y : Int} (hy : r32 y = true) (h : y ≠ 0) : ¬ Int32.ofInt y = 0 := by
  intro q
  rw [← of0] at q
  exact h ((r32_eq hy r32_0).mp q)
theorem tgt_of {pc : Nat} {off : Int} {t : Nat} (h : tgt pc off = some t) : (pc : Int) + off = (t : Int) := by
  unfold tgt at h
  split at h
  · cases h; omega
  · cases h
theorem lkp_in {α : Type} {l : List (Nat × Nat × α)} {c k : Nat} {v : α} (h : lkp l c k = some v) : (c, k, v) ∈ l := lkp_mem h
theorem cstL_w {c k : Nat} {z : Int} (h : lkp cstL c k = some z) : Cond.constant (cnm c) k (Int32.ofInt z) ∈ LWG := by
  have h1 := lkp_mem h
  rw [cstL_X] at h1
  obtain ⟨e, he, hq⟩ := List.mem_map.mp h1
  have h2 := List.all_eq_true.mp ciX_ok e he
  simp only [Prod.mk.injEq] at hq
  obtain ⟨rfl, rfl, rfl⟩ := hq
  exact atI_mem h2
theorem cstJ_w {c k : Nat} {z : Int} (h : lkp cstJ c k = some z) : Cond.constantLong (cnm c) k (Int64.ofInt z) ∈ LWG := by
  have h1 := lkp_mem h
  rw [cstJ_X] at h1
  obtain ⟨e, he, hq⟩ := List.mem_map.mp h1
  have h2 := List.all_eq_true.mp cjX_ok e he
  simp only [Prod.mk.injEq] at hq
  obtain ⟨rfl, rfl, rfl⟩ := hq
  exact atI_mem h2
section SOP
variable {p : Program} {l : Launch} {e : Env} {R : Room} {s : State} {m : MethodId} {args : Array Value} {below : List Frame} {meth : Method} {c : Code} {H : Heap} {locs : List Loc} {cells slots : Nat} {Q : State → Prop} {y pc nx : Nat} {lsR : Array Slot} {ad : Nat → Nat}
set_option maxHeartbeats 4000000 in
theorem sim_sop (hx : p.tables.exec = Jvm.exec) (hb : c.code = bts y) (hown : s.vm.findClass (cnm (cls y)) = some m.cls) (hts : ∀ w ∈ LWG, w.before args s = true) {i : Instr} (hd : cod y pc = some (i, nx)) {st st' : List XV} (hs : sop (cls y) i st = some st')
    (kk : W p l e R s m args below meth c H locs cells slots Q (F0 m nx lsR (st'.map (cv ad)))) : W p l e R s m args below meth c H locs cells slots Q (F0 m pc lsR (st.map (cv ad))) := by
  cases i with
  | iconst n =>
    obtain ⟨d1, rfl⟩ := dec_of hd rfl
    cases hs
    exact lv_iconst hx hb d1 rfl kk
  | bipush n =>
    obtain ⟨d1, rfl⟩ := dec_of hd rfl
    simp only [sop] at hs
    split at hs
    · rename_i q
      cases hs
      refine lv_bipush hx hb d1 (v := Int32.ofInt n) ?_ kk
      apply Int32.toInt_inj.mp
      rw [Int8.toInt_toInt32, Int8.toInt_ofInt_of_le (by omega) (by omega), Int32.toInt_ofInt_of_le (by omega) (by omega)]
    · cases hs
  | sipush n =>
    obtain ⟨d1, rfl⟩ := dec_of hd rfl
    simp only [sop] at hs
    split at hs
    · rename_i q
      cases hs
      refine lv_sipush hx hb d1 (v := Int32.ofInt n) ?_ kk
      apply Int32.toInt_inj.mp
      rw [Int16.toInt_toInt32, Int16.toInt_ofInt_of_le (by omega) (by omega), Int32.toInt_ofInt_of_le (by omega) (by omega)]
    · cases hs
  | lconst n =>
    obtain ⟨d1, rfl⟩ := dec_of hd rfl
    cases hs
    refine lv_lconst hx hb d1 (v := Int64.ofInt (n : Nat)) ?_ kk
    rfl
  | aconst_null =>
    obtain ⟨d1, rfl⟩ := dec_of hd rfl
    cases hs
    exact lv_null hx hb d1 kk
  | ldc k =>
    obtain ⟨d1, rfl⟩ := dec_of hd rfl
    simp only [sop] at hs
    split at hs
    · rename_i z q
      cases hs
      exact lv_ldc hx hb hown (hts _ (cstL_w q)) d1 kk
    · cases hs
  | ldc_w k =>
    obtain ⟨d1, rfl⟩ := dec_of hd rfl
    simp only [sop] at hs
    split at hs
    · rename_i z q
      cases hs
      exact lv_ldcw hx hb hown (hts _ (cstL_w q)) d1 kk
    · cases hs
  | ldc2_w k =>
    obtain ⟨d1, rfl⟩ := dec_of hd rfl
    simp only [sop] at hs
    split at hs
    · rename_i z q
      cases hs
      exact lv_ldc2 hx hb hown (hts _ (cstJ_w q)) d1 kk
    · cases hs
  | iadd =>
    obtain ⟨d1, rfl⟩ := dec_of hd rfl
    simp only [sop] at hs
    split at hs
    · rename_i y2 x2 r2
      cases hs
      refine lv_iadd hx hb d1 ?_
      have kk := kk
      simp only [List.map_cons, cv, Int32.ofInt_add] at kk
      exact kk
    · cases hs
  | isub =>
    obtain ⟨d1, rfl⟩ := dec_of hd rfl
    simp only [sop] at hs
    split at hs
    · rename_i y2 x2 r2
      cases hs
      refine lv_isub hx hb d1 ?_
      have kk := kk
      simp only [List.map_cons, cv, Int32.ofInt_sub] at kk
      exact kk
    · cases hs
  | imul =>
    obtain ⟨d1, rfl⟩ := dec_of hd rfl
    simp only [sop] at hs
    split at hs
    · rename_i y2 x2 r2
      cases hs
      refine lv_imul hx hb d1 ?_
      have kk := kk
      simp only [List.map_cons, cv, Int32.ofInt_mul] at kk
      exact kk
    · cases hs
  | ineg =>
    obtain ⟨d1, rfl⟩ := dec_of hd rfl
    simp only [sop] at hs
    split at hs
    · cases hs
      refine lv_ineg hx hb d1 ?_
      have kk := kk
      simp only [List.map_cons, cv, Int32.ofInt_neg] at kk
      exact kk
    · cases hs
  | idiv =>
    obtain ⟨d1, rfl⟩ := dec_of hd rfl
    simp only [sop] at hs
    split at hs
    · split at hs
      · rename_i q
        simp only [Bool.and_eq_true, decide_eq_true_eq] at q
        cases hs
        refine lv_idiv hx hb d1 (nz_conv q.1.2 q.2) ?_
        have kk := kk
        simp only [List.map_cons, cv, div_conv q.1.1 q.1.2] at kk
        exact kk
      · cases hs
    · cases hs
  | irem =>
    obtain ⟨d1, rfl⟩ := dec_of hd rfl
    simp only [sop] at hs
    split at hs
    · split at hs
      · rename_i q
        simp only [Bool.and_eq_true, decide_eq_true_eq] at q
        cases hs
        refine lv_irem hx hb d1 (nz_conv q.1.2 q.2) ?_
        have kk := kk
        simp only [List.map_cons, cv, rem_conv q.1.1 q.1.2] at kk
        exact kk
      · cases hs
    · cases hs
  | iand =>
    obtain ⟨d1, rfl⟩ := dec_of hd rfl
    simp only [sop] at hs
    split at hs
    · rename_i y2 x2 r2
      cases hs
      refine lv_iand hx hb d1 ?_
      have kk := kk
      simp only [List.map_cons, cv, o32, Int32.ofInt_toInt] at kk
      exact kk
    · cases hs
  | ior =>
    obtain ⟨d1, rfl⟩ := dec_of hd rfl
    simp only [sop] at hs
    split at hs
    · rename_i y2 x2 r2
      cases hs
      refine lv_ior hx hb d1 ?_
      have kk := kk
      simp only [List.map_cons, cv, o32, Int32.ofInt_toInt] at kk
      exact kk
    · cases hs
  | ixor =>
    obtain ⟨d1, rfl⟩ := dec_of hd rfl
    simp only [sop] at hs
    split at hs
    · rename_i y2 x2 r2
      cases hs
      refine lv_ixor hx hb d1 ?_
      have kk := kk
      simp only [List.map_cons, cv, o32, Int32.ofInt_toInt] at kk
      exact kk
    · cases hs
  | ishl =>
    obtain ⟨d1, rfl⟩ := dec_of hd rfl
    simp only [sop] at hs
    split at hs
    · rename_i y2 x2 r2
      cases hs
      refine lv_ishl hx hb d1 ?_
      have kk := kk
      simp only [List.map_cons, cv, o32, Int32.ofInt_toInt] at kk
      exact kk
    · cases hs
  | ishr =>
    obtain ⟨d1, rfl⟩ := dec_of hd rfl
    simp only [sop] at hs
    split at hs
    · rename_i y2 x2 r2
      cases hs
      refine lv_ishr hx hb d1 ?_
      have kk := kk
      simp only [List.map_cons, cv, o32, Int32.ofInt_toInt] at kk
      exact kk
    · cases hs
  | iushr =>
    obtain ⟨d1, rfl⟩ := dec_of hd rfl
    simp only [sop] at hs
    split at hs
    · rename_i y2 x2 r2
      cases hs
      refine lv_iushr hx hb d1 rfl ?_
      have kk := kk
      simp only [List.map_cons, cv, o32, Int32.ofInt_toInt] at kk
      exact kk
    · cases hs
  | ladd =>
    obtain ⟨d1, rfl⟩ := dec_of hd rfl
    simp only [sop] at hs
    split at hs
    · rename_i y2 x2 r2
      cases hs
      refine lv_ladd hx hb d1 ?_
      have kk := kk
      simp only [List.map_cons, cv, Int64.ofInt_add] at kk
      exact kk
    · cases hs
  | lsub =>
    obtain ⟨d1, rfl⟩ := dec_of hd rfl
    simp only [sop] at hs
    split at hs
    · rename_i y2 x2 r2
      cases hs
      refine lv_lsub hx hb d1 ?_
      have kk := kk
      simp only [List.map_cons, cv, Int64.ofInt_sub] at kk
      exact kk
    · cases hs
  | lmul =>
    obtain ⟨d1, rfl⟩ := dec_of hd rfl
    simp only [sop] at hs
    split at hs
    · rename_i y2 x2 r2
      cases hs
      refine lv_lmul hx hb d1 ?_
      have kk := kk
      simp only [List.map_cons, cv, Int64.ofInt_mul] at kk
      exact kk
    · cases hs
  | land =>
    obtain ⟨d1, rfl⟩ := dec_of hd rfl
    simp only [sop] at hs
    split at hs
    · rename_i y2 x2 r2
      cases hs
      refine lv_land hx hb d1 ?_
      have kk := kk
      simp only [List.map_cons, cv, o64, Int64.ofInt_toInt] at kk
      exact kk
    · cases hs
  | lor =>
    obtain ⟨d1, rfl⟩ := dec_of hd rfl
    simp only [sop] at hs
    split at hs
    · rename_i y2 x2 r2
      cases hs
      refine lv_lor hx hb d1 ?_
      have kk := kk
      simp only [List.map_cons, cv, o64, Int64.ofInt_toInt] at kk
      exact kk
    · cases hs
  | lshl =>
    obtain ⟨d1, rfl⟩ := dec_of hd rfl
    simp only [sop] at hs
    split at hs
    · rename_i y2 x2 r2
      cases hs
      refine lv_lshl hx hb d1 rfl ?_
      have kk := kk
      simp only [List.map_cons, cv, lshlZ, Int64.ofInt_toInt] at kk
      exact kk
    · cases hs
  | lshr =>
    obtain ⟨d1, rfl⟩ := dec_of hd rfl
    simp only [sop] at hs
    split at hs
    · rename_i y2 x2 r2
      cases hs
      refine lv_lshr hx hb d1 rfl ?_
      have kk := kk
      simp only [List.map_cons, cv, lshrZ, Int64.ofInt_toInt] at kk
      exact kk
    · cases hs
  | lushr =>
    obtain ⟨d1, rfl⟩ := dec_of hd rfl
    simp only [sop] at hs
    split at hs
    · rename_i y2 x2 r2
      cases hs
      refine lv_lushr hx hb d1 rfl ?_
      have kk := kk
      simp only [List.map_cons, cv, lushZ, Int64.ofInt_toInt] at kk
      exact kk
    · cases hs
  | lcmp =>
    obtain ⟨d1, rfl⟩ := dec_of hd rfl
    simp only [sop] at hs
    split at hs
    · rename_i y2 x2 r2
      cases hs
      refine W.lcmp hx hb (x := Int64.ofInt x2) (y := Int64.ofInt y2) d1 ?_
      have kk := kk
      simp only [List.map_cons, cv] at kk
      have e : lg_cmp (Int64.ofInt x2) (Int64.ofInt y2) = Int32.ofInt (cmpZ x2 y2) := by
        unfold lg_cmp cmpZ w64
        by_cases q1 : (Int64.ofInt y2).toInt < (Int64.ofInt x2).toInt
        · rw [if_pos (Int64.lt_iff_toInt_lt.mpr q1), if_pos q1]; rfl
        · rw [if_neg (fun q => q1 (Int64.lt_iff_toInt_lt.mp q)), if_neg q1]
          by_cases q2 : (Int64.ofInt x2).toInt = (Int64.ofInt y2).toInt
          · rw [if_pos (Int64.toInt_inj.mp q2), if_pos q2]; rfl
          · rw [if_neg (fun q => q2 (congrArg Int64.toInt q)), if_neg q2]; rfl
      first | (rw [e]; exact kk) | (show W p l e R s m args below meth c H locs cells slots Q (F0 m (pc + 1) lsR (.int (lg_cmp (Int64.ofInt x2) (Int64.ofInt y2)) :: _)); rw [e]; exact kk)
    · cases hs
  | i2l =>
    obtain ⟨d1, rfl⟩ := dec_of hd rfl
    simp only [sop] at hs
    split at hs
    · rename_i x2 r2
      cases hs
      refine lv_i2l hx hb d1 (v := Int64.ofInt (w32 x2)) ?_ kk
      exact (Int64.ofInt_int32ToInt _).symm
    · cases hs
  | l2i =>
    obtain ⟨d1, rfl⟩ := dec_of hd rfl
    simp only [sop] at hs
    split at hs
    · rename_i x2 r2
      cases hs
      exact lv_l2i hx hb d1 (by simp) kk
    · cases hs
  | dup =>
    obtain ⟨d1, rfl⟩ := dec_of hd rfl
    simp only [sop] at hs
    split at hs
    · rename_i a2 r2
      split at hs
      · cases hs
      · rename_i q; cases hs
        exact lv_dup hx hb d1 (by rw [cv_cat, if_neg q]) kk
    · cases hs
  | dup_x1 =>
    obtain ⟨d1, rfl⟩ := dec_of hd rfl
    simp only [sop] at hs
    split at hs
    · rename_i a2 b2 r2
      split at hs
      · cases hs
      · rename_i q; cases hs
        simp only [Bool.or_eq_true, not_or] at q
        exact lv_dup_x1 hx hb d1 (by rw [cv_cat, if_neg q.1]) (by rw [cv_cat, if_neg q.2]) kk
    · cases hs
  | dup2 =>
    obtain ⟨d1, rfl⟩ := dec_of hd rfl
    simp only [sop] at hs
    split at hs
    · rename_i a2 b2 r2
      split at hs
      · cases hs
      · rename_i q; cases hs
        simp only [Bool.or_eq_true, not_or] at q
        exact lv_dup2_11 hx hb d1 (by rw [cv_cat, if_neg q.1]) (by rw [cv_cat, if_neg q.2]) kk
    · cases hs
  | pop =>
    obtain ⟨d1, rfl⟩ := dec_of hd rfl
    simp only [sop] at hs
    split at hs
    · rename_i a2 r2
      split at hs
      · cases hs
      · rename_i q; cases hs
        exact lv_pop hx hb d1 (by rw [cv_cat, if_neg q]) kk
    · cases hs
  | _ => cases hs
theorem rf_cv {x : Option Nat} : cv ad (.inr (.inr x)) = va_rf (x.map ad) := rfl
set_option maxHeartbeats 4000000 in
theorem sim_lop (hx : p.tables.exec = Jvm.exec) (hb : c.code = bts y) {i : Instr} (hd : cod y pc = some (i, nx)) {nL : Nat} {ls ls' : XL} {st st' : List XV} (hl : LR ad nL lsR ls) (hs : lop i ls st = some (ls', st'))
    (kk : ∀ lsR' : Array Slot, LR ad nL lsR' ls' → W p l e R s m args below meth c H locs cells slots Q (F0 m nx lsR' (st'.map (cv ad)))) : W p l e R s m args below meth c H locs cells slots Q (F0 m pc lsR (st.map (cv ad))) := by
  cases i with
  | iload k =>
    obtain ⟨d1, rfl⟩ := dec_of hd rfl
    simp only [lop] at hs
    split at hs
    · rename_i x2 q
      cases hs
      exact lv_iload hx hb d1 (hl.load q) (kk _ hl)
    · cases hs
  | iload_n k =>
    obtain ⟨d1, rfl⟩ := dec_of hd rfl
    simp only [lop] at hs
    split at hs
    · rename_i x2 q
      cases hs
      exact lv_iload_n hx hb d1 rfl (hl.load q) (kk _ hl)
    · cases hs
  | lload k =>
    obtain ⟨d1, rfl⟩ := dec_of hd rfl
    simp only [lop] at hs
    split at hs
    · rename_i x2 q
      cases hs
      exact lv_lload hx hb d1 (hl.load q) (kk _ hl)
    · cases hs
  | lload_n k =>
    obtain ⟨d1, rfl⟩ := dec_of hd rfl
    simp only [lop] at hs
    split at hs
    · rename_i x2 q
      cases hs
      exact lv_lload_n hx hb d1 rfl (hl.load q) (kk _ hl)
    · cases hs
  | aload k =>
    obtain ⟨d1, rfl⟩ := dec_of hd rfl
    simp only [lop] at hs
    split at hs
    · rename_i x2 q
      cases hs
      have ql := hl.load q
      cases x2 with
      | none => exact lv_aloadN hx hb d1 ql (kk _ hl)
      | some x3 => exact lv_aload hx hb d1 ql (kk _ hl)
    · cases hs
  | aload_n k =>
    obtain ⟨d1, rfl⟩ := dec_of hd rfl
    simp only [lop] at hs
    split at hs
    · rename_i x2 q
      cases hs
      have ql := hl.load q
      cases x2 with
      | none => exact lv_aload_nN hx hb d1 rfl ql (kk _ hl)
      | some x3 => exact lv_aload_n hx hb d1 rfl ql (kk _ hl)
    · cases hs
  | istore k =>
    obtain ⟨d1, rfl⟩ := dec_of hd rfl
    simp only [lop] at hs
    split at hs
    · rename_i x2 r2
      cases hm : st1 ls k _ with
      | none => rw [hm] at hs; cases hs
      | some l2 =>
        rw [hm] at hs
        simp only [Option.map_some, Option.some.injEq, Prod.mk.injEq] at hs
        obtain ⟨rfl, rfl⟩ := hs
        have hk := (st1_spec hm).2.1
        rw [hl.2] at hk
        exact lv_istore hx hb d1 hl.1 hk rfl (fun lsR' h' => kk lsR' (hl.st1 hm h'))
    · cases hs
  | istore_n k =>
    obtain ⟨d1, rfl⟩ := dec_of hd rfl
    simp only [lop] at hs
    split at hs
    · rename_i x2 r2
      cases hm : st1 ls k _ with
      | none => rw [hm] at hs; cases hs
      | some l2 =>
        rw [hm] at hs
        simp only [Option.map_some, Option.some.injEq, Prod.mk.injEq] at hs
        obtain ⟨rfl, rfl⟩ := hs
        have hk := (st1_spec hm).2.1
        rw [hl.2] at hk
        exact lv_istore_n hx hb d1 rfl hl.1 hk rfl (fun lsR' h' => kk lsR' (hl.st1 hm h'))
    · cases hs
  | lstore k =>
    obtain ⟨d1, rfl⟩ := dec_of hd rfl
    simp only [lop] at hs
    split at hs
    · rename_i x2 r2
      cases hm : st2 ls k _ with
      | none => rw [hm] at hs; cases hs
      | some l2 =>
        rw [hm] at hs
        simp only [Option.map_some, Option.some.injEq, Prod.mk.injEq] at hs
        obtain ⟨rfl, rfl⟩ := hs
        have hk := (st2_spec hm).2.1
        rw [hl.2] at hk
        exact lv_lstore hx hb d1 hl.1 hk rfl (fun lsR' h' => kk lsR' (hl.st2 hm h'))
    · cases hs
  | lstore_n k =>
    obtain ⟨d1, rfl⟩ := dec_of hd rfl
    simp only [lop] at hs
    split at hs
    · rename_i x2 r2
      cases hm : st2 ls k _ with
      | none => rw [hm] at hs; cases hs
      | some l2 =>
        rw [hm] at hs
        simp only [Option.map_some, Option.some.injEq, Prod.mk.injEq] at hs
        obtain ⟨rfl, rfl⟩ := hs
        have hk := (st2_spec hm).2.1
        rw [hl.2] at hk
        exact lv_lstore_n hx hb d1 rfl hl.1 hk rfl (fun lsR' h' => kk lsR' (hl.st2 hm h'))
    · cases hs
  | astore k =>
    obtain ⟨d1, rfl⟩ := dec_of hd rfl
    simp only [lop] at hs
    split at hs
    · rename_i x2 r2
      cases hm : st1 ls k _ with
      | none => rw [hm] at hs; cases hs
      | some l2 =>
        rw [hm] at hs
        simp only [Option.map_some, Option.some.injEq, Prod.mk.injEq] at hs
        obtain ⟨rfl, rfl⟩ := hs
        have hk := (st1_spec hm).2.1
        rw [hl.2] at hk
        cases x2 with
        | none => exact lv_astoreN hx hb d1 hl.1 hk rfl (fun lsR' h' => kk lsR' (hl.st1 hm h'))
        | some x3 => exact lv_astore hx hb d1 hl.1 hk rfl (fun lsR' h' => kk lsR' (hl.st1 hm h'))
    · cases hs
  | astore_n k =>
    obtain ⟨d1, rfl⟩ := dec_of hd rfl
    simp only [lop] at hs
    split at hs
    · rename_i x2 r2
      cases hm : st1 ls k _ with
      | none => rw [hm] at hs; cases hs
      | some l2 =>
        rw [hm] at hs
        simp only [Option.map_some, Option.some.injEq, Prod.mk.injEq] at hs
        obtain ⟨rfl, rfl⟩ := hs
        have hk := (st1_spec hm).2.1
        rw [hl.2] at hk
        cases x2 with
        | none => exact lv_astore_nN hx hb d1 rfl hl.1 hk rfl (fun lsR' h' => kk lsR' (hl.st1 hm h'))
        | some x3 => exact lv_astore_n hx hb d1 rfl hl.1 hk rfl (fun lsR' h' => kk lsR' (hl.st1 hm h'))
    · cases hs
  | iinc k n =>
    obtain ⟨d1, rfl⟩ := dec_of hd rfl
    simp only [lop] at hs
    split at hs
    · rename_i x2 q
      cases hm : st1 ls k (vI (x2 + n)) with
      | none => rw [hm] at hs; cases hs
      | some l2 =>
        rw [hm] at hs
        simp only [Option.map_some, Option.some.injEq, Prod.mk.injEq] at hs
        obtain ⟨rfl, rfl⟩ := hs
        have hk := (st1_spec hm).2.1
        rw [hl.2] at hk
        obtain ⟨k9, hk9⟩ := List.getElem?_of_mem (mem_toL (ad := ad) (i := 0).mpr ⟨k, _, q, rfl⟩)
        rw [Nat.zero_add] at hk9
        exact lv_iinc hx hb d1 hl.1 (k := k9) hk9 (v := Int32.ofInt (x2 + n)) (Int32.ofInt_add x2 n).symm hk rfl (fun lsR' h' => kk lsR' (hl.st1 hm h'))
    · cases hs
  | _ => cases hs
set_option maxHeartbeats 4000000 in
theorem sim_jop (hx : p.tables.exec = Jvm.exec) (hb : c.code = bts y) {n : Nat} (hinj : ∀ a b : Nat, a < n → b < n → ad a = ad b → a = b) {i : Instr} (hd : cod y pc = some (i, nx)) {t : Nat} {st st' : List XV} (hc : clS n st) (hs : jop pc nx i st = some (t, st'))
    (kk : W p l e R s m args below meth c H locs cells slots Q (F0 m t lsR (st'.map (cv ad)))) : W p l e R s m args below meth c H locs cells slots Q (F0 m pc lsR (st.map (cv ad))) := by
  cases i with
  | goto o =>
    obtain ⟨d1, rfl⟩ := dec_of hd rfl
    simp only [jop] at hs
    split at hs
    · rename_i t2 q
      cases hs
      exact lv_goto hx hb d1 (tgt_of q) kk
    · cases hs
  | ifCond c2 o =>
    obtain ⟨d1, rfl⟩ := dec_of hd rfl
    simp only [jop] at hs
    split at hs
    · rename_i x2 r2 t2 q
      have tq := tgt_of q
      split at hs
      · rename_i hr
        have h0 := r32_eq hr r32_0
        have h1 := r32_lt hr r32_0
        have h2 := r32_lt r32_0 hr
        have h3 := r32_le hr r32_0
        have h4 := r32_le r32_0 hr
        rw [of0] at h0 h1 h2 h3 h4
        simp only [Option.some.injEq, Prod.mk.injEq] at hs
        obtain ⟨ht, rfl⟩ := hs
        cases c2 with
        | eq =>
          simp only [cnd, decide_eq_true_eq] at ht
          refine lv_if_eq hx hb d1 tq (fun q9 => ?_) (fun q9 => ?_)
          · rw [if_pos (by first | exact h0.mp q9 | exact fun w => q9 (h0.mpr w))] at ht
            subst ht; exact kk
          · rw [if_neg (by first | exact fun w => q9 (h0.mpr w) | exact fun w => w (h0.mp q9) | exact fun w => q9 (fun z => w (h0.mp z)) | exact fun w => w (h0.mp (Decidable.not_not.mp q9)))] at ht
            subst ht; exact kk
        | ne =>
          simp only [cnd, decide_eq_true_eq] at ht
          refine lv_if_ne hx hb d1 tq (fun q9 => ?_) (fun q9 => ?_)
          · rw [if_pos (by first | exact h0.mp q9 | exact fun w => q9 (h0.mpr w))] at ht
            subst ht; exact kk
          · rw [if_neg (by first | exact fun w => q9 (h0.mpr w) | exact fun w => w (h0.mp q9) | exact fun w => q9 (fun z => w (h0.mp z)) | exact fun w => w (h0.mp (Decidable.not_not.mp q9)))] at ht
            subst ht; exact kk
        | lt =>
          simp only [cnd, decide_eq_true_eq] at ht
          refine lv_if_lt hx hb d1 tq (fun q9 => ?_) (fun q9 => ?_)
          · rw [if_pos (by first | exact h1.mp q9 | exact fun w => q9 (h1.mpr w))] at ht
            subst ht; exact kk
          · rw [if_neg (by first | exact fun w => q9 (h1.mpr w) | exact fun w => w (h1.mp q9) | exact fun w => q9 (fun z => w (h1.mp z)) | exact fun w => w (h1.mp (Decidable.not_not.mp q9)))] at ht
            subst ht; exact kk
        | ge =>
          simp only [cnd, decide_eq_true_eq] at ht
          refine lv_if_ge hx hb d1 tq (fun q9 => ?_) (fun q9 => ?_)
          · rw [if_pos (by first | exact h4.mp q9 | exact fun w => q9 (h4.mpr w))] at ht
            subst ht; exact kk
          · rw [if_neg (by first | exact fun w => q9 (h4.mpr w) | exact fun w => w (h4.mp q9) | exact fun w => q9 (fun z => w (h4.mp z)) | exact fun w => w (h4.mp (Decidable.not_not.mp q9)))] at ht
            subst ht; exact kk
        | gt =>
          simp only [cnd, decide_eq_true_eq] at ht
          refine lv_if_gt hx hb d1 tq (fun q9 => ?_) (fun q9 => ?_)
          · rw [if_pos (by first | exact h2.mp q9 | exact fun w => q9 (h2.mpr w))] at ht
            subst ht; exact kk
          · rw [if_neg (by first | exact fun w => q9 (h2.mpr w) | exact fun w => w (h2.mp q9) | exact fun w => q9 (fun z => w (h2.mp z)) | exact fun w => w (h2.mp (Decidable.not_not.mp q9)))] at ht
            subst ht; exact kk
        | le =>
          simp only [cnd, decide_eq_true_eq] at ht
          refine lv_if_le hx hb d1 tq (fun q9 => ?_) (fun q9 => ?_)
          · rw [if_pos (by first | exact h3.mp q9 | exact fun w => q9 (h3.mpr w))] at ht
            subst ht; exact kk
          · rw [if_neg (by first | exact fun w => q9 (h3.mpr w) | exact fun w => w (h3.mp q9) | exact fun w => q9 (fun z => w (h3.mp z)) | exact fun w => w (h3.mp (Decidable.not_not.mp q9)))] at ht
            subst ht; exact kk
      · cases hs
    · cases hs
  | if_icmp c2 o =>
    obtain ⟨d1, rfl⟩ := dec_of hd rfl
    simp only [jop] at hs
    split at hs
    · rename_i y2 x2 r2 t2 q
      have tq := tgt_of q
      split at hs
      · rename_i hr
        simp only [Bool.and_eq_true] at hr
        have h0 := r32_eq hr.1 hr.2
        have h1 := r32_lt hr.1 hr.2
        have h2 := r32_lt hr.2 hr.1
        have h3 := r32_le hr.1 hr.2
        have h4 := r32_le hr.2 hr.1
        simp only [Option.some.injEq, Prod.mk.injEq] at hs
        obtain ⟨ht, rfl⟩ := hs
        cases c2 with
        | eq =>
          simp only [cnd, decide_eq_true_eq] at ht
          refine lv_icmp_eq hx hb d1 tq (fun q9 => ?_) (fun q9 => ?_)
          · rw [if_pos (by first | exact h0.mp q9 | exact fun w => q9 (h0.mpr w))] at ht
            subst ht; exact kk
          · rw [if_neg (by first | exact fun w => q9 (h0.mpr w) | exact fun w => w (h0.mp q9) | exact fun w => q9 (fun z => w (h0.mp z)) | exact fun w => w (h0.mp (Decidable.not_not.mp q9)))] at ht
            subst ht; exact kk
        | ne =>
          simp only [cnd, decide_eq_true_eq] at ht
          refine lv_icmp_ne hx hb d1 tq (fun q9 => ?_) (fun q9 => ?_)
          · rw [if_pos (by first | exact h0.mp q9 | exact fun w => q9 (h0.mpr w))] at ht
            subst ht; exact kk
          · rw [if_neg (by first | exact fun w => q9 (h0.mpr w) | exact fun w => w (h0.mp q9) | exact fun w => q9 (fun z => w (h0.mp z)) | exact fun w => w (h0.mp (Decidable.not_not.mp q9)))] at ht
            subst ht; exact kk
        | lt =>
          simp only [cnd, decide_eq_true_eq] at ht
          refine lv_icmp_lt hx hb d1 tq (fun q9 => ?_) (fun q9 => ?_)
          · rw [if_pos (by first | exact h1.mp q9 | exact fun w => q9 (h1.mpr w))] at ht
            subst ht; exact kk
          · rw [if_neg (by first | exact fun w => q9 (h1.mpr w) | exact fun w => w (h1.mp q9) | exact fun w => q9 (fun z => w (h1.mp z)) | exact fun w => w (h1.mp (Decidable.not_not.mp q9)))] at ht
            subst ht; exact kk
        | ge =>
          simp only [cnd, decide_eq_true_eq] at ht
          refine lv_icmp_ge hx hb d1 tq (fun q9 => ?_) (fun q9 => ?_)
          · rw [if_pos (by first | exact h4.mp q9 | exact fun w => q9 (h4.mpr w))] at ht
            subst ht; exact kk
          · rw [if_neg (by first | exact fun w => q9 (h4.mpr w) | exact fun w => w (h4.mp q9) | exact fun w => q9 (fun z => w (h4.mp z)) | exact fun w => w (h4.mp (Decidable.not_not.mp q9)))] at ht
            subst ht; exact kk
        | gt =>
          simp only [cnd, decide_eq_true_eq] at ht
          refine lv_icmp_gt hx hb d1 tq (fun q9 => ?_) (fun q9 => ?_)
          · rw [if_pos (by first | exact h2.mp q9 | exact fun w => q9 (h2.mpr w))] at ht
            subst ht; exact kk
          · rw [if_neg (by first | exact fun w => q9 (h2.mpr w) | exact fun w => w (h2.mp q9) | exact fun w => q9 (fun z => w (h2.mp z)) | exact fun w => w (h2.mp (Decidable.not_not.mp q9)))] at ht
            subst ht; exact kk
        | le =>
          simp only [cnd, decide_eq_true_eq] at ht
          refine lv_icmp_le hx hb d1 tq (fun q9 => ?_) (fun q9 => ?_)
          · rw [if_pos (by first | exact h3.mp q9 | exact fun w => q9 (h3.mpr w))] at ht
            subst ht; exact kk
          · rw [if_neg (by first | exact fun w => q9 (h3.mpr w) | exact fun w => w (h3.mp q9) | exact fun w => q9 (fun z => w (h3.mp z)) | exact fun w => w (h3.mp (Decidable.not_not.mp q9)))] at ht
            subst ht; exact kk
      · cases hs
    · cases hs
  | if_acmp c2 o =>
    obtain ⟨d1, rfl⟩ := dec_of hd rfl
    simp only [jop] at hs
    split at hs
    · rename_i y2 x2 r2 t2 q
      have tq := tgt_of q
      have hcy : clV n (vR y2) := (clS_cons.mp hc).1
      have hcx : clV n (vR x2) := (clS_cons.mp (clS_cons.mp hc).2).1
      have hqq : x2.map ad = y2.map ad ↔ x2 = y2 := by
        constructor
        · intro w
          cases x2 with
          | none => cases y2 with
            | none => rfl
            | some b => cases w
          | some a => cases y2 with
            | none => cases w
            | some b =>
              simp only [Option.map_some, Option.some.injEq] at w
              rw [hinj a b hcx hcy w]
        · intro w; rw [w]
      simp only [Option.some.injEq, Prod.mk.injEq] at hs
      obtain ⟨ht, rfl⟩ := hs
      cases c2 with
      | eq =>
        simp only [decide_eq_true_eq] at ht
        refine lv_acmp_eq hx hb (rx := x2.map ad) (ry := y2.map ad) d1 tq (fun q9 => ?_) (fun q9 => ?_)
        · rw [if_pos (hqq.mp q9)] at ht
          subst ht; exact kk
        · rw [if_neg (fun w => q9 (hqq.mpr w))] at ht
          subst ht; exact kk
      | ne =>
        simp only [decide_eq_true_eq] at ht
        refine lv_acmp_ne hx hb (rx := x2.map ad) (ry := y2.map ad) d1 tq (fun q9 => ?_) (fun q9 => ?_)
        · rw [if_pos (fun w => q9 (hqq.mpr w))] at ht
          subst ht; exact kk
        · rw [if_neg (fun w => w (hqq.mp q9))] at ht
          subst ht; exact kk
    · cases hs
  | tableswitch df lo hi os =>
    obtain ⟨len, d1, rfl, -⟩ := cod_of hd
    simp only [jop] at hs
    split at hs
    · rename_i x2 r2
      split at hs
      · rename_i hr
        have hti := r32_toInt hr
        split at hs
        · rename_i hin
          split at hs
          · rename_i o ho
            split at hs
            · rename_i t2 q
              cases hs
              exact lv_tableIn hx hb (x := Int32.ofInt x2) d1 (by rw [hti]; omega) (by rw [hti]; omega) (by rw [hti]; exact ho) (tgt_of q) kk
            · cases hs
          · cases hs
        · rename_i hin
          split at hs
          · rename_i t2 q
            cases hs
            exact lv_tableOut hx hb (x := Int32.ofInt x2) d1 (by rw [hti]; omega) (tgt_of q) kk
          · cases hs
      · cases hs
    · cases hs
  | _ => cases hs
end SOP
