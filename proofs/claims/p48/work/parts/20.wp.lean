/-! ===== RULES: one an instruction ===== -/
theorem r32_i {x : Int} (h : -2147483648 ≤ x ∧ x < 2147483648) : r32 x = true := by
  unfold r32
  rw [decide_eq_true h.1, decide_eq_true h.2]; rfl
theorem r32_e {x : Int} (h : r32 x = true) : -2147483648 ≤ x ∧ x < 2147483648 := by
  unfold r32 at h
  simp only [Bool.and_eq_true, decide_eq_true_eq] at h
  exact h
section XR
variable {D : Nat → Nat → Bool} {d y pc nx : Nat} {ls : XL} {st : List XV} {h : Hp} {Q : XO × Hp → Prop}
theorem x_s {i : Instr} {st' : List XV} (hd : cod y pc = some (i, nx)) (e : sop (cls y) i st = some st') (k : wp D d y nx ls st' h Q) : wp D d y pc ls st h Q := wp_loc hd (by unfold stp; rw [e]) k
theorem x_iconst {n : Int} (hd : cod y pc = some (.iconst n, nx)) (k : wp D d y nx ls (vI n :: st) h Q) : wp D d y pc ls st h Q := x_s hd rfl k
theorem x_bipush {n : Int} (hd : cod y pc = some (.bipush n, nx)) (hn : -128 ≤ n ∧ n < 128) (k : wp D d y nx ls (vI n :: st) h Q) : wp D d y pc ls st h Q := x_s hd (if_pos hn) k
theorem x_sipush {n : Int} (hd : cod y pc = some (.sipush n, nx)) (hn : -32768 ≤ n ∧ n < 32768) (k : wp D d y nx ls (vI n :: st) h Q) : wp D d y pc ls st h Q := x_s hd (if_pos hn) k
theorem x_lconst {n : Fin 2} {z : Int} (hd : cod y pc = some (.lconst n, nx)) (e : ((n.val : Nat) : Int) = z) (k : wp D d y nx ls (vL z :: st) h Q) : wp D d y pc ls st h Q := x_s hd rfl (by rw [e]; exact k)
theorem x_null (hd : cod y pc = some (.aconst_null, nx)) (k : wp D d y nx ls (vR none :: st) h Q) : wp D d y pc ls st h Q := x_s hd rfl k
theorem x_ldc {k c : Nat} {z : Int} (hd : cod y pc = some (.ldc k, nx)) (hc : cls y = c) (hl : lkp cstL c k = some z) (kk : wp D d y nx ls (vI z :: st) h Q) : wp D d y pc ls st h Q := x_s hd (by simp only [sop, hc, hl]) kk
theorem x_ldcw {k c : Nat} {z : Int} (hd : cod y pc = some (.ldc_w k, nx)) (hc : cls y = c) (hl : lkp cstL c k = some z) (kk : wp D d y nx ls (vI z :: st) h Q) : wp D d y pc ls st h Q := x_s hd (by simp only [sop, hc, hl]) kk
theorem x_ldc2 {k c : Nat} {z : Int} (hd : cod y pc = some (.ldc2_w k, nx)) (hc : cls y = c) (hl : lkp cstJ c k = some z) (kk : wp D d y nx ls (vL z :: st) h Q) : wp D d y pc ls st h Q := x_s hd (by simp only [sop, hc, hl]) kk
theorem x_iadd {a b : Int} (hd : cod y pc = some (.iadd, nx)) (k : wp D d y nx ls (vI (a + b) :: st) h Q) : wp D d y pc ls (vI b :: vI a :: st) h Q := x_s hd rfl k
theorem x_isub {a b : Int} (hd : cod y pc = some (.isub, nx)) (k : wp D d y nx ls (vI (a - b) :: st) h Q) : wp D d y pc ls (vI b :: vI a :: st) h Q := x_s hd rfl k
theorem x_imul {a b : Int} (hd : cod y pc = some (.imul, nx)) (k : wp D d y nx ls (vI (a * b) :: st) h Q) : wp D d y pc ls (vI b :: vI a :: st) h Q := x_s hd rfl k
theorem x_ineg {a : Int} (hd : cod y pc = some (.ineg, nx)) (k : wp D d y nx ls (vI (-a) :: st) h Q) : wp D d y pc ls (vI a :: st) h Q := x_s hd rfl k
theorem x_idiv {a b : Int} (hd : cod y pc = some (.idiv, nx)) (hr : (-2147483648 ≤ a ∧ a < 2147483648) ∧ (-2147483648 ≤ b ∧ b < 2147483648) ∧ b ≠ 0) (k : wp D d y nx ls (vI (a.tdiv b) :: st) h Q) : wp D d y pc ls (vI b :: vI a :: st) h Q :=
  x_s hd (by show (if _ then _ else _) = _; rw [if_pos]; rw [r32_i hr.1, r32_i hr.2.1, decide_eq_true hr.2.2]; rfl) k
theorem x_irem {a b : Int} (hd : cod y pc = some (.irem, nx)) (hr : (-2147483648 ≤ a ∧ a < 2147483648) ∧ (-2147483648 ≤ b ∧ b < 2147483648) ∧ b ≠ 0) (k : wp D d y nx ls (vI (a.tmod b) :: st) h Q) : wp D d y pc ls (vI b :: vI a :: st) h Q :=
  x_s hd (by show (if _ then _ else _) = _; rw [if_pos]; rw [r32_i hr.1, r32_i hr.2.1, decide_eq_true hr.2.2]; rfl) k
theorem x_iand {a b : Int} (hd : cod y pc = some (.iand, nx)) (k : wp D d y nx ls (vI (o32 fand a b) :: st) h Q) : wp D d y pc ls (vI b :: vI a :: st) h Q := x_s hd rfl k
theorem x_ior {a b : Int} (hd : cod y pc = some (.ior, nx)) (k : wp D d y nx ls (vI (o32 fior a b) :: st) h Q) : wp D d y pc ls (vI b :: vI a :: st) h Q := x_s hd rfl k
theorem x_ixor {a b : Int} (hd : cod y pc = some (.ixor, nx)) (k : wp D d y nx ls (vI (o32 fxor a b) :: st) h Q) : wp D d y pc ls (vI b :: vI a :: st) h Q := x_s hd rfl k
theorem x_ishl {a b : Int} (hd : cod y pc = some (.ishl, nx)) (k : wp D d y nx ls (vI (o32 fshl a b) :: st) h Q) : wp D d y pc ls (vI b :: vI a :: st) h Q := x_s hd rfl k
theorem x_ishr {a b : Int} (hd : cod y pc = some (.ishr, nx)) (k : wp D d y nx ls (vI (o32 fshr a b) :: st) h Q) : wp D d y pc ls (vI b :: vI a :: st) h Q := x_s hd rfl k
theorem x_iushr {a b : Int} (hd : cod y pc = some (.iushr, nx)) (k : wp D d y nx ls (vI (o32 fush a b) :: st) h Q) : wp D d y pc ls (vI b :: vI a :: st) h Q := x_s hd rfl k
theorem x_ladd {a b : Int} (hd : cod y pc = some (.ladd, nx)) (k : wp D d y nx ls (vL (a + b) :: st) h Q) : wp D d y pc ls (vL b :: vL a :: st) h Q := x_s hd rfl k
theorem x_lsub {a b : Int} (hd : cod y pc = some (.lsub, nx)) (k : wp D d y nx ls (vL (a - b) :: st) h Q) : wp D d y pc ls (vL b :: vL a :: st) h Q := x_s hd rfl k
theorem x_lmul {a b : Int} (hd : cod y pc = some (.lmul, nx)) (k : wp D d y nx ls (vL (a * b) :: st) h Q) : wp D d y pc ls (vL b :: vL a :: st) h Q := x_s hd rfl k
theorem x_land {a b : Int} (hd : cod y pc = some (.land, nx)) (k : wp D d y nx ls (vL (o64 gand a b) :: st) h Q) : wp D d y pc ls (vL b :: vL a :: st) h Q := x_s hd rfl k
theorem x_lor {a b : Int} (hd : cod y pc = some (.lor, nx)) (k : wp D d y nx ls (vL (o64 gior a b) :: st) h Q) : wp D d y pc ls (vL b :: vL a :: st) h Q := x_s hd rfl k
theorem x_lshl {a b : Int} (hd : cod y pc = some (.lshl, nx)) (k : wp D d y nx ls (vL (lshlZ a b) :: st) h Q) : wp D d y pc ls (vI b :: vL a :: st) h Q := x_s hd rfl k
theorem x_lshr {a b : Int} (hd : cod y pc = some (.lshr, nx)) (k : wp D d y nx ls (vL (lshrZ a b) :: st) h Q) : wp D d y pc ls (vI b :: vL a :: st) h Q := x_s hd rfl k
theorem x_lushr {a b : Int} (hd : cod y pc = some (.lushr, nx)) (k : wp D d y nx ls (vL (lushZ a b) :: st) h Q) : wp D d y pc ls (vI b :: vL a :: st) h Q := x_s hd rfl k
theorem x_lcmp {a b : Int} (hd : cod y pc = some (.lcmp, nx)) (k : wp D d y nx ls (vI (cmpZ a b) :: st) h Q) : wp D d y pc ls (vL b :: vL a :: st) h Q := x_s hd rfl k
theorem x_i2l {a : Int} (hd : cod y pc = some (.i2l, nx)) (k : wp D d y nx ls (vL (w32 a) :: st) h Q) : wp D d y pc ls (vI a :: st) h Q := x_s hd rfl k
theorem x_l2i {a : Int} (hd : cod y pc = some (.l2i, nx)) (k : wp D d y nx ls (vI a :: st) h Q) : wp D d y pc ls (vL a :: st) h Q := x_s hd rfl k
theorem x_dupI {a : Int} (hd : cod y pc = some (.dup, nx)) (k : wp D d y nx ls (vI a :: vI a :: st) h Q) : wp D d y pc ls (vI a :: st) h Q := x_s hd rfl k
theorem x_dupR {a : Option Nat} (hd : cod y pc = some (.dup, nx)) (k : wp D d y nx ls (vR a :: vR a :: st) h Q) : wp D d y pc ls (vR a :: st) h Q := x_s hd rfl k
theorem x_dupx {a b : XV} (hd : cod y pc = some (.dup_x1, nx)) (h1 : isL a = false) (h2 : isL b = false) (k : wp D d y nx ls (a :: b :: a :: st) h Q) : wp D d y pc ls (a :: b :: st) h Q := x_s hd (by show (if _ then _ else _) = _; rw [h1, h2]; rfl) k
theorem x_dup2 {a b : XV} (hd : cod y pc = some (.dup2, nx)) (h1 : isL a = false) (h2 : isL b = false) (k : wp D d y nx ls (a :: b :: a :: b :: st) h Q) : wp D d y pc ls (a :: b :: st) h Q := x_s hd (by show (if _ then _ else _) = _; rw [h1, h2]; rfl) k
theorem x_pop {a : XV} (hd : cod y pc = some (.pop, nx)) (h1 : isL a = false) (k : wp D d y nx ls st h Q) : wp D d y pc ls (a :: st) h Q := x_s hd (by show (if _ then _ else _) = _; rw [h1]; rfl) k
theorem x_l {i : Instr} {ls' : XL} {st' : List XV} (hd : cod y pc = some (i, nx)) (n : sop (cls y) i st = none) (e : lop i ls st = some (ls', st')) (k : wp D d y nx ls' st' h Q) : wp D d y pc ls st h Q := wp_loc hd (by unfold stp; rw [n, e]) k
theorem x_iload {k : Nat} {x : Int} (hd : cod y pc = some (.iload k, nx)) (e : ln ls k = some (some (vI x))) (kk : wp D d y nx ls (vI x :: st) h Q) : wp D d y pc ls st h Q := x_l hd rfl (by simp only [lop, e]) kk
theorem x_iload_n {k : Fin 4} {x : Int} (hd : cod y pc = some (.iload_n k, nx)) (e : ln ls k.val = some (some (vI x))) (kk : wp D d y nx ls (vI x :: st) h Q) : wp D d y pc ls st h Q := x_l hd rfl (by simp only [lop, e]) kk
theorem x_lload {k : Nat} {x : Int} (hd : cod y pc = some (.lload k, nx)) (e : ln ls k = some (some (vL x))) (kk : wp D d y nx ls (vL x :: st) h Q) : wp D d y pc ls st h Q := x_l hd rfl (by simp only [lop, e]) kk
theorem x_lload_n {k : Fin 4} {x : Int} (hd : cod y pc = some (.lload_n k, nx)) (e : ln ls k.val = some (some (vL x))) (kk : wp D d y nx ls (vL x :: st) h Q) : wp D d y pc ls st h Q := x_l hd rfl (by simp only [lop, e]) kk
theorem x_aload {k : Nat} {x : Option Nat} (hd : cod y pc = some (.aload k, nx)) (e : ln ls k = some (some (vR x))) (kk : wp D d y nx ls (vR x :: st) h Q) : wp D d y pc ls st h Q := x_l hd rfl (by simp only [lop, e]) kk
theorem x_aload_n {k : Fin 4} {x : Option Nat} (hd : cod y pc = some (.aload_n k, nx)) (e : ln ls k.val = some (some (vR x))) (kk : wp D d y nx ls (vR x :: st) h Q) : wp D d y pc ls st h Q := x_l hd rfl (by simp only [lop, e]) kk
theorem x_istore {k : Nat} {x : Int} (ls' : XL) (hd : cod y pc = some (.istore k, nx)) (e : st1 ls k (vI x) = some ls') (kk : wp D d y nx ls' st h Q) : wp D d y pc ls (vI x :: st) h Q := x_l hd rfl (by simp only [lop, e, Option.map_some]) kk
theorem x_istore_n {k : Fin 4} {x : Int} (ls' : XL) (hd : cod y pc = some (.istore_n k, nx)) (e : st1 ls k.val (vI x) = some ls') (kk : wp D d y nx ls' st h Q) : wp D d y pc ls (vI x :: st) h Q := x_l hd rfl (by simp only [lop, e, Option.map_some]) kk
theorem x_astore {k : Nat} {x : Option Nat} (ls' : XL) (hd : cod y pc = some (.astore k, nx)) (e : st1 ls k (vR x) = some ls') (kk : wp D d y nx ls' st h Q) : wp D d y pc ls (vR x :: st) h Q := x_l hd rfl (by simp only [lop, e, Option.map_some]) kk
theorem x_astore_n {k : Fin 4} {x : Option Nat} (ls' : XL) (hd : cod y pc = some (.astore_n k, nx)) (e : st1 ls k.val (vR x) = some ls') (kk : wp D d y nx ls' st h Q) : wp D d y pc ls (vR x :: st) h Q := x_l hd rfl (by simp only [lop, e, Option.map_some]) kk
theorem x_lstore {k : Nat} {x : Int} (ls' : XL) (hd : cod y pc = some (.lstore k, nx)) (e : st2 ls k (vL x) = some ls') (kk : wp D d y nx ls' st h Q) : wp D d y pc ls (vL x :: st) h Q := x_l hd rfl (by simp only [lop, e, Option.map_some]) kk
theorem x_lstore_n {k : Fin 4} {x : Int} (ls' : XL) (hd : cod y pc = some (.lstore_n k, nx)) (e : st2 ls k.val (vL x) = some ls') (kk : wp D d y nx ls' st h Q) : wp D d y pc ls (vL x :: st) h Q := x_l hd rfl (by simp only [lop, e, Option.map_some]) kk
theorem x_iinc {k : Nat} {n x : Int} (ls' : XL) (hd : cod y pc = some (.iinc k n, nx)) (e : ln ls k = some (some (vI x))) (e2 : st1 ls k (vI (x + n)) = some ls') (kk : wp D d y nx ls' st h Q) : wp D d y pc ls st h Q := x_l hd rfl (by simp only [lop, e, e2, Option.map_some]) kk
theorem x_j {i : Instr} {t : Nat} {st' : List XV} (hd : cod y pc = some (i, nx)) (n : sop (cls y) i st = none) (n2 : lop i ls st = none) (e : jop pc nx i st = some (t, st')) (k : wp D d y t ls st' h Q) : wp D d y pc ls st h Q := wp_loc hd (by unfold stp; rw [n, n2, e]) k
theorem x_goto {o : Int} {t : Nat} (hd : cod y pc = some (.goto o, nx)) (ht : tgt pc o = some t) (k : wp D d y t ls st h Q) : wp D d y pc ls st h Q := x_j hd rfl rfl (by simp only [jop, ht]) k
theorem x_if {c : ClassFile.Cond} {o x : Int} {t : Nat} (hd : cod y pc = some (.ifCond c o, nx)) (ht : tgt pc o = some t) (hr : -2147483648 ≤ x ∧ x < 2147483648) (k1 : cnd c x 0 = true → wp D d y t ls st h Q) (k2 : cnd c x 0 = false → wp D d y nx ls st h Q) : wp D d y pc ls (vI x :: st) h Q := by
  cases q : cnd c x 0 with
  | true => exact x_j hd rfl rfl (by simp only [jop, ht, r32_i hr, if_true, q]) (k1 q)
  | false => exact x_j hd rfl rfl (by simp only [jop, ht, r32_i hr, if_true, q]; rfl) (k2 q)
theorem x_ic {c : ClassFile.Cond} {o x z : Int} {t : Nat} (hd : cod y pc = some (.if_icmp c o, nx)) (ht : tgt pc o = some t) (hr : (-2147483648 ≤ x ∧ x < 2147483648) ∧ (-2147483648 ≤ z ∧ z < 2147483648)) (k1 : cnd c x z = true → wp D d y t ls st h Q) (k2 : cnd c x z = false → wp D d y nx ls st h Q) : wp D d y pc ls (vI z :: vI x :: st) h Q := by
  cases q : cnd c x z with
  | true => exact x_j hd rfl rfl (by simp only [jop, ht, r32_i hr.1, r32_i hr.2, Bool.and_self, if_true, q]) (k1 q)
  | false => exact x_j hd rfl rfl (by simp only [jop, ht, r32_i hr.1, r32_i hr.2, Bool.and_self, if_true, q]; rfl) (k2 q)
theorem x_ifeq {o x : Int} {t : Nat} (hd : cod y pc = some (.ifCond .eq o, nx)) (ht : tgt pc o = some t) (hr : -2147483648 ≤ x ∧ x < 2147483648) (k1 : x = 0 → wp D d y t ls st h Q) (k2 : x ≠ 0 → wp D d y nx ls st h Q) : wp D d y pc ls (vI x :: st) h Q :=
  x_if hd ht hr (fun q => k1 (by have q := of_decide_eq_true q; omega)) (fun q => k2 (by have q := of_decide_eq_false q; omega))
theorem x_iceq {o x z : Int} {t : Nat} (hd : cod y pc = some (.if_icmp .eq o, nx)) (ht : tgt pc o = some t) (hr : (-2147483648 ≤ x ∧ x < 2147483648) ∧ (-2147483648 ≤ z ∧ z < 2147483648)) (k1 : x = z → wp D d y t ls st h Q) (k2 : x ≠ z → wp D d y nx ls st h Q) : wp D d y pc ls (vI z :: vI x :: st) h Q :=
  x_ic hd ht hr (fun q => k1 (by have q := of_decide_eq_true q; omega)) (fun q => k2 (by have q := of_decide_eq_false q; omega))
theorem x_ifne {o x : Int} {t : Nat} (hd : cod y pc = some (.ifCond .ne o, nx)) (ht : tgt pc o = some t) (hr : -2147483648 ≤ x ∧ x < 2147483648) (k1 : x ≠ 0 → wp D d y t ls st h Q) (k2 : x = 0 → wp D d y nx ls st h Q) : wp D d y pc ls (vI x :: st) h Q :=
  x_if hd ht hr (fun q => k1 (by have q := of_decide_eq_true q; omega)) (fun q => k2 (by have q := of_decide_eq_false q; omega))
theorem x_icne {o x z : Int} {t : Nat} (hd : cod y pc = some (.if_icmp .ne o, nx)) (ht : tgt pc o = some t) (hr : (-2147483648 ≤ x ∧ x < 2147483648) ∧ (-2147483648 ≤ z ∧ z < 2147483648)) (k1 : x ≠ z → wp D d y t ls st h Q) (k2 : x = z → wp D d y nx ls st h Q) : wp D d y pc ls (vI z :: vI x :: st) h Q :=
  x_ic hd ht hr (fun q => k1 (by have q := of_decide_eq_true q; omega)) (fun q => k2 (by have q := of_decide_eq_false q; omega))
theorem x_iflt {o x : Int} {t : Nat} (hd : cod y pc = some (.ifCond .lt o, nx)) (ht : tgt pc o = some t) (hr : -2147483648 ≤ x ∧ x < 2147483648) (k1 : x < 0 → wp D d y t ls st h Q) (k2 : 0 ≤ x → wp D d y nx ls st h Q) : wp D d y pc ls (vI x :: st) h Q :=
  x_if hd ht hr (fun q => k1 (by have q := of_decide_eq_true q; omega)) (fun q => k2 (by have q := of_decide_eq_false q; omega))
theorem x_iclt {o x z : Int} {t : Nat} (hd : cod y pc = some (.if_icmp .lt o, nx)) (ht : tgt pc o = some t) (hr : (-2147483648 ≤ x ∧ x < 2147483648) ∧ (-2147483648 ≤ z ∧ z < 2147483648)) (k1 : x < z → wp D d y t ls st h Q) (k2 : z ≤ x → wp D d y nx ls st h Q) : wp D d y pc ls (vI z :: vI x :: st) h Q :=
  x_ic hd ht hr (fun q => k1 (by have q := of_decide_eq_true q; omega)) (fun q => k2 (by have q := of_decide_eq_false q; omega))
theorem x_ifge {o x : Int} {t : Nat} (hd : cod y pc = some (.ifCond .ge o, nx)) (ht : tgt pc o = some t) (hr : -2147483648 ≤ x ∧ x < 2147483648) (k1 : 0 ≤ x → wp D d y t ls st h Q) (k2 : x < 0 → wp D d y nx ls st h Q) : wp D d y pc ls (vI x :: st) h Q :=
  x_if hd ht hr (fun q => k1 (by have q := of_decide_eq_true q; omega)) (fun q => k2 (by have q := of_decide_eq_false q; omega))
theorem x_icge {o x z : Int} {t : Nat} (hd : cod y pc = some (.if_icmp .ge o, nx)) (ht : tgt pc o = some t) (hr : (-2147483648 ≤ x ∧ x < 2147483648) ∧ (-2147483648 ≤ z ∧ z < 2147483648)) (k1 : z ≤ x → wp D d y t ls st h Q) (k2 : x < z → wp D d y nx ls st h Q) : wp D d y pc ls (vI z :: vI x :: st) h Q :=
  x_ic hd ht hr (fun q => k1 (by have q := of_decide_eq_true q; omega)) (fun q => k2 (by have q := of_decide_eq_false q; omega))
theorem x_ifgt {o x : Int} {t : Nat} (hd : cod y pc = some (.ifCond .gt o, nx)) (ht : tgt pc o = some t) (hr : -2147483648 ≤ x ∧ x < 2147483648) (k1 : 0 < x → wp D d y t ls st h Q) (k2 : x ≤ 0 → wp D d y nx ls st h Q) : wp D d y pc ls (vI x :: st) h Q :=
  x_if hd ht hr (fun q => k1 (by have q := of_decide_eq_true q; omega)) (fun q => k2 (by have q := of_decide_eq_false q; omega))
theorem x_icgt {o x z : Int} {t : Nat} (hd : cod y pc = some (.if_icmp .gt o, nx)) (ht : tgt pc o = some t) (hr : (-2147483648 ≤ x ∧ x < 2147483648) ∧ (-2147483648 ≤ z ∧ z < 2147483648)) (k1 : z < x → wp D d y t ls st h Q) (k2 : x ≤ z → wp D d y nx ls st h Q) : wp D d y pc ls (vI z :: vI x :: st) h Q :=
  x_ic hd ht hr (fun q => k1 (by have q := of_decide_eq_true q; omega)) (fun q => k2 (by have q := of_decide_eq_false q; omega))
theorem x_ifle {o x : Int} {t : Nat} (hd : cod y pc = some (.ifCond .le o, nx)) (ht : tgt pc o = some t) (hr : -2147483648 ≤ x ∧ x < 2147483648) (k1 : x ≤ 0 → wp D d y t ls st h Q) (k2 : 0 < x → wp D d y nx ls st h Q) : wp D d y pc ls (vI x :: st) h Q :=
  x_if hd ht hr (fun q => k1 (by have q := of_decide_eq_true q; omega)) (fun q => k2 (by have q := of_decide_eq_false q; omega))
theorem x_icle {o x z : Int} {t : Nat} (hd : cod y pc = some (.if_icmp .le o, nx)) (ht : tgt pc o = some t) (hr : (-2147483648 ≤ x ∧ x < 2147483648) ∧ (-2147483648 ≤ z ∧ z < 2147483648)) (k1 : x ≤ z → wp D d y t ls st h Q) (k2 : z < x → wp D d y nx ls st h Q) : wp D d y pc ls (vI z :: vI x :: st) h Q :=
  x_ic hd ht hr (fun q => k1 (by have q := of_decide_eq_true q; omega)) (fun q => k2 (by have q := of_decide_eq_false q; omega))
theorem x_acmpeq {o : Int} {x z : Option Nat} {t : Nat} (hd : cod y pc = some (.if_acmp .eq o, nx)) (ht : tgt pc o = some t) (k1 : x = z → wp D d y t ls st h Q) (k2 : x ≠ z → wp D d y nx ls st h Q) : wp D d y pc ls (vR z :: vR x :: st) h Q := by
  by_cases q : x = z
  · exact x_j hd rfl rfl (by simp only [jop, ht, decide_eq_true q, if_true]) (k1 q)
  · exact x_j hd rfl rfl (by simp only [jop, ht, decide_eq_false q, Bool.false_eq_true, if_false]) (k2 q)
theorem x_tsw {df lo hi x : Int} {os : Array Int} {t : Nat} (hd : cod y pc = some (.tableswitch df lo hi os, nx)) (hr : -2147483648 ≤ x ∧ x < 2147483648) (e : (if lo ≤ x ∧ x ≤ hi then (match os[(x - lo).toNat]? with | some o => tgt pc o | none => none) else tgt pc df) = some t) (k : wp D d y t ls st h Q) : wp D d y pc ls (vI x :: st) h Q := by
  refine x_j hd rfl rfl ?_ k
  simp only [jop, r32_i hr, if_true]
  split at e
  · rename_i q
    rw [if_pos q]
    split at e
    · rename_i o ho; rw [ho]; simp only [e]
    · cases e
  · rename_i q
    rw [if_neg q]; simp only [e]
theorem x_h {i : Instr} {st' : List XV} {h' : Hp} (hd : cod y pc = some (i, nx)) (n : sop (cls y) i st = none) (n2 : lop i ls st = none) (n3 : jop pc nx i st = none) (e : hop D y (cls y) i st h = some (st', h')) (k : wp D d y nx ls st' h' Q) : wp D d y pc ls st h Q := wp_loc hd (by unfold stp; rw [n, n2, n3, e]) k
/-- a cell that is there, with its tag -/
def Ob (h : Hp) (a t : Nat) : Prop := a < hN h ∧ hT h a = t
theorem x_gfI {k c t j kd a : Nat} {f : Bool} (hd : cod y pc = some (.getfield k, nx)) (hc : cls y = c) (hl : lkp fldL c k = some (t, j, kd, f)) (hk : kd < 2) (o : Ob h a t) (hD : D a j = true) (kk : wp D d y nx ls (vI (hI h a j) :: st) h Q) : wp D d y pc ls (vR (some a) :: st) h Q :=
  x_h hd rfl rfl rfl (by simp only [hop, hc, hl]; rw [if_pos ⟨o.1, o.2, hD⟩, if_neg (by omega), if_neg (by omega)]) kk
theorem x_gfL {k c t j a : Nat} {f : Bool} (hd : cod y pc = some (.getfield k, nx)) (hc : cls y = c) (hl : lkp fldL c k = some (t, j, 2, f)) (o : Ob h a t) (hD : D a j = true) (kk : wp D d y nx ls (vL (hI h a j) :: st) h Q) : wp D d y pc ls (vR (some a) :: st) h Q :=
  x_h hd rfl rfl rfl (by simp only [hop, hc, hl]; rw [if_pos ⟨o.1, o.2, hD⟩]; rfl) kk
theorem x_gfR {k c t j a : Nat} {f : Bool} {b : Option Nat} (hd : cod y pc = some (.getfield k, nx)) (hc : cls y = c) (hl : lkp fldL c k = some (t, j, 3, f)) (o : Ob h a t) (hD : D a j = true) (e : hR h a j = b) (kk : wp D d y nx ls (vR b :: st) h Q) : wp D d y pc ls (vR (some a) :: st) h Q :=
  x_h hd rfl rfl rfl (by simp only [hop, hc, hl]; rw [if_pos ⟨o.1, o.2, hD⟩]) (by rw [e]; exact kk)
theorem x_pfI {k c t j a : Nat} {f : Bool} {x : Int} (hd : cod y pc = some (.putfield k, nx)) (hc : cls y = c) (hl : lkp fldL c k = some (t, j, 0, f)) (o : Ob h a t) (hD : D a j = true) (hf : f = true → isIni y = true ∧ c = t) (kk : wp D d y nx ls st (sI h a j x) Q) : wp D d y pc ls (vI x :: vR (some a) :: st) h Q :=
  x_h hd rfl rfl rfl (by simp only [hop, hc, hl]; rw [if_pos ⟨o.1, o.2, hD, hf, Or.inl trivial⟩]) kk
theorem x_pfZ {k c t j a : Nat} {f : Bool} {x : Int} (hd : cod y pc = some (.putfield k, nx)) (hc : cls y = c) (hl : lkp fldL c k = some (t, j, 1, f)) (o : Ob h a t) (hD : D a j = true) (hf : f = true → isIni y = true ∧ c = t) (hx : x = 0 ∨ x = 1) (kk : wp D d y nx ls st (sI h a j x) Q) : wp D d y pc ls (vI x :: vR (some a) :: st) h Q :=
  x_h hd rfl rfl rfl (by simp only [hop, hc, hl]; rw [if_pos ⟨o.1, o.2, hD, hf, Or.inr ⟨by decide, hx⟩⟩]) kk
theorem x_pfL {k c t j a : Nat} {f : Bool} {x : Int} (hd : cod y pc = some (.putfield k, nx)) (hc : cls y = c) (hl : lkp fldL c k = some (t, j, 2, f)) (o : Ob h a t) (hD : D a j = true) (hf : f = true → isIni y = true ∧ c = t) (kk : wp D d y nx ls st (sI h a j x) Q) : wp D d y pc ls (vL x :: vR (some a) :: st) h Q :=
  x_h hd rfl rfl rfl (by simp only [hop, hc, hl]; rw [if_pos ⟨o.1, o.2, hD, hf, by decide⟩]) kk
theorem x_pfR {k c t j a : Nat} {f : Bool} {x : Option Nat} (hd : cod y pc = some (.putfield k, nx)) (hc : cls y = c) (hl : lkp fldL c k = some (t, j, 3, f)) (o : Ob h a t) (hD : D a j = true) (hf : f = true → isIni y = true ∧ c = t) (kk : wp D d y nx ls st (sR h a j x) Q) : wp D d y pc ls (vR x :: vR (some a) :: st) h Q :=
  x_h hd rfl rfl rfl (by simp only [hop, hc, hl]; rw [if_pos ⟨o.1, o.2, hD, hf, by decide⟩]) kk
theorem x_gst {k : Nat} (hd : cod y pc = some (.getstatic k, nx)) (hc : cls y = 12) (hk : k = 39) (kk : wp D d y nx ls (vR (some 0) :: st) h Q) : wp D d y pc ls st h Q :=
  x_h hd rfl rfl rfl (by simp only [hop]; rw [if_pos ⟨hc, hk⟩]) kk
theorem x_iaload {a : Nat} {x : Int} (hd : cod y pc = some (.iaload, nx)) (o : Ob h a 100) (hx : 0 ≤ x ∧ x < (hL h a : Int)) (hD : D a x.toNat = true) (kk : wp D d y nx ls (vI (hI h a x.toNat) :: st) h Q) : wp D d y pc ls (vI x :: vR (some a) :: st) h Q :=
  x_h hd rfl rfl rfl (by simp only [hop]; rw [if_pos ⟨o.1, o.2, hx.1, hx.2, hD⟩]) kk
theorem x_baload {a : Nat} {x : Int} (hd : cod y pc = some (.baload, nx)) (o : Ob h a 101) (hx : 0 ≤ x ∧ x < (hL h a : Int)) (hD : D a x.toNat = true) (kk : wp D d y nx ls (vI (hI h a x.toNat) :: st) h Q) : wp D d y pc ls (vI x :: vR (some a) :: st) h Q :=
  x_h hd rfl rfl rfl (by simp only [hop]; rw [if_pos ⟨o.1, o.2, hx.1, hx.2, hD⟩]) kk
theorem x_laload {a : Nat} {x : Int} (hd : cod y pc = some (.laload, nx)) (o : Ob h a 102) (hx : 0 ≤ x ∧ x < (hL h a : Int)) (hD : D a x.toNat = true) (kk : wp D d y nx ls (vL (hI h a x.toNat) :: st) h Q) : wp D d y pc ls (vI x :: vR (some a) :: st) h Q :=
  x_h hd rfl rfl rfl (by simp only [hop]; rw [if_pos ⟨o.1, o.2, hx.1, hx.2, hD⟩]) kk
theorem x_aaload {a : Nat} {x : Int} {b : Option Nat} (hd : cod y pc = some (.aaload, nx)) (ha : a < hN h) (ht : 103 ≤ hT h a ∧ hT h a ≤ 105) (hx : 0 ≤ x ∧ x < (hL h a : Int)) (hD : D a x.toNat = true) (e : hR h a x.toNat = b) (kk : wp D d y nx ls (vR b :: st) h Q) : wp D d y pc ls (vI x :: vR (some a) :: st) h Q :=
  x_h hd rfl rfl rfl (by simp only [hop]; rw [if_pos ⟨ha, ht.1, ht.2, hx.1, hx.2, hD⟩]) (by rw [e]; exact kk)
theorem x_iastore {a : Nat} {x v : Int} (hd : cod y pc = some (.iastore, nx)) (h2 : 2 ≤ a) (o : Ob h a 100) (hx : 0 ≤ x ∧ x < (hL h a : Int)) (hD : D a x.toNat = true) (kk : wp D d y nx ls st (sI h a x.toNat v) Q) : wp D d y pc ls (vI v :: vI x :: vR (some a) :: st) h Q :=
  x_h hd rfl rfl rfl (by simp only [hop]; rw [if_pos ⟨h2, o.1, o.2, hx.1, hx.2, hD⟩]) kk
theorem x_bastore {a : Nat} {x v : Int} (hd : cod y pc = some (.bastore, nx)) (h2 : 2 ≤ a) (o : Ob h a 101) (hx : 0 ≤ x ∧ x < (hL h a : Int)) (hD : D a x.toNat = true) (hv : v = 0 ∨ v = 1) (kk : wp D d y nx ls st (sI h a x.toNat v) Q) : wp D d y pc ls (vI v :: vI x :: vR (some a) :: st) h Q :=
  x_h hd rfl rfl rfl (by simp only [hop]; rw [if_pos ⟨h2, o.1, o.2, hx.1, hx.2, hD, hv⟩]) kk
theorem x_lastore {a : Nat} {x v : Int} (hd : cod y pc = some (.lastore, nx)) (h2 : 2 ≤ a) (o : Ob h a 102) (hx : 0 ≤ x ∧ x < (hL h a : Int)) (hD : D a x.toNat = true) (kk : wp D d y nx ls st (sI h a x.toNat v) Q) : wp D d y pc ls (vL v :: vI x :: vR (some a) :: st) h Q :=
  x_h hd rfl rfl rfl (by simp only [hop]; rw [if_pos ⟨h2, o.1, o.2, hx.1, hx.2, hD⟩]) kk
theorem x_aastN {a : Nat} {x : Int} (hd : cod y pc = some (.aastore, nx)) (h2 : 2 ≤ a) (ha : a < hN h) (ht : 103 ≤ hT h a ∧ hT h a ≤ 105) (hx : 0 ≤ x ∧ x < (hL h a : Int)) (hD : D a x.toNat = true) (kk : wp D d y nx ls st (sR h a x.toNat none) Q) : wp D d y pc ls (vR none :: vI x :: vR (some a) :: st) h Q :=
  x_h hd rfl rfl rfl (by simp only [hop]; rw [if_pos ⟨h2, ha, ht.1, ht.2, hx.1, hx.2, hD⟩]) kk
theorem x_aastS {a b : Nat} {x : Int} (hd : cod y pc = some (.aastore, nx)) (h2 : 2 ≤ a) (ha : a < hN h) (hx : 0 ≤ x ∧ x < (hL h a : Int)) (hD : D a x.toNat = true) (hb : b < hN h) (ht : (hT h a = 103 ∧ hT h b < 13) ∨ (hT h a = 104 ∧ hT h b = 8) ∨ (hT h a = 105 ∧ hT h b = 4)) (kk : wp D d y nx ls st (sR h a x.toNat (some b)) Q) : wp D d y pc ls (vR (some b) :: vI x :: vR (some a) :: st) h Q :=
  x_h hd rfl rfl rfl (by simp only [hop]; rw [if_pos ⟨h2, ha, hx.1, hx.2, hD, hb, ht⟩]) kk
theorem x_alen {a : Nat} (hd : cod y pc = some (.arraylength, nx)) (ha : a < hN h) (ht : 100 ≤ hT h a ∧ hT h a ≤ 105) (kk : wp D d y nx ls (vI (hL h a) :: st) h Q) : wp D d y pc ls (vR (some a) :: st) h Q :=
  x_h hd rfl rfl rfl (by simp only [hop]; rw [if_pos ⟨ha, ht.1, ht.2⟩]) kk
theorem x_new {k c t n : Nat} (hd : cod y pc = some (.new k, nx)) (hc : cls y = c) (hl : lkp newL c k = some (t, n)) (kk : wp D d y nx ls (vR (some (hN h)) :: st) (alc h t 0 n) Q) : wp D d y pc ls st h Q :=
  x_h hd rfl rfl rfl (by simp only [hop, hc, hl]) kk
theorem x_newa {t : ArrayType} {g : Nat} {x : Int} (hd : cod y pc = some (.newarray t, nx)) (hg : nwTag t = g) (h0 : g ≠ 0) (hx : 0 ≤ x ∧ x < 60000) (kk : wp D d y nx ls (vR (some (hN h)) :: st) (alc h g x.toNat x.toNat) Q) : wp D d y pc ls (vI x :: st) h Q :=
  x_h hd rfl rfl rfl (by simp only [hop, hg]; rw [if_pos ⟨h0, hx.1, hx.2⟩]) kk
theorem x_anew {k c g : Nat} {x : Int} (hd : cod y pc = some (.anewarray k, nx)) (hc : cls y = c) (hl : lkp anwL c k = some g) (hx : 0 ≤ x ∧ x < 60000) (kk : wp D d y nx ls (vR (some (hN h)) :: st) (alc h g x.toNat x.toNat) Q) : wp D d y pc ls (vI x :: st) h Q :=
  x_h hd rfl rfl rfl (by simp only [hop, hc, hl]; rw [if_pos ⟨hx.1, hx.2⟩]) kk
theorem x_cast {k c t a : Nat} (hd : cod y pc = some (.checkcast k, nx)) (hc : cls y = c) (hl : lkp cstT c k = some t) (o : Ob h a t) (kk : wp D d y nx ls (vR (some a) :: st) h Q) : wp D d y pc ls (vR (some a) :: st) h Q :=
  x_h hd rfl rfl rfl (by simp only [hop, hc, hl]; rw [if_pos ⟨o.1, o.2⟩]) kk
/-! returns -/
theorem x_ret (hd : cod y pc = some (.return_, nx)) (hm : mRet y = 4) (k : Q (.inl none, h)) : wp D d y pc ls [] h Q := wp_fin hd (by show (if _ then _ else _) = _; rw [if_pos hm]) k
theorem x_iret {x : Int} (hd : cod y pc = some (.ireturn, nx)) (hm : mRet y = 0) (k : Q (.inl (some (vI x)), h)) : wp D d y pc ls [vI x] h Q := wp_fin hd (by show (if _ then _ else _) = _; rw [if_pos (Or.inl hm)]) k
theorem x_zret {x : Int} (hd : cod y pc = some (.ireturn, nx)) (hm : mRet y = 1) (hx : x = 0 ∨ x = 1) (k : Q (.inl (some (vI x)), h)) : wp D d y pc ls [vI x] h Q := wp_fin hd (by show (if _ then _ else _) = _; rw [if_pos (Or.inr ⟨hm, hx⟩)]) k
theorem x_lret {x : Int} (hd : cod y pc = some (.lreturn, nx)) (hm : mRet y = 2) (k : Q (.inl (some (vL x)), h)) : wp D d y pc ls [vL x] h Q := wp_fin hd (by show (if _ then _ else _) = _; rw [if_pos hm]) k
theorem x_aret {x : Option Nat} (hd : cod y pc = some (.areturn, nx)) (hm : mRet y = 3) (k : Q (.inl (some (vR x)), h)) : wp D d y pc ls [vR x] h Q := wp_fin hd (by show (if _ then _ else _) = _; rw [if_pos hm]) k
theorem x_thr {k e : Nat} (hd : cod y pc = some (.new k, nx)) (hn : lkp newL (cls y) k = none) (he : exq y pc = some e) (hs : szS st ≤ 8) (kk : Q (.inr e, tck h 1 6)) : wp D d y pc ls st h Q :=
  wp_fin hd (by unfold stp; simp only [sop, lop, jop, hop, hn, he]; rw [if_pos hs]) kk
end XR
