/-! ===== cells ===== -/
def xty (E : XE) : List (ClassId × FieldType) := [(eA E 0, .int), (eA E 1, .boolean), (eA E 2, .long), (eA E 3, .object "java/lang/Object"), (eA E 4, .object "PerfgaugeHouse$Sheet"), (eA E 5, .object "PerfgaugeHouse$Piece")]
def kdT (ty : FieldType) : Nat := match ty with
  | .int => 0
  | .boolean => 1
  | .long => 2
  | .object _ => 3
  | .array _ => 3
  | _ => 9
def decW : List MethodName := [⟨"java/lang/RuntimeException", "<init>", "()V"⟩, ⟨"java/lang/RuntimeException", "<init>", "(Ljava/lang/String;)V"⟩, ⟨"java/lang/Exception", "<init>", "()V"⟩, ⟨"java/lang/Exception", "<init>", "(Ljava/lang/String;)V"⟩, ⟨"java/lang/Throwable", "<init>", "()V"⟩, ⟨"java/lang/Throwable", "<init>", "(Ljava/lang/String;)V"⟩]
/-- what the world gives beside our cells, at a method's start -/
def CX (E : XE) (U : State) : Prop :=
  va_K (eC E, eI E) xcl (xty E) U ∧
  va_Z "java/util/ArrayList" "DEFAULTCAPACITY_EMPTY_ELEMENTDATA" "[Ljava/lang/Object;" (.ref (e0 E)) (eN E) U U.heap ∧
  va_T (.object "java/lang/Object") (e0 E) 0 (fun _ => .null) (eN E) U U.heap ∧
  (va_X (e1 E) (eL E) (eX E) U U.heap ∧ e1 E < U.heap.size ∧ ¬ eN E (e1 E) ∧ e0 E ≠ e1 E ∧ eB E ≤ U.heap.size) ∧
  (vx_Zq Bundle.tN "UNASSIGNED_STACK" Bundle.steD (eN E) U U.heap ∧ vx_Zq Bundle.tN "SUPPRESSED_SENTINEL" Bundle.listD (eN E) U U.heap) ∧
  ((∃ sa, vk_R "PerfgaugeHouse" 520 "there is no such thing" sa U) ∧ (∃ sa, vk_R "PerfgaugeHouse" 527 "what is given is out of its range" sa U) ∧ (∃ sa, vk_R "PerfgaugeHouse" 532 "this cannot be done now" sa U)) ∧
  (∀ q ∈ nestW, va_Nw (.methodLinkNest q.1 q.2.1 q.2.2.1 q.2.2.2) U) ∧
  (va_AO "java/lang/Object" U ∧ va_AO "PerfgaugeHouse$Sheet" U ∧ va_AO "PerfgaugeHouse$Piece" U) ∧
  (∀ t : Nat, t < 13 → ∀ q : vw_C, xcl[t]? = some q → va_Nw (.castable q.1 "java/lang/Object") U) ∧
  (va_Nc "java/lang/IllegalArgumentException" "java/lang/IndexOutOfBoundsException" U ∧ va_Nc "java/lang/IllegalStateException" "java/lang/IndexOutOfBoundsException" U ∧ va_Nc "java/lang/IllegalStateException" "java/lang/IllegalArgumentException" U) ∧
  (va_Nw (.castable "java/lang/IndexOutOfBoundsException" "java/lang/IndexOutOfBoundsException") U ∧ va_Nw (.castable "java/lang/IllegalArgumentException" "java/lang/IllegalArgumentException") U ∧ va_Nw (.castable "java/lang/IllegalStateException" "java/lang/IllegalStateException") U) ∧
  (∃ mi, va_Mi "[Ljava/lang/Object;" mi U) ∧ va_Dc U ∧ (∀ x ∈ decW, va_Nw (.declares x) U)
def okH (E : XE) (h : Hp) : Prop := 2 ≤ hN h ∧ (∀ a k b, a < hN h → hR h a k = some b → b < hN h) ∧ (∀ a, a < hN h → hL h a ≤ 65536) ∧ (hT h 0 = 103 ∧ hL h 0 = 0) ∧ (hT h 1 = 100 ∧ hL h 1 = eL E ∧ ∀ j, j < eL E → Int32.ofInt (hI h 1 j) = eX E j)
def GR (E : XE) (ad : Nat → Nat) (h : Hp) (H0 H : Heap) (locs : List Loc) : Prop := va_P (eC E, eI E) xcl (WL E ad h) H ∧ va_D (eN E) (WL E ad h) ∧ va_S (eN E) H0 H locs ∧ okH E h ∧ ad 0 = e0 E ∧ ad 1 = e1 E
theorem CX.moved {E : XE} {s U : State} (h : CX E s) (hW : s.WarmedH U.vm) (hsz : s.heap.size ≤ U.heap.size) (hq : ∀ q : Nat, q < s.heap.size → ¬ eN E q → U.heap[q]? = s.heap[q]?) : CX E U := by
  have hvm := hW.alike
  obtain ⟨h1, h2, h3, ⟨h4, h5, h6, h7, h7b⟩, ⟨h8, h9⟩, ⟨⟨s1, h10⟩, ⟨s2, h11⟩, ⟨s3, h12⟩⟩, h13, ⟨h14, h15, h16⟩, h17, ⟨h18, h19, h20⟩, ⟨h21, h22, h23⟩, ⟨mi, h24⟩, h25, h26⟩ := h
  refine ⟨va_K.moved hvm h1, (va_Z.moved hvm h2).kept hq, (va_T.moved hvm h3).kept hq, ⟨?_, by omega, h6, h7, by omega⟩, ⟨(vx_Zq.moved hvm h8).kept hq, (vx_Zq.moved hvm h9).kept hq⟩, ⟨⟨s1, h10.warm hW⟩, ⟨s2, h11.warm hW⟩, ⟨s3, h12.warm hW⟩⟩, fun q hq9 => va_Nw.warmM hW (h13 q hq9), ⟨va_AO.moved hvm h14, va_AO.moved hvm h15, va_AO.moved hvm h16⟩, fun t ht q hq9 => va_Nw.warmC hW (h17 t ht q hq9), ⟨va_Nc.moved hvm h18, va_Nc.moved hvm h19, va_Nc.moved hvm h20⟩, ⟨va_Nw.warmC hW h21, va_Nw.warmC hW h22, va_Nw.warmC hW h23⟩, ⟨mi, va_Mi.moved hvm h24⟩, va_Dc.moved hvm h25, fun x hx9 => va_Nw.warmD hW (h26 x hx9)⟩
  obtain ⟨scr, q1, q2, q3, q4, q5⟩ := h4
  exact ⟨scr, by rw [hq _ h5 h6]; exact q1, State.isArrayOf_alike hvm q2, q3, q4, q5⟩
theorem GR.inj {E : XE} {ad : Nat → Nat} {h : Hp} {H0 H : Heap} {locs : List Loc} (g : GR E ad h H0 H locs) {s : State} (c : CX E s) : ∀ a b : Nat, a < hN h → b < hN h → ad a = ad b → a = b := by
  obtain ⟨hP, hD, -, hO, h0, h1⟩ := g
  obtain ⟨-, -, ⟨-, -, -, -, -, -, -, n0⟩, ⟨-, -, n1, n01, -⟩, -⟩ := c
  have big : ∀ a, 2 ≤ a → a < hN h → eN E (ad a) := fun a h2 ha => hD.2 _ _ (WL_get h2 ha)
  have d01 : ad 0 ≠ ad 1 := by rw [h0, h1]; exact n01
  have d0 : ∀ a, 2 ≤ a → a < hN h → ad a ≠ ad 0 := fun a h2 ha q => n0 (by rw [← h0, ← q]; exact big a h2 ha)
  have d1 : ∀ a, 2 ≤ a → a < hN h → ad a ≠ ad 1 := fun a h2 ha q => n1 (by rw [← h1, ← q]; exact big a h2 ha)
  intro a b ha hb e
  rcases Nat.lt_or_ge a 2 with qa | qa
  · rcases Nat.lt_or_ge b 2 with qb | qb
    · have : a = 0 ∨ a = 1 := by omega
      have : b = 0 ∨ b = 1 := by omega
      rcases ‹a = 0 ∨ a = 1› with rfl | rfl <;> rcases ‹b = 0 ∨ b = 1› with rfl | rfl
      · rfl
      · exact absurd e d01
      · exact absurd e.symm d01
      · rfl
    · have : a = 0 ∨ a = 1 := by omega
      rcases this with rfl | rfl
      · exact absurd e.symm (d0 b qb hb)
      · exact absurd e.symm (d1 b qb hb)
  · rcases Nat.lt_or_ge b 2 with qb | qb
    · have : b = 0 ∨ b = 1 := by omega
      rcases this with rfl | rfl
      · exact absurd e (d0 a qa ha)
      · exact absurd e (d1 a qa ha)
    · have := hD.1 _ _ _ _ (WL_get qa ha) (WL_get qb hb) e
      omega
theorem fld_w {c k t j kd : Nat} {fin : Bool} (h : lkp fldL c k = some (t, j, kd, fin)) : ∃ (C : String) (T : u_T) (N : Nat) (ref : String), xcl[t]? = some (C, T, N) ∧ j < N ∧ Cond.fieldLink (cnm c) k ref (T j).2.1 (T j).2.2.1 ∈ LWG ∧ (ref = (T j).1 ∨ Cond.sameField ref (T j).1 (T j).2.1 (T j).2.2.1 ∈ LWG) ∧ (T j).2.2.2 = fin ∧ (fin = true → (T j).1 = cnm t) ∧ (kdl t)[j]? = some kd := by
  have h1 := lkp_mem h
  rw [fldL_X] at h1
  obtain ⟨e, he, hq⟩ := List.mem_map.mp h1
  have h2 := List.all_eq_true.mp fldX_ok e he
  obtain ⟨c', k', t', j', kd', fin', i, ref, sf⟩ := e
  simp only [Prod.mk.injEq] at hq
  obtain ⟨rfl, rfl, rfl, rfl, rfl, rfl⟩ := hq
  simp only [fldChk] at h2
  cases hx : xcl[t']? with
  | none => rw [hx] at h2; cases h2
  | some q =>
    obtain ⟨C, T, N⟩ := q
    rw [hx] at h2
    simp only [Bool.and_eq_true, decide_eq_true_eq, Bool.or_eq_true, beq_iff_eq, Bool.not_eq_true'] at h2
    obtain ⟨⟨⟨⟨⟨a1, a2⟩, a3⟩, a4⟩, a5⟩, a6⟩ := h2
    refine ⟨C, T, N, ref, rfl, a1, atI_mem a2, ?_, a4, fun q => ?_, a6⟩
    · rcases a3 with q | q
      · exact Or.inl q
      · exact Or.inr (atI_mem q)
    · rcases a5 with q2 | q2
      · rw [q] at q2; cases q2
      · exact q2
theorem cls_w : ∀ (t : Nat) (C : String) (T : u_T) (N : Nat), xcl[t]? = some (C, T, N) → (∀ w ∈ u_ws C T N, w ∈ LWG) ∧ t < 13 ∧ C = cnm t ∧ (kdl t).length = N ∧ ∃ ty : Nat → FieldType, (∀ k, k < N → parseFieldDescriptor (T k).2.2.1 = some (ty k)) ∧ (∀ a, a < N → ∀ b, b < N → a ≠ b → (T a).2.1 ≠ (T b).2.1) ∧ ∀ k, k < N → (kdl t)[k]? = some (kdT (ty k)) ∧ kdT (ty k) ≠ 9 := by
  intro t C T N h
  match t, h with
  | 0, h => simp only [xcl, List.getElem?_cons_succ, List.getElem?_cons_zero, Option.some.injEq, Prod.mk.injEq] at h; obtain ⟨rfl, rfl, rfl⟩ := h; exact ⟨cin0, by decide, by decide +kernel, by decide +kernel, cY0, by decide +kernel, by decide +kernel, by decide +kernel⟩
  | 1, h => simp only [xcl, List.getElem?_cons_succ, List.getElem?_cons_zero, Option.some.injEq, Prod.mk.injEq] at h; obtain ⟨rfl, rfl, rfl⟩ := h; exact ⟨cin1, by decide, by decide +kernel, by decide +kernel, cY1, by decide +kernel, by decide +kernel, by decide +kernel⟩
  | 2, h => simp only [xcl, List.getElem?_cons_succ, List.getElem?_cons_zero, Option.some.injEq, Prod.mk.injEq] at h; obtain ⟨rfl, rfl, rfl⟩ := h; exact ⟨cin2, by decide, by decide +kernel, by decide +kernel, cY2, by decide +kernel, by decide +kernel, by decide +kernel⟩
  | 3, h => simp only [xcl, List.getElem?_cons_succ, List.getElem?_cons_zero, Option.some.injEq, Prod.mk.injEq] at h; obtain ⟨rfl, rfl, rfl⟩ := h; exact ⟨cin3, by decide, by decide +kernel, by decide +kernel, cY3, by decide +kernel, by decide +kernel, by decide +kernel⟩
  | 4, h => simp only [xcl, List.getElem?_cons_succ, List.getElem?_cons_zero, Option.some.injEq, Prod.mk.injEq] at h; obtain ⟨rfl, rfl, rfl⟩ := h; exact ⟨cin4, by decide, by decide +kernel, by decide +kernel, cY4, by decide +kernel, by decide +kernel, by decide +kernel⟩
  | 5, h => simp only [xcl, List.getElem?_cons_succ, List.getElem?_cons_zero, Option.some.injEq, Prod.mk.injEq] at h; obtain ⟨rfl, rfl, rfl⟩ := h; exact ⟨cin5, by decide, by decide +kernel, by decide +kernel, cY5, by decide +kernel, by decide +kernel, by decide +kernel⟩
  | 6, h => simp only [xcl, List.getElem?_cons_succ, List.getElem?_cons_zero, Option.some.injEq, Prod.mk.injEq] at h; obtain ⟨rfl, rfl, rfl⟩ := h; exact ⟨cin6, by decide, by decide +kernel, by decide +kernel, cY6, by decide +kernel, by decide +kernel, by decide +kernel⟩
  | 7, h => simp only [xcl, List.getElem?_cons_succ, List.getElem?_cons_zero, Option.some.injEq, Prod.mk.injEq] at h; obtain ⟨rfl, rfl, rfl⟩ := h; exact ⟨cin7, by decide, by decide +kernel, by decide +kernel, cY7, by decide +kernel, by decide +kernel, by decide +kernel⟩
  | 8, h => simp only [xcl, List.getElem?_cons_succ, List.getElem?_cons_zero, Option.some.injEq, Prod.mk.injEq] at h; obtain ⟨rfl, rfl, rfl⟩ := h; exact ⟨cin8, by decide, by decide +kernel, by decide +kernel, cY8, by decide +kernel, by decide +kernel, by decide +kernel⟩
  | 9, h => simp only [xcl, List.getElem?_cons_succ, List.getElem?_cons_zero, Option.some.injEq, Prod.mk.injEq] at h; obtain ⟨rfl, rfl, rfl⟩ := h; exact ⟨cin9, by decide, by decide +kernel, by decide +kernel, cY9, by decide +kernel, by decide +kernel, by decide +kernel⟩
  | 10, h => simp only [xcl, List.getElem?_cons_succ, List.getElem?_cons_zero, Option.some.injEq, Prod.mk.injEq] at h; obtain ⟨rfl, rfl, rfl⟩ := h; exact ⟨cin10, by decide, by decide +kernel, by decide +kernel, cY10, by decide +kernel, by decide +kernel, by decide +kernel⟩
  | 11, h => simp only [xcl, List.getElem?_cons_succ, List.getElem?_cons_zero, Option.some.injEq, Prod.mk.injEq] at h; obtain ⟨rfl, rfl, rfl⟩ := h; exact ⟨cin11, by decide, by decide +kernel, by decide +kernel, cY11, by decide +kernel, by decide +kernel, by decide +kernel⟩
  | 12, h => simp only [xcl, List.getElem?_cons_succ, List.getElem?_cons_zero, Option.some.injEq, Prod.mk.injEq] at h; obtain ⟨rfl, rfl, rfl⟩ := h; exact ⟨cin12, by decide, by decide +kernel, by decide +kernel, cY12, by decide +kernel, by decide +kernel, by decide +kernel⟩
  | n + 13, h => simp [xcl] at h
theorem cE_obj {E : XE} {ad : Nat → Nat} {h : Hp} {a t : Nat} (e : hT h a = t) (ht : t < 13) : cE E ad h a = .inr (t, fvl ad h a 0 (kdl t)) := by
  unfold cE
  rw [e, if_neg (by omega), if_neg (by omega), if_neg (by omega), if_neg (by omega)]
theorem cE_100 {E : XE} {ad : Nat → Nat} {h : Hp} {a : Nat} (e : hT h a = 100) : cE E ad h a = .inl (eA E 0, hL h a, .inl (fun j => Int32.ofInt (hI h a j))) := by
  unfold cE; rw [if_pos e]
theorem cE_101 {E : XE} {ad : Nat → Nat} {h : Hp} {a : Nat} (e : hT h a = 101) : cE E ad h a = .inl (eA E 1, hL h a, .inl (fun j => Int32.ofInt (hI h a j))) := by
  unfold cE; rw [e, if_neg (by omega), if_pos rfl]
theorem cE_102 {E : XE} {ad : Nat → Nat} {h : Hp} {a : Nat} (e : hT h a = 102) : cE E ad h a = .inl (eA E 2, hL h a, .inr (.inl (fun j => Int64.ofInt (hI h a j)))) := by
  unfold cE; rw [e, if_neg (by omega), if_neg (by omega), if_pos rfl]
theorem cE_103 {E : XE} {ad : Nat → Nat} {h : Hp} {a t : Nat} (e : hT h a = t) (ht : 103 ≤ t) : cE E ad h a = .inl (eA E (t - 100), hL h a, .inr (.inr (.inr (.inr (fun j => (hR h a j).map ad))))) := by
  unfold cE; rw [e, if_neg (by omega), if_neg (by omega), if_neg (by omega), if_pos ht]
theorem xty_get {E : XE} {t : Nat} (h1 : 103 ≤ t) (h2 : t ≤ 105) : (xty E)[t - 100]? = some (eA E (t - 100), .object (aEl t)) := by
  rcases (show t = 103 ∨ t = 104 ∨ t = 105 by omega) with rfl | rfl | rfl <;> rfl
theorem ix_conv {x : Int} {n : Nat} (h0 : 0 ≤ x) (h1 : x < n) (hn : n ≤ 65536) : vp_in (Int32.ofInt x) n ∧ (Int32.ofInt x).toNatClampNeg = x.toNat := by
  have e : (Int32.ofInt x).toInt = x := Int32.toInt_ofInt_of_le (by omega) (by omega)
  have e2 : (Int32.ofInt x).toNatClampNeg = x.toNat := by
    show (Int32.ofInt x).toInt.toNat = x.toNat
    rw [e]
  refine ⟨?_, e2⟩
  rintro (q | q)
  · have := Int32.lt_iff_toInt_lt.mp q
    rw [e] at this
    have h0' : (0 : Int32).toInt = 0 := by decide
    rw [h0'] at this
    omega
  · rw [e2] at q; omega
theorem sI_N {h : Hp} {a k : Nat} {v : Int} : hN (sI h a k v) = hN h := rfl
theorem sI_T {h : Hp} {a k : Nat} {v : Int} : hT (sI h a k v) = hT h := rfl
theorem sI_L {h : Hp} {a k : Nat} {v : Int} : hL (sI h a k v) = hL h := rfl
theorem sI_R {h : Hp} {a k : Nat} {v : Int} : hR (sI h a k v) = hR h := rfl
theorem sI_I {h : Hp} {a k : Nat} {v : Int} : hI (sI h a k v) = u2 (hI h) a k v := rfl
theorem sR_R {h : Hp} {a k : Nat} {v : Option Nat} : hR (sR h a k v) = u2 (hR h) a k v := rfl
theorem u2_ne {α : Type} {f : Nat → Nat → α} {a b k : Nat} {v : α} (h : b ≠ a) : u2 f a k v b = f b := by
  funext j; simp [u2, h]
theorem okH_sI {E : XE} {h : Hp} {a k : Nat} {v : Int} (ha : 2 ≤ a) (o : okH E h) : okH E (sI h a k v) := by
  obtain ⟨o1, o2, o3, o4, o5, o6, o7⟩ := o
  refine ⟨o1, o2, o3, o4, o5, o6, fun j hj => ?_⟩
  rw [sI_I, u2_ne (by omega)]
  exact o7 j hj
theorem okH_sR {E : XE} {h : Hp} {a k : Nat} {v : Option Nat} (hv : ∀ b, v = some b → b < hN h) (o : okH E h) : okH E (sR h a k v) := by
  obtain ⟨o1, o2, o3, o4⟩ := o
  refine ⟨o1, fun x y b hx hy => ?_, o3, o4⟩
  rw [sR_R] at hy
  simp only [u2] at hy
  split at hy
  · exact hv b hy
  · exact o2 x y b hx hy
theorem okH_alc {E : XE} {h : Hp} {t len sl : Nat} (hl : len ≤ 65536) (o : okH E h) : okH E (alc h t len sl) := by
  obtain ⟨o1, o2, o3, ⟨o4, o4b⟩, o5, o6, o7⟩ := o
  have nb : ∀ b, b < hN h → b ≠ hN h := fun b q => by omega
  refine ⟨by show 2 ≤ hN h + 1; omega, fun a k b ha e => ?_, fun a ha => ?_, ⟨?_, ?_⟩, ?_, ?_, fun j hj => ?_⟩
  · show b < hN h + 1
    have e : ur (hR h) (hN h) (fun _ => none) a k = some b := e
    simp only [ur] at e
    split at e
    · cases e
    · have ha : a < hN h + 1 := ha
      have := o2 a k b (by omega) e
      omega
  · show u1 (hL h) (hN h) len a ≤ 65536
    simp only [u1]
    split
    · exact hl
    · have ha : a < hN h + 1 := ha
      exact o3 a (by omega)
  · show u1 (hT h) (hN h) t 0 = 103
    simp only [u1]; rw [if_neg (nb 0 (by omega))]; exact o4
  · show u1 (hL h) (hN h) len 0 = 0
    simp only [u1]; rw [if_neg (nb 0 (by omega))]; exact o4b
  · show u1 (hT h) (hN h) t 1 = 100
    simp only [u1]; rw [if_neg (nb 1 (by omega))]; exact o5
  · show u1 (hL h) (hN h) len 1 = eL E
    simp only [u1]; rw [if_neg (nb 1 (by omega))]; exact o6
  · show Int32.ofInt (ur (hI h) (hN h) (fun _ => 0) 1 j) = eX E j
    simp only [ur]; rw [if_neg (nb 1 (by omega))]; exact o7 j hj
/-- a store into one of our cells -/
theorem GR.set {E : XE} {ad : Nat → Nat} {h h' : Hp} {H0 H1 : Heap} {locs1 : List Loc} {a : Nat} {e : va_E} (h2 : 2 ≤ a) (ha : a < hN h) (h0 : ad 0 = e0 E) (h1 : ad 1 = e1 E) (hn : hN h' = hN h) (hTT : hT h' = hT h) (hLL : hL h' = hL h) (ho : ∀ b, b ≠ a → hI h' b = hI h b ∧ hR h' b = hR h b) (he : e = cE E ad h' a) (hok : okH E h')
    (hP : va_P (eC E, eI E) xcl ((WL E ad h).set (a - 2) (ad a, e)) H1) (hD : va_D (eN E) ((WL E ad h).set (a - 2) (ad a, e))) (hS : va_S (eN E) H0 H1 locs1) : GR E ad h' H0 H1 locs1 := by
  have hw := WL_set (E := E) (ad := ad) h2 ha hn (fun b hb => cE_congr (by rw [hTT]) (by rw [hLL]) (ho b hb).1 (fun j => by rw [(ho b hb).2])) he
  rw [hw] at hP hD
  exact ⟨hP, hD, hS, hok, h0, h1⟩
/-- a new cell -/
theorem GR.push {E : XE} {ad : Nat → Nat} {h : Hp} {H0 H1 : Heap} {locs1 : List Loc} {t len sl q : Nat} {e : va_E} (o : okH E h) (h0 : ad 0 = e0 E) (h1 : ad 1 = e1 E) (hl : len ≤ 65536) (he : e = cE E (u1 ad (hN h) q) (alc h t len sl) (hN h))
    (hP : va_P (eC E, eI E) xcl (WL E ad h ++ [(q, e)]) H1) (hD : va_D (eN E) (WL E ad h ++ [(q, e)])) (hS : va_S (eN E) H0 H1 locs1) : GR E (u1 ad (hN h) q) (alc h t len sl) H0 H1 locs1 := by
  obtain ⟨o1, o2, -⟩ := id o
  have ha : ∀ a, a < hN h → u1 ad (hN h) q a = ad a := fun a ha => by simp only [u1]; rw [if_neg (by omega)]
  have hw := WL_push (E := E) (ad := ad) (ad' := u1 ad (hN h) q) (h := h) (h' := alc h t len sl) (q := q) (e := e) o1 rfl ha (by simp [u1]) (fun b hb => by
    apply cE_congr
    · show u1 (hT h) (hN h) t b = hT h b
      simp only [u1]; rw [if_neg (by omega)]
    · show u1 (hL h) (hN h) len b = hL h b
      simp only [u1]; rw [if_neg (by omega)]
    · show ur (hI h) (hN h) (fun _ => 0) b = hI h b
      funext j; simp only [ur]; rw [if_neg (by omega)]
    · intro j
      have e1 : hR (alc h t len sl) b j = hR h b j := by
        show ur (hR h) (hN h) (fun _ => none) b j = hR h b j
        simp only [ur]; rw [if_neg (by omega)]
      rw [e1]
      cases hr : hR h b j with
      | none => rfl
      | some x => simp only [Option.map_some]; rw [ha x (o2 b j x hb hr)]) he
  rw [hw] at hP hD
  refine ⟨hP, hD, hS, okH_alc hl o, ?_, ?_⟩
  · rw [ha 0 (by omega)]; exact h0
  · rw [ha 1 (by omega)]; exact h1
