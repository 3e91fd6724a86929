/-! ===== our machine beside the machine: values, locals, cells ===== -/
def cv (ad : Nat → Nat) (v : XV) : Value := match v with
  | .inl z => .int (Int32.ofInt z)
  | .inr (.inl z) => .long (Int64.ofInt z)
  | .inr (.inr r) => va_rf (r.map ad)
def clV (n : Nat) (v : XV) : Prop := match v with
  | .inr (.inr (some b)) => b < n
  | _ => True
def clS (n : Nat) (st : List XV) : Prop := ∀ v ∈ st, clV n v
def clL (n : Nat) (ls : XL) : Prop := ∀ (k : Nat) (v : XV), ln ls k = some (some v) → clV n v
theorem clS_cons {n : Nat} {v : XV} {st : List XV} : clS n (v :: st) ↔ clV n v ∧ clS n st := by simp [clS]
theorem clV_mono {n m : Nat} (h : n ≤ m) {v : XV} (c : clV n v) : clV m v := by
  rcases v with z | z | r
  · trivial
  · trivial
  · cases r with
    | none => trivial
    | some b => exact Nat.lt_of_lt_of_le c h
theorem clS_mono {n m : Nat} (h : n ≤ m) {st : List XV} (c : clS n st) : clS m st := fun v hv => clV_mono h (c v hv)
theorem clL_mono {n m : Nat} (h : n ≤ m) {ls : XL} (c : clL n ls) : clL m ls := fun k v hv => clV_mono h (c k v hv)
theorem cv_ext {ad ad' : Nat → Nat} {n : Nat} (ha : ∀ a, a < n → ad' a = ad a) {v : XV} (c : clV n v) : cv ad' v = cv ad v := by
  rcases v with z | z | r
  · rfl
  · rfl
  · cases r with
    | none => rfl
    | some b => show va_rf (some (ad' b)) = va_rf (some (ad b)); rw [ha b c]
theorem map_ext {ad ad' : Nat → Nat} {n : Nat} (ha : ∀ a, a < n → ad' a = ad a) {st : List XV} (c : clS n st) : st.map (cv ad') = st.map (cv ad) :=
  List.map_congr_left fun v hv => cv_ext ha (c v hv)
theorem cv_cat (ad : Nat → Nat) (v : XV) : (cv ad v).category = if isL v then 2 else 1 := by
  rcases v with z | z | r
  · rfl
  · rfl
  · cases r <;> rfl
def toL (ad : Nat → Nat) : Nat → XL → List (Nat × Value)
  | _, [] => []
  | i, none :: l => toL ad (i + 1) l
  | i, some v :: l => (i, cv ad v) :: toL ad (i + 1) l
theorem mem_toL {ad : Nat → Nat} {ls : XL} : ∀ {i : Nat} {q : Nat × Value}, q ∈ toL ad i ls ↔ ∃ (j : Nat) (w : XV), ln ls j = some (some w) ∧ q = (i + j, cv ad w) := by
  induction ls with
  | nil => intro i q; simp [toL, ln]
  | cons a l ih =>
    intro i q
    cases a with
    | none =>
      simp only [toL]
      rw [ih]
      constructor
      · rintro ⟨j, w, h, rfl⟩
        exact ⟨j + 1, w, h, by rw [Nat.add_assoc, Nat.add_comm 1 j]⟩
      · rintro ⟨j, w, h, rfl⟩
        cases j with
        | zero => simp [ln] at h
        | succ j => exact ⟨j, w, h, by rw [Nat.add_assoc, Nat.add_comm 1 j]⟩
    | some v =>
      simp only [toL, List.mem_cons]
      rw [ih]
      constructor
      · rintro (rfl | ⟨j, w, h, rfl⟩)
        · exact ⟨0, v, rfl, rfl⟩
        · exact ⟨j + 1, w, h, by rw [Nat.add_assoc, Nat.add_comm 1 j]⟩
      · rintro ⟨j, w, h, rfl⟩
        cases j with
        | zero =>
          simp only [ln, Option.some.injEq] at h
          subst h; exact Or.inl rfl
        | succ j => exact Or.inr ⟨j, w, h, by rw [Nat.add_assoc, Nat.add_comm 1 j]⟩
theorem ln_lt {α : Type} {l : List α} : ∀ {k : Nat} {v : α}, ln l k = some v → k < l.length := by
  induction l with
  | nil => intro k v h; simp [ln] at h
  | cons a l ih =>
    intro k v h
    cases k with
    | zero => simp
    | succ k => simpa using ih h
theorem st1_spec : ∀ {ls ls' : XL} {k : Nat} {v : XV}, st1 ls k v = some ls' → ls'.length = ls.length ∧ k < ls.length ∧ ∀ (j : Nat) (w : XV), ln ls' j = some (some w) → (j = k ∧ w = v) ∨ (j ≠ k ∧ ln ls j = some (some w) ∧ ¬ (j + 1 = k ∧ isL w = true)) := by
  intro ls
  induction ls with
  | nil => intro ls' k v h; simp [st1] at h
  | cons a l ih =>
    intro ls' k v h
    cases k with
    | zero =>
      simp only [st1, Option.some.injEq] at h
      subst h
      refine ⟨rfl, by simp, fun j w hj => ?_⟩
      cases j with
      | zero => simp only [ln, Option.some.injEq] at hj; exact Or.inl ⟨rfl, hj.symm⟩
      | succ j => exact Or.inr ⟨by omega, hj, by omega⟩
    | succ k =>
      cases k with
      | zero =>
        simp only [st1] at h
        cases hm : st1 l 0 v with
        | none => rw [hm] at h; cases h
        | some l' =>
          rw [hm] at h
          simp only [Option.map_some, Option.some.injEq] at h
          subst h
          obtain ⟨h1, h2, h3⟩ := ih hm
          refine ⟨by simp [h1], by simp; omega, fun j w hj => ?_⟩
          cases j with
          | zero =>
            simp only [ln, Option.some.injEq] at hj
            refine Or.inr ⟨by omega, ?_, ?_⟩
            · cases a with
              | none => simp [clr] at hj
              | some x =>
                rcases x with z | z | r
                · simpa [clr, ln] using hj
                · simp [clr] at hj
                · simpa [clr, ln] using hj
            · rintro ⟨-, hw⟩
              cases a with
              | none => simp [clr] at hj
              | some x =>
                rcases x with z | z | r
                · simp only [clr, Option.some.injEq] at hj; subst hj; cases hw
                · simp [clr] at hj
                · simp only [clr, Option.some.injEq] at hj; subst hj; cases hw
          | succ j =>
            rcases h3 j w hj with ⟨rfl, rfl⟩ | ⟨q1, q2, q3⟩
            · exact Or.inl ⟨rfl, rfl⟩
            · exact Or.inr ⟨by omega, q2, by omega⟩
      | succ k =>
        simp only [st1] at h
        cases hm : st1 l (k + 1) v with
        | none => rw [hm] at h; cases h
        | some l' =>
          rw [hm] at h
          simp only [Option.map_some, Option.some.injEq] at h
          subst h
          obtain ⟨h1, h2, h3⟩ := ih hm
          refine ⟨by simp [h1], by simp; omega, fun j w hj => ?_⟩
          cases j with
          | zero => exact Or.inr ⟨by omega, hj, by omega⟩
          | succ j =>
            rcases h3 j w hj with ⟨rfl, rfl⟩ | ⟨q1, q2, q3⟩
            · exact Or.inl ⟨rfl, rfl⟩
            · exact Or.inr ⟨by omega, q2, fun q => q3 ⟨by omega, q.2⟩⟩
theorem st2_spec : ∀ {ls ls' : XL} {k : Nat} {v : XV}, st2 ls k v = some ls' → ls'.length = ls.length ∧ k + 1 < ls.length ∧ ∀ (j : Nat) (w : XV), ln ls' j = some (some w) → (j = k ∧ w = v) ∨ (j ≠ k ∧ j ≠ k + 1 ∧ ln ls j = some (some w) ∧ ¬ (j + 1 = k ∧ isL w = true)) := by
  intro ls
  induction ls with
  | nil => intro ls' k v h; simp [st2] at h
  | cons a l ih =>
    intro ls' k v h
    cases k with
    | zero =>
      cases l with
      | nil => simp [st2] at h
      | cons b l =>
        simp only [st2, Option.some.injEq] at h
        subst h
        refine ⟨rfl, by simp, fun j w hj => ?_⟩
        cases j with
        | zero => simp only [ln, Option.some.injEq] at hj; exact Or.inl ⟨rfl, hj.symm⟩
        | succ j =>
          cases j with
          | zero => simp [ln] at hj
          | succ j => exact Or.inr ⟨by omega, by omega, hj, by omega⟩
    | succ k =>
      cases k with
      | zero =>
        simp only [st2] at h
        cases hm : st2 l 0 v with
        | none => rw [hm] at h; cases h
        | some l' =>
          rw [hm] at h
          simp only [Option.map_some, Option.some.injEq] at h
          subst h
          obtain ⟨h1, h2, h3⟩ := ih hm
          refine ⟨by simp [h1], by simp; omega, fun j w hj => ?_⟩
          cases j with
          | zero =>
            simp only [ln, Option.some.injEq] at hj
            refine Or.inr ⟨by omega, by omega, ?_, ?_⟩
            · cases a with
              | none => simp [clr] at hj
              | some x =>
                rcases x with z | z | r
                · simpa [clr, ln] using hj
                · simp [clr] at hj
                · simpa [clr, ln] using hj
            · rintro ⟨-, hw⟩
              cases a with
              | none => simp [clr] at hj
              | some x =>
                rcases x with z | z | r
                · simp only [clr, Option.some.injEq] at hj; subst hj; cases hw
                · simp [clr] at hj
                · simp only [clr, Option.some.injEq] at hj; subst hj; cases hw
          | succ j =>
            rcases h3 j w hj with ⟨rfl, rfl⟩ | ⟨q1, q2, q3, q4⟩
            · exact Or.inl ⟨rfl, rfl⟩
            · exact Or.inr ⟨by omega, by omega, q3, by omega⟩
      | succ k =>
        simp only [st2] at h
        cases hm : st2 l (k + 1) v with
        | none => rw [hm] at h; cases h
        | some l' =>
          rw [hm] at h
          simp only [Option.map_some, Option.some.injEq] at h
          subst h
          obtain ⟨h1, h2, h3⟩ := ih hm
          refine ⟨by simp [h1], by simp; omega, fun j w hj => ?_⟩
          cases j with
          | zero => exact Or.inr ⟨by omega, by omega, hj, by omega⟩
          | succ j =>
            rcases h3 j w hj with ⟨rfl, rfl⟩ | ⟨q1, q2, q3, q4⟩
            · exact Or.inl ⟨rfl, rfl⟩
            · exact Or.inr ⟨by omega, by omega, q3, fun q => q4 ⟨by omega, q.2⟩⟩
/-- the locals of the frame hold ours -/
def LR (ad : Nat → Nat) (nL : Nat) (lsR : Array Slot) (ls : XL) : Prop := lv_has lsR nL (toL ad 0 ls) ∧ ls.length = nL
theorem LR.load {ad : Nat → Nat} {nL : Nat} {lsR : Array Slot} {ls : XL} (h : LR ad nL lsR ls) {k : Nat} {v : XV} (e : ln ls k = some (some v)) : lsR[k]? = some (.val (cv ad v)) :=
  h.1.2.2 (k, cv ad v) (mem_toL.mpr ⟨k, v, e, by rw [Nat.zero_add]⟩)
theorem LR.sub {ad : Nat → Nat} {nL : Nat} {lsR : Array Slot} {ls : XL} {lv : List (Nat × Value)} (h : lv_has lsR nL lv) (hl : ls.length = nL) (hs : ∀ q ∈ toL ad 0 ls, q ∈ lv) : LR ad nL lsR ls :=
  ⟨⟨h.1, h.2.1, fun q hq => h.2.2 q (hs q hq)⟩, hl⟩
theorem LR.ext {ad ad' : Nat → Nat} {nL n : Nat} {lsR : Array Slot} {ls : XL} (h : LR ad nL lsR ls) (c : clL n ls) (ha : ∀ a, a < n → ad' a = ad a) : LR ad' nL lsR ls := by
  refine ⟨⟨h.1.1, h.1.2.1, fun q hq => ?_⟩, h.2⟩
  obtain ⟨j, w, e, rfl⟩ := mem_toL.mp hq
  rw [cv_ext ha (c j w e)]
  exact h.1.2.2 _ (mem_toL.mpr ⟨j, w, e, rfl⟩)
theorem LR.st1 {ad : Nat → Nat} {nL : Nat} {lsR lsR' : Array Slot} {ls ls' : XL} {k : Nat} {v : XV} (h : LR ad nL lsR ls) (e : st1 ls k v = some ls') (h' : lv_has lsR' nL ((k, cv ad v) :: (toL ad 0 ls).filter (fun q => !(q.1 == k) && !(q.1 + 1 == k && q.2.category == 2)))) : LR ad nL lsR' ls' := by
  obtain ⟨e1, e2, e3⟩ := st1_spec e
  refine LR.sub h' (by rw [e1]; exact h.2) fun q hq => ?_
  obtain ⟨j, w, ew, rfl⟩ := mem_toL.mp hq
  rcases e3 j w ew with ⟨rfl, rfl⟩ | ⟨q1, q2, q3⟩
  · rw [Nat.zero_add]; exact List.mem_cons_self
  · refine List.mem_cons_of_mem _ (List.mem_filter.mpr ⟨mem_toL.mpr ⟨j, w, q2, rfl⟩, ?_⟩)
    rw [cv_cat]
    simp only [Nat.zero_add]
    have a1 : (j == k) = false := by simpa using q1
    rw [a1]
    by_cases hj : j + 1 = k
    · have : isL w = false := by
        cases hw : isL w with
        | false => rfl
        | true => exact absurd ⟨hj, hw⟩ q3
      simp [this]
    · simp [hj]
theorem LR.st2 {ad : Nat → Nat} {nL : Nat} {lsR lsR' : Array Slot} {ls ls' : XL} {k : Nat} {v : XV} (h : LR ad nL lsR ls) (e : st2 ls k v = some ls') (h' : lv_has lsR' nL ((k, cv ad v) :: (toL ad 0 ls).filter (fun q => !(q.1 == k) && (!(q.1 == k + 1) && !(q.1 + 1 == k && q.2.category == 2))))) : LR ad nL lsR' ls' := by
  obtain ⟨e1, e2, e3⟩ := st2_spec e
  refine LR.sub h' (by rw [e1]; exact h.2) fun q hq => ?_
  obtain ⟨j, w, ew, rfl⟩ := mem_toL.mp hq
  rcases e3 j w ew with ⟨rfl, rfl⟩ | ⟨q1, q0, q2, q3⟩
  · rw [Nat.zero_add]; exact List.mem_cons_self
  · refine List.mem_cons_of_mem _ (List.mem_filter.mpr ⟨mem_toL.mpr ⟨j, w, q2, rfl⟩, ?_⟩)
    rw [cv_cat]
    simp only [Nat.zero_add]
    have a1 : (j == k) = false := by simpa using q1
    have a2 : (j == k + 1) = false := by simpa using q0
    rw [a1, a2]
    by_cases hj : j + 1 = k
    · have : isL w = false := by
        cases hw : isL w with
        | false => rfl
        | true => exact absurd ⟨hj, hw⟩ q3
      simp [this]
    · simp [hj]
theorem clL_st1 {n : Nat} {ls ls' : XL} {k : Nat} {v : XV} (c : clL n ls) (cv : clV n v) (e : st1 ls k v = some ls') : clL n ls' := by
  obtain ⟨-, -, e3⟩ := st1_spec e
  intro j w hj
  rcases e3 j w hj with ⟨-, rfl⟩ | ⟨-, q2, -⟩
  · exact cv
  · exact c j w q2
theorem clL_st2 {n : Nat} {ls ls' : XL} {k : Nat} {v : XV} (c : clL n ls) (cv : clV n v) (e : st2 ls k v = some ls') : clL n ls' := by
  obtain ⟨-, -, e3⟩ := st2_spec e
  intro j w hj
  rcases e3 j w hj with ⟨-, rfl⟩ | ⟨-, -, q2, -⟩
  · exact cv
  · exact c j w q2
/-- what is fixed from the law's start on: the first address of ours, the two old cells, the script, classes, places of fields, classes of rows -/
abbrev XE : Type := Nat × Nat × Nat × Nat × (Nat → Int32) × (Nat → ClassId) × (Nat → Nat → Nat) × (Nat → ClassId)
def eB (E : XE) : Nat := E.1
def e0 (E : XE) : Nat := E.2.1
def e1 (E : XE) : Nat := E.2.2.1
def eL (E : XE) : Nat := E.2.2.2.1
def eX (E : XE) : Nat → Int32 := E.2.2.2.2.1
def eC (E : XE) : Nat → ClassId := E.2.2.2.2.2.1
def eI (E : XE) : Nat → Nat → Nat := E.2.2.2.2.2.2.1
def eA (E : XE) : Nat → ClassId := E.2.2.2.2.2.2.2
def eN (E : XE) : Nat → Prop := fun q => eB E ≤ q
def fv (ad : Nat → Nat) (h : Hp) (a j kd : Nat) : Value := match kd with
  | 3 => va_rf ((hR h a j).map ad)
  | 2 => .long (Int64.ofInt (hI h a j))
  | _ => .int (Int32.ofInt (hI h a j))
def fvl (ad : Nat → Nat) (h : Hp) (a : Nat) : Nat → List Nat → List Value
  | _, [] => []
  | j, k :: ks => fv ad h a j k :: fvl ad h a (j + 1) ks
def cE (E : XE) (ad : Nat → Nat) (h : Hp) (a : Nat) : va_E :=
  if hT h a = 100 then .inl (eA E 0, hL h a, .inl (fun j => Int32.ofInt (hI h a j)))
  else if hT h a = 101 then .inl (eA E 1, hL h a, .inl (fun j => Int32.ofInt (hI h a j)))
  else if hT h a = 102 then .inl (eA E 2, hL h a, .inr (.inl (fun j => Int64.ofInt (hI h a j))))
  else if 103 ≤ hT h a then .inl (eA E (hT h a - 100), hL h a, .inr (.inr (.inr (.inr (fun j => (hR h a j).map ad)))))
  else .inr (hT h a, fvl ad h a 0 (kdl (hT h a)))
def WL (E : XE) (ad : Nat → Nat) (h : Hp) : va_W := (List.range (hN h - 2)).map (fun i => (ad (i + 2), cE E ad h (i + 2)))
theorem WL_get {E : XE} {ad : Nat → Nat} {h : Hp} {a : Nat} (h2 : 2 ≤ a) (ha : a < hN h) : (WL E ad h)[a - 2]? = some (ad a, cE E ad h a) := by
  have : a - 2 < hN h - 2 := by omega
  simp only [WL, List.getElem?_map, List.getElem?_range this, Option.map_some]
  rw [show a - 2 + 2 = a by omega]
theorem WL_set {E : XE} {ad : Nat → Nat} {h h' : Hp} {a : Nat} (h2 : 2 ≤ a) (ha : a < hN h) (hn : hN h' = hN h) (ho : ∀ b, b ≠ a → cE E ad h' b = cE E ad h b) {e : va_E} (he : e = cE E ad h' a) : (WL E ad h).set (a - 2) (ad a, e) = WL E ad h' := by
  subst he
  apply List.ext_getElem?
  intro i
  rw [List.getElem?_set]
  simp only [WL, List.length_map, List.length_range, List.getElem?_map, hn]
  by_cases hi : a - 2 = i
  · subst hi
    have : a - 2 < hN h - 2 := by omega
    rw [if_pos rfl, if_pos this, List.getElem?_range this, Option.map_some]
    rw [show a - 2 + 2 = a by omega]
  · rw [if_neg hi]
    cases hr : (List.range (hN h - 2))[i]? with
    | none => rfl
    | some j =>
      have : j = i := by
        have := List.getElem?_eq_some_iff.mp hr
        obtain ⟨q1, q2⟩ := this
        simpa using q2.symm
      subst this
      simp only [Option.map_some]
      rw [ho (j + 2) (by omega)]
theorem WL_push {E : XE} {ad ad' : Nat → Nat} {h h' : Hp} {q : Nat} {e : va_E} (h2 : 2 ≤ hN h) (hn : hN h' = hN h + 1) (ha : ∀ a, a < hN h → ad' a = ad a) (hq : ad' (hN h) = q) (ho : ∀ b, b < hN h → cE E ad' h' b = cE E ad h b) (he : e = cE E ad' h' (hN h)) : WL E ad h ++ [(q, e)] = WL E ad' h' := by
  subst he; subst hq
  simp only [WL, hn]
  rw [show hN h + 1 - 2 = (hN h - 2) + 1 by omega, List.range_succ, List.map_append]
  congr 1
  · apply List.map_congr_left
    intro i hi
    have : i < hN h - 2 := List.mem_range.mp hi
    rw [ha (i + 2) (by omega), ho (i + 2) (by omega)]
  · simp only [List.map_cons, List.map_nil]
    rw [show hN h - 2 + 2 = hN h by omega]
theorem fvl_get {ad : Nat → Nat} {h : Hp} {a : Nat} : ∀ {ks : List Nat} {i j kd : Nat}, ks[j]? = some kd → (fvl ad h a i ks)[j]? = some (fv ad h a (i + j) kd) := by
  intro ks
  induction ks with
  | nil => intro i j kd e; simp at e
  | cons k ks ih =>
    intro i j kd e
    cases j with
    | zero => simp only [List.getElem?_cons_zero, Option.some.injEq] at e; subst e; rfl
    | succ j =>
      simp only [List.getElem?_cons_succ] at e
      simp only [fvl, List.getElem?_cons_succ]
      rw [ih e, Nat.add_assoc, Nat.add_comm 1 j]
theorem fvl_len {ad : Nat → Nat} {h : Hp} {a : Nat} : ∀ {ks : List Nat} {i : Nat}, (fvl ad h a i ks).length = ks.length := by
  intro ks
  induction ks with
  | nil => intro i; rfl
  | cons k ks ih => intro i; simp [fvl, ih]
theorem fvl_set {ad : Nat → Nat} {h h' : Hp} {a : Nat} : ∀ {ks : List Nat} {i j kd : Nat}, ks[j]? = some kd → (∀ (x k : Nat), x ≠ i + j → fv ad h' a x k = fv ad h a x k) → (fvl ad h a i ks).set j (fv ad h' a (i + j) kd) = fvl ad h' a i ks := by
  intro ks
  induction ks with
  | nil => intro i j kd e; simp at e
  | cons k ks ih =>
    intro i j kd e ho
    cases j with
    | zero =>
      simp only [List.getElem?_cons_zero, Option.some.injEq] at e
      subst e
      simp only [fvl, List.set_cons_zero, Nat.add_zero]
      congr 1
      have : ∀ (l : List Nat) (x : Nat), i < x → fvl ad h a x l = fvl ad h' a x l := by
        intro l
        induction l with
        | nil => intro x _; rfl
        | cons b l ihl =>
          intro x hx
          simp only [fvl]
          rw [ho x b (by omega), ihl (x + 1) (by omega)]
      exact this ks (i + 1) (by omega)
    | succ j =>
      simp only [List.getElem?_cons_succ] at e
      simp only [fvl, List.set_cons_succ]
      rw [ho i k (by omega)]
      congr 1
      have := ih (i := i + 1) e (fun x k hx => ho x k (by omega))
      rw [show i + 1 + j = i + (j + 1) by omega] at this
      exact this
theorem fvl_congr {ad ad' : Nat → Nat} {h h' : Hp} {a : Nat} (ho : ∀ x k, fv ad' h' a x k = fv ad h a x k) : ∀ {ks : List Nat} {i : Nat}, fvl ad' h' a i ks = fvl ad h a i ks := by
  intro ks
  induction ks with
  | nil => intro i; rfl
  | cons k ks ih => intro i; simp only [fvl]; rw [ho, ih]
theorem cE_congr {E : XE} {ad ad' : Nat → Nat} {h h' : Hp} {a : Nat} (hT' : hT h' a = hT h a) (hL' : hL h' a = hL h a) (hI' : hI h' a = hI h a) (hR' : ∀ j, (hR h' a j).map ad' = (hR h a j).map ad) : cE E ad' h' a = cE E ad h a := by
  have h1 : fvl ad' h' a 0 (kdl (hT h' a)) = fvl ad h a 0 (kdl (hT h a)) := by
    rw [hT']
    apply fvl_congr
    intro x k
    unfold fv
    rw [hI', hR']
  unfold cE
  rw [h1, hT', hL', hI', funext hR']
