/-! ===== references stay within the cells; nothing shrinks ===== -/
theorem clS_nil {n : Nat} : clS n [] := fun _ h => absurd h List.not_mem_nil
set_option maxHeartbeats 4000000 in
theorem sop_cl {n c : Nat} {i : Instr} {st st' : List XV} (hc : clS n st) (hs : sop c i st = some st') : clS n st' := by
  cases i <;> simp only [sop] at hs <;> first
    | (cases hs; done)
    | (cases hs; exact clS_cons.mpr ⟨trivial, hc⟩)
    | (split at hs <;> first
        | (cases hs; done)
        | (cases hs; exact clS_cons.mpr ⟨trivial, hc⟩)
        | (cases hs; exact clS_cons.mpr ⟨trivial, (clS_cons.mp (clS_cons.mp hc).2).2⟩)
        | (cases hs; exact clS_cons.mpr ⟨trivial, (clS_cons.mp hc).2⟩)
        | (split at hs <;> first
            | (cases hs; done)
            | (cases hs; exact clS_cons.mpr ⟨trivial, (clS_cons.mp (clS_cons.mp hc).2).2⟩)
            | (cases hs; exact clS_cons.mpr ⟨(clS_cons.mp hc).1, hc⟩)
            | (cases hs; exact (clS_cons.mp hc).2)
            | (cases hs; have h1 := clS_cons.mp hc; have h2 := clS_cons.mp h1.2; exact clS_cons.mpr ⟨h1.1, clS_cons.mpr ⟨h2.1, clS_cons.mpr ⟨h1.1, h2.2⟩⟩⟩)
            | (cases hs; have h1 := clS_cons.mp hc; have h2 := clS_cons.mp h1.2; exact clS_cons.mpr ⟨h1.1, clS_cons.mpr ⟨h2.1, hc⟩⟩)))
set_option maxHeartbeats 4000000 in
theorem lop_cl {n : Nat} {i : Instr} {ls ls' : XL} {st st' : List XV} (hl : clL n ls) (hc : clS n st) (hs : lop i ls st = some (ls', st')) : clL n ls' ∧ clS n st' := by
  have ldr : ∀ k x, ln ls k = some (some (.inr (.inr x))) → clV n (vR x) := fun k x e => hl k _ e
  have st1c : ∀ (k : Nat) (v : XV) (r : List XV), clV n v → clS n r → (st1 ls k v).map (fun l => (l, r)) = some (ls', st') → clL n ls' ∧ clS n st' := by
    intro k v r hv hr e
    cases hm : st1 ls k v with
    | none => rw [hm] at e; cases e
    | some l2 =>
      rw [hm] at e
      simp only [Option.map_some, Option.some.injEq, Prod.mk.injEq] at e
      obtain ⟨rfl, rfl⟩ := e
      exact ⟨clL_st1 hl hv hm, hr⟩
  have st2c : ∀ (k : Nat) (v : XV) (r : List XV), clV n v → clS n r → (st2 ls k v).map (fun l => (l, r)) = some (ls', st') → clL n ls' ∧ clS n st' := by
    intro k v r hv hr e
    cases hm : st2 ls k v with
    | none => rw [hm] at e; cases e
    | some l2 =>
      rw [hm] at e
      simp only [Option.map_some, Option.some.injEq, Prod.mk.injEq] at e
      obtain ⟨rfl, rfl⟩ := e
      exact ⟨clL_st2 hl hv hm, hr⟩
  cases i <;> simp only [lop] at hs <;> first
    | (cases hs; done)
    | (split at hs <;> first
        | (cases hs; done)
        | (cases hs; exact ⟨hl, clS_cons.mpr ⟨trivial, hc⟩⟩)
        | (rename_i q; cases hs; exact ⟨hl, clS_cons.mpr ⟨ldr _ _ q, hc⟩⟩)
        | (refine st1c _ _ _ ?_ ?_ hs <;> first | exact True.intro | exact (clS_cons.mp hc).1 | exact (clS_cons.mp hc).2 | exact hc)
        | (refine st2c _ _ _ ?_ ?_ hs <;> first | exact True.intro | exact (clS_cons.mp hc).1 | exact (clS_cons.mp hc).2 | exact hc))
set_option maxHeartbeats 4000000 in
theorem jop_cl {n pc nx t : Nat} {i : Instr} {st st' : List XV} (hc : clS n st) (hs : jop pc nx i st = some (t, st')) : clS n st' := by
  cases i with
  | goto o =>
    simp only [jop] at hs
    split at hs
    · cases hs; exact hc
    · cases hs
  | ifCond c o =>
    simp only [jop] at hs
    split at hs
    · split at hs
      · simp only [Option.some.injEq, Prod.mk.injEq] at hs
        obtain ⟨-, rfl⟩ := hs
        exact (clS_cons.mp hc).2
      · cases hs
    · cases hs
  | if_icmp c o =>
    simp only [jop] at hs
    split at hs
    · split at hs
      · simp only [Option.some.injEq, Prod.mk.injEq] at hs
        obtain ⟨-, rfl⟩ := hs
        exact (clS_cons.mp (clS_cons.mp hc).2).2
      · cases hs
    · cases hs
  | if_acmp c o =>
    simp only [jop] at hs
    split at hs
    · simp only [Option.some.injEq, Prod.mk.injEq] at hs
      obtain ⟨-, rfl⟩ := hs
      exact (clS_cons.mp (clS_cons.mp hc).2).2
    · cases hs
  | tableswitch df lo hi os =>
    simp only [jop] at hs
    split at hs
    · split at hs
      · split at hs
        · split at hs
          · split at hs
            · cases hs; exact (clS_cons.mp hc).2
            · cases hs
          · cases hs
        · split at hs
          · cases hs; exact (clS_cons.mp hc).2
          · cases hs
      · cases hs
    · cases hs
  | _ => cases hs
/-- later cells: no fewer, none lost -/
def leH (h h' : Hp) : Prop := hN h ≤ hN h' ∧ hC h ≤ hC h' ∧ hS h ≤ hS h'
theorem leH.rfl {h : Hp} : leH h h := ⟨Nat.le_refl _, Nat.le_refl _, Nat.le_refl _⟩
theorem leH.trans {a b c : Hp} (h : leH a b) (k : leH b c) : leH a c := ⟨Nat.le_trans h.1 k.1, Nat.le_trans h.2.1 k.2.1, Nat.le_trans h.2.2 k.2.2⟩
theorem leH_alc {h : Hp} {t len sl : Nat} : leH h (alc h t len sl) := ⟨Nat.le_succ _, Nat.le_succ _, Nat.le_add_right _ _⟩
set_option maxHeartbeats 8000000 in
theorem hop_cl {E : XE} {D : Nat → Nat → Bool} {y c : Nat} {i : Instr} {st st' : List XV} {h h' : Hp} (hO : okH E h) (hc : clS (hN h) st) (hs : hop D y c i st h = some (st', h')) : leH h h' ∧ clS (hN h') st' := by
  obtain ⟨o1, o2, -⟩ := id hO
  have al : ∀ (t len sl : Nat) (r : List XV), clS (hN h) r → leH h (alc h t len sl) ∧ clS (hN (alc h t len sl)) (vR (some (hN h)) :: r) := fun t len sl r hr => ⟨leH_alc, clS_cons.mpr ⟨Nat.lt_succ_self _, clS_mono (Nat.le_succ _) hr⟩⟩
  have okr : ∀ a j, a < hN h → clV (hN h) (vR (hR h a j)) := fun a j ha => by
    cases hr : hR h a j with
    | none => trivial
    | some b => exact o2 a j b ha hr
  cases i <;> simp only [hop] at hs <;> first
    | (cases hs; done)
    | skip
  case getfield k =>
    split at hs
    · split at hs
      · split at hs
        · rename_i hq
          simp only [Option.some.injEq, Prod.mk.injEq] at hs
          obtain ⟨rfl, rfl⟩ := hs
          refine ⟨leH.rfl, clS_cons.mpr ⟨?_, (clS_cons.mp hc).2⟩⟩
          split
          · exact okr _ _ hq.1
          · split <;> trivial
        · cases hs
      · cases hs
    · cases hs
  case putfield k =>
    split at hs
    · split at hs <;> first
        | (cases hs; done)
        | (split at hs
           · cases hs; exact ⟨leH.rfl, (clS_cons.mp (clS_cons.mp hc).2).2⟩
           · cases hs)
    · cases hs
  case getstatic k =>
    split at hs
    · cases hs; exact ⟨leH.rfl, clS_cons.mpr ⟨by show 0 < hN h; omega, hc⟩⟩
    · cases hs
  case aaload =>
    split at hs
    · split at hs
      · rename_i x a r hq
        simp only [Option.some.injEq, Prod.mk.injEq] at hs
        obtain ⟨rfl, rfl⟩ := hs
        refine ⟨leH.rfl, clS_cons.mpr ⟨?_, (clS_cons.mp (clS_cons.mp hc).2).2⟩⟩
        cases hr : hR h a x.toNat with
        | none => trivial
        | some b => exact o2 a _ b hq.1 hr
      · cases hs
    · cases hs
  case new k =>
    split at hs
    · cases hs; exact al _ _ _ _ hc
    · cases hs
  case newarray t =>
    split at hs
    · split at hs
      · cases hs; exact al _ _ _ _ (clS_cons.mp hc).2
      · cases hs
    · cases hs
  case anewarray k =>
    split at hs
    · split at hs
      · split at hs
        · cases hs; exact al _ _ _ _ (clS_cons.mp hc).2
        · cases hs
      · cases hs
    · cases hs
  case checkcast k =>
    split at hs
    · split at hs
      · split at hs
        · cases hs; exact ⟨leH.rfl, hc⟩
        · cases hs
      · cases hs
    · cases hs
  case arraylength =>
    split at hs
    · split at hs
      · cases hs; exact ⟨leH.rfl, clS_cons.mpr ⟨trivial, (clS_cons.mp hc).2⟩⟩
      · cases hs
    · cases hs
  all_goals
    split at hs <;> first
      | (cases hs; done)
      | (split at hs
         · cases hs; first
            | exact ⟨leH.rfl, clS_cons.mpr ⟨trivial, (clS_cons.mp (clS_cons.mp hc).2).2⟩⟩
            | exact ⟨leH.rfl, (clS_cons.mp (clS_cons.mp (clS_cons.mp hc).2).2).2⟩
         · cases hs)
theorem popN_cl {n k : Nat} {st as r : List XV} (hc : clS n st) (h : popN k st = some (as, r)) : clS n as ∧ clS n r ∧ st = as.reverse ++ r ∧ as.length = k := by
  unfold popN at h
  split at h
  · rename_i hk
    cases h
    refine ⟨fun v hv => hc v (List.mem_of_mem_take (List.mem_reverse.mp hv)), fun v hv => hc v (List.mem_of_mem_drop hv), ?_, ?_⟩
    · rw [List.reverse_reverse, List.take_append_drop]
    · simp; omega
  · cases h
theorem nat_cl {E : XE} {D : Nat → Nat → Bool} {z : Nat} {as : List XV} {v : Option XV} {h h' : Hp} (hO : okH E h) (hs : nat D z as h = some (v, h')) : leH h h' ∧ (∀ w, v = some w → clV (hN h') w) := by
  unfold nat at hs
  split at hs <;> first
    | (cases hs; done)
    | (split at hs
       · simp only [Option.some.injEq, Prod.mk.injEq] at hs
         obtain ⟨rfl, rfl⟩ := hs
         first
          | (refine ⟨leH.rfl, ?_⟩; intro w hw; cases hw; done)
          | (refine ⟨leH.rfl, ?_⟩; intro w hw; cases hw; exact True.intro)
          | (refine ⟨⟨Nat.le_refl _, Nat.le_refl _, Nat.le_refl _⟩, ?_⟩; intro w hw; cases hw; done)
          | (refine ⟨⟨Nat.le_succ _, Nat.le_succ _, Nat.le_add_right _ _⟩, ?_⟩; intro w hw; cases hw; exact Nat.lt_succ_self _)
       · cases hs)
theorem szS_eq {ad : Nat → Nat} {st : List XV} : ((st.map (cv ad)).map fun v => v.category).sum = szS st := by
  unfold szS
  rw [List.map_map]
  congr 1
  apply List.map_congr_left
  intro v _
  exact cv_cat ad v
