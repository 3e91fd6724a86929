/-! ===== MORE MAY BE SEEN ===== -/
def SubD (D D' : Nat → Nat → Bool) : Prop := ∀ a j, D a j = true → D' a j = true
set_option maxHeartbeats 4000000 in
theorem hop_sub {D D' : Nat → Nat → Bool} (s : SubD D D') {y c : Nat} {i : Instr} {st : List XV} {h : Hp} {r : List XV × Hp} (e : hop D y c i st h = some r) : hop D' y c i st h = some r := by
  cases i with
  | getfield k =>
    simp only [hop] at e ⊢
    cases hl : lkp fldL c k with
    | none => rw [hl] at e; cases e
    | some q =>
      obtain ⟨t, j, kd, f⟩ := q
      rw [hl] at e
      dsimp only at e ⊢
      split at e
      · split at e
        · rename_i c9
          rw [if_pos ⟨c9.1, c9.2.1, s _ _ c9.2.2⟩]; exact e
        · cases e
      · cases e
  | putfield k =>
    simp only [hop] at e ⊢
    cases hl : lkp fldL c k with
    | none => rw [hl] at e; cases e
    | some q =>
      obtain ⟨t, j, kd, f⟩ := q
      rw [hl] at e
      dsimp only at e ⊢
      split at e <;> first
        | (cases e; done)
        | (split at e
           · rename_i c9
             try dsimp only
             rw [if_pos ⟨c9.1, c9.2.1, s _ _ c9.2.2.1, c9.2.2.2⟩]; exact e
           · cases e)
  | new k => exact e
  | anewarray k => exact e
  | checkcast k => exact e
  | _ =>
    first
      | exact e
      | (simp only [hop] at e ⊢
         (repeat' split at e) <;> first
          | (cases e; done)
          | (rename_i c9
             try dsimp only
             refine (if_pos ?_).trans e
             first
               | exact ⟨c9.1, c9.2.1, c9.2.2.1, c9.2.2.2.1, s _ _ c9.2.2.2.2⟩
               | exact ⟨c9.1, c9.2.1, c9.2.2.1, c9.2.2.2.1, c9.2.2.2.2.1, s _ _ c9.2.2.2.2.2⟩
               | exact ⟨c9.1, c9.2.1, c9.2.2.1, c9.2.2.2.1, c9.2.2.2.2.1, s _ _ c9.2.2.2.2.2.1, c9.2.2.2.2.2.2⟩
               | exact ⟨c9.1, c9.2.1, c9.2.2.1, c9.2.2.2.1, c9.2.2.2.2.1, c9.2.2.2.2.2.1, s _ _ c9.2.2.2.2.2.2⟩
               | exact ⟨c9.1, c9.2.1, c9.2.2.1, c9.2.2.2.1, s _ _ c9.2.2.2.2.1, c9.2.2.2.2.2⟩))
theorem nat_sub {D D' : Nat → Nat → Bool} (s : SubD D D') {z : Nat} {as : List XV} {h : Hp} {r : Option XV × Hp} (e : nat D z as h = some r) : nat D' z as h = some r := by
  unfold nat at e ⊢
  split at e
  · split at e
    · rename_i c9
      rw [if_pos ⟨c9.1, c9.2.1, c9.2.2.1, c9.2.2.2.1, c9.2.2.2.2.1, c9.2.2.2.2.2.1, c9.2.2.2.2.2.2.1, c9.2.2.2.2.2.2.2.1, c9.2.2.2.2.2.2.2.2.1, fun j hj => ⟨s _ _ (c9.2.2.2.2.2.2.2.2.2 j hj).1, s _ _ (c9.2.2.2.2.2.2.2.2.2 j hj).2⟩⟩]; exact e
    · cases e
  · split at e
    · rename_i c9
      rw [if_pos ⟨c9.1, c9.2.1, c9.2.2.1, c9.2.2.2.1, c9.2.2.2.2.1, c9.2.2.2.2.2.1, fun j hj => ⟨s _ _ (c9.2.2.2.2.2.2 j hj).1, (c9.2.2.2.2.2.2 j hj).2⟩⟩]; exact e
    · cases e
  · exact e
  · exact e
  · exact e
  · exact e
theorem hop_inv {D : Nat → Nat → Bool} {y c : Nat} {i : Instr} {st : List XV} {h : Hp} : (match i with | .invokestatic _ => hop D y c i st h = none | .invokevirtual _ => hop D y c i st h = none | .invokespecial _ => hop D y c i st h = none | .return_ => hop D y c i st h = none | .ireturn => hop D y c i st h = none | .lreturn => hop D y c i st h = none | .areturn => hop D y c i st h = none | .new k => (hop D y c i st h = none ↔ lkp newL c k = none) | _ => True) := by
  cases i <;> first | trivial | rfl | (simp only [hop]; split <;> simp_all)
set_option maxHeartbeats 4000000 in
theorem stp_sub {D D' : Nat → Nat → Bool} (s : SubD D D') {y pc nx : Nat} {i : Instr} {ls : XL} {st : List XV} {h : Hp} {o : Out} (e : stp D y pc nx i ls st h = some o) : stp D' y pc nx i ls st h = some o := by
  unfold stp at e ⊢
  cases hs : sop (cls y) i st with
  | some st' => rw [hs] at e; exact e
  | none =>
    rw [hs] at e
    dsimp only at e ⊢
    cases hl : lop i ls st with
    | some q => rw [hl] at e; exact e
    | none =>
      rw [hl] at e
      dsimp only at e ⊢
      cases hj : jop pc nx i st with
      | some q => rw [hj] at e; exact e
      | none =>
        rw [hj] at e
        dsimp only at e ⊢
        cases hh : hop D y (cls y) i st h with
        | some q => rw [hh] at e; rw [hop_sub s hh]; exact e
        | none =>
          rw [hh] at e
          have w' := hop_inv (D := D') (y := y) (c := cls y) (i := i) (st := st) (h := h)
          have w := hop_inv (D := D) (y := y) (c := cls y) (i := i) (st := st) (h := h)
          cases i with
          | invokestatic k =>
            dsimp only at w'
            rw [w']
            dsimp only at e ⊢
            cases hm : lkp mthL (cls y) k with
            | none => rw [hm] at e; cases e
            | some z =>
              rw [hm] at e
              dsimp only at e ⊢
              cases hp : popN (mArg z) st with
              | none => rw [hp] at e; cases e
              | some q =>
                obtain ⟨as, r⟩ := q
                rw [hp] at e
                dsimp only at e ⊢
                split at e
                · cases e
                · rename_i c1
                  rw [if_neg c1]
                  split at e
                  · rename_i c2
                    rw [if_pos c2]
                    cases hn : nat D z as h with
                    | none => rw [hn] at e; cases e
                    | some v =>
                      rw [hn] at e
                      rw [nat_sub s hn]; exact e
                  · rename_i c2
                    rw [if_neg c2]; exact e
          | invokevirtual k => dsimp only at w'; rw [w']; exact e
          | invokespecial k => dsimp only at w'; rw [w']; exact e
          | return_ => dsimp only at w'; rw [w']; exact e
          | ireturn => dsimp only at w'; rw [w']; exact e
          | lreturn => dsimp only at w'; rw [w']; exact e
          | areturn => dsimp only at w'; rw [w']; exact e
          | new k => dsimp only at w w'; rw [w'.mpr (w.mp hh)]; exact e
          | _ => cases e
theorem exec_sub {D D' : Nat → Nat → Bool} (s : SubD D D') : ∀ {n d y pc : Nat} {ls : XL} {st : List XV} {h : Hp} {r : XO × Hp}, exec D n d y pc ls st h = some r → exec D' n d y pc ls st h = some r := by
  intro n
  induction n with
  | zero => intro d y pc ls st h r e; simp [exec] at e
  | succ n ih =>
    intro d y pc ls st h r e
    rw [exec] at e ⊢
    cases hd : cod y pc with
    | none => rw [hd] at e; cases e
    | some q =>
      obtain ⟨i, nx⟩ := q
      rw [hd] at e
      dsimp only at e ⊢
      cases hs : stp D y pc nx i ls st h with
      | none => rw [hs] at e; cases e
      | some w =>
        rw [hs] at e
        rw [stp_sub s hs]
        rcases w with ⟨pc1, ls1, st1, h1⟩ | ⟨x, h1⟩ | ⟨z, as, r9⟩
        · exact ih e
        · exact e
        · dsimp only at e ⊢
          cases d with
          | zero => cases e
          | succ d =>
            dsimp only at e ⊢
            split at e
            · rename_i c9
              rw [if_pos c9]
              cases hx : exec D n d z 0 (ent z as) [] h with
              | none => rw [hx] at e; cases e
              | some u =>
                obtain ⟨v, h3⟩ := u
                rw [hx] at e
                rw [ih hx]
                cases v with
                | inl v => exact ih e
                | inr x => exact e
            · cases e
theorem PV_sub {D D' : Nat → Nat → Bool} (s : SubD D D') {d z : Nat} {as : List XV} {h : Hp} {v : XV} (e : PV D d z as h v) : PV D' d z as h v := by
  obtain ⟨n, r, e1, e2⟩ := e
  exact ⟨n, r, exec_sub s e1, e2⟩
