/-! ===== WHAT IS NOT SEEN ===== -/
/-- the same in all that D shows -/
def Agr (D : Nat → Nat → Bool) (h g : Hp) : Prop := hN h = hN g ∧ hC h = hC g ∧ hS h = hS g ∧ hT h = hT g ∧ hL h = hL g ∧ ∀ a j, D a j = true → hI h a j = hI g a j ∧ hR h a j = hR g a j
/-- what D hides is as it was -/
def Kep (D : Nat → Nat → Bool) (h g : Hp) : Prop := ∀ a j, D a j = false → (a < hN h ∨ hN g ≤ a) → hI g a j = hI h a j ∧ hR g a j = hR h a j
theorem Agr_sI {D : Nat → Nat → Bool} {h g : Hp} (A : Agr D h g) (a k : Nat) (v : Int) : Agr D (sI h a k v) (sI g a k v) :=
  ⟨A.1, A.2.1, A.2.2.1, A.2.2.2.1, A.2.2.2.2.1, fun b j q => ⟨by show u2 (hI h) a k v b j = u2 (hI g) a k v b j; unfold u2; split; rfl; exact (A.2.2.2.2.2 b j q).1, (A.2.2.2.2.2 b j q).2⟩⟩
theorem Agr_sR {D : Nat → Nat → Bool} {h g : Hp} (A : Agr D h g) (a k : Nat) (v : Option Nat) : Agr D (sR h a k v) (sR g a k v) :=
  ⟨A.1, A.2.1, A.2.2.1, A.2.2.2.1, A.2.2.2.2.1, fun b j q => ⟨(A.2.2.2.2.2 b j q).1, by show u2 (hR h) a k v b j = u2 (hR g) a k v b j; unfold u2; split; rfl; exact (A.2.2.2.2.2 b j q).2⟩⟩
theorem Agr_alc {D : Nat → Nat → Bool} {h g : Hp} (A : Agr D h g) (t l s : Nat) : Agr D (alc h t l s) (alc g t l s) := by
  obtain ⟨a1, a2, a3, a4, a5, a6⟩ := A
  refine ⟨?_, ?_, ?_, ?_, ?_, fun b j q => ⟨?_, ?_⟩⟩
  · show hN h + 1 = hN g + 1; rw [a1]
  · show hC h + 1 = hC g + 1; rw [a2]
  · show hS h + s = hS g + s; rw [a3]
  · show u1 (hT h) (hN h) t = u1 (hT g) (hN g) t; rw [a1, a4]
  · show u1 (hL h) (hN h) l = u1 (hL g) (hN g) l; rw [a1, a5]
  · show ur (hI h) (hN h) (fun _ => 0) b j = ur (hI g) (hN g) (fun _ => 0) b j
    unfold ur; rw [a1]; split; rfl; exact (a6 b j q).1
  · show ur (hR h) (hN h) (fun _ => none) b j = ur (hR g) (hN g) (fun _ => none) b j
    unfold ur; rw [a1]; split; rfl; exact (a6 b j q).2
theorem Agr_tck {D : Nat → Nat → Bool} {h g : Hp} (A : Agr D h g) (c s : Nat) : Agr D (tck h c s) (tck g c s) :=
  by
  obtain ⟨a1, a2, a3, a4, a5, a6⟩ := A
  exact ⟨a1, by show hC h + c = hC g + c; rw [a2], by show hS h + s = hS g + s; rw [a3], a4, a5, a6⟩
theorem Kep_refl {D : Nat → Nat → Bool} {h : Hp} : Kep D h h := fun _ _ _ _ => ⟨rfl, rfl⟩
theorem Kep_sI {D : Nat → Nat → Bool} {h : Hp} {a k : Nat} {v : Int} (q : D a k = true) : Kep D h (sI h a k v) := by
  intro b j w _
  refine ⟨?_, rfl⟩
  show u2 (hI h) a k v b j = _
  unfold u2
  rw [if_neg]
  rintro ⟨rfl, rfl⟩
  rw [q] at w; cases w
theorem Kep_sR {D : Nat → Nat → Bool} {h : Hp} {a k : Nat} {v : Option Nat} (q : D a k = true) : Kep D h (sR h a k v) := by
  intro b j w _
  refine ⟨rfl, ?_⟩
  show u2 (hR h) a k v b j = _
  unfold u2
  rw [if_neg]
  rintro ⟨rfl, rfl⟩
  rw [q] at w; cases w
theorem Kep_alc {D : Nat → Nat → Bool} {h : Hp} {t l s : Nat} : Kep D h (alc h t l s) := fun b j _ w => by
  have hw : b ≠ hN h := by
    rcases w with w | w
    · omega
    · have : hN (alc h t l s) = hN h + 1 := rfl
      omega
  exact ⟨by show ur (hI h) (hN h) (fun _ => 0) b j = _; unfold ur; rw [if_neg hw], by show ur (hR h) (hN h) (fun _ => none) b j = _; unfold ur; rw [if_neg hw]⟩
theorem Kep_trans {D : Nat → Nat → Bool} {a b c : Hp} (h1 : Kep D a b) (h2 : Kep D b c) (hab : hN a ≤ hN b) (hbc : hN b ≤ hN c) : Kep D a c := fun x j q w => by
  have e2 := h2 x j q (by omega)
  have e1 := h1 x j q (by omega)
  exact ⟨e2.1.trans e1.1, e2.2.trans e1.2⟩
set_option maxHeartbeats 4000000 in
theorem hop_loc {D : Nat → Nat → Bool} {y c : Nat} {i : Instr} {st st' : List XV} {h h' g : Hp} (A : Agr D h g) (e : hop D y c i st h = some (st', h')) : ∃ g', hop D y c i st g = some (st', g') ∧ Agr D h' g' ∧ Kep D g g' := by
  obtain ⟨N, C, S, T, L, I, R⟩ := h
  obtain ⟨N', C', S', T', L', I', R'⟩ := g
  have A0 := A
  obtain ⟨rfl, rfl, rfl, rfl, rfl, a6⟩ : N = N' ∧ C = C' ∧ S = S' ∧ T = T' ∧ L = L' ∧ ∀ a j, D a j = true → I a j = I' a j ∧ R a j = R' a j := A0
  cases i with
  | getfield k =>
    simp only [hop] at e ⊢
    cases hl : lkp fldL c k with
    | none => rw [hl] at e; cases e
    | some q =>
      obtain ⟨t, j, kd, f⟩ := q
      rw [hl] at e
      dsimp only at e ⊢
      split at e
      · split at e
        · rename_i c9
          cases e
          refine ⟨_, (if_pos c9).trans ?_, A, Kep_refl⟩
          have w := a6 _ _ c9.2.2
          show some ((if kd = 3 then vR (R' _ j) else if kd = 2 then vL (I' _ j) else vI (I' _ j)) :: _, _) = _
          rw [← w.1, ← w.2]; rfl
        · cases e
      · cases e
  | putfield k =>
    simp only [hop] at e ⊢
    cases hl : lkp fldL c k with
    | none => rw [hl] at e; cases e
    | some q =>
      obtain ⟨t, j, kd, f⟩ := q
      rw [hl] at e
      dsimp only at e ⊢
      split at e <;> first
        | (cases e; done)
        | (split at e
           · rename_i c9
             cases e
             first
               | exact ⟨_, if_pos c9, Agr_sR A _ _ _, Kep_sR c9.2.2.1⟩
               | exact ⟨_, if_pos c9, Agr_sI A _ _ _, Kep_sI c9.2.2.1⟩
           · cases e)
  | new k =>
    simp only [hop] at e ⊢
    cases hl : lkp newL c k with
    | none => rw [hl] at e; cases e
    | some q =>
      rw [hl] at e
      cases e
      exact ⟨_, rfl, Agr_alc A _ _ _, Kep_alc⟩
  | anewarray k =>
    simp only [hop] at e ⊢
    cases hl : lkp anwL c k with
    | none => rw [hl] at e; cases e
    | some q =>
      rw [hl] at e
      dsimp only at e ⊢
      split at e
      · split at e
        · rename_i c9
          cases e
          exact ⟨_, if_pos c9, Agr_alc A _ _ _, Kep_alc⟩
        · cases e
      · cases e
  | checkcast k =>
    simp only [hop] at e ⊢
    cases hl : lkp cstT c k with
    | none => rw [hl] at e; cases e
    | some q =>
      rw [hl] at e
      dsimp only at e ⊢
      split at e
      · split at e
        · rename_i c9
          cases e
          exact ⟨_, if_pos c9, A, Kep_refl⟩
        · cases e
      · cases e
  | _ =>
    simp only [hop] at e ⊢
    first
      | (cases e; done)
      | ((repeat' split at e) <;> first
          | (cases e; done)
          | (rename_i c9
             cases e
             first
               | exact ⟨_, if_pos c9, A, Kep_refl⟩
               | exact ⟨_, if_pos c9, Agr_sI A _ _ _, Kep_sI (by first | exact c9.2.2.2.2.2 | exact c9.2.2.2.2.2.1)⟩
               | exact ⟨_, if_pos c9, Agr_sR A _ _ _, Kep_sR (by first | exact c9.2.2.2.2.2.2 | exact c9.2.2.2.2.1)⟩
               | exact ⟨_, if_pos c9, Agr_alc A _ _ _, Kep_alc⟩
               | (refine ⟨_, (if_pos c9).trans ?_, A, Kep_refl⟩
                  have w := a6 _ _ c9.2.2.2.2
                  simp only [hI, w.1])
               | (refine ⟨_, (if_pos c9).trans ?_, A, Kep_refl⟩
                  have w := a6 _ _ c9.2.2.2.2.2
                  simp only [hR, w.2])))
theorem Agr_symm {D : Nat → Nat → Bool} {h g : Hp} (A : Agr D h g) : Agr D g h :=
  ⟨A.1.symm, A.2.1.symm, A.2.2.1.symm, A.2.2.2.1.symm, A.2.2.2.2.1.symm, fun a j q => ⟨(A.2.2.2.2.2 a j q).1.symm, (A.2.2.2.2.2 a j q).2.symm⟩⟩
theorem Agr_refl {D : Nat → Nat → Bool} {h : Hp} : Agr D h h := ⟨rfl, rfl, rfl, rfl, rfl, fun _ _ _ => ⟨rfl, rfl⟩⟩
theorem Kep_sIr {D : Nat → Nat → Bool} {h : Hp} {a : Nat} {f : Nat → Int} (q : ∀ j, D a j = false → f j = hI h a j) : Kep D h (sIr h a f) := by
  intro b j w _
  refine ⟨?_, rfl⟩
  show ur (hI h) a f b j = _
  unfold ur
  split
  · rename_i r; subst r; exact q j w
  · rfl
theorem nat_loc {D : Nat → Nat → Bool} {z : Nat} {as : List XV} {v : Option XV} {h h' g : Hp} (A : Agr D h g) (e : nat D z as h = some (v, h')) : ∃ g', nat D z as g = some (v, g') ∧ Agr D h' g' ∧ Kep D g g' := by
  obtain ⟨N, C, S, T, L, I, R⟩ := h
  obtain ⟨N', C', S', T', L', I', R'⟩ := g
  have A0 := A
  obtain ⟨rfl, rfl, rfl, rfl, rfl, a6⟩ : N = N' ∧ C = C' ∧ S = S' ∧ T = T' ∧ L = L' ∧ ∀ a j, D a j = true → I a j = I' a j ∧ R a j = R' a j := A0
  unfold nat at e ⊢
  split at e
  · split at e
    · rename_i a b n c9
      cases e
      refine ⟨_, if_pos c9, ⟨rfl, rfl, rfl, rfl, rfl, fun x j q => ⟨?_, (a6 x j q).2⟩⟩, Kep_sIr ?_⟩
      · show ur I b (fun j => if j < n.toNat then I a j else I b j) x j = ur I' b (fun j => if j < n.toNat then I' a j else I' b j) x j
        unfold ur
        split
        · rename_i r; subst r
          show (if j < n.toNat then I a j else I x j) = (if j < n.toNat then I' a j else I' x j)
          split
          · rename_i hj; exact (a6 a j (c9.2.2.2.2.2.2.2.2.2 j hj).1).1
          · exact (a6 x j q).1
        · exact (a6 x j q).1
      · intro j q
        show (if j < n.toNat then I' a j else I' b j) = I' b j
        rw [if_neg]
        intro hj
        have := (c9.2.2.2.2.2.2.2.2.2 j hj).2
        rw [q] at this; cases this
    · cases e
  · split at e
    · rename_i a n c9
      cases e
      have e9 : ∀ j, j < L a → D a j = true ∧ elB (N, C, S, T, L, I', R') a j = true := fun j hj => by
        have w := c9.2.2.2.2.2.2 j hj
        refine ⟨w.1, ?_⟩
        have w2 := w.2
        unfold elB at w2 ⊢
        show (match R' a j with | none => true | some b => decide (T b < 13)) = true
        rw [← (a6 a j w.1).2]; exact w2
      refine ⟨_, if_pos ⟨c9.1, c9.2.1, c9.2.2.1, c9.2.2.2.1, c9.2.2.2.2.1, c9.2.2.2.2.2.1, e9⟩, ⟨rfl, rfl, rfl, rfl, rfl, fun x j q => ⟨?_, ?_⟩⟩, ?_⟩
      · exact ((Agr_alc A 103 n.toNat n.toNat).2.2.2.2.2 x j q).1
      · show ur (hR (alc (N, C, S, T, L, I, R) 103 n.toNat n.toNat)) N (fun j => if j < L a then R a j else none) x j = ur (hR (alc (N, C, S, T, L, I', R') 103 n.toNat n.toNat)) N (fun j => if j < L a then R' a j else none) x j
        unfold ur
        split
        · show (if j < L a then R a j else none) = (if j < L a then R' a j else none)
          split
          · rename_i hj; exact (a6 a j (e9 j hj).1).2
          · rfl
        · exact ((Agr_alc A 103 n.toNat n.toNat).2.2.2.2.2 x j q).2
      · intro b j q w
        have w1 := Kep_alc (D := D) (h := (N, C, S, T, L, I', R')) (t := 103) (l := n.toNat) (s := n.toNat) b j q w
        refine ⟨w1.1, ?_⟩
        have hb : b ≠ N := by
          rcases w with w | w
          · exact Nat.ne_of_lt w
          · intro r; subst r; exact absurd w (Nat.not_succ_le_self _)
        show ur (hR (alc (N, C, S, T, L, I', R') 103 n.toNat n.toNat)) N (fun j => if j < L a then R' a j else none) b j = _
        unfold ur
        rw [if_neg hb]; exact w1.2
    · cases e
  · split at e
    · rename_i c9; cases e; exact ⟨_, if_pos c9, A, Kep_refl⟩
    · cases e
  · split at e
    · rename_i c9; cases e; exact ⟨_, if_pos c9, A, Kep_refl⟩
    · cases e
  · split at e
    · rename_i c9; cases e; exact ⟨_, if_pos c9, A, Kep_refl⟩
    · cases e
  · cases e
def OAgr (D : Nat → Nat → Bool) (g : Hp) (o o' : Out) : Prop := match o, o' with
  | .inl (pc, ls, st, h1), .inl (pc', ls', st', g1) => pc = pc' ∧ ls = ls' ∧ st = st' ∧ Agr D h1 g1 ∧ Kep D g g1
  | .inr (.inl (x, h1)), .inr (.inl (x', g1)) => x = x' ∧ Agr D h1 g1 ∧ Kep D g g1
  | .inr (.inr q), .inr (.inr q') => q = q'
  | _, _ => False
set_option maxHeartbeats 4000000 in
theorem stp_loc {D : Nat → Nat → Bool} {y pc nx : Nat} {i : Instr} {ls : XL} {st : List XV} {h g : Hp} {o : Out} (A : Agr D h g) (e : stp D y pc nx i ls st h = some o) : ∃ o', stp D y pc nx i ls st g = some o' ∧ OAgr D g o o' := by
  unfold stp at e ⊢
  cases hs : sop (cls y) i st with
  | some st' => rw [hs] at e; cases e; exact ⟨_, rfl, rfl, rfl, rfl, A, Kep_refl⟩
  | none =>
    rw [hs] at e
    dsimp only at e ⊢
    cases hl : lop i ls st with
    | some q => rw [hl] at e; obtain ⟨ls', st'⟩ := q; cases e; exact ⟨_, rfl, rfl, rfl, rfl, A, Kep_refl⟩
    | none =>
      rw [hl] at e
      dsimp only at e ⊢
      cases hj : jop pc nx i st with
      | some q => rw [hj] at e; obtain ⟨t, st'⟩ := q; cases e; exact ⟨_, rfl, rfl, rfl, rfl, A, Kep_refl⟩
      | none =>
        rw [hj] at e
        dsimp only at e ⊢
        cases hh : hop D y (cls y) i st h with
        | some q =>
          rw [hh] at e; obtain ⟨st', h'⟩ := q; cases e
          obtain ⟨g', q1, q2, q3⟩ := hop_loc A hh
          rw [q1]
          exact ⟨_, rfl, rfl, rfl, rfl, q2, q3⟩
        | none =>
          rw [hh] at e
          have hg : hop D y (cls y) i st g = none := by
            cases w : hop D y (cls y) i st g with
            | none => rfl
            | some q =>
              obtain ⟨st', h'⟩ := q
              obtain ⟨g', q1, -⟩ := hop_loc (Agr_symm A) w
              rw [hh] at q1; cases q1
          rw [hg]
          dsimp only at e ⊢
          obtain ⟨a1, a2, a3, a4, a5, a6⟩ := id A
          cases i with
          | invokestatic k =>
            dsimp only at e ⊢
            cases hm : lkp mthL (cls y) k with
            | none => rw [hm] at e; cases e
            | some z =>
              rw [hm] at e
              dsimp only at e ⊢
              cases hp : popN (mArg z) st with
              | none => rw [hp] at e; cases e
              | some q =>
                obtain ⟨as, r⟩ := q
                rw [hp] at e
                dsimp only at e ⊢
                split at e
                · cases e
                · rename_i c1
                  rw [if_neg c1]
                  split at e
                  · rename_i c2
                    rw [if_pos c2]
                    cases hn : nat D z as h with
                    | none => rw [hn] at e; cases e
                    | some w =>
                      obtain ⟨v, h'⟩ := w
                      rw [hn] at e
                      cases e
                      obtain ⟨g', q1, q2, q3⟩ := nat_loc A hn
                      rw [q1]
                      exact ⟨_, rfl, rfl, rfl, rfl, q2, q3⟩
                  · rename_i c2
                    rw [if_neg c2]
                    split at e
                    · rename_i c3; cases e; rw [if_pos c3]; exact ⟨_, rfl, rfl⟩
                    · cases e
          | invokevirtual k =>
            dsimp only at e ⊢
            rw [← a1, ← a4]
            refine ⟨o, e, ?_⟩
            (repeat' split at e) <;> first | (cases e; done) | (cases e; rfl)
          | invokespecial k =>
            dsimp only at e ⊢
            rw [← a1]
            cases hm : lkp mthL (cls y) k with
            | none => rw [hm] at e; cases e
            | some z =>
              rw [hm] at e
              dsimp only at e ⊢
              generalize popN (mArg z) st = pq at e ⊢
              rcases pq with _ | ⟨_ | ⟨v, as⟩, r⟩
              · cases e
              · cases e
              · rcases v with x | x | _ | a
                · cases e
                · cases e
                · cases e
                · dsimp only at e ⊢
                  by_cases c1 : 8 < szS r
                  · rw [if_pos c1] at e; cases e
                  · rw [if_neg c1] at e ⊢
                    by_cases c2 : z = 901
                    · rw [if_pos c2] at e ⊢
                      by_cases c3 : as = []
                      · rw [if_pos c3] at e ⊢; cases e; exact ⟨_, rfl, rfl, rfl, rfl, A, Kep_refl⟩
                      · rw [if_neg c3] at e; cases e
                    · rw [if_neg c2] at e ⊢
                      by_cases c3 : mKnd z = 2 ∧ a < hN h ∧ 2 ≤ a
                      · rw [if_pos c3] at e ⊢; cases e; exact ⟨_, rfl, rfl⟩
                      · rw [if_neg c3] at e; cases e
          | _ =>
            dsimp only at e ⊢
            (repeat' split at e) <;> first
              | (cases e; done)
              | (cases e
                 first
                   | exact ⟨_, rfl, rfl, A, Kep_refl⟩
                   | exact ⟨_, if_pos (by assumption), rfl, A, Kep_refl⟩
                   | (simp only [*]; exact ⟨_, if_pos trivial, rfl, Agr_tck A _ _, Kep_refl⟩))
theorem exec_loc {D : Nat → Nat → Bool} : ∀ {n d y pc : Nat} {ls : XL} {st : List XV} {h g : Hp} {o : XO} {h2 : Hp}, Agr D h g → exec D n d y pc ls st h = some (o, h2) → ∃ g2, exec D n d y pc ls st g = some (o, g2) ∧ Agr D h2 g2 ∧ Kep D g g2 ∧ leH g g2 := by
  intro n
  induction n with
  | zero => intro d y pc ls st h g o h2 A e; simp [exec] at e
  | succ n ih =>
    intro d y pc ls st h g o h2 A e
    rw [exec] at e ⊢
    cases hd : cod y pc with
    | none => rw [hd] at e; cases e
    | some q =>
      obtain ⟨i, nx⟩ := q
      rw [hd] at e
      dsimp only at e ⊢
      cases hs : stp D y pc nx i ls st h with
      | none => rw [hs] at e; cases e
      | some w =>
        rw [hs] at e
        obtain ⟨w', q1, q2⟩ := stp_loc A hs
        rw [q1]
        rcases w with ⟨pc1, ls1, st1, h1⟩ | ⟨x, h1⟩ | ⟨z, as, r⟩
        · rcases w' with ⟨pc2, ls2, st2, g1⟩ | ⟨x2, g1⟩ | ⟨z2, as2, r2⟩
          · obtain ⟨rfl, rfl, rfl, B, K⟩ := q2
            dsimp only at e ⊢
            obtain ⟨g2, e1, e2, e3, e4⟩ := ih B e
            have l1 := stp_le q1
            exact ⟨g2, e1, e2, Kep_trans K e3 l1.1 e4.1, l1.trans e4⟩
          · exact q2.elim
          · exact q2.elim
        · rcases w' with ⟨pc2, ls2, st2, g1⟩ | ⟨x2, g1⟩ | ⟨z2, as2, r2⟩
          · exact q2.elim
          · obtain ⟨rfl, B, K⟩ := q2
            dsimp only at e ⊢
            cases e
            exact ⟨_, rfl, B, K, stp_fle q1⟩
          · exact q2.elim
        · rcases w' with ⟨pc2, ls2, st2, g1⟩ | ⟨x2, g1⟩ | ⟨z2, as2, r2⟩
          · exact q2.elim
          · exact q2.elim
          · cases q2
            dsimp only at e ⊢
            cases d with
            | zero => cases e
            | succ d =>
              dsimp only at e ⊢
              split at e
              · rename_i c9
                rw [if_pos c9]
                cases hx : exec D n d z 0 (ent z as) [] h with
                | none => rw [hx] at e; cases e
                | some u =>
                  obtain ⟨v, h3⟩ := u
                  rw [hx] at e
                  obtain ⟨g3, e1, e2, e3, e4⟩ := ih A hx
                  rw [e1]
                  cases v with
                  | inl v =>
                    dsimp only at e ⊢
                    obtain ⟨g2, f1, f2, f3, f4⟩ := ih e2 e
                    exact ⟨g2, f1, f2, Kep_trans e3 f3 e4.1 f4.1, e4.trans f4⟩
                  | inr x =>
                    dsimp only at e ⊢
                    split at e
                    · rename_i c8; cases e; rw [if_pos c8]; exact ⟨_, rfl, e2, e3, e4⟩
                    · rename_i c8; cases e; rw [if_neg c8]; exact ⟨_, rfl, e2, e3, e4⟩
              · cases e
/-- what is asked of what D shows is the same wherever that is the same -/
theorem PV_loc {D : Nat → Nat → Bool} {d z : Nat} {as : List XV} {h g : Hp} {v : XV} (A : Agr D h g) (e : PV D d z as h v) : PV D d z as g v := by
  obtain ⟨n, r, e1, rfl⟩ := e
  obtain ⟨g2, f1, f2, f3, f4⟩ := exec_loc A e1
  refine ⟨n, _, f1, ?_⟩
  obtain ⟨N, C, S, T, L, I, R⟩ := h
  obtain ⟨N1, C1, S1, T1, L1, I1, R1⟩ := g
  obtain ⟨N2, C2, S2, T2, L2, I2, R2⟩ := g2
  obtain ⟨rfl, rfl, rfl, rfl, rfl, a6⟩ : N = N1 ∧ C = C1 ∧ S = S1 ∧ T = T1 ∧ L = L1 ∧ ∀ a j, D a j = true → I a j = I1 a j ∧ R a j = R1 a j := A
  obtain ⟨rfl, rfl, rfl, rfl, rfl, b6⟩ : N = N2 ∧ C = C2 ∧ S = S2 ∧ T = T2 ∧ L = L2 ∧ ∀ a j, D a j = true → I a j = I2 a j ∧ R a j = R2 a j := f2
  have hI : I2 = I1 := by
    funext a j
    cases q : D a j with
    | true => rw [← (a6 a j q).1, (b6 a j q).1]
    | false => exact (f3 a j q (Nat.lt_or_ge a N)).1
  have hR : R2 = R1 := by
    funext a j
    cases q : D a j with
    | true => rw [← (a6 a j q).2, (b6 a j q).2]
    | false => exact (f3 a j q (Nat.lt_or_ge a N)).2
  rw [hI, hR]
