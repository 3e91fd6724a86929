/-! ===== WRITING: rules, rows filled ===== -/
section XW
variable {D : Nat → Nat → Bool} {d y pc : Nat} {ls : XL} {st : List XV} {h' : Hp} {Q : XO × Hp → Prop}
theorem x_wr (P : Hp → Prop) (p : P h') (k : ∀ g, P g → wp D d y pc ls st g Q) : wp D d y pc ls st h' Q := k _ p
theorem x_wrR {r : Nat} (P : Hp → Nat → Prop) (p : P h' r) (k : ∀ g r, P g r → wp D d y pc ls (vR (some r) :: st) g Q) : wp D d y pc ls (vR (some r) :: st) h' Q := k _ _ p
end XW
theorem PU_of {D : Nat → Nat → Bool} {d z : Nat} {as : List XV} {h : Hp} {R : Hp → Prop} (k : ∀ Q : XO × Hp → Prop, (∀ g, R g → Q (.inl none, g)) → wp D d z 0 (ent z as) [] h Q) : PU D d z as h R := k _ (fun _ r => ⟨rfl, r⟩)
theorem PW_of {D : Nat → Nat → Bool} {d z : Nat} {as : List XV} {h : Hp} {R : Int → Hp → Prop} (k : ∀ Q : XO × Hp → Prop, (∀ v g, R v g → Q (.inl (some (vI v)), g)) → wp D d z 0 (ent z as) [] h Q) : PW D d z as h (fun w g => ∃ v : Int, w = vI v ∧ R v g) := k _ (fun v _ r => ⟨_, rfl, v, rfl, r⟩)
theorem PWL_of {D : Nat → Nat → Bool} {d z : Nat} {as : List XV} {h : Hp} {R : Int → Hp → Prop} (k : ∀ Q : XO × Hp → Prop, (∀ v g, R v g → Q (.inl (some (vL v)), g)) → wp D d z 0 (ent z as) [] h Q) : PW D d z as h (fun w g => ∃ v : Int, w = vL v ∧ R v g) := k _ (fun v _ r => ⟨_, rfl, v, rfl, r⟩)
theorem PU_mono {D : Nat → Nat → Bool} {d z : Nat} {as : List XV} {h : Hp} {R R' : Hp → Prop} (q : PU D d z as h R) (i : ∀ g, R g → R' g) : PU D d z as h R' := wp_mono q (fun r k => ⟨k.1, i _ k.2⟩)
theorem Hp_ext {N C S N2 C2 S2 : Nat} {T L T2 L2 : Nat → Nat} {I I2 : Nat → Nat → Int} {R R2 : Nat → Nat → Option Nat} (a : N = N2) (b : C = C2) (c : S = S2) (e : T = T2) (f : L = L2) (i : ∀ x j, I x j = I2 x j) (r : ∀ x j, R x j = R2 x j) : ((N, C, S, T, L, I, R) : Hp) = (N2, C2, S2, T2, L2, I2, R2) := by
  subst a b c e f
  rw [show I = I2 from funext fun x => funext fun j => i x j, show R = R2 from funext fun x => funext fun j => r x j]
/-- the first n of a row made v -/
def fil (h : Hp) (a n : Nat) (v : Int) : Hp := sIr h a (fun j => if j < n then v else hI h a j)
theorem fil_0 {h : Hp} {a : Nat} {v : Int} : fil h a 0 v = h := by
  obtain ⟨N, C, S, T, L, I, R⟩ := h
  refine Hp_ext rfl rfl rfl rfl rfl (fun x j => ?_) (fun x j => rfl)
  show ur I a _ x j = I x j
  unfold ur
  split
  · rename_i q; subst q; rfl
  · rfl
theorem fil_s {h : Hp} {a n : Nat} {v : Int} : sI (fil h a n v) a n v = fil h a (n + 1) v := by
  obtain ⟨N, C, S, T, L, I, R⟩ := h
  refine Hp_ext rfl rfl rfl rfl rfl (fun x j => ?_) (fun x j => rfl)
  show u2 (ur I a (fun j => if j < n then v else I a j)) a n v x j = ur I a (fun j => if j < n + 1 then v else I a j) x j
  unfold u2 ur
  by_cases q : x = a
  · rw [if_pos q]
    by_cases w : j = n
    · rw [if_pos ⟨q, w⟩, if_pos q]
      dsimp only
      rw [if_pos (show j < n + 1 by omega)]
    · rw [if_neg (fun e => w e.2), if_pos q]
      dsimp only
      by_cases u : j < n
      · rw [if_pos u, if_pos (show j < n + 1 by omega)]
      · rw [if_neg u, if_neg (show ¬ j < n + 1 by omega)]
  · rw [if_neg (fun e => q e.1), if_neg q, if_neg q]
theorem fil_I {h : Hp} {a n b j : Nat} {v : Int} : hI (fil h a n v) b j = if b = a ∧ j < n then v else hI h b j := by
  show ur (hI h) a (fun j => if j < n then v else hI h a j) b j = _
  unfold ur
  by_cases q : b = a
  · subst q
    rw [if_pos rfl]
    dsimp only
    by_cases w : j < n
    · rw [if_pos w, if_pos ⟨rfl, w⟩]
    · rw [if_neg w, if_neg (fun e => w e.2)]
  · rw [if_neg q, if_neg (fun e => q e.1)]
theorem C181 {d : Nat} {h : Hp} {a : Nat} {x : Int} (h2 : 2 ≤ a) (o : Ob h a 100) (hl : hL h a < 60000) : PU DA (d + 0) 181 [vR (some a), vI x] h (fun g => g = fil h a (hL h a) x) := by
  refine PU_of (fun Q hQ => ?_)
  refine x_ent en181 ?_
  refine x_iconst d181_0 ?_
  refine x_istore_n [some (vR _), some (vI _), some (vI _), none] d181_1 rfl ?_
  refine x_aload_n d181_2 rfl ?_
  refine x_alen d181_3 o.1 (by rw [o.2]; decide) ?_
  refine x_istore_n [some (vR _), some (vI _), some (vI _), some (vI _)] d181_4 rfl ?_
  have key : ∀ m n : Nat, n + m = hL h a → wp DA (d + 0) 181 5 [some (vR (some a)), some (vI x), some (vI (n : Int)), some (vI (hL h a : Int))] [] (fil h a n x) Q := by
    intro m
    induction m with
    | zero =>
      intro n e
      refine x_iload_n d181_5 rfl ?_
      refine x_iload_n d181_6 rfl ?_
      refine x_icge (t := 20) d181_7 rfl (by omega) (fun _ => ?_) (fun c => ?_)
      · exact x_ret d181_20 rt181 (hQ _ (by rw [show n = hL h a by omega]))
      · exfalso; omega
    | succ m ih =>
      intro n e
      refine x_iload_n d181_5 rfl ?_
      refine x_iload_n d181_6 rfl ?_
      refine x_icge (t := 20) d181_7 rfl (by omega) (fun c => ?_) (fun _ => ?_)
      · exfalso; omega
      refine x_aload_n d181_10 rfl ?_
      refine x_iload_n d181_11 rfl ?_
      refine x_iload_n d181_12 rfl ?_
      refine x_iastore d181_13 h2 o ⟨by omega, show (n : Int) < (hL h a : Int) by omega⟩ rfl ?_
      rw [Int.toNat_natCast, fil_s]
      refine x_iinc [some (vR _), some (vI _), some (vI ((n : Int) + 1)), some (vI _)] d181_14 rfl rfl ?_
      refine x_goto (t := 5) d181_17 rfl ?_
      exact ih (n + 1) (by omega)
  have := key (hL h a) 0 (by omega)
  rw [fil_0] at this
  exact this
theorem C183 {d : Nat} {h : Hp} {a : Nat} {x : Int} (h2 : 2 ≤ a) (o : Ob h a 102) (hl : hL h a < 60000) : PU DA (d + 0) 183 [vR (some a), vL x] h (fun g => g = fil h a (hL h a) x) := by
  refine PU_of (fun Q hQ => ?_)
  refine x_ent en183 ?_
  refine x_iconst d183_0 ?_
  refine x_istore_n [some (vR _), some (vL _), none, some (vI _), none] d183_1 rfl ?_
  refine x_aload_n d183_2 rfl ?_
  refine x_alen d183_3 o.1 (by rw [o.2]; decide) ?_
  refine x_istore [some (vR _), some (vL _), none, some (vI _), some (vI _)] d183_4 rfl ?_
  have key : ∀ m n : Nat, n + m = hL h a → wp DA (d + 0) 183 6 [some (vR (some a)), some (vL x), none, some (vI (n : Int)), some (vI (hL h a : Int))] [] (fil h a n x) Q := by
    intro m
    induction m with
    | zero =>
      intro n e
      refine x_iload_n d183_6 rfl ?_
      refine x_iload d183_7 rfl ?_
      refine x_icge (t := 22) d183_9 rfl (by omega) (fun _ => ?_) (fun c => ?_)
      · exact x_ret d183_22 rt183 (hQ _ (by rw [show n = hL h a by omega]))
      · exfalso; omega
    | succ m ih =>
      intro n e
      refine x_iload_n d183_6 rfl ?_
      refine x_iload d183_7 rfl ?_
      refine x_icge (t := 22) d183_9 rfl (by omega) (fun c => ?_) (fun _ => ?_)
      · exfalso; omega
      refine x_aload_n d183_12 rfl ?_
      refine x_iload_n d183_13 rfl ?_
      refine x_lload_n d183_14 rfl ?_
      refine x_lastore d183_15 h2 o ⟨by omega, show (n : Int) < (hL h a : Int) by omega⟩ rfl ?_
      rw [Int.toNat_natCast, fil_s]
      refine x_iinc [some (vR _), some (vL _), none, some (vI ((n : Int) + 1)), some (vI _)] d183_16 rfl rfl ?_
      refine x_goto (t := 6) d183_19 rfl ?_
      exact ih (n + 1) (by omega)
  have := key (hL h a) 0 (by omega)
  rw [fil_0] at this
  exact this
