/-! ===== THE SALE: what its tables are ===== -/
abbrev Tb : Type := (Nat → Int) × (Nat → Int) × (Nat → Nat) × Nat
abbrev tkS (all it : Nat) (am : Int) (T : Tb) (s : Nat) : Prop := s ≤ all ∧ s &&& it = it ∧ (T.1 s < T.1 (s ^^^ it) + am ∨ (T.1 (s ^^^ it) + am = T.1 s ∧ T.2.1 (s ^^^ it) + 1 ≤ T.2.1 s))
/-- a BID more -/
def tOff (all k it : Nat) (am : Int) (T : Tb) : Tb := (fun s => if tkS all it am T s then T.1 (s ^^^ it) + am else T.1 s, fun s => if tkS all it am T s then T.2.1 (s ^^^ it) + 1 else T.2.1 s, fun s => if tkS all it am T s then T.2.2.1 (s ^^^ it) ||| 2 ^ k else T.2.2.1 s, T.2.2.2 ||| 2 ^ k)
/-- the last n of the BIDS -/
def tAll (all nb : Nat) (cn : Nat → Int) (it : Nat → Nat) (am : Nat → Int) : Nat → Tb
  | 0 => (fun _ => 0, fun _ => 0, fun _ => 0, 0)
  | n + 1 => if cn (nb - (n + 1)) = 1 then tOff all (nb - (n + 1)) (it (nb - (n + 1))) (am (nb - (n + 1))) (tAll all nb cn it am n) else tAll all nb cn it am n
theorem xor_sub : ∀ s : Fin 256, ∀ it : Fin 256, s.val &&& it.val = it.val → (s.val ^^^ it.val) + it.val = s.val := by decide +kernel
theorem xor_lt {s it : Nat} (hs : s < 256) (hi : it < 256) (e : s &&& it = it) : (s ^^^ it) + it = s := xor_sub ⟨s, hs⟩ ⟨it, hi⟩ e
section SAL
variable {all nb : Nat} {cn : Nat → Int} {it : Nat → Nat} {am : Nat → Int}
theorem tAll_rng (ha : ∀ k, k < nb → 1 ≤ am k ∧ am k ≤ 9999) : ∀ n, n ≤ nb → ∀ s, (0 ≤ (tAll all nb cn it am n).1 s ∧ (tAll all nb cn it am n).1 s ≤ 9999 * n) ∧ 0 ≤ (tAll all nb cn it am n).2.1 s ∧ (tAll all nb cn it am n).2.1 s ≤ n := by
  intro n
  induction n with
  | zero => intro _ s; exact ⟨⟨Int.le_refl 0, Int.le_refl 0⟩, Int.le_refl 0, Int.le_refl 0⟩
  | succ n ih =>
    intro hn s
    have ih := ih (by omega)
    have i1 := ih s
    have i2 := ih (s ^^^ it (nb - (n + 1)))
    have hk := ha (nb - (n + 1)) (by omega)
    unfold tAll
    split
    · unfold tOff
      dsimp only
      split
      · exact ⟨by omega, by omega⟩
      · exact ⟨by omega, by omega⟩
    · exact ⟨by omega, by omega⟩
theorem tAll_big : ∀ n s, all < s → (tAll all nb cn it am n).1 s = 0 ∧ (tAll all nb cn it am n).2.1 s = 0 ∧ (tAll all nb cn it am n).2.2.1 s = 0 := by
  intro n
  induction n with
  | zero => intro s _; exact ⟨rfl, rfl, rfl⟩
  | succ n ih =>
    intro s hs
    unfold tAll
    split
    · unfold tOff
      dsimp only
      rw [if_neg (fun q => absurd q.1 (by omega)), if_neg (fun q => absurd q.1 (by omega)), if_neg (fun q => absurd q.1 (by omega))]
      exact ih s hs
    · exact ih s hs
theorem bitsE {a b c : Nat} (e : a &&& b = c) (i : Nat) : (a.testBit i && b.testBit i) = c.testBit i := by rw [← e, Nat.testBit_and]
/-- whose BIDS a choice is of -/
theorem tAll_X : ∀ n, n ≤ nb → ∀ s, (∀ j, ((tAll all nb cn it am n).2.2.1 s).testBit j = true → nb - n ≤ j ∧ j < nb ∧ cn j = 1 ∧ s &&& it j = it j) ∧ (∀ j k, j < k → ((tAll all nb cn it am n).2.2.1 s).testBit j = true → ((tAll all nb cn it am n).2.2.1 s).testBit k = true → it j &&& it k = 0) := by
  intro n
  induction n with
  | zero => intro _ s; exact ⟨fun j q => absurd q (by show ¬ (Nat.testBit 0 j = true); simp), fun j k _ q _ => absurd q (by show ¬ (Nat.testBit 0 j = true); simp)⟩
  | succ n ih =>
    intro hn s
    have ih := ih (by omega)
    unfold tAll
    by_cases c : cn (nb - (n + 1)) = 1
    · rw [if_pos c]
      unfold tOff
      dsimp only
      by_cases t : tkS all (it (nb - (n + 1))) (am (nb - (n + 1))) (tAll all nb cn it am n) s
      · rw [if_pos t]
        have i1 := ih (s ^^^ it (nb - (n + 1)))
        have hb := t.2.1
        refine ⟨fun j q => ?_, fun j k jk q1 q2 => ?_⟩
        · rw [Nat.testBit_or, Nat.testBit_two_pow, Bool.or_eq_true, decide_eq_true_eq] at q
          rcases q with q | q
          · have w := i1.1 j q
            refine ⟨by omega, w.2.1, w.2.2.1, ?_⟩
            apply Nat.eq_of_testBit_eq
            intro i
            have e1 := bitsE w.2.2.2 i
            have e2 := bitsE hb i
            rw [Nat.testBit_xor] at e1
            rw [Nat.testBit_and]
            revert e1 e2
            cases s.testBit i <;> cases (it (nb - (n + 1))).testBit i <;> cases (it j).testBit i <;> simp
          · subst q
            exact ⟨by omega, by omega, c, hb⟩
        · rw [Nat.testBit_or, Nat.testBit_two_pow, Bool.or_eq_true, decide_eq_true_eq] at q1 q2
          rcases q2 with q2 | q2
          · have w2 := i1.1 k q2
            rcases q1 with q1 | q1
            · exact i1.2 j k jk q1 q2
            · subst q1
              apply Nat.eq_of_testBit_eq
              intro i
              have e1 := bitsE w2.2.2.2 i
              have e2 := bitsE hb i
              rw [Nat.testBit_xor] at e1
              rw [Nat.testBit_and, Nat.zero_testBit]
              revert e1 e2
              cases s.testBit i <;> cases (it (nb - (n + 1))).testBit i <;> cases (it k).testBit i <;> simp
          · exfalso
            rcases q1 with q1 | q1
            · have w1 := i1.1 j q1
              omega
            · omega
      · rw [if_neg t]
        have i1 := ih s
        exact ⟨fun j q => by have w := i1.1 j q; exact ⟨by omega, w.2⟩, i1.2⟩
    · rw [if_neg c]
      have i1 := ih s
      exact ⟨fun j q => by have w := i1.1 j q; exact ⟨by omega, w.2⟩, i1.2⟩
theorem tAll_cnt : ∀ n, n ≤ nb → ∀ j, ((tAll all nb cn it am n).2.2.2).testBit j = true ↔ nb - n ≤ j ∧ j < nb ∧ cn j = 1 := by
  intro n
  induction n with
  | zero => intro _ j; exact ⟨fun q => absurd q (by show ¬ (Nat.testBit 0 j = true); simp), fun q => by omega⟩
  | succ n ih =>
    intro hn j
    have ih := ih (by omega) j
    unfold tAll
    by_cases c : cn (nb - (n + 1)) = 1
    · rw [if_pos c]
      unfold tOff
      dsimp only
      rw [Nat.testBit_or, Nat.testBit_two_pow, Bool.or_eq_true, decide_eq_true_eq, ih]
      constructor
      · rintro (q | q)
        · exact ⟨by omega, q.2⟩
        · subst q; exact ⟨by omega, by omega, c⟩
      · intro q
        rcases (show nb - (n + 1) = j ∨ nb - n ≤ j by omega) with w | w
        · exact Or.inr w
        · exact Or.inl ⟨w, q.2⟩
    · rw [if_neg c, ih]
      constructor
      · intro q; exact ⟨by omega, q.2⟩
      · intro q
        rcases (show nb - (n + 1) = j ∨ nb - n ≤ j by omega) with w | w
        · subst w; exact absurd q.2.2 c
        · exact ⟨w, q.2⟩
theorem X_lt {x : Nat} {m : Nat} (h : ∀ j, x.testBit j = true → j < m) : x < 2 ^ m := by
  apply Nat.lt_pow_two_of_testBit
  intro i hi
  cases w : x.testBit i with
  | false => rfl
  | true => exact absurd (h i w) (by omega)
theorem tAll_Xlt {n s : Nat} (hn : n ≤ nb) (h40 : nb ≤ 40) : (tAll all nb cn it am n).2.2.1 s < 1099511627776 := by
  have := X_lt (x := (tAll all nb cn it am n).2.2.1 s) (m := 40) (fun j q => by have := ((tAll_X n hn s).1 j q).2.1; omega)
  exact this
theorem tAll_clt {n : Nat} (hn : n ≤ nb) (h40 : nb ≤ 40) : (tAll all nb cn it am n).2.2.2 < 1099511627776 := by
  have := X_lt (x := (tAll all nb cn it am n).2.2.2) (m := 40) (fun j q => by have := ((tAll_cnt n hn j).mp q).2.1; omega)
  exact this
theorem nbt_or {x k : Nat} (h : x.testBit k = false) : ∀ m, nbt (x ||| 2 ^ k) m = nbt x m + (if k < m then 1 else 0) := by
  intro m
  induction m with
  | zero => rfl
  | succ m ih =>
    unfold nbt
    rw [ih, Nat.testBit_or, Nat.testBit_two_pow]
    by_cases e : k = m
    · subst e
      rw [h]
      simp
    · rw [show decide (k = m) = false from decide_eq_false e, Bool.or_false]
      by_cases w : k < m
      · rw [if_pos w, if_pos (show k < m + 1 by omega)]; omega
      · rw [if_neg w, if_neg (show ¬ k < m + 1 by omega)]; omega
/-- no more BIDS are in a choice than count -/
theorem tAll_C (h40 : nb ≤ 40) : ∀ n, n ≤ nb → ∀ s, (tAll all nb cn it am n).2.1 s ≤ ((nbt (tAll all nb cn it am n).2.2.2 40 : Nat) : Int) := by
  intro n
  induction n with
  | zero => intro _ s; exact Int.natCast_nonneg _
  | succ n ih =>
    intro hn s
    have ih := ih (by omega)
    have hc := tAll_cnt (all := all) (nb := nb) (cn := cn) (it := it) (am := am) n (by omega) (nb - (n + 1))
    unfold tAll
    by_cases c : cn (nb - (n + 1)) = 1
    · rw [if_pos c]
      unfold tOff
      dsimp only
      have hb : ((tAll all nb cn it am n).2.2.2).testBit (nb - (n + 1)) = false := by
        cases w : ((tAll all nb cn it am n).2.2.2).testBit (nb - (n + 1)) with
        | false => rfl
        | true => have := hc.mp w; omega
      rw [nbt_or hb, if_pos (show nb - (n + 1) < 40 by omega)]
      have i1 := ih s
      have i2 := ih (s ^^^ it (nb - (n + 1)))
      split <;> omega
    · rw [if_neg c]; exact ih s
/-- the best BID for just the ITEM i -/
def bst (nb : Nat) (cn : Nat → Int) (it : Nat → Nat) (am : Nat → Int) (i : Nat) : Nat → Int
  | 0 => 0
  | n + 1 => if cn (nb - (n + 1)) = 1 ∧ it (nb - (n + 1)) = 2 ^ i ∧ bst nb cn it am i n < am (nb - (n + 1)) then am (nb - (n + 1)) else bst nb cn it am i n
def sM (f : Nat → Int) (s : Nat) : Nat → Int
  | 0 => 0
  | m + 1 => sM f s m + (if s.testBit m then f m else 0)
theorem sM_congr {f g : Nat → Int} {s : Nat} : ∀ m, (∀ i, i < m → s.testBit i = true → f i = g i) → sM f s m = sM g s m := by
  intro m
  induction m with
  | zero => intro _; rfl
  | succ m ih =>
    intro h
    unfold sM
    rw [ih (fun i hi => h i (by omega))]
    split
    · rename_i w; rw [h m (by omega) w]
    · rfl
theorem sM_bit {f g : Nat → Int} {s i : Nat} (hb : s.testBit i = true) (h : ∀ j, j ≠ i → f j = g j) : ∀ m, sM g s m = sM f (s ^^^ 2 ^ i) m + (if i < m then g i else 0) := by
  intro m
  induction m with
  | zero => rfl
  | succ m ih =>
    unfold sM
    rw [ih, Nat.testBit_xor, Nat.testBit_two_pow]
    by_cases e : i = m
    · subst e
      rw [hb]
      simp
    · rw [show decide (i = m) = false from decide_eq_false e, Bool.xor_false, h m (fun q => e q.symm)]
      by_cases w : i < m
      · rw [if_pos w, if_pos (show i < m + 1 by omega)]; omega
      · rw [if_neg w, if_neg (show ¬ i < m + 1 by omega)]; omega
theorem tOff_ge {k t : Nat} {a : Int} {T : Tb} {s : Nat} (hs : s ≤ all) : T.1 s ≤ (tOff all k t a T).1 s ∧ (s &&& t = t → T.1 (s ^^^ t) + a ≤ (tOff all k t a T).1 s) := by
  unfold tOff
  dsimp only
  by_cases c : tkS all t a T s
  · rw [if_pos c]
    exact ⟨by have := c.2.2; omega, fun _ => Int.le_refl _⟩
  · rw [if_neg c]
    refine ⟨Int.le_refl _, fun e => ?_⟩
    rcases Int.lt_or_le (T.1 s) (T.1 (s ^^^ t) + a) with w | w
    · exact absurd ⟨hs, e, Or.inl w⟩ c
    · exact w
theorem two_inj {i j : Nat} (e : (2 : Nat) ^ i = 2 ^ j) : i = j := by
  rcases Nat.lt_trichotomy i j with w | w | w
  · have := Nat.pow_lt_pow_right (a := 2) (by omega) w; omega
  · exact w
  · have := Nat.pow_lt_pow_right (a := 2) (by omega) w; omega
theorem tAll_best {m : Nat} (hall : all + 1 = 2 ^ m) : ∀ n, n ≤ nb → ∀ s, s ≤ all → sM (fun i => bst nb cn it am i n) s 8 ≤ (tAll all nb cn it am n).1 s := by
  intro n
  induction n with
  | zero =>
    intro _ s _
    have e : sM (fun i => bst nb cn it am i 0) s 8 = 0 := by
      show sM (fun _ => (0 : Int)) s 8 = 0
      simp [sM]
    rw [e]; exact Int.le_refl 0
  | succ n ih =>
    intro hn s hs
    have ih := ih (by omega)
    by_cases c : cn (nb - (n + 1)) = 1
    · have eT : tAll all nb cn it am (n + 1) = tOff all (nb - (n + 1)) (it (nb - (n + 1))) (am (nb - (n + 1))) (tAll all nb cn it am n) := by
        rw [tAll, if_pos c]
      rw [eT]
      have hg := tOff_ge (k := nb - (n + 1)) (t := it (nb - (n + 1))) (a := am (nb - (n + 1))) (T := tAll all nb cn it am n) hs
      by_cases w : ∃ i, i < 8 ∧ it (nb - (n + 1)) = 2 ^ i ∧ bst nb cn it am i n < am (nb - (n + 1)) ∧ s.testBit i = true
      · obtain ⟨i, hi, w1, w2, w3⟩ := w
        have hf := sM_bit (f := fun i => bst nb cn it am i n) (g := fun i => bst nb cn it am i (n + 1)) w3 (fun j hj => by
          show bst nb cn it am j n = bst nb cn it am j (n + 1)
          rw [bst, if_neg]
          rintro ⟨-, q, -⟩
          rw [w1] at q
          exact hj (two_inj q).symm) 8
        rw [hf, if_pos hi]
        have e1 : bst nb cn it am i (n + 1) = am (nb - (n + 1)) := by rw [bst, if_pos ⟨c, w1, w2⟩]
        have hand : s &&& it (nb - (n + 1)) = it (nb - (n + 1)) := by
          rw [w1]
          apply Nat.eq_of_testBit_eq
          intro j
          rw [Nat.testBit_and, Nat.testBit_two_pow]
          by_cases q : i = j
          · subst q; rw [w3]; simp
          · rw [decide_eq_false q, Bool.and_false]
        have h2 := hg.2 hand
        have hle : s ^^^ 2 ^ i ≤ all := by
          have h3 : s < 2 ^ m := by omega
          have h4 : (2 : Nat) ^ i ≤ s := Nat.ge_two_pow_of_testBit w3
          have := Nat.xor_lt_two_pow h3 (show 2 ^ i < 2 ^ m by omega)
          omega
        have h5 := ih (s ^^^ 2 ^ i) hle
        rw [show s ^^^ it (nb - (n + 1)) = s ^^^ 2 ^ i by rw [w1]] at h2
        rw [e1]
        omega
      · have hf := sM_congr (f := fun i => bst nb cn it am i (n + 1)) (g := fun i => bst nb cn it am i n) (s := s) 8 (fun i hi hb => by
          show bst nb cn it am i (n + 1) = bst nb cn it am i n
          rw [bst, if_neg]
          rintro ⟨-, q1, q2⟩
          exact w ⟨i, hi, q1, q2, hb⟩)
        rw [hf]
        have := ih s hs
        omega
    · have eT : tAll all nb cn it am (n + 1) = tAll all nb cn it am n := by rw [tAll, if_neg c]
      rw [eT]
      have hf := sM_congr (f := fun i => bst nb cn it am i (n + 1)) (g := fun i => bst nb cn it am i n) (s := s) 8 (fun i hi hb => by
        show bst nb cn it am i (n + 1) = bst nb cn it am i n
        rw [bst, if_neg]
        rintro ⟨q, -⟩
        exact c q)
      rw [hf]
      exact ih s hs
theorem bst_ge {i : Nat} : ∀ n, n ≤ nb → ∀ k, nb - n ≤ k → k < nb → cn k = 1 → it k = 2 ^ i → am k ≤ bst nb cn it am i n := by
  intro n
  induction n with
  | zero => intro _ k h1 h2; omega
  | succ n ih =>
    intro hn k h1 h2 h3 h4
    have ih := ih (by omega) k
    rcases (show nb - (n + 1) = k ∨ nb - n ≤ k by omega) with w | w
    · unfold bst
      rw [w]
      split
      · exact Int.le_refl _
      · rename_i q
        rcases Int.lt_or_le (bst nb cn it am i n) (am k) with r | r
        · exact absurd ⟨h3, h4, r⟩ q
        · exact r
    · have := ih w h2 h3 h4
      unfold bst
      split
      · rename_i q; omega
      · exact this
theorem bst_nn {i : Nat} (ha : ∀ k, k < nb → 1 ≤ am k ∧ am k ≤ 9999) : ∀ n, n ≤ nb → 0 ≤ bst nb cn it am i n := by
  intro n
  induction n with
  | zero => intro _; exact Int.le_refl 0
  | succ n ih =>
    intro hn
    have := ha (nb - (n + 1)) (by omega)
    have := ih (by omega)
    unfold bst
    split <;> omega
theorem sM_mono {f : Nat → Int} {s : Nat} (h : ∀ i, 0 ≤ f i) : ∀ n m, sM f s m ≤ sM f s (m + n) := by
  intro n
  induction n with
  | zero => intro m; exact Int.le_refl _
  | succ n ih =>
    intro m
    have := ih m
    have h2 := h (m + n)
    show sM f s m ≤ sM f s (m + n) + (if s.testBit (m + n) then f (m + n) else 0)
    split <;> omega
/-- the SALE gives no less than the ITEMS one by one -/
theorem tAll_gain {m : Nat} (hm : m ≤ 8) (hall : all + 1 = 2 ^ m) (ha : ∀ k, k < nb → 1 ≤ am k ∧ am k ≤ 9999) (pr : Nat → Int) (hp : ∀ i, i < m → pr i ≠ -1 → pr i ≤ bst nb cn it am i nb) : sPr pr m ≤ (tAll all nb cn it am nb).1 all := by
  have h1 := tAll_best (all := all) (cn := cn) (it := it) (am := am) hall nb (Nat.le_refl _) all (Nat.le_refl _)
  have hn : ∀ i, 0 ≤ (fun i => bst nb cn it am i nb) i := fun i => bst_nn (it := it) (cn := cn) (i := i) ha nb (Nat.le_refl _)
  have h2 := sM_mono (s := all) hn (8 - m) m
  rw [show m + (8 - m) = 8 by omega] at h2
  have h3 : ∀ n, n ≤ m → sPr pr n ≤ sM (fun i => bst nb cn it am i nb) all n := by
    intro n
    induction n with
    | zero => intro _; exact Int.le_refl 0
    | succ n ih =>
      intro hn1
      have ih := ih (by omega)
      unfold sPr sM
      have hb : all.testBit n = true := by
        rw [show all = 2 ^ m - 1 by omega, Nat.testBit_two_pow_sub_one]
        exact decide_eq_true (by omega)
      rw [if_pos hb]
      have h4 : 0 ≤ bst nb cn it am n nb := hn n
      by_cases q : pr n = -1
      · rw [if_pos q]; omega
      · rw [if_neg q]
        have := hp n (by omega) q
        show _ ≤ _ + bst nb cn it am n nb
        omega
  have := h3 m (Nat.le_refl _)
  omega
theorem tAll_ext {all2 : Nat} {cn2 : Nat → Int} {it2 : Nat → Nat} {am2 : Nat → Int} (e0 : all2 = all) (e1 : ∀ k, k < nb → cn2 k = cn k) (e2 : ∀ k, k < nb → it2 k = it k) (e3 : ∀ k, k < nb → am2 k = am k) : ∀ n, n ≤ nb → tAll all2 nb cn2 it2 am2 n = tAll all nb cn it am n := by
  subst e0
  intro n
  induction n with
  | zero => intro _; rfl
  | succ n ih =>
    intro hn
    have k := show nb - (n + 1) < nb by omega
    unfold tAll
    rw [ih (by omega), e1 _ k, e2 _ k, e3 _ k]
end SAL
/-! numbers as bits -/
theorem fxor_nn {x y : Nat} (hx : x < 2147483648) (hy : y < 2147483648) : o32 fxor (x : Int) (y : Int) = ((x ^^^ y : Nat) : Int) := by
  refine o32_nn ?_ (Nat.xor_lt_two_pow (n := 31) hx hy)
  rw [B32_xor, BitVec.toNat_xor, B32_nat (by omega), B32_nat (by omega)]; rfl
theorem lor_nn {x y : Nat} (hx : x < 9223372036854775808) (hy : y < 9223372036854775808) : o64 gior (x : Int) (y : Int) = ((x ||| y : Nat) : Int) := by
  refine i64_nn ?_ (Nat.or_lt_two_pow (n := 63) hx hy)
  show (B64 (x : Int) ||| B64 (y : Int)).toNat = _
  rw [BitVec.toNat_or, B64_nat hx, B64_nat hy]
theorem lshl_40 : ∀ k : Fin 40, lshlZ 1 (k.val : Int) = ((2 ^ k.val : Nat) : Int) := by decide +kernel
theorem lshr_amt : ∀ y : Fin 64, (((Int32.ofInt (y.val : Int)).toInt64 &&& 63).toBitVec.smod 64) = BitVec.ofNat 64 y.val := by decide +kernel
theorem lshr_nn {x n : Nat} (hx : x < 9223372036854775808) (h : n < 64) : lshrZ (x : Int) (n : Int) = ((x >>> n : Nat) : Int) := by
  refine i64_nn ?_ (Nat.lt_of_le_of_lt (shr_le _ _) hx)
  show ((B64 (x : Int)).sshiftRight' (((Int32.ofInt (n : Int)).toInt64 &&& 63).toBitVec.smod 64)).toNat = _
  rw [lshr_amt ⟨n, h⟩]
  rw [BitVec.sshiftRight', BitVec.toNat_ofNat, Nat.mod_eq_of_lt (by omega)]
  have hm : (B64 (x : Int)).msb = false := by
    rw [BitVec.msb_eq_false_iff_two_mul_lt, B64_nat hx]
    omega
  rw [BitVec.sshiftRight_eq_of_msb_false hm, BitVec.toNat_ushiftRight, B64_nat hx]
theorem cmpZ_01 : cmpZ 0 0 = 0 ∧ cmpZ 1 0 = 1 := by decide +kernel
theorem tl_nat {x n : Nat} (hx : x < 9223372036854775808) (h : n < 64) : tl (x : Int) (n : Int) = if x.testBit n then 1 else 0 := by
  unfold tl
  rw [lshr_nn hx h, show o64 gand ((x >>> n : Nat) : Int) 1 = (((x >>> n) &&& 1 : Nat) : Int) from land_nn (y := x >>> n) (w := 1) rfl rfl (Nat.lt_of_le_of_lt (shr_le _ _) hx) (by omega)]
  have e : x.testBit n = decide ((x >>> n) % 2 = 1) := by
    rw [show x.testBit n = (x >>> n).testBit 0 by rw [Nat.testBit_shiftRight, Nat.add_zero], Nat.testBit_zero]
  rw [e, Nat.and_one_is_mod]
  rcases Nat.mod_two_eq_zero_or_one (x >>> n) with q | q
  · rw [q]
    rw [if_pos (show cmpZ ((0 : Nat) : Int) 0 = 0 from cmpZ_01.1)]
    simp
  · rw [q]
    rw [if_neg (show ¬ cmpZ ((1 : Nat) : Int) 0 = 0 from fun q => by have := cmpZ_01.2; have q : cmpZ 1 0 = 0 := q; omega)]
    simp
