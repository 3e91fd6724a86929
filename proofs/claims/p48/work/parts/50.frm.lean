/-! ===== FRAMES: the tables ===== -/
/-- the stamps of a set of the first k PIECES; the worth of it, or -1 -/
def fS (sp : Nat → Int) : Nat → Nat → Int
  | 0, _ => 0
  | k + 1, s => if s < 2 ^ k then fS sp k s else fS sp k (s - 2 ^ k) + sp k
def fV (sp va : Nat → Int) (al : Nat → Nat → Bool) (L : Int) : Nat → Nat → Int
  | 0, _ => 0
  | k + 1, s => if s < 2 ^ k then fV sp va al L k s else if 0 ≤ fV sp va al L k (s - 2 ^ k) ∧ al k (s - 2 ^ k) = true ∧ fS sp k (s - 2 ^ k) + sp k ≤ L then fV sp va al L k (s - 2 ^ k) + va k else -1
/-- what the PIECES of a set have together -/
def sB (f : Nat → Int) : Nat → Nat → Int
  | 0, _ => 0
  | k + 1, s => if s < 2 ^ k then sB f k s else sB f k (s - 2 ^ k) + f k
theorem fS_sB {sp : Nat → Int} : ∀ k s, fS sp k s = sB sp k s := by
  intro k
  induction k with
  | zero => intro s; rfl
  | succ k ih => intro s; unfold fS sB; rw [ih, ih]
theorem fV_low {sp va : Nat → Int} {al : Nat → Nat → Bool} {L : Int} : ∀ k s, 0 ≤ fV sp va al L k s ∨ fV sp va al L k s = -1 ∨ ∃ j, j < k ∧ va j < 0 := by
  intro k
  induction k with
  | zero => intro s; exact Or.inl (Int.le_refl 0)
  | succ k ih =>
    intro s
    unfold fV
    split
    · rcases ih s with q | q | ⟨j, q, w⟩
      · exact Or.inl q
      · exact Or.inr (Or.inl q)
      · exact Or.inr (Or.inr ⟨j, by omega, w⟩)
    · split
      · rename_i c
        by_cases w : va k < 0
        · exact Or.inr (Or.inr ⟨k, by omega, w⟩)
        · exact Or.inl (by omega)
      · exact Or.inr (Or.inl rfl)
theorem fV_sum {sp va : Nat → Int} {al : Nat → Nat → Bool} {L : Int} (hL : 0 ≤ L) : ∀ k s, 0 ≤ fV sp va al L k s → (∀ j, j < k → 0 ≤ va j) → fV sp va al L k s = sB va k s ∧ sB sp k s ≤ L := by
  intro k
  induction k with
  | zero => intro s _ _; exact ⟨rfl, hL⟩
  | succ k ih =>
    intro s h hv
    unfold fV at h
    unfold fV sB
    split
    · rename_i c
      rw [if_pos c] at h
      exact ih s h (fun j hj => hv j (by omega))
    · rename_i c
      rw [if_neg c] at h
      split
      · rename_i d
        have w := ih (s - 2 ^ k) d.1 (fun j hj => hv j (by omega))
        refine ⟨by rw [w.1], ?_⟩
        have d3 := d.2.2
        rw [fS_sB] at d3
        exact d3
      · rename_i d
        rw [if_neg d] at h
        omega
theorem fV_mono {sp va : Nat → Int} {al : Nat → Nat → Bool} {L M : Int} (hLM : L ≤ M) : ∀ k s, 0 ≤ fV sp va al L k s → (∀ j, j < k → 0 ≤ va j) → fV sp va al M k s = fV sp va al L k s := by
  intro k
  induction k with
  | zero => intro s _ _; rfl
  | succ k ih =>
    intro s h hv
    unfold fV at h ⊢
    by_cases c : s < 2 ^ k
    · rw [if_pos c] at h ⊢
      rw [if_pos c]
      exact ih s h (fun j hj => hv j (by omega))
    · rw [if_neg c] at h ⊢
      rw [if_neg c]
      by_cases d : 0 ≤ fV sp va al L k (s - 2 ^ k) ∧ al k (s - 2 ^ k) = true ∧ fS sp k (s - 2 ^ k) + sp k ≤ L
      · have w := ih (s - 2 ^ k) d.1 (fun j hj => hv j (by omega))
        rw [if_pos d, if_pos ⟨by rw [w]; exact d.1, d.2.1, by have := d.2.2; omega⟩, w]
      · rw [if_neg d] at h; omega
theorem fV_nil {sp va : Nat → Int} {al : Nat → Nat → Bool} {L : Int} : ∀ k, fV sp va al L k 0 = 0 := by
  intro k
  induction k with
  | zero => rfl
  | succ k ih => unfold fV; rw [if_pos (Nat.two_pow_pos k)]; exact ih
/-- the first of the best sets -/
def Bst (f : Nat → Int) (n b : Nat) : Prop := b < n ∧ (∀ s, s < n → f s ≤ f b) ∧ ∀ s, s < b → f s < f b
theorem Bst_one {f : Nat → Int} {n b c : Nat} (h1 : Bst f n b) (h2 : Bst f n c) : b = c := by
  rcases Nat.lt_trichotomy b c with q | q | q
  · have := h2.2.2 b q
    have := h1.2.1 c h2.1
    omega
  · exact q
  · have := h1.2.2 c q
    have := h2.2.1 b h1.1
    omega
theorem Bst_fV {sp va : Nat → Int} {al : Nat → Nat → Bool} {L M : Int} {k b c : Nat} (hL : 0 ≤ L) (hLM : L ≤ M) (hv : ∀ j, j < k → 0 ≤ va j) (h1 : Bst (fV sp va al L k) (2 ^ k) b) (h2 : Bst (fV sp va al M k) (2 ^ k) c) : 0 ≤ fV sp va al L k b ∧ fV sp va al L k b ≤ fV sp va al M k c ∧ fV sp va al L k b = sB va k b ∧ sB sp k b ≤ L := by
  have p0 := h1.2.1 0 (Nat.two_pow_pos k)
  rw [fV_nil] at p0
  have e := fV_mono (M := M) hLM k b p0 hv
  have q := h2.2.1 b h1.1
  have w := fV_sum hL k b p0 hv
  exact ⟨p0, by omega, w.1, w.2⟩
