/-! ===== THE HOUSE BEFORE ITS DIE ===== -/
def gB (r : Int) (a j : Nat) : Option (Int × Int) := match a with
  | 2 => (match j with | 11 => some (0, 999) | _ => none)
  | 3 => (match j with | 0 => some (0, 6) | 1 => some (0, 4) | 2 => some (0, 60) | _ => none)
  | 4 => some (0, 1023)
  | 5 => (match j with | 2 => some (0, 0) | _ => none)
  | 44 => (match j with | 2 => some (0, 0) | _ => none)
  | 45 => (match j with | 2 => some (0, 0) | _ => none)
  | 46 => (match j with | 2 => some (0, 0) | _ => none)
  | 59 => (match j with | 2 => some (0, 0) | _ => none)
  | 7 => (match j with | 1 => some (0, 0) | 2 => some (0, 1000000) | 3 => some (0, 255) | _ => none)
  | 9 => some (0, 16777215)
  | 12 => (match j with | 1 => some (0, 0) | 2 => some (0, 1000000) | 3 => some (0, 255) | _ => none)
  | 14 => some (0, 16777215)
  | 17 => (match j with | 1 => some (0, 0) | 2 => some (0, 1000000) | 3 => some (0, 255) | _ => none)
  | 19 => some (0, 16777215)
  | 22 => (match j with | 1 => some (0, 0) | 2 => some (0, 1000000) | 3 => some (0, 255) | _ => none)
  | 24 => some (0, 16777215)
  | 27 => (match j with | 1 => some (0, 0) | 2 => some (0, 1000000) | 3 => some (0, 255) | _ => none)
  | 29 => some (0, 16777215)
  | 32 => (match j with | 1 => some (0, 0) | 2 => some (0, 1000000) | 3 => some (0, 255) | _ => none)
  | 34 => some (0, 16777215)
  | 37 => (match j with | 2 => some (0, r) | _ => none)
  | 38 => some (0, 9)
  | 39 => some (0, 1000)
  | 40 => some (0, 999)
  | 41 => some (0, 2)
  | 42 => some (0, 4)
  | 43 => some (0, 99)
  | 47 => (match j with | 0 => some (0, 0) | _ => none)
  | 48 => some (0, 16)
  | 49 => (match j with | 1 => some (0, 20) | _ => none)
  | 50 => some (0, 9)
  | 51 => some (0, 11)
  | 52 => some (0, 4)
  | 53 => some (0, 999)
  | 54 => some (0, 1)
  | 55 => (match j with | 0 => some (0, 0) | 5 => some (0, 0) | 6 => some (0, 0) | _ => none)
  | 56 => some (0, 1)
  | 57 => some (0, 11)
  | 58 => some (0, 9999)
  | 60 => some (0, 0)
  | 61 => some (0, 0)
  | 62 => some (0, 0)
  | 63 => (match j with | 0 => some (0, 0) | _ => none)
  | 64 => some (0, 0)
  | 65 => some (0, 99)
  | _ => none
/-- the house before its first die: no piece, no cover, no issue, no die, no bid -/
def Hu (r : Int) (h : Hp) : Prop := Fx h ∧ (∀ a j lo hi, gB r a j = some (lo, hi) → lo ≤ hI h a j ∧ hI h a j ≤ hi) ∧ (∀ l, isLs l → hR h l 1 = some 0) ∧ (hT h 0 = 103 ∧ (∀ j, hR h 0 j = none) ∧ B1 h) ∧ (∀ a j, DV a j = false → hR h a j = none)
section HU
variable {r r' : Int} {h g : Hp} {a k : Nat} {v lo hi : Int}
theorem Hu_n (S : Hu r h) (e : gB r a k = none) : Hu r (sI h a k v) := by
  refine ⟨S.1, fun b j lo' hi' q => ?_, S.2.2⟩
  rw [hI_sI]
  split
  · rename_i w; rw [w.1, w.2, e] at q; cases q
  · exact S.2.1 b j lo' hi' q
theorem Hu_w (S : Hu r h) (e : gB r a k = some (lo, hi)) (hv : lo ≤ v ∧ v ≤ hi) : Hu r (sI h a k v) := by
  refine ⟨S.1, fun b j lo' hi' q => ?_, S.2.2⟩
  rw [hI_sI]
  split
  · rename_i w; rw [w.1, w.2, e] at q; cases q; exact hv
  · exact S.2.1 b j lo' hi' q
theorem Hu_r (S : Hu r h) (q : r ≤ r') : Hu r' h := by
  refine ⟨S.1, fun b j lo' hi' e => ?_, S.2.2⟩
  by_cases c : b = 37 ∧ j = 2
  · obtain ⟨rfl, rfl⟩ := c
    cases e
    have := S.2.1 37 2 _ _ rfl
    omega
  · refine S.2.1 b j lo' hi' ?_
    rw [← e]
    unfold gB
    split <;> first | rfl | (split <;> first | rfl | (exfalso; exact c ⟨rfl, rfl⟩))
theorem Hu.F (S : Hu r h) : Fx h := S.1
theorem Hu.pl (S : Hu r h) : (0 ≤ hI h 3 0 ∧ hI h 3 0 ≤ 6) ∧ (0 ≤ hI h 3 1 ∧ hI h 3 1 ≤ 4) ∧ (0 ≤ hI h 3 2 ∧ hI h 3 2 ≤ 60) ∧ Rg h 4 0 1023 := ⟨S.2.1 3 0 _ _ rfl, S.2.1 3 1 _ _ rfl, S.2.1 3 2 _ _ rfl, fun j => S.2.1 4 j _ _ rfl⟩
theorem Hu.rates (S : Hu r h) : 0 ≤ hI h 37 2 ∧ hI h 37 2 ≤ r := S.2.1 37 2 _ _ rfl
theorem Hu_ls {K : Hp → Nat → Prop} {m : Nat → Nat} (S : Hu r h) {l : Nat} (q : isLs l) (z : hI h l 2 = 0) : Ls K h l m 0 :=
  ⟨z, 0, S.2.2.1 l q, Or.inl rfl, by have := S.1.1; omega, S.2.2.2.1.1, Nat.zero_le _, fun j hj => absurd hj (Nat.not_lt_zero j), fun j _ => S.2.2.2.1.2.1 j⟩
theorem Hu_z (S : Hu r h) {l : Nat} (q : isLs l) : hI h l 2 = 0 := by
  rcases q with q | q | q | q | q <;> subst q
  · have := S.2.1 5 2 _ _ rfl; omega
  · have := S.2.1 44 2 _ _ rfl; omega
  · have := S.2.1 45 2 _ _ rfl; omega
  · have := S.2.1 46 2 _ _ rfl; omega
  · have := S.2.1 59 2 _ _ rfl; omega
theorem Hu.ld (S : Hu r h) : Ls Tm h 45 (fun _ => 0) 0 := Hu_ls S (by unfold isLs; decide) (Hu_z S (by unfold isLs; decide))
theorem gB_s (r : Int) : ∀ s, s < 6 → gB r (7 + 5 * s) 1 = some (0, 0) ∧ gB r (7 + 5 * s) 2 = some (0, 1000000) ∧ gB r (7 + 5 * s) 3 = some (0, 255) ∧ gB r (7 + 5 * s) 4 = none ∧ ∀ j, gB r (7 + 5 * s + 2) j = some (0, 16777215) := by
  intro s hs
  rcases (show s = 0 ∨ s = 1 ∨ s = 2 ∨ s = 3 ∨ s = 4 ∨ s = 5 by omega) with w | w | w | w | w | w <;> subst w <;> exact ⟨rfl, rfl, rfl, rfl, fun _ => rfl⟩
theorem Hu.sh (S : Hu r h) : ∀ s, s < 6 → Sh h (7 + 5 * s) := by
  intro s hs
  have F := S.1
  obtain ⟨g1, g2, g3, g4, g5⟩ := gB_s r s hs
  have k1 := S.2.1 _ _ _ _ g1
  have k2 := S.2.1 _ _ _ _ g2
  have k3 := S.2.1 _ _ _ _ g3
  have k5 := fun j => S.2.1 _ _ _ _ (g5 j)
  have f9 := F.1
  rcases (show s = 0 ∨ s = 1 ∨ s = 2 ∨ s = 3 ∨ s = 4 ∨ s = 5 by omega) with w | w | w | w | w | w <;> subst w
  · exact Sh.mk (h := h) (p := 7) (by decide) (by decide) (F.o (a := 7) rfl (by decide)).2 f9 (F.o (a := 8) rfl (by decide)).2 (F.l (a := 8) (n := 3) (by decide) rfl) (F.r (a := 7) (j := 0) rfl) (F.o (a := 9) rfl (by decide)).2 (F.l (a := 9) (n := 3) (by decide) rfl) (F.r (a := 7) (j := 5) rfl) (F.o (a := 10) rfl (by decide)).2 (F.l (a := 10) (n := 3) (by decide) rfl) (F.r (a := 7) (j := 6) rfl) (F.o (a := 11) rfl (by decide)).2 (F.l (a := 11) (n := 3) (by decide) rfl) (F.r (a := 7) (j := 7) rfl) ⟨k1.1, Int.le_trans k1.2 (by decide)⟩ k2 k3 k5
  · exact Sh.mk (h := h) (p := 12) (by decide) (by decide) (F.o (a := 12) rfl (by decide)).2 f9 (F.o (a := 13) rfl (by decide)).2 (F.l (a := 13) (n := 3) (by decide) rfl) (F.r (a := 12) (j := 0) rfl) (F.o (a := 14) rfl (by decide)).2 (F.l (a := 14) (n := 3) (by decide) rfl) (F.r (a := 12) (j := 5) rfl) (F.o (a := 15) rfl (by decide)).2 (F.l (a := 15) (n := 3) (by decide) rfl) (F.r (a := 12) (j := 6) rfl) (F.o (a := 16) rfl (by decide)).2 (F.l (a := 16) (n := 3) (by decide) rfl) (F.r (a := 12) (j := 7) rfl) ⟨k1.1, Int.le_trans k1.2 (by decide)⟩ k2 k3 k5
  · exact Sh.mk (h := h) (p := 17) (by decide) (by decide) (F.o (a := 17) rfl (by decide)).2 f9 (F.o (a := 18) rfl (by decide)).2 (F.l (a := 18) (n := 3) (by decide) rfl) (F.r (a := 17) (j := 0) rfl) (F.o (a := 19) rfl (by decide)).2 (F.l (a := 19) (n := 3) (by decide) rfl) (F.r (a := 17) (j := 5) rfl) (F.o (a := 20) rfl (by decide)).2 (F.l (a := 20) (n := 3) (by decide) rfl) (F.r (a := 17) (j := 6) rfl) (F.o (a := 21) rfl (by decide)).2 (F.l (a := 21) (n := 3) (by decide) rfl) (F.r (a := 17) (j := 7) rfl) ⟨k1.1, Int.le_trans k1.2 (by decide)⟩ k2 k3 k5
  · exact Sh.mk (h := h) (p := 22) (by decide) (by decide) (F.o (a := 22) rfl (by decide)).2 f9 (F.o (a := 23) rfl (by decide)).2 (F.l (a := 23) (n := 3) (by decide) rfl) (F.r (a := 22) (j := 0) rfl) (F.o (a := 24) rfl (by decide)).2 (F.l (a := 24) (n := 3) (by decide) rfl) (F.r (a := 22) (j := 5) rfl) (F.o (a := 25) rfl (by decide)).2 (F.l (a := 25) (n := 3) (by decide) rfl) (F.r (a := 22) (j := 6) rfl) (F.o (a := 26) rfl (by decide)).2 (F.l (a := 26) (n := 3) (by decide) rfl) (F.r (a := 22) (j := 7) rfl) ⟨k1.1, Int.le_trans k1.2 (by decide)⟩ k2 k3 k5
  · exact Sh.mk (h := h) (p := 27) (by decide) (by decide) (F.o (a := 27) rfl (by decide)).2 f9 (F.o (a := 28) rfl (by decide)).2 (F.l (a := 28) (n := 3) (by decide) rfl) (F.r (a := 27) (j := 0) rfl) (F.o (a := 29) rfl (by decide)).2 (F.l (a := 29) (n := 3) (by decide) rfl) (F.r (a := 27) (j := 5) rfl) (F.o (a := 30) rfl (by decide)).2 (F.l (a := 30) (n := 3) (by decide) rfl) (F.r (a := 27) (j := 6) rfl) (F.o (a := 31) rfl (by decide)).2 (F.l (a := 31) (n := 3) (by decide) rfl) (F.r (a := 27) (j := 7) rfl) ⟨k1.1, Int.le_trans k1.2 (by decide)⟩ k2 k3 k5
  · exact Sh.mk (h := h) (p := 32) (by decide) (by decide) (F.o (a := 32) rfl (by decide)).2 f9 (F.o (a := 33) rfl (by decide)).2 (F.l (a := 33) (n := 3) (by decide) rfl) (F.r (a := 32) (j := 0) rfl) (F.o (a := 34) rfl (by decide)).2 (F.l (a := 34) (n := 3) (by decide) rfl) (F.r (a := 32) (j := 5) rfl) (F.o (a := 35) rfl (by decide)).2 (F.l (a := 35) (n := 3) (by decide) rfl) (F.r (a := 32) (j := 6) rfl) (F.o (a := 36) rfl (by decide)).2 (F.l (a := 36) (n := 3) (by decide) rfl) (F.r (a := 32) (j := 7) rfl) ⟨k1.1, Int.le_trans k1.2 (by decide)⟩ k2 k3 k5
theorem Hu.LD (S : Hu r h) : LD h := ⟨S.2.2.2.1.2.2, fun l e q w => by rw [S.2.2.1 l q] at w; cases w; rw [S.2.2.2.1.2.2.1]; omega, fun l l' e q q' _ w _ => by rw [S.2.2.1 l q] at w; cases w; rfl⟩
theorem Hu.RW (S : Hu r h) : RW h := fun l e q w => by
  rw [S.2.2.1 l q] at w; cases w
  exact ⟨Or.inl rfl, by have := S.1.1; omega, S.2.2.2.1.1⟩
/-- with the first die it is the house -/
theorem IV_die {b : Nat} (S : Hu r h) (hr : r ≤ 16) (G : Gr h g 45 0 b) (hb : Tm h b) : IV g (fun _ => 0) (fun _ => 0) (fun _ => 0) (fun j => if j = 0 then b else 0) (fun _ => 0) 0 0 0 1 0 := by
  have F := S.F
  obtain ⟨M, k, D, -⟩ := Gr_pk F S.RW S.LD (by unfold isLs; decide) G
  have e : ∀ b, fT b ≠ 12 → fT b ≠ 103 → fT b ≠ 999 → ∀ j, hI g b j = hI h b j := fun b q1 q2 q3 j => (okB_i M F ⟨q1, q2⟩ q3 j).1
  have K0 : CI0 h := ⟨S.2.2.2.2, fun j _ => by have h1 := S.2.1 60 j _ _ rfl; have h2 := S.2.1 61 j _ _ rfl; have h3 := S.2.1 62 j _ _ rfl; omega, by have := S.2.1 55 5 _ _ rfl; omega, by have := S.2.1 55 6 _ _ rfl; omega⟩
  have K1 := CI0_Mv M F K0
  have u : hI g 55 6 = 0 := by rw [e 55 (by decide) (by decide) (by decide) 6]; have := S.2.1 55 6 _ _ rfl; omega
  have sz : ∀ s, s < 6 → hI g (7 + 5 * s) 1 = 0 := fun s hs => by
    have T := S.sh s hs
    rw [M.i (by have := T.n; have := T.f; omega) T.t (by decide)]
    have := S.2.1 _ _ _ _ (gB_s r s hs).1
    omega
  have T : TC h := by
    unfold TC tcS
    have h0 := S.2.1 63 0 _ _ rfl
    have h1 := fun j => S.2.1 64 j _ _ rfl
    have := h1 0; have := h1 1; have := h1 2; have := h1 3; have := h1 4; have := h1 5; have := h1 6; have := h1 7
    omega
  refine ⟨Hv.mk (h := g) (Fx_Mv M F) ⟨by rw [e 3 (by decide) (by decide) (by decide) 0]; exact S.pl.1, by rw [e 3 (by decide) (by decide) (by decide) 1]; exact S.pl.2.1, by rw [e 3 (by decide) (by decide) (by decide) 2]; exact S.pl.2.2.1, fun j => by rw [e 4 (by decide) (by decide) (by decide) j]; exact S.pl.2.2.2 j⟩ (Ls_Mv M (isLs_o F (by unfold isLs; decide)).1.1 (k 5 (by unfold isLs; decide) (by decide)).1 (k 5 (by unfold isLs; decide) (by decide)).2 (fun _ => Pc_Mv M) (Hu_ls (m := fun _ => 0) S (by unfold isLs; decide) (Hu_z S (by unfold isLs; decide)))) (Nat.zero_le _) (Ls_Mv M (isLs_o F (by unfold isLs; decide)).1.1 (k 46 (by unfold isLs; decide) (by decide)).1 (k 46 (by unfold isLs; decide) (by decide)).2 (fun _ => Cv_Mv M) (Hu_ls (m := fun _ => 0) S (by unfold isLs; decide) (Hu_z S (by unfold isLs; decide)))) (Nat.zero_le _) (Ls_Mv M (isLs_o F (by unfold isLs; decide)).1.1 (k 44 (by unfold isLs; decide) (by decide)).1 (k 44 (by unfold isLs; decide) (by decide)).2 (fun _ => Tm_Mv M) (Hu_ls (m := fun _ => 0) S (by unfold isLs; decide) (Hu_z S (by unfold isLs; decide)))) (Nat.zero_le _) (Ls_add S.ld G (fun _ => Tm_Mv M) (Tm_Mv M hb)) rfl (Ls_Mv M (isLs_o F (by unfold isLs; decide)).1.1 (k 59 (by unfold isLs; decide) (by decide)).1 (k 59 (by unfold isLs; decide) (by decide)).2 (fun _ => Bi_Mv M) (Hu_ls (m := fun _ => 0) S (by unfold isLs; decide) (Hu_z S (by unfold isLs; decide)))) (Nat.zero_le _) (by rw [e 2 (by decide) (by decide) (by decide) 11]; have := S.2.1 2 11 _ _ rfl; omega) (fun s hs => Sh_Mv M (S.sh s hs)) (by rw [e 37 (by decide) (by decide) (by decide) 2]; have := S.2.1 37 2 _ _ rfl; omega) (by rw [e 47 (by decide) (by decide) (by decide) 0]; have := S.2.1 47 0 _ _ rfl; omega) (by rw [e 49 (by decide) (by decide) (by decide) 1]; have := S.2.1 49 1 _ _ rfl; omega) (by rw [e 55 (by decide) (by decide) (by decide) 0]; have := S.2.1 55 0 _ _ rfl; omega) (by rw [e 63 (by decide) (by decide) (by decide) 0]; have := S.2.1 63 0 _ _ rfl; omega) (fun j => by rw [e 38 (by decide) (by decide) (by decide) j]; have := S.2.1 38 j _ _ rfl; omega) (fun j => by rw [e 39 (by decide) (by decide) (by decide) j]; have := S.2.1 39 j _ _ rfl; omega) (fun j => by rw [e 40 (by decide) (by decide) (by decide) j]; have := S.2.1 40 j _ _ rfl; omega) (fun j => by rw [e 41 (by decide) (by decide) (by decide) j]; have := S.2.1 41 j _ _ rfl; omega) (fun j => by rw [e 42 (by decide) (by decide) (by decide) j]; have := S.2.1 42 j _ _ rfl; omega) (fun j => by rw [e 43 (by decide) (by decide) (by decide) j]; have := S.2.1 43 j _ _ rfl; omega) (fun j => by rw [e 48 (by decide) (by decide) (by decide) j]; have := S.2.1 48 j _ _ rfl; omega) (fun j => by rw [e 50 (by decide) (by decide) (by decide) j]; have := S.2.1 50 j _ _ rfl; omega) (fun j => by rw [e 51 (by decide) (by decide) (by decide) j]; have := S.2.1 51 j _ _ rfl; omega) (fun j => by rw [e 52 (by decide) (by decide) (by decide) j]; have := S.2.1 52 j _ _ rfl; omega) (fun j => by rw [e 53 (by decide) (by decide) (by decide) j]; have := S.2.1 53 j _ _ rfl; omega) (fun j => by rw [e 54 (by decide) (by decide) (by decide) j]; have := S.2.1 54 j _ _ rfl; omega) (fun j => by rw [e 56 (by decide) (by decide) (by decide) j]; have := S.2.1 56 j _ _ rfl; omega) (fun j => by rw [e 57 (by decide) (by decide) (by decide) j]; have := S.2.1 57 j _ _ rfl; omega) (fun j => by rw [e 58 (by decide) (by decide) (by decide) j]; have := S.2.1 58 j _ _ rfl; omega) (fun j => by rw [e 64 (by decide) (by decide) (by decide) j]; have := S.2.1 64 j _ _ rfl; omega) (fun j => by rw [e 65 (by decide) (by decide) (by decide) j]; have := S.2.1 65 j _ _ rfl; omega) (fun i hi => by rw [e 55 (by decide) (by decide) (by decide) 0] at hi; have := S.2.1 55 0 _ _ rfl; omega), ⟨fun k hk => absurd hk (Nat.not_lt_zero k), ⟨fun k hk => absurd hk (Nat.not_lt_zero k), fun s hs q hq => by rw [sz s hs] at hq; omega, ?_⟩, fun k hk => absurd hk (Nat.not_lt_zero k), D⟩, ⟨K1.1, K1.2.1, K1.2.2.1, Or.inl u, fun q => by rw [u] at q; cases q⟩, TC_Mv M F T⟩
  simp only [szH]
  have h0 := sz 0 (by decide); have h1 := sz 1 (by decide); have h2 := sz 2 (by decide); have h3 := sz 3 (by decide); have h4 := sz 4 (by decide); have h5 := sz 5 (by decide)
  omega
end HU
