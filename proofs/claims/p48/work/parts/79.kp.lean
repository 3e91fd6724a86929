/-! ===== A SHEET PLATED ANEW: the whole invariant again ===== -/
/-- what a sheet knows of a piece of its -/
def SiK (h : Hp) (p : Nat) : Prop := (∀ x : Int, 0 ≤ x → x < 24 → tb (plc h p) x = 1 → ∃ r : Int, 0 ≤ r ∧ r < 8 ∧ tb (hI h (7 + 5 * (hI h p 3).toNat) 3) r = 1 ∧ tb (hI h (p + 3) r.toNat) x = 1) ∧ (hI h (7 + 5 * (hI h p 3).toNat) 2 = 0 ↔ plc h p = 0) ∧ (∀ x : Int, 0 ≤ x → x < 24 → pc32 (plc h p) = 1 → tb (plc h p) x = 1 → tb (hI h (7 + 5 * (hI h p 3).toNat) 4) x = 1)
/-- all but the sheet s -/
def SX (s : Nat) (h : Hp) (mP : Nat → Nat) (nP : Nat) : Prop := ∀ k, k < nP → hI h (mP k) 3 ≠ s → SiK h (mP k)
theorem SX_Si {s n : Nat} {h : Hp} {m : Nat → Nat} (q : Si h m n) : SX s h m n := fun k hk _ => q k hk
theorem SiK_eq {h g : Hp} {p s : Nat} (es : hI h p 3 = (s : Int)) (e : ∀ j, hI g (7 + 5 * s) j = hI h (7 + 5 * s) j ∧ hI g (7 + 5 * s + 2) j = hI h (7 + 5 * s + 2) j) (q : hI g p 3 = hI h p 3 ∧ hI g p 5 = hI h p 5 ∧ ∀ j, hI g (p + 3) j = hI h (p + 3) j) (M : SiK h p) : SiK g p := by
  have et : (hI h p 3).toNat = s := by omega
  have ep : plc g p = plc h p := by
    unfold plc
    rw [q.1, q.2.1, et, (e _).2]
  unfold SiK at M ⊢
  rw [et] at M
  rw [ep, q.1, et, (e 2).1, (e 3).1, (e 4).1]
  obtain ⟨m1, m2, m3⟩ := M
  refine ⟨fun x x0 x1 x2 => ?_, m2, m3⟩
  obtain ⟨r, r1, r2, r3, r4⟩ := m1 x x0 x1 x2
  exact ⟨r, r1, r2, r3, by rw [q.2.2]; exact r4⟩
/-- the invariant but for the sheet s -/
def Xs (s : Nat) (h : Hp) (mP mI mB : Nat → Nat) (nP nI nB : Nat) : Prop := (∀ k, k < nI → 1 ≤ hI h (mI k) 0) ∧ Mb h mP nP ∧ SX s h mP nP ∧ LD h ∧ CI h mB nB ∧ TC h
theorem Xs_EX {s : Nat} {h : Hp} {mP mI mB : Nat → Nat} {nP nI nB : Nat} (X : EX h mP mI mB nP nI nB) : Xs s h mP mI mB nP nI nB := ⟨X.1.1, X.1.2.1, SX_Si X.1.2.2.1, X.1.2.2.2, X.2.1, X.2.2⟩
theorem Mb_BS {h : Hp} {mP : Nat → Nat} {nP s : Nat} (M : Mb h mP nP) (hs : s < 6) (q : 0 ≤ hI h (7 + 5 * s) 1) : ∃ (ix : Nat → Nat) (n : Nat), hI h (7 + 5 * s) 1 = n ∧ BS s n mP nP ix h := by
  classical
  refine ⟨fun q => if w : (q : Int) < hI h (7 + 5 * s) 1 then (M.2.1 s hs q w).choose else 0, (hI h (7 + 5 * s) 1).toNat, by omega, by omega, fun q hq => ?_⟩
  have w : (q : Int) < hI h (7 + 5 * s) 1 := by omega
  have c := (M.2.1 s hs q w).choose_spec
  simp only [w, dif_pos]
  exact ⟨c.1, c.2.1⟩
theorem IV_pa {h g : Hp} {s n : Nat} {ix : Nat → Nat} {mP mC mI mD mB : Nat → Nat} {nP nC nI nD nB : Nat} (S : Hv h mP mC mI mD mB nP nC nI nD nB) (X : Xs s h mP mI mB nP nI nB) (hs : s < 6) (B : BS s n mP nP ix h) (S' : Hv g mP mC mI mD mB nP nC nI nD nB) (A : SB3 s h g) (F : FN s n mP ix g) : IV g mP mC mI mD mB nP nC nI nD nB := by
  obtain ⟨x1, x2, x3, x4, x5, x6⟩ := X
  have a7 := A.2.2.2.2.2.2
  have hi : ∀ a j, 69 ≤ a → hI g a j = hI h a j := fun a j q => a7 a j (by unfold Wsh3 Wsh; omega)
  have hf : ∀ a j, 37 ≤ a → hI g a j = hI h a j := fun a j q => a7 a j (by unfold Wsh3 Wsh; omega)
  have rr : hR g = hR h := A.2.2.2.2.2.1
  have Mg : Mb g mP nP := Mb_eq (h := h) (fun s' _ q => by rw [rr]) (fun s' hs' => a7 _ _ (by unfold Wsh3 Wsh; omega)) (fun k hk => by have := (Ls.mem S.lp k hk).g; exact ⟨hi _ _ this, hi _ _ this⟩) (fun k hk => by have := (Ls.mem S.lp k hk).sheet; omega) x2
  refine ⟨S', ⟨fun k hk => by rw [hi _ _ (Ls.mem S.li k hk).g]; exact x1 k hk, Mg, fun k hk => ?_, ?_⟩, ?_, ?_⟩
  · show SiK g (mP k)
    have Pk := Ls.mem S.lp k hk
    by_cases c : hI h (mP k) 3 = s
    · have Pg := Ls.mem S'.lp k hk
      have e3 : hI g (mP k) 3 = s := by rw [hi _ _ Pk.g]; exact c
      obtain ⟨m1, m2⟩ := Mg.1 k hk
      have et : (hI g (mP k) 3).toNat = s := by omega
      rw [et] at m1 m2
      have Bg := BS_3 B A
      have hq : (hI g (mP k) 5).toNat < n := by have := Bg.1; have := Pg.place; omega
      have ei : mP (ix (hI g (mP k) 5).toNat) = mP k := by
        have := (Bg.2 _ hq).2
        rw [m2] at this
        exact (Option.some.inj this).symm
      have ep : plc g (mP k) = hI g (7 + 5 * s + 2) (hI g (mP k) 5).toNat := by unfold plc; rw [et]
      have pr := (S'.sh s hs).places (hI g (mP k) 5).toNat
      obtain ⟨f1, f2, f3, f4⟩ := F
      unfold SiK
      rw [ep, et]
      refine ⟨fun x x0 x1 x2 => ?_, ⟨fun w => ?_, fun w => ?_⟩, fun x x0 x1 w x2 => ?_⟩
      · obtain ⟨r, r1, r2, r3, r4⟩ := f3 _ hq x ⟨x0, x1, x2⟩
        rw [ei] at r4
        exact ⟨r, r1, r2, r3, r4.2.2⟩
      · exact tb_nil pr (fun x x0 x1 => tb_ne.mp (fun w2 => f1 w _ hq x ⟨x0, x1, w2⟩))
      · by_cases c9 : hI g (7 + 5 * s) 2 = 0
        · exact c9
        · obtain ⟨x, w2⟩ := f2 c9 _ hq
          exact absurd w2 (hb_0 w)
      · by_cases c9 : tb (hI g (7 + 5 * s) 4) x = 1
        · exact c9
        · exfalso
          by_cases c8 : hI g (7 + 5 * s) 2 = 0
          · exact f1 c8 _ hq x ⟨x0, x1, x2⟩
          · obtain ⟨y, y1, y2, y3, y4⟩ := f4 c8 x x0 x1 c9 _ hq
            exact pc32_two pr ⟨x0, x1⟩ ⟨y2, y3⟩ (Ne.symm y1) x2 y4 w
    · have sr := Pk.sheet
      exact SiK_eq (s := (hI h (mP k) 3).toNat) (by omega) (fun j => ⟨a7 _ _ (by unfold Wsh3 Wsh; omega), a7 _ _ (by unfold Wsh3 Wsh; omega)⟩) ⟨hi _ _ Pk.g, hi _ _ Pk.g, fun j => hi _ _ (by have := Pk.g; omega)⟩ (x3 k hk c)
  · obtain ⟨d0, d1, d2⟩ := x4
    exact ⟨B1_t (by rw [A.2.2.2.2.1]) (by rw [A.2.2.2.1]) (by rw [A.2.2.2.2.1]) d0, fun l e q w => by rw [rr] at w; rw [A.2.2.2.2.1]; exact d1 l e q w, fun l l' e q q' nn w w' => by rw [rr] at w w'; exact d2 l l' e q q' nn w w'⟩
  · exact CI_eq (h := h) (fun _ _ _ => by rw [rr]) (fun j => hf _ _ (by decide)) (fun j => hf _ _ (by decide)) (fun j => ⟨hf _ _ (by decide), hf _ _ (by decide), hf _ _ (by decide)⟩) (fun k hk j => hi _ _ (Ls.mem S.lb k hk).g) x5
  · unfold TC at x6 ⊢
    rw [hf _ _ (by decide), tcS_eq (fun j => hf _ _ (by decide))]; exact x6
theorem C69i {d : Nat} {h : Hp} {s : Nat} {mP mC mI mD mB : Nat → Nat} {nP nC nI nD nB : Nat} (S : Hv h mP mC mI mD mB nP nC nI nD nB) (hs : s < 6) (X : Xs s h mP mI mB nP nI nB) : PU DA (d + 6) 69 [vR (some (7 + 5 * s))] h (fun g => IV g mP mC mI mD mB nP nC nI nD nB ∧ hC g = hC h ∧ hS g = hS h) := by
  have sz := (S.sh s hs).size
  obtain ⟨ix, n, en, B⟩ := Mb_BS X.2.1 hs sz.1
  exact PU_mono (C69 S hs B (by omega)) (fun g q => ⟨IV_pa S X hs B q.1 q.2.1 q.2.2, q.2.1.2.1, q.2.1.2.2.1⟩)
