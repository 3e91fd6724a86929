/-! ===== THE SHAPE OF THE CELLS ===== -/
def fxT : List (Nat × Nat) := [(999, 0), (999, 0), (11, 0), (5, 0), (100, 192), (12, 0), (104, 6), (8, 0), (105, 3), (100, 3), (100, 3), (100, 3), (8, 0), (105, 3), (100, 3), (100, 3), (100, 3), (8, 0), (105, 3), (100, 3), (100, 3), (100, 3), (8, 0), (105, 3), (100, 3), (100, 3), (100, 3), (8, 0), (105, 3), (100, 3), (100, 3), (100, 3), (8, 0), (105, 3), (100, 3), (100, 3), (100, 3), (6, 0), (100, 36), (100, 36), (100, 16), (100, 16), (100, 16), (100, 16), (12, 0), (12, 0), (12, 0), (3, 0), (100, 40), (2, 0), (100, 5), (100, 20), (100, 20), (100, 20), (101, 20), (7, 0), (101, 8), (100, 8), (100, 8), (12, 0), (100, 256), (100, 256), (102, 256), (9, 0), (101, 8), (100, 24), (100, 100), (100, 4096), (100, 4096)]
def fT (a : Nat) : Nat := ((fxT[a]?).getD (999, 0)).1
def fL (a : Nat) : Nat := ((fxT[a]?).getD (999, 0)).2
def fxR : List (Nat × Nat × Nat) := [(2, 0, 3), (2, 1, 5), (2, 2, 6), (2, 3, 37), (2, 4, 44), (2, 5, 45), (2, 6, 46), (2, 7, 47), (2, 8, 49), (2, 9, 55), (2, 10, 63), (2, 12, 66), (2, 13, 67), (2, 14, 68), (3, 3, 4), (6, 0, 7), (7, 0, 8), (7, 5, 9), (7, 6, 10), (7, 7, 11), (6, 1, 12), (12, 0, 13), (12, 5, 14), (12, 6, 15), (12, 7, 16), (6, 2, 17), (17, 0, 18), (17, 5, 19), (17, 6, 20), (17, 7, 21), (6, 3, 22), (22, 0, 23), (22, 5, 24), (22, 6, 25), (22, 7, 26), (6, 4, 27), (27, 0, 28), (27, 5, 29), (27, 6, 30), (27, 7, 31), (6, 5, 32), (32, 0, 33), (32, 5, 34), (32, 6, 35), (32, 7, 36), (37, 0, 38), (37, 1, 39), (37, 3, 40), (37, 4, 41), (37, 5, 42), (37, 6, 43), (47, 1, 48), (49, 0, 50), (49, 2, 51), (49, 3, 52), (49, 4, 53), (49, 5, 54), (55, 1, 56), (55, 2, 57), (55, 3, 58), (55, 4, 59), (55, 8, 60), (55, 9, 61), (55, 10, 62), (63, 1, 64), (63, 2, 65)]
def fR (a j : Nat) : Option Nat := lkp fxR a j
/-- the house's own cells: they are made once -/
def Fx (h : Hp) : Prop := 69 ≤ hN h ∧ (∀ a, fT a ≠ 999 → hT h a = fT a ∧ hL h a = fL a) ∧ (∀ a j b, fR a j = some b → hR h a j = some b)
theorem fT_lt {a : Nat} (q : fT a ≠ 999) : a < 69 := by
  rcases Nat.lt_or_ge a 69 with w | w
  · exact w
  · exact absurd (by unfold fT; rw [List.getElem?_eq_none (by have : fxT.length = 69 := (by decide +kernel); omega)]; rfl) q
theorem Fx.o {h : Hp} {a t : Nat} (F : Fx h) (e : fT a = t) (n : t ≠ 999) : Ob h a t := ⟨Nat.lt_of_lt_of_le (fT_lt (by rw [e]; exact n)) F.1, by rw [(F.2.1 a (by rw [e]; exact n)).1, e]⟩
theorem Fx.l {h : Hp} {a n : Nat} (F : Fx h) (w : fT a ≠ 999) (e : fL a = n) : hL h a = n := by rw [(F.2.1 a w).2, e]
theorem Fx.r {h : Hp} {a j b : Nat} (F : Fx h) (e : fR a j = some b) : hR h a j = some b := F.2.2 a j b e
/-- what the house's answers stand on: all but what is worked out anew -/
def DV (a j : Nat) : Bool := !(a == 60 || a == 61 || a == 62 || a == 66 || a == 67 || a == 68 || (a == 55 && (j == 5 || j == 6 || j == 7)))
theorem DV_ge {a j : Nat} (q : 69 ≤ a) : DV a j = true := by
  unfold DV
  rw [show (a == 60) = false from beq_false_of_ne (by omega), show (a == 61) = false from beq_false_of_ne (by omega), show (a == 62) = false from beq_false_of_ne (by omega), show (a == 66) = false from beq_false_of_ne (by omega), show (a == 67) = false from beq_false_of_ne (by omega), show (a == 68) = false from beq_false_of_ne (by omega), show (a == 55) = false from beq_false_of_ne (by omega)]; rfl
def Vis (D : Nat → Nat → Bool) : Prop := ∀ a j, DV a j = true → D a j = true
theorem Vis.g {D : Nat → Nat → Bool} (V : Vis D) {a j : Nat} (q : 69 ≤ a) : D a j = true := V a j (DV_ge q)
/-- all is seen -/
def DA (_ _ : Nat) : Bool := true
theorem DV_DA : SubD DV DA := fun _ _ _ => rfl
theorem Vis_DA : Vis DA := fun _ _ _ => rfl
theorem Vis_DV : Vis DV := fun _ _ q => q
/-- a range of the numbers of a row -/
def Rg (h : Hp) (a : Nat) (lo hi : Int) : Prop := ∀ j, lo ≤ hI h a j ∧ hI h a j ≤ hi
/-- a PIECE -/
def Pc (h : Hp) (p : Nat) : Prop := (69 ≤ p) ∧ (p + 6 < hN h) ∧ (hT h p = 4) ∧ (hT h (p + 1) = 100) ∧ (hL h (p + 1) = 9) ∧ (hR h p 6 = some (p + 1)) ∧ (hT h (p + 2) = 101) ∧ (hL h (p + 2) = 9) ∧ (hR h p 7 = some (p + 2)) ∧ (hT h (p + 3) = 100) ∧ (hL h (p + 3) = 8) ∧ (hR h p 8 = some (p + 3)) ∧ (hT h (p + 4) = 100) ∧ (hL h (p + 4) = 4) ∧ (hR h p 10 = some (p + 4)) ∧ (hT h (p + 5) = 100) ∧ (hL h (p + 5) = 8) ∧ (hR h p 11 = some (p + 5)) ∧ (hT h (p + 6) = 100) ∧ (hL h (p + 6) = 3) ∧ (hR h p 14 = some (p + 6)) ∧ (0 ≤ hI h p 0 ∧ hI h p 0 ≤ 11) ∧ (1 ≤ hI h p 1 ∧ hI h p 1 ≤ 3) ∧ (1 ≤ hI h p 2 ∧ hI h p 2 ≤ 3) ∧ (0 ≤ hI h p 3 ∧ hI h p 3 ≤ 5) ∧ (0 ≤ hI h p 4 ∧ hI h p 4 ≤ 1) ∧ (0 ≤ hI h p 5 ∧ hI h p 5 ≤ 2) ∧ (0 ≤ hI h p 9 ∧ hI h p 9 ≤ 6) ∧ (0 ≤ hI h p 12 ∧ hI h p 12 ≤ 1) ∧ (0 ≤ hI h p 13 ∧ hI h p 13 ≤ 1) ∧ (0 ≤ hI h p 15 ∧ hI h p 15 ≤ 50) ∧ (Rg h (p + 1) (0) 1023) ∧ (Rg h (p + 2) (0) 1) ∧ (Rg h (p + 3) (0) 16777215) ∧ (Rg h (p + 4) (0) 10000) ∧ (Rg h (p + 5) (0) 2) ∧ (Rg h (p + 6) (0) 99)
theorem Pc.g {h : Hp} {p : Nat} (q : Pc h p) : 69 ≤ p := q.1
theorem Pc.n {h : Hp} {p : Nat} (q : Pc h p) : p + 6 < hN h := q.2.1
theorem Pc.t {h : Hp} {p : Nat} (q : Pc h p) : hT h p = 4 := q.2.2.1
theorem Pc.t1 {h : Hp} {p : Nat} (q : Pc h p) : hT h (p + 1) = 100 := q.2.2.2.1
theorem Pc.l1 {h : Hp} {p : Nat} (q : Pc h p) : hL h (p + 1) = 9 := q.2.2.2.2.1
theorem Pc.r1 {h : Hp} {p : Nat} (q : Pc h p) : hR h p 6 = some (p + 1) := q.2.2.2.2.2.1
theorem Pc.t2 {h : Hp} {p : Nat} (q : Pc h p) : hT h (p + 2) = 101 := q.2.2.2.2.2.2.1
theorem Pc.l2 {h : Hp} {p : Nat} (q : Pc h p) : hL h (p + 2) = 9 := q.2.2.2.2.2.2.2.1
theorem Pc.r2 {h : Hp} {p : Nat} (q : Pc h p) : hR h p 7 = some (p + 2) := q.2.2.2.2.2.2.2.2.1
theorem Pc.t3 {h : Hp} {p : Nat} (q : Pc h p) : hT h (p + 3) = 100 := q.2.2.2.2.2.2.2.2.2.1
theorem Pc.l3 {h : Hp} {p : Nat} (q : Pc h p) : hL h (p + 3) = 8 := q.2.2.2.2.2.2.2.2.2.2.1
theorem Pc.r3 {h : Hp} {p : Nat} (q : Pc h p) : hR h p 8 = some (p + 3) := q.2.2.2.2.2.2.2.2.2.2.2.1
theorem Pc.t4 {h : Hp} {p : Nat} (q : Pc h p) : hT h (p + 4) = 100 := q.2.2.2.2.2.2.2.2.2.2.2.2.1
theorem Pc.l4 {h : Hp} {p : Nat} (q : Pc h p) : hL h (p + 4) = 4 := q.2.2.2.2.2.2.2.2.2.2.2.2.2.1
theorem Pc.r4 {h : Hp} {p : Nat} (q : Pc h p) : hR h p 10 = some (p + 4) := q.2.2.2.2.2.2.2.2.2.2.2.2.2.2.1
theorem Pc.t5 {h : Hp} {p : Nat} (q : Pc h p) : hT h (p + 5) = 100 := q.2.2.2.2.2.2.2.2.2.2.2.2.2.2.2.1
theorem Pc.l5 {h : Hp} {p : Nat} (q : Pc h p) : hL h (p + 5) = 8 := q.2.2.2.2.2.2.2.2.2.2.2.2.2.2.2.2.1
theorem Pc.r5 {h : Hp} {p : Nat} (q : Pc h p) : hR h p 11 = some (p + 5) := q.2.2.2.2.2.2.2.2.2.2.2.2.2.2.2.2.2.1
theorem Pc.t6 {h : Hp} {p : Nat} (q : Pc h p) : hT h (p + 6) = 100 := q.2.2.2.2.2.2.2.2.2.2.2.2.2.2.2.2.2.2.1
theorem Pc.l6 {h : Hp} {p : Nat} (q : Pc h p) : hL h (p + 6) = 3 := q.2.2.2.2.2.2.2.2.2.2.2.2.2.2.2.2.2.2.2.1
theorem Pc.r6 {h : Hp} {p : Nat} (q : Pc h p) : hR h p 14 = some (p + 6) := q.2.2.2.2.2.2.2.2.2.2.2.2.2.2.2.2.2.2.2.2.1
theorem Pc.number {h : Hp} {p : Nat} (q : Pc h p) : 0 ≤ hI h p 0 ∧ hI h p 0 ≤ 11 := q.2.2.2.2.2.2.2.2.2.2.2.2.2.2.2.2.2.2.2.2.2.1
theorem Pc.wide {h : Hp} {p : Nat} (q : Pc h p) : 1 ≤ hI h p 1 ∧ hI h p 1 ≤ 3 := q.2.2.2.2.2.2.2.2.2.2.2.2.2.2.2.2.2.2.2.2.2.2.1
theorem Pc.high {h : Hp} {p : Nat} (q : Pc h p) : 1 ≤ hI h p 2 ∧ hI h p 2 ≤ 3 := q.2.2.2.2.2.2.2.2.2.2.2.2.2.2.2.2.2.2.2.2.2.2.2.1
theorem Pc.sheet {h : Hp} {p : Nat} (q : Pc h p) : 0 ≤ hI h p 3 ∧ hI h p 3 ≤ 5 := q.2.2.2.2.2.2.2.2.2.2.2.2.2.2.2.2.2.2.2.2.2.2.2.2.1
theorem Pc.isTop {h : Hp} {p : Nat} (q : Pc h p) : 0 ≤ hI h p 4 ∧ hI h p 4 ≤ 1 := q.2.2.2.2.2.2.2.2.2.2.2.2.2.2.2.2.2.2.2.2.2.2.2.2.2.1
theorem Pc.place {h : Hp} {p : Nat} (q : Pc h p) : 0 ≤ hI h p 5 ∧ hI h p 5 ≤ 2 := q.2.2.2.2.2.2.2.2.2.2.2.2.2.2.2.2.2.2.2.2.2.2.2.2.2.2.1
theorem Pc.plateWide {h : Hp} {p : Nat} (q : Pc h p) : 0 ≤ hI h p 9 ∧ hI h p 9 ≤ 6 := q.2.2.2.2.2.2.2.2.2.2.2.2.2.2.2.2.2.2.2.2.2.2.2.2.2.2.2.1
theorem Pc.isTruthTold {h : Hp} {p : Nat} (q : Pc h p) : 0 ≤ hI h p 12 ∧ hI h p 12 ≤ 1 := q.2.2.2.2.2.2.2.2.2.2.2.2.2.2.2.2.2.2.2.2.2.2.2.2.2.2.2.2.1
theorem Pc.hasShade {h : Hp} {p : Nat} (q : Pc h p) : 0 ≤ hI h p 13 ∧ hI h p 13 ≤ 1 := q.2.2.2.2.2.2.2.2.2.2.2.2.2.2.2.2.2.2.2.2.2.2.2.2.2.2.2.2.2.1
theorem Pc.light {h : Hp} {p : Nat} (q : Pc h p) : 0 ≤ hI h p 15 ∧ hI h p 15 ≤ 50 := q.2.2.2.2.2.2.2.2.2.2.2.2.2.2.2.2.2.2.2.2.2.2.2.2.2.2.2.2.2.2.1
theorem Pc.seen {h : Hp} {p : Nat} (q : Pc h p) : Rg h (p + 1) (0) 1023 := q.2.2.2.2.2.2.2.2.2.2.2.2.2.2.2.2.2.2.2.2.2.2.2.2.2.2.2.2.2.2.2.1
theorem Pc.isClear {h : Hp} {p : Nat} (q : Pc h p) : Rg h (p + 2) (0) 1 := q.2.2.2.2.2.2.2.2.2.2.2.2.2.2.2.2.2.2.2.2.2.2.2.2.2.2.2.2.2.2.2.2.1
theorem Pc.fits {h : Hp} {p : Nat} (q : Pc h p) : Rg h (p + 3) (0) 16777215 := q.2.2.2.2.2.2.2.2.2.2.2.2.2.2.2.2.2.2.2.2.2.2.2.2.2.2.2.2.2.2.2.2.2.1
theorem Pc.gauges {h : Hp} {p : Nat} (q : Pc h p) : Rg h (p + 4) (0) 10000 := q.2.2.2.2.2.2.2.2.2.2.2.2.2.2.2.2.2.2.2.2.2.2.2.2.2.2.2.2.2.2.2.2.2.2.1
theorem Pc.marks {h : Hp} {p : Nat} (q : Pc h p) : Rg h (p + 5) (0) 2 := q.2.2.2.2.2.2.2.2.2.2.2.2.2.2.2.2.2.2.2.2.2.2.2.2.2.2.2.2.2.2.2.2.2.2.2.1
theorem Pc.shade {h : Hp} {p : Nat} (q : Pc h p) : Rg h (p + 6) (0) 99 := q.2.2.2.2.2.2.2.2.2.2.2.2.2.2.2.2.2.2.2.2.2.2.2.2.2.2.2.2.2.2.2.2.2.2.2.2
theorem Pc.mk {h : Hp} {p : Nat} (k0 : 69 ≤ p) (k1 : p + 6 < hN h) (k2 : hT h p = 4) (k3 : hT h (p + 1) = 100) (k4 : hL h (p + 1) = 9) (k5 : hR h p 6 = some (p + 1)) (k6 : hT h (p + 2) = 101) (k7 : hL h (p + 2) = 9) (k8 : hR h p 7 = some (p + 2)) (k9 : hT h (p + 3) = 100) (k10 : hL h (p + 3) = 8) (k11 : hR h p 8 = some (p + 3)) (k12 : hT h (p + 4) = 100) (k13 : hL h (p + 4) = 4) (k14 : hR h p 10 = some (p + 4)) (k15 : hT h (p + 5) = 100) (k16 : hL h (p + 5) = 8) (k17 : hR h p 11 = some (p + 5)) (k18 : hT h (p + 6) = 100) (k19 : hL h (p + 6) = 3) (k20 : hR h p 14 = some (p + 6)) (k21 : 0 ≤ hI h p 0 ∧ hI h p 0 ≤ 11) (k22 : 1 ≤ hI h p 1 ∧ hI h p 1 ≤ 3) (k23 : 1 ≤ hI h p 2 ∧ hI h p 2 ≤ 3) (k24 : 0 ≤ hI h p 3 ∧ hI h p 3 ≤ 5) (k25 : 0 ≤ hI h p 4 ∧ hI h p 4 ≤ 1) (k26 : 0 ≤ hI h p 5 ∧ hI h p 5 ≤ 2) (k27 : 0 ≤ hI h p 9 ∧ hI h p 9 ≤ 6) (k28 : 0 ≤ hI h p 12 ∧ hI h p 12 ≤ 1) (k29 : 0 ≤ hI h p 13 ∧ hI h p 13 ≤ 1) (k30 : 0 ≤ hI h p 15 ∧ hI h p 15 ≤ 50) (k31 : Rg h (p + 1) (0) 1023) (k32 : Rg h (p + 2) (0) 1) (k33 : Rg h (p + 3) (0) 16777215) (k34 : Rg h (p + 4) (0) 10000) (k35 : Rg h (p + 5) (0) 2) (k36 : Rg h (p + 6) (0) 99) : Pc h p := ⟨k0, k1, k2, k3, k4, k5, k6, k7, k8, k9, k10, k11, k12, k13, k14, k15, k16, k17, k18, k19, k20, k21, k22, k23, k24, k25, k26, k27, k28, k29, k30, k31, k32, k33, k34, k35, k36⟩
theorem Pc.ob {h : Hp} {p : Nat} (q : Pc h p) : Ob h p 4 := ⟨by have := q.n; omega, q.t⟩
theorem Pc.o1 {h : Hp} {p : Nat} (q : Pc h p) : Ob h (p + 1) 100 := ⟨by have := q.n; omega, q.t1⟩
theorem Pc.o2 {h : Hp} {p : Nat} (q : Pc h p) : Ob h (p + 2) 101 := ⟨by have := q.n; omega, q.t2⟩
theorem Pc.o3 {h : Hp} {p : Nat} (q : Pc h p) : Ob h (p + 3) 100 := ⟨by have := q.n; omega, q.t3⟩
theorem Pc.o4 {h : Hp} {p : Nat} (q : Pc h p) : Ob h (p + 4) 100 := ⟨by have := q.n; omega, q.t4⟩
theorem Pc.o5 {h : Hp} {p : Nat} (q : Pc h p) : Ob h (p + 5) 100 := ⟨by have := q.n; omega, q.t5⟩
theorem Pc.o6 {h : Hp} {p : Nat} (q : Pc h p) : Ob h (p + 6) 100 := ⟨by have := q.n; omega, q.t6⟩
/-- a COVER -/
def Cv (h : Hp) (p : Nat) : Prop := (69 ≤ p) ∧ (p + 1 < hN h) ∧ (hT h p = 1) ∧ (hT h (p + 1) = 100) ∧ (hL h (p + 1) = 10) ∧ (hR h p 7 = some (p + 1)) ∧ (0 ≤ hI h p 0 ∧ hI h p 0 ≤ 5) ∧ (0 ≤ hI h p 1 ∧ hI h p 1 ≤ 5) ∧ (1 ≤ hI h p 2 ∧ hI h p 2 ≤ 4) ∧ (0 ≤ hI h p 3 ∧ hI h p 3 ≤ 0) ∧ (0 ≤ hI h p 4 ∧ hI h p 4 ≤ 999) ∧ (-100 ≤ hI h p 5 ∧ hI h p 5 ≤ 20000) ∧ (0 ≤ hI h p 6 ∧ hI h p 6 ≤ 1) ∧ (Rg h (p + 1) 0 4)
theorem Cv.g {h : Hp} {p : Nat} (q : Cv h p) : 69 ≤ p := q.1
theorem Cv.n {h : Hp} {p : Nat} (q : Cv h p) : p + 1 < hN h := q.2.1
theorem Cv.t {h : Hp} {p : Nat} (q : Cv h p) : hT h p = 1 := q.2.2.1
theorem Cv.t1 {h : Hp} {p : Nat} (q : Cv h p) : hT h (p + 1) = 100 := q.2.2.2.1
theorem Cv.l1 {h : Hp} {p : Nat} (q : Cv h p) : hL h (p + 1) = 10 := q.2.2.2.2.1
theorem Cv.r1 {h : Hp} {p : Nat} (q : Cv h p) : hR h p 7 = some (p + 1) := q.2.2.2.2.2.1
theorem Cv.from {h : Hp} {p : Nat} (q : Cv h p) : 0 ≤ hI h p 0 ∧ hI h p 0 ≤ 5 := q.2.2.2.2.2.2.1
theorem Cv.to {h : Hp} {p : Nat} (q : Cv h p) : 0 ≤ hI h p 1 ∧ hI h p 1 ≤ 5 := q.2.2.2.2.2.2.2.1
theorem Cv.weight {h : Hp} {p : Nat} (q : Cv h p) : 1 ≤ hI h p 2 ∧ hI h p 2 ≤ 4 := q.2.2.2.2.2.2.2.2.1
theorem Cv.die {h : Hp} {p : Nat} (q : Cv h p) : 0 ≤ hI h p 3 ∧ hI h p 3 ≤ 0 := q.2.2.2.2.2.2.2.2.2.1
theorem Cv.day {h : Hp} {p : Nat} (q : Cv h p) : 0 ≤ hI h p 4 ∧ hI h p 4 ≤ 999 := q.2.2.2.2.2.2.2.2.2.2.1
theorem Cv.arrived {h : Hp} {p : Nat} (q : Cv h p) : -100 ≤ hI h p 5 ∧ hI h p 5 ≤ 20000 := q.2.2.2.2.2.2.2.2.2.2.2.1
theorem Cv.isTaxed {h : Hp} {p : Nat} (q : Cv h p) : 0 ≤ hI h p 6 ∧ hI h p 6 ≤ 1 := q.2.2.2.2.2.2.2.2.2.2.2.2.1
theorem Cv.stamps {h : Hp} {p : Nat} (q : Cv h p) : Rg h (p + 1) 0 4 := q.2.2.2.2.2.2.2.2.2.2.2.2.2
theorem Cv.mk {h : Hp} {p : Nat} (k0 : 69 ≤ p) (k1 : p + 1 < hN h) (k2 : hT h p = 1) (k3 : hT h (p + 1) = 100) (k4 : hL h (p + 1) = 10) (k5 : hR h p 7 = some (p + 1)) (k6 : 0 ≤ hI h p 0 ∧ hI h p 0 ≤ 5) (k7 : 0 ≤ hI h p 1 ∧ hI h p 1 ≤ 5) (k8 : 1 ≤ hI h p 2 ∧ hI h p 2 ≤ 4) (k9 : 0 ≤ hI h p 3 ∧ hI h p 3 ≤ 0) (k10 : 0 ≤ hI h p 4 ∧ hI h p 4 ≤ 999) (k11 : -100 ≤ hI h p 5 ∧ hI h p 5 ≤ 20000) (k12 : 0 ≤ hI h p 6 ∧ hI h p 6 ≤ 1) (k13 : Rg h (p + 1) 0 4) : Cv h p := ⟨k0, k1, k2, k3, k4, k5, k6, k7, k8, k9, k10, k11, k12, k13⟩
theorem Cv.ob {h : Hp} {p : Nat} (q : Cv h p) : Ob h p 1 := ⟨by have := q.n; omega, q.t⟩
theorem Cv.o1 {h : Hp} {p : Nat} (q : Cv h p) : Ob h (p + 1) 100 := ⟨by have := q.n; omega, q.t1⟩
/-- an ISSUE or a DIE -/
def Tm (h : Hp) (p : Nat) : Prop := (69 ≤ p) ∧ (p < hN h) ∧ (hT h p = 10) ∧ (0 ≤ hI h p 0 ∧ hI h p 0 ≤ 99) ∧ (0 ≤ hI h p 1 ∧ hI h p 1 ≤ 999) ∧ (0 ≤ hI h p 2 ∧ hI h p 2 ≤ 999)
theorem Tm.g {h : Hp} {p : Nat} (q : Tm h p) : 69 ≤ p := q.1
theorem Tm.n {h : Hp} {p : Nat} (q : Tm h p) : p < hN h := q.2.1
theorem Tm.t {h : Hp} {p : Nat} (q : Tm h p) : hT h p = 10 := q.2.2.1
theorem Tm.what {h : Hp} {p : Nat} (q : Tm h p) : 0 ≤ hI h p 0 ∧ hI h p 0 ≤ 99 := q.2.2.2.1
theorem Tm.frm {h : Hp} {p : Nat} (q : Tm h p) : 0 ≤ hI h p 1 ∧ hI h p 1 ≤ 999 := q.2.2.2.2.1
theorem Tm.to {h : Hp} {p : Nat} (q : Tm h p) : 0 ≤ hI h p 2 ∧ hI h p 2 ≤ 999 := q.2.2.2.2.2
theorem Tm.mk {h : Hp} {p : Nat} (k0 : 69 ≤ p) (k1 : p < hN h) (k2 : hT h p = 10) (k3 : 0 ≤ hI h p 0 ∧ hI h p 0 ≤ 99) (k4 : 0 ≤ hI h p 1 ∧ hI h p 1 ≤ 999) (k5 : 0 ≤ hI h p 2 ∧ hI h p 2 ≤ 999) : Tm h p := ⟨k0, k1, k2, k3, k4, k5⟩
theorem Tm.ob {h : Hp} {p : Nat} (q : Tm h p) : Ob h p 10 := ⟨q.n, q.t⟩
/-- a BID -/
def Bi (h : Hp) (p : Nat) : Prop := (69 ≤ p) ∧ (p < hN h) ∧ (hT h p = 0) ∧ (0 ≤ hI h p 0 ∧ hI h p 0 ≤ 9) ∧ (1 ≤ hI h p 1 ∧ hI h p 1 ≤ 255) ∧ (1 ≤ hI h p 2 ∧ hI h p 2 ≤ 9999)
theorem Bi.g {h : Hp} {p : Nat} (q : Bi h p) : 69 ≤ p := q.1
theorem Bi.n {h : Hp} {p : Nat} (q : Bi h p) : p < hN h := q.2.1
theorem Bi.t {h : Hp} {p : Nat} (q : Bi h p) : hT h p = 0 := q.2.2.1
theorem Bi.bidder {h : Hp} {p : Nat} (q : Bi h p) : 0 ≤ hI h p 0 ∧ hI h p 0 ≤ 9 := q.2.2.2.1
theorem Bi.items {h : Hp} {p : Nat} (q : Bi h p) : 1 ≤ hI h p 1 ∧ hI h p 1 ≤ 255 := q.2.2.2.2.1
theorem Bi.amount {h : Hp} {p : Nat} (q : Bi h p) : 1 ≤ hI h p 2 ∧ hI h p 2 ≤ 9999 := q.2.2.2.2.2
theorem Bi.mk {h : Hp} {p : Nat} (k0 : 69 ≤ p) (k1 : p < hN h) (k2 : hT h p = 0) (k3 : 0 ≤ hI h p 0 ∧ hI h p 0 ≤ 9) (k4 : 1 ≤ hI h p 1 ∧ hI h p 1 ≤ 255) (k5 : 1 ≤ hI h p 2 ∧ hI h p 2 ≤ 9999) : Bi h p := ⟨k0, k1, k2, k3, k4, k5⟩
theorem Bi.ob {h : Hp} {p : Nat} (q : Bi h p) : Ob h p 0 := ⟨q.n, q.t⟩
/-- a SHEET -/
def Sh (h : Hp) (p : Nat) : Prop := (7 ≤ p) ∧ (p + 4 < 37) ∧ (hT h p = 8) ∧ (69 ≤ hN h) ∧ (hT h (p + 1) = 105) ∧ (hL h (p + 1) = 3) ∧ (hR h p 0 = some (p + 1)) ∧ (hT h (p + 2) = 100) ∧ (hL h (p + 2) = 3) ∧ (hR h p 5 = some (p + 2)) ∧ (hT h (p + 3) = 100) ∧ (hL h (p + 3) = 3) ∧ (hR h p 6 = some (p + 3)) ∧ (hT h (p + 4) = 100) ∧ (hL h (p + 4) = 3) ∧ (hR h p 7 = some (p + 4)) ∧ (0 ≤ hI h p 1 ∧ hI h p 1 ≤ 3) ∧ (0 ≤ hI h p 2 ∧ hI h p 2 ≤ 1000000) ∧ (0 ≤ hI h p 3 ∧ hI h p 3 ≤ 255) ∧ (Rg h (p + 2) 0 16777215)
theorem Sh.g {h : Hp} {p : Nat} (q : Sh h p) : 7 ≤ p := q.1
theorem Sh.n {h : Hp} {p : Nat} (q : Sh h p) : p + 4 < 37 := q.2.1
theorem Sh.t {h : Hp} {p : Nat} (q : Sh h p) : hT h p = 8 := q.2.2.1
theorem Sh.f {h : Hp} {p : Nat} (q : Sh h p) : 69 ≤ hN h := q.2.2.2.1
theorem Sh.t1 {h : Hp} {p : Nat} (q : Sh h p) : hT h (p + 1) = 105 := q.2.2.2.2.1
theorem Sh.l1 {h : Hp} {p : Nat} (q : Sh h p) : hL h (p + 1) = 3 := q.2.2.2.2.2.1
theorem Sh.r1 {h : Hp} {p : Nat} (q : Sh h p) : hR h p 0 = some (p + 1) := q.2.2.2.2.2.2.1
theorem Sh.t2 {h : Hp} {p : Nat} (q : Sh h p) : hT h (p + 2) = 100 := q.2.2.2.2.2.2.2.1
theorem Sh.l2 {h : Hp} {p : Nat} (q : Sh h p) : hL h (p + 2) = 3 := q.2.2.2.2.2.2.2.2.1
theorem Sh.r2 {h : Hp} {p : Nat} (q : Sh h p) : hR h p 5 = some (p + 2) := q.2.2.2.2.2.2.2.2.2.1
theorem Sh.t3 {h : Hp} {p : Nat} (q : Sh h p) : hT h (p + 3) = 100 := q.2.2.2.2.2.2.2.2.2.2.1
theorem Sh.l3 {h : Hp} {p : Nat} (q : Sh h p) : hL h (p + 3) = 3 := q.2.2.2.2.2.2.2.2.2.2.2.1
theorem Sh.r3 {h : Hp} {p : Nat} (q : Sh h p) : hR h p 6 = some (p + 3) := q.2.2.2.2.2.2.2.2.2.2.2.2.1
theorem Sh.t4 {h : Hp} {p : Nat} (q : Sh h p) : hT h (p + 4) = 100 := q.2.2.2.2.2.2.2.2.2.2.2.2.2.1
theorem Sh.l4 {h : Hp} {p : Nat} (q : Sh h p) : hL h (p + 4) = 3 := q.2.2.2.2.2.2.2.2.2.2.2.2.2.2.1
theorem Sh.r4 {h : Hp} {p : Nat} (q : Sh h p) : hR h p 7 = some (p + 4) := q.2.2.2.2.2.2.2.2.2.2.2.2.2.2.2.1
theorem Sh.size {h : Hp} {p : Nat} (q : Sh h p) : 0 ≤ hI h p 1 ∧ hI h p 1 ≤ 3 := q.2.2.2.2.2.2.2.2.2.2.2.2.2.2.2.2.1
theorem Sh.platings {h : Hp} {p : Nat} (q : Sh h p) : 0 ≤ hI h p 2 ∧ hI h p 2 ≤ 1000000 := q.2.2.2.2.2.2.2.2.2.2.2.2.2.2.2.2.2.1
theorem Sh.printings {h : Hp} {p : Nat} (q : Sh h p) : 0 ≤ hI h p 3 ∧ hI h p 3 ≤ 255 := q.2.2.2.2.2.2.2.2.2.2.2.2.2.2.2.2.2.2.1
theorem Sh.places {h : Hp} {p : Nat} (q : Sh h p) : Rg h (p + 2) 0 16777215 := q.2.2.2.2.2.2.2.2.2.2.2.2.2.2.2.2.2.2.2
theorem Sh.mk {h : Hp} {p : Nat} (k0 : 7 ≤ p) (k1 : p + 4 < 37) (k2 : hT h p = 8) (k3 : 69 ≤ hN h) (k4 : hT h (p + 1) = 105) (k5 : hL h (p + 1) = 3) (k6 : hR h p 0 = some (p + 1)) (k7 : hT h (p + 2) = 100) (k8 : hL h (p + 2) = 3) (k9 : hR h p 5 = some (p + 2)) (k10 : hT h (p + 3) = 100) (k11 : hL h (p + 3) = 3) (k12 : hR h p 6 = some (p + 3)) (k13 : hT h (p + 4) = 100) (k14 : hL h (p + 4) = 3) (k15 : hR h p 7 = some (p + 4)) (k16 : 0 ≤ hI h p 1 ∧ hI h p 1 ≤ 3) (k17 : 0 ≤ hI h p 2 ∧ hI h p 2 ≤ 1000000) (k18 : 0 ≤ hI h p 3 ∧ hI h p 3 ≤ 255) (k19 : Rg h (p + 2) 0 16777215) : Sh h p := ⟨k0, k1, k2, k3, k4, k5, k6, k7, k8, k9, k10, k11, k12, k13, k14, k15, k16, k17, k18, k19⟩
theorem Sh.ob {h : Hp} {p : Nat} (q : Sh h p) : Ob h p 8 := ⟨by have := q.n; have := q.f; omega, q.t⟩
theorem Sh.o1 {h : Hp} {p : Nat} (q : Sh h p) : Ob h (p + 1) 105 := ⟨by have := q.n; have := q.f; omega, q.t1⟩
theorem Sh.o2 {h : Hp} {p : Nat} (q : Sh h p) : Ob h (p + 2) 100 := ⟨by have := q.n; have := q.f; omega, q.t2⟩
theorem Sh.o3 {h : Hp} {p : Nat} (q : Sh h p) : Ob h (p + 3) 100 := ⟨by have := q.n; have := q.f; omega, q.t3⟩
theorem Sh.o4 {h : Hp} {p : Nat} (q : Sh h p) : Ob h (p + 4) 100 := ⟨by have := q.n; have := q.f; omega, q.t4⟩
theorem DV_lt {a j : Nat} (q : a < 55) : DV a j = true := by
  unfold DV
  rw [show (a == 60) = false from beq_false_of_ne (by omega), show (a == 61) = false from beq_false_of_ne (by omega), show (a == 62) = false from beq_false_of_ne (by omega), show (a == 66) = false from beq_false_of_ne (by omega), show (a == 67) = false from beq_false_of_ne (by omega), show (a == 68) = false from beq_false_of_ne (by omega), show (a == 55) = false from beq_false_of_ne (by omega)]; rfl
theorem Vis.s {D : Nat → Nat → Bool} (V : Vis D) {a j : Nat} (q : a < 55) : D a j = true := V a j (DV_lt q)
theorem Fx.sh {h : Hp} (F : Fx h) (x : Int) (q : 0 ≤ x ∧ x < 6) : hR h 6 x.toNat = some (7 + 5 * x.toNat) := by
  rcases (show x = 0 ∨ x = 1 ∨ x = 2 ∨ x = 3 ∨ x = 4 ∨ x = 5 by omega) with rfl | rfl | rfl | rfl | rfl | rfl <;> exact F.r rfl
/-- a list at the cell l: its row e, which is its own, its n members, of which K holds -/
def Ls (K : Hp → Nat → Prop) (h : Hp) (l : Nat) (m : Nat → Nat) (n : Nat) : Prop := hI h l 2 = (n : Int) ∧ ∃ e, hR h l 1 = some e ∧ (e = 0 ∨ 69 ≤ e) ∧ e < hN h ∧ hT h e = 103 ∧ n ≤ hL h e ∧ (∀ j, j < n → hR h e j = some (m j) ∧ K h (m j)) ∧ (∀ j, n ≤ j → hR h e j = none)
/-- the whole house -/
def Hv (h : Hp) (mP mC mI mD mB : Nat → Nat) (nP nC nI nD nB : Nat) : Prop := (Fx h) ∧ ((0 ≤ hI h 3 0 ∧ hI h 3 0 ≤ 6) ∧ (0 ≤ hI h 3 1 ∧ hI h 3 1 ≤ 4) ∧ (0 ≤ hI h 3 2 ∧ hI h 3 2 ≤ 60) ∧ Rg h 4 0 1023) ∧ (Ls Pc h 5 mP nP) ∧ (nP ≤ 12) ∧ (Ls Cv h 46 mC nC) ∧ (nC ≤ 12) ∧ (Ls Tm h 44 mI nI) ∧ (nI ≤ 10) ∧ (Ls Tm h 45 mD nD) ∧ (nD = 1) ∧ (Ls Bi h 59 mB nB) ∧ (nB ≤ 40) ∧ (0 ≤ hI h 2 11 ∧ hI h 2 11 ≤ 999) ∧ (∀ s, s < 6 → Sh h (7 + 5 * s)) ∧ (0 ≤ hI h 37 2 ∧ hI h 37 2 ≤ 16) ∧ (0 ≤ hI h 47 0 ∧ hI h 47 0 ≤ 5) ∧ (0 ≤ hI h 49 1 ∧ hI h 49 1 ≤ 20) ∧ (0 ≤ hI h 55 0 ∧ hI h 55 0 ≤ 8) ∧ (0 ≤ hI h 63 0 ∧ hI h 63 0 ≤ 8) ∧ (Rg h 38 0 9) ∧ (Rg h 39 0 1000) ∧ (Rg h 40 0 999) ∧ (Rg h 41 0 2) ∧ (Rg h 42 0 4) ∧ (Rg h 43 0 99) ∧ (Rg h 48 0 16) ∧ (Rg h 50 0 9) ∧ (Rg h 51 0 11) ∧ (Rg h 52 0 4) ∧ (Rg h 53 0 999) ∧ (Rg h 54 0 1) ∧ (Rg h 56 0 1) ∧ (Rg h 57 0 11) ∧ (Rg h 58 0 9999) ∧ (Rg h 64 0 1) ∧ (Rg h 65 0 99) ∧ (∀ k : Nat, (k : Int) < hI h 55 0 → (hI h 56 k = 1 → hI h 57 k < nC) ∧ (hI h 56 k = 0 → hI h 57 k < nP))
theorem Hv.F {h : Hp} {mP mC mI mD mB : Nat → Nat} {nP nC nI nD nB : Nat} (q : Hv h mP mC mI mD mB nP nC nI nD nB) : Fx h := q.1
theorem Hv.pl {h : Hp} {mP mC mI mD mB : Nat → Nat} {nP nC nI nD nB : Nat} (q : Hv h mP mC mI mD mB nP nC nI nD nB) : (0 ≤ hI h 3 0 ∧ hI h 3 0 ≤ 6) ∧ (0 ≤ hI h 3 1 ∧ hI h 3 1 ≤ 4) ∧ (0 ≤ hI h 3 2 ∧ hI h 3 2 ≤ 60) ∧ Rg h 4 0 1023 := q.2.1
theorem Hv.lp {h : Hp} {mP mC mI mD mB : Nat → Nat} {nP nC nI nD nB : Nat} (q : Hv h mP mC mI mD mB nP nC nI nD nB) : Ls Pc h 5 mP nP := q.2.2.1
theorem Hv.np {h : Hp} {mP mC mI mD mB : Nat → Nat} {nP nC nI nD nB : Nat} (q : Hv h mP mC mI mD mB nP nC nI nD nB) : nP ≤ 12 := q.2.2.2.1
theorem Hv.lc {h : Hp} {mP mC mI mD mB : Nat → Nat} {nP nC nI nD nB : Nat} (q : Hv h mP mC mI mD mB nP nC nI nD nB) : Ls Cv h 46 mC nC := q.2.2.2.2.1
theorem Hv.nc {h : Hp} {mP mC mI mD mB : Nat → Nat} {nP nC nI nD nB : Nat} (q : Hv h mP mC mI mD mB nP nC nI nD nB) : nC ≤ 12 := q.2.2.2.2.2.1
theorem Hv.li {h : Hp} {mP mC mI mD mB : Nat → Nat} {nP nC nI nD nB : Nat} (q : Hv h mP mC mI mD mB nP nC nI nD nB) : Ls Tm h 44 mI nI := q.2.2.2.2.2.2.1
theorem Hv.ni {h : Hp} {mP mC mI mD mB : Nat → Nat} {nP nC nI nD nB : Nat} (q : Hv h mP mC mI mD mB nP nC nI nD nB) : nI ≤ 10 := q.2.2.2.2.2.2.2.1
theorem Hv.ld {h : Hp} {mP mC mI mD mB : Nat → Nat} {nP nC nI nD nB : Nat} (q : Hv h mP mC mI mD mB nP nC nI nD nB) : Ls Tm h 45 mD nD := q.2.2.2.2.2.2.2.2.1
theorem Hv.nd {h : Hp} {mP mC mI mD mB : Nat → Nat} {nP nC nI nD nB : Nat} (q : Hv h mP mC mI mD mB nP nC nI nD nB) : nD = 1 := q.2.2.2.2.2.2.2.2.2.1
theorem Hv.lb {h : Hp} {mP mC mI mD mB : Nat → Nat} {nP nC nI nD nB : Nat} (q : Hv h mP mC mI mD mB nP nC nI nD nB) : Ls Bi h 59 mB nB := q.2.2.2.2.2.2.2.2.2.2.1
theorem Hv.nb {h : Hp} {mP mC mI mD mB : Nat → Nat} {nP nC nI nD nB : Nat} (q : Hv h mP mC mI mD mB nP nC nI nD nB) : nB ≤ 40 := q.2.2.2.2.2.2.2.2.2.2.2.1
theorem Hv.today {h : Hp} {mP mC mI mD mB : Nat → Nat} {nP nC nI nD nB : Nat} (q : Hv h mP mC mI mD mB nP nC nI nD nB) : 0 ≤ hI h 2 11 ∧ hI h 2 11 ≤ 999 := q.2.2.2.2.2.2.2.2.2.2.2.2.1
theorem Hv.sh {h : Hp} {mP mC mI mD mB : Nat → Nat} {nP nC nI nD nB : Nat} (q : Hv h mP mC mI mD mB nP nC nI nD nB) : ∀ s, s < 6 → Sh h (7 + 5 * s) := q.2.2.2.2.2.2.2.2.2.2.2.2.2.1
theorem Hv.rates {h : Hp} {mP mC mI mD mB : Nat → Nat} {nP nC nI nD nB : Nat} (q : Hv h mP mC mI mD mB nP nC nI nD nB) : 0 ≤ hI h 37 2 ∧ hI h 37 2 ≤ 16 := q.2.2.2.2.2.2.2.2.2.2.2.2.2.2.1
theorem Hv.hands {h : Hp} {mP mC mI mD mB : Nat → Nat} {nP nC nI nD nB : Nat} (q : Hv h mP mC mI mD mB nP nC nI nD nB) : 0 ≤ hI h 47 0 ∧ hI h 47 0 ≤ 5 := q.2.2.2.2.2.2.2.2.2.2.2.2.2.2.2.1
theorem Hv.opinions {h : Hp} {mP mC mI mD mB : Nat → Nat} {nP nC nI nD nB : Nat} (q : Hv h mP mC mI mD mB nP nC nI nD nB) : 0 ≤ hI h 49 1 ∧ hI h 49 1 ≤ 20 := q.2.2.2.2.2.2.2.2.2.2.2.2.2.2.2.2.1
theorem Hv.items {h : Hp} {mP mC mI mD mB : Nat → Nat} {nP nC nI nD nB : Nat} (q : Hv h mP mC mI mD mB nP nC nI nD nB) : 0 ≤ hI h 55 0 ∧ hI h 55 0 ≤ 8 := q.2.2.2.2.2.2.2.2.2.2.2.2.2.2.2.2.2.1
theorem Hv.count {h : Hp} {mP mC mI mD mB : Nat → Nat} {nP nC nI nD nB : Nat} (q : Hv h mP mC mI mD mB nP nC nI nD nB) : 0 ≤ hI h 63 0 ∧ hI h 63 0 ≤ 8 := q.2.2.2.2.2.2.2.2.2.2.2.2.2.2.2.2.2.2.1
theorem Hv.a38 {h : Hp} {mP mC mI mD mB : Nat → Nat} {nP nC nI nD nB : Nat} (q : Hv h mP mC mI mD mB nP nC nI nD nB) : Rg h 38 0 9 := q.2.2.2.2.2.2.2.2.2.2.2.2.2.2.2.2.2.2.2.1
theorem Hv.a39 {h : Hp} {mP mC mI mD mB : Nat → Nat} {nP nC nI nD nB : Nat} (q : Hv h mP mC mI mD mB nP nC nI nD nB) : Rg h 39 0 1000 := q.2.2.2.2.2.2.2.2.2.2.2.2.2.2.2.2.2.2.2.2.1
theorem Hv.a40 {h : Hp} {mP mC mI mD mB : Nat → Nat} {nP nC nI nD nB : Nat} (q : Hv h mP mC mI mD mB nP nC nI nD nB) : Rg h 40 0 999 := q.2.2.2.2.2.2.2.2.2.2.2.2.2.2.2.2.2.2.2.2.2.1
theorem Hv.a41 {h : Hp} {mP mC mI mD mB : Nat → Nat} {nP nC nI nD nB : Nat} (q : Hv h mP mC mI mD mB nP nC nI nD nB) : Rg h 41 0 2 := q.2.2.2.2.2.2.2.2.2.2.2.2.2.2.2.2.2.2.2.2.2.2.1
theorem Hv.a42 {h : Hp} {mP mC mI mD mB : Nat → Nat} {nP nC nI nD nB : Nat} (q : Hv h mP mC mI mD mB nP nC nI nD nB) : Rg h 42 0 4 := q.2.2.2.2.2.2.2.2.2.2.2.2.2.2.2.2.2.2.2.2.2.2.2.1
theorem Hv.a43 {h : Hp} {mP mC mI mD mB : Nat → Nat} {nP nC nI nD nB : Nat} (q : Hv h mP mC mI mD mB nP nC nI nD nB) : Rg h 43 0 99 := q.2.2.2.2.2.2.2.2.2.2.2.2.2.2.2.2.2.2.2.2.2.2.2.2.1
theorem Hv.a48 {h : Hp} {mP mC mI mD mB : Nat → Nat} {nP nC nI nD nB : Nat} (q : Hv h mP mC mI mD mB nP nC nI nD nB) : Rg h 48 0 16 := q.2.2.2.2.2.2.2.2.2.2.2.2.2.2.2.2.2.2.2.2.2.2.2.2.2.1
theorem Hv.a50 {h : Hp} {mP mC mI mD mB : Nat → Nat} {nP nC nI nD nB : Nat} (q : Hv h mP mC mI mD mB nP nC nI nD nB) : Rg h 50 0 9 := q.2.2.2.2.2.2.2.2.2.2.2.2.2.2.2.2.2.2.2.2.2.2.2.2.2.2.1
theorem Hv.a51 {h : Hp} {mP mC mI mD mB : Nat → Nat} {nP nC nI nD nB : Nat} (q : Hv h mP mC mI mD mB nP nC nI nD nB) : Rg h 51 0 11 := q.2.2.2.2.2.2.2.2.2.2.2.2.2.2.2.2.2.2.2.2.2.2.2.2.2.2.2.1
theorem Hv.a52 {h : Hp} {mP mC mI mD mB : Nat → Nat} {nP nC nI nD nB : Nat} (q : Hv h mP mC mI mD mB nP nC nI nD nB) : Rg h 52 0 4 := q.2.2.2.2.2.2.2.2.2.2.2.2.2.2.2.2.2.2.2.2.2.2.2.2.2.2.2.2.1
theorem Hv.a53 {h : Hp} {mP mC mI mD mB : Nat → Nat} {nP nC nI nD nB : Nat} (q : Hv h mP mC mI mD mB nP nC nI nD nB) : Rg h 53 0 999 := q.2.2.2.2.2.2.2.2.2.2.2.2.2.2.2.2.2.2.2.2.2.2.2.2.2.2.2.2.2.1
theorem Hv.a54 {h : Hp} {mP mC mI mD mB : Nat → Nat} {nP nC nI nD nB : Nat} (q : Hv h mP mC mI mD mB nP nC nI nD nB) : Rg h 54 0 1 := q.2.2.2.2.2.2.2.2.2.2.2.2.2.2.2.2.2.2.2.2.2.2.2.2.2.2.2.2.2.2.1
theorem Hv.a56 {h : Hp} {mP mC mI mD mB : Nat → Nat} {nP nC nI nD nB : Nat} (q : Hv h mP mC mI mD mB nP nC nI nD nB) : Rg h 56 0 1 := q.2.2.2.2.2.2.2.2.2.2.2.2.2.2.2.2.2.2.2.2.2.2.2.2.2.2.2.2.2.2.2.1
theorem Hv.a57 {h : Hp} {mP mC mI mD mB : Nat → Nat} {nP nC nI nD nB : Nat} (q : Hv h mP mC mI mD mB nP nC nI nD nB) : Rg h 57 0 11 := q.2.2.2.2.2.2.2.2.2.2.2.2.2.2.2.2.2.2.2.2.2.2.2.2.2.2.2.2.2.2.2.2.1
theorem Hv.a58 {h : Hp} {mP mC mI mD mB : Nat → Nat} {nP nC nI nD nB : Nat} (q : Hv h mP mC mI mD mB nP nC nI nD nB) : Rg h 58 0 9999 := q.2.2.2.2.2.2.2.2.2.2.2.2.2.2.2.2.2.2.2.2.2.2.2.2.2.2.2.2.2.2.2.2.2.1
theorem Hv.a64 {h : Hp} {mP mC mI mD mB : Nat → Nat} {nP nC nI nD nB : Nat} (q : Hv h mP mC mI mD mB nP nC nI nD nB) : Rg h 64 0 1 := q.2.2.2.2.2.2.2.2.2.2.2.2.2.2.2.2.2.2.2.2.2.2.2.2.2.2.2.2.2.2.2.2.2.2.1
theorem Hv.a65 {h : Hp} {mP mC mI mD mB : Nat → Nat} {nP nC nI nD nB : Nat} (q : Hv h mP mC mI mD mB nP nC nI nD nB) : Rg h 65 0 99 := q.2.2.2.2.2.2.2.2.2.2.2.2.2.2.2.2.2.2.2.2.2.2.2.2.2.2.2.2.2.2.2.2.2.2.2.1
theorem Hv.it {h : Hp} {mP mC mI mD mB : Nat → Nat} {nP nC nI nD nB : Nat} (q : Hv h mP mC mI mD mB nP nC nI nD nB) : ∀ k : Nat, (k : Int) < hI h 55 0 → (hI h 56 k = 1 → hI h 57 k < nC) ∧ (hI h 56 k = 0 → hI h 57 k < nP) := q.2.2.2.2.2.2.2.2.2.2.2.2.2.2.2.2.2.2.2.2.2.2.2.2.2.2.2.2.2.2.2.2.2.2.2.2
theorem Hv.mk {h : Hp} {mP mC mI mD mB : Nat → Nat} {nP nC nI nD nB : Nat} (k0 : Fx h) (k1 : (0 ≤ hI h 3 0 ∧ hI h 3 0 ≤ 6) ∧ (0 ≤ hI h 3 1 ∧ hI h 3 1 ≤ 4) ∧ (0 ≤ hI h 3 2 ∧ hI h 3 2 ≤ 60) ∧ Rg h 4 0 1023) (k2 : Ls Pc h 5 mP nP) (k3 : nP ≤ 12) (k4 : Ls Cv h 46 mC nC) (k5 : nC ≤ 12) (k6 : Ls Tm h 44 mI nI) (k7 : nI ≤ 10) (k8 : Ls Tm h 45 mD nD) (k9 : nD = 1) (k10 : Ls Bi h 59 mB nB) (k11 : nB ≤ 40) (k12 : 0 ≤ hI h 2 11 ∧ hI h 2 11 ≤ 999) (k13 : ∀ s, s < 6 → Sh h (7 + 5 * s)) (k14 : 0 ≤ hI h 37 2 ∧ hI h 37 2 ≤ 16) (k15 : 0 ≤ hI h 47 0 ∧ hI h 47 0 ≤ 5) (k16 : 0 ≤ hI h 49 1 ∧ hI h 49 1 ≤ 20) (k17 : 0 ≤ hI h 55 0 ∧ hI h 55 0 ≤ 8) (k18 : 0 ≤ hI h 63 0 ∧ hI h 63 0 ≤ 8) (k19 : Rg h 38 0 9) (k20 : Rg h 39 0 1000) (k21 : Rg h 40 0 999) (k22 : Rg h 41 0 2) (k23 : Rg h 42 0 4) (k24 : Rg h 43 0 99) (k25 : Rg h 48 0 16) (k26 : Rg h 50 0 9) (k27 : Rg h 51 0 11) (k28 : Rg h 52 0 4) (k29 : Rg h 53 0 999) (k30 : Rg h 54 0 1) (k31 : Rg h 56 0 1) (k32 : Rg h 57 0 11) (k33 : Rg h 58 0 9999) (k34 : Rg h 64 0 1) (k35 : Rg h 65 0 99) (k36 : ∀ k : Nat, (k : Int) < hI h 55 0 → (hI h 56 k = 1 → hI h 57 k < nC) ∧ (hI h 56 k = 0 → hI h 57 k < nP)) : Hv h mP mC mI mD mB nP nC nI nD nB := ⟨k0, k1, k2, k3, k4, k5, k6, k7, k8, k9, k10, k11, k12, k13, k14, k15, k16, k17, k18, k19, k20, k21, k22, k23, k24, k25, k26, k27, k28, k29, k30, k31, k32, k33, k34, k35, k36⟩
theorem PE_of {D : Nat → Nat → Bool} {d z : Nat} {as : List XV} {h : Hp} {P : Int → Prop} (k : ∀ Q : XO × Hp → Prop, (∀ v : Int, P v → Q (.inl (some (vI v)), h)) → wp D d z 0 (ent z as) [] h Q) : ∃ v : Int, P v ∧ PV D d z as h (vI v) := by
  obtain ⟨n, r, e, v, hv, rfl⟩ := k (fun r => ∃ v : Int, P v ∧ r = (.inl (some (vI v)), h)) (fun v hv => ⟨v, hv, rfl⟩)
  exact ⟨v, hv, n, _, e, rfl⟩
theorem PEL_of {D : Nat → Nat → Bool} {d z : Nat} {as : List XV} {h : Hp} {P : Int → Prop} (k : ∀ Q : XO × Hp → Prop, (∀ v : Int, P v → Q (.inl (some (vL v)), h)) → wp D d z 0 (ent z as) [] h Q) : ∃ v : Int, P v ∧ PV D d z as h (vL v) := by
  obtain ⟨n, r, e, v, hv, rfl⟩ := k (fun r => ∃ v : Int, P v ∧ r = (.inl (some (vL v)), h)) (fun v hv => ⟨v, hv, rfl⟩)
  exact ⟨v, hv, n, _, e, rfl⟩
section XE
variable {D : Nat → Nat → Bool} {d y pc nx k c z : Nat} {ls : XL} {st as r : List XV} {h : Hp} {Q : XO × Hp → Prop} {P : Int → Prop}
theorem x_SE (hd : cod y pc = some (.invokestatic k, nx)) (hc : cls y = c) (hl : lkp mthL c k = some z) (hk : mKnd z = 0) (hp : popN (mArg z) st = some (as, r)) (he : (entL as).length ≤ mLoc z) (cc : ∃ v : Int, P v ∧ PV D d z as h (vI v)) (kk : ∀ v : Int, P v → PV D d z as h (vI v) → wp D (d + 1) y nx ls (vI v :: r) h Q) (hz : z < 900 := by decide) (hs : szS r ≤ 8 := by exact Nat.le_of_ble_eq_true rfl) : wp D (d + 1) y pc ls st h Q := by
  obtain ⟨v, h1, h2⟩ := cc
  exact x_SV hd hc hl hk hp he h2 (kk v h1 h2) hz hs
theorem x_VE {a t : Nat} (hd : cod y pc = some (.invokevirtual k, nx)) (hc : cls y = c) (hl : lkp mthL c k = some z) (hk : mKnd z = 1) (ht : mTag z = t) (hp : popN (mArg z) st = some (vR (some a) :: as, r)) (he : (entL (vR (some a) :: as)).length ≤ mLoc z) (h2 : 2 ≤ a) (o : Ob h a t) (cc : ∃ v : Int, P v ∧ PV D d z (vR (some a) :: as) h (vI v)) (kk : ∀ v : Int, P v → PV D d z (vR (some a) :: as) h (vI v) → wp D (d + 1) y nx ls (vI v :: r) h Q) (hs : szS r ≤ 8 := by exact Nat.le_of_ble_eq_true rfl) : wp D (d + 1) y pc ls st h Q := by
  obtain ⟨v, h1, h3⟩ := cc
  exact x_VV hd hc hl hk ht hp he h2 o h3 (kk v h1 h3) hs
theorem x_VEL {a t : Nat} (hd : cod y pc = some (.invokevirtual k, nx)) (hc : cls y = c) (hl : lkp mthL c k = some z) (hk : mKnd z = 1) (ht : mTag z = t) (hp : popN (mArg z) st = some (vR (some a) :: as, r)) (he : (entL (vR (some a) :: as)).length ≤ mLoc z) (h2 : 2 ≤ a) (o : Ob h a t) (cc : ∃ v : Int, P v ∧ PV D d z (vR (some a) :: as) h (vL v)) (kk : ∀ v : Int, P v → PV D d z (vR (some a) :: as) h (vL v) → wp D (d + 1) y nx ls (vL v :: r) h Q) (hs : szS r ≤ 8 := by exact Nat.le_of_ble_eq_true rfl) : wp D (d + 1) y pc ls st h Q := by
  obtain ⟨v, h1, h3⟩ := cc
  exact x_VV hd hc hl hk ht hp he h2 o h3 (kk v h1 h3) hs
theorem x_SN (hd : cod y pc = some (.invokestatic k, nx)) (hc : cls y = c) (hl : lkp mthL c k = some z) (hk : mKnd z = 0) (hp : popN (mArg z) st = some (as, r)) (he : (entL as).length ≤ mLoc z) (cc : wp D d z 0 (ent z as) [] h (fun r => r = (.inl none, h))) (kk : wp D (d + 1) y nx ls r h Q) (hz : z < 900 := by decide) (hs : szS r ≤ 8 := by exact Nat.le_of_ble_eq_true rfl) : wp D (d + 1) y pc ls st h Q :=
  x_cS hd hc hl hk hz hp he hs cc (fun v' h1 q => by cases q; exact kk) (fun e h1 q => by cases q)
theorem x_VN {a t : Nat} (hd : cod y pc = some (.invokevirtual k, nx)) (hc : cls y = c) (hl : lkp mthL c k = some z) (hk : mKnd z = 1) (ht : mTag z = t) (hp : popN (mArg z) st = some (vR (some a) :: as, r)) (he : (entL (vR (some a) :: as)).length ≤ mLoc z) (h2 : 2 ≤ a) (o : Ob h a t) (cc : wp D d z 0 (ent z (vR (some a) :: as)) [] h (fun r => r = (.inl none, h))) (kk : wp D (d + 1) y nx ls r h Q) (hs : szS r ≤ 8 := by exact Nat.le_of_ble_eq_true rfl) : wp D (d + 1) y pc ls st h Q :=
  x_cV hd hc hl hk ht hp he h2 o hs cc (fun v' h1 q => by cases q; exact kk) (fun e h1 q => by cases q)
theorem x_nm {x : Int} (kk : ∀ f : Int, f = x → wp D d y pc ls (vI f :: st) h Q) : wp D d y pc ls (vI x :: st) h Q := kk x rfl
theorem x_nmL {x : Int} (kk : ∀ f : Int, f = x → wp D d y pc ls (vL f :: st) h Q) : wp D d y pc ls (vL x :: st) h Q := kk x rfl
end XE
