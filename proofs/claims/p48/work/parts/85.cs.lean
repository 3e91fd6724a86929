/-! ===== THE HOUSE IS MADE ===== -/
def RL : List (Nat × Nat × Nat) := [(3, 3, 4), (2, 0, 3), (5, 1, 0), (2, 1, 5), (2, 2, 6), (7, 0, 8), (7, 5, 9), (7, 6, 10), (7, 7, 11), (6, 0, 7), (12, 0, 13), (12, 5, 14), (12, 6, 15), (12, 7, 16), (6, 1, 12), (17, 0, 18), (17, 5, 19), (17, 6, 20), (17, 7, 21), (6, 2, 17), (22, 0, 23), (22, 5, 24), (22, 6, 25), (22, 7, 26), (6, 3, 22), (27, 0, 28), (27, 5, 29), (27, 6, 30), (27, 7, 31), (6, 4, 27), (32, 0, 33), (32, 5, 34), (32, 6, 35), (32, 7, 36), (6, 5, 32), (37, 0, 38), (37, 1, 39), (37, 3, 40), (37, 4, 41), (37, 5, 42), (37, 6, 43), (2, 3, 37), (44, 1, 0), (2, 4, 44), (45, 1, 0), (2, 5, 45), (46, 1, 0), (2, 6, 46), (47, 1, 48), (2, 7, 47), (49, 0, 50), (49, 2, 51), (49, 3, 52), (49, 4, 53), (49, 5, 54), (2, 8, 49), (55, 1, 56), (55, 2, 57), (55, 3, 58), (59, 1, 0), (55, 4, 59), (55, 8, 60), (55, 9, 61), (55, 10, 62), (2, 9, 55), (63, 1, 64), (63, 2, 65), (2, 10, 63), (2, 12, 66), (2, 13, 67), (2, 14, 68)]
theorem RL_n : RL.length = 71 := rfl
theorem RL_d : ∀ m, m < 71 → ∀ i, i < m → ∀ x, RL[m]? = some x → ∀ y, RL[i]? = some y → ¬ (y.1 = x.1 ∧ y.2.1 = x.2.1) := by
  have key : ∀ m, m < 71 → ∀ i, i < m → (match RL[m]?, RL[i]? with | some x, some y => !(decide (y.1 = x.1) && decide (y.2.1 = x.2.1)) | _, _ => true) = true := by decide +kernel
  intro m hm i hi x hx y hy q
  have k := key m hm i hi
  rw [hx, hy] at k
  simp [q.1, q.2] at k
theorem gB_0 {a j : Nat} {lo hi : Int} (q : gB 0 a j = some (lo, hi)) : lo ≤ 0 ∧ 0 ≤ hi := by
  unfold gB at q
  split at q <;> first | (cases q <;> exact ⟨by decide, by decide⟩) | (split at q <;> (cases q <;> exact ⟨by decide, by decide⟩))
/-- n cells are made, m references written -/
def Bd (n m L : Nat) (h : Hp) : Prop := hN h = n ∧ (∀ a t l, 2 ≤ a → a < n → fxT[a]? = some (t, l) → hT h a = t ∧ hL h a = l) ∧ (∀ i a j b, i < m → RL[i]? = some (a, j, b) → hR h a j = some b) ∧ (∀ a j lo hi, 2 ≤ a → a < n → gB 0 a j = some (lo, hi) → lo ≤ hI h a j ∧ hI h a j ≤ hi) ∧ (∀ a j, 2 ≤ a → a < n → DV a j = false → hR h a j = none) ∧ (hT h 0 = 103 ∧ hL h 0 = 0 ∧ hT h 1 = 100 ∧ hL h 1 = L ∧ ∀ j, hR h 0 j = none) ∧ hC h + 2 = n ∧ hS h ≤ 5000 * n
section BD
variable {n m L a b j i k t l : Nat} {h : Hp} {v lo hi : Int}
theorem Bd.o (A : Bd n m L h) (h2 : 2 ≤ a) (hn : a < n) (e : fxT[a]? = some (t, l)) : Ob h a t := ⟨by rw [A.1]; exact hn, (A.2.1 a t l h2 hn e).1⟩
theorem Bd.len (A : Bd n m L h) (h2 : 2 ≤ a) (hn : a < n) (e : fxT[a]? = some (t, l)) : hL h a = l := (A.2.1 a t l h2 hn e).2
theorem Bd.r (A : Bd n m L h) (hi : i < m) (e : RL[i]? = some (a, j, b)) : hR h a j = some b := A.2.2.1 i a j b hi e
theorem RL_2 : ∀ x ∈ RL, 2 ≤ x.1 := by decide +kernel
theorem Bd_a {sl : Nat} (A : Bd n m L h) (e : fxT[n]? = some (t, l)) (hs : sl ≤ 5000) (hm : ∀ x, RL[m - 1]? = some x → True := fun _ _ => trivial) (hr : (RL.take m).all (fun x => decide (x.1 < n)) = true := by decide +kernel) (h2 : 2 ≤ n := by decide) : Bd (n + 1) m L (alc h t l sl) := by
  obtain ⟨a1, a2, a3, a4, a5, a6, a7, a8⟩ := A
  refine ⟨by rw [hN_alc, a1], fun a t' l' q1 q2 q3 => ?_, fun i a j b q1 q2 => ?_, fun a j lo hi q1 q2 q3 => ?_, fun a j q1 q2 q3 => ?_, ⟨?_, ?_, ?_, ?_, fun j => ?_⟩, by rw [hC_alc]; omega, by rw [hS_alc]; omega⟩
  · rw [hT_alc, hL_alc, a1]
    by_cases w : a = n
    · subst w; rw [e] at q3; cases q3; rw [if_pos rfl, if_pos rfl]; exact ⟨rfl, rfl⟩
    · rw [if_neg w, if_neg w]; exact a2 a t' l' q1 (by omega) q3
  · have w : a < n := by
      have k := List.all_eq_true.mp hr (a, j, b) (by
        rw [List.mem_iff_getElem?]
        exact ⟨i, by rw [List.getElem?_take, if_pos q1]; exact q2⟩)
      simpa using k
    rw [hR_alc, a1, if_neg (by omega)]; exact a3 i a j b q1 q2
  · rw [hI_alc, a1]
    by_cases w : a = n
    · rw [if_pos w]; exact gB_0 q3
    · rw [if_neg w]; exact a4 a j lo hi q1 (by omega) q3
  · rw [hR_alc, a1]
    by_cases w : a = n
    · rw [if_pos w]
    · rw [if_neg w]; exact a5 a j q1 (by omega) q3
  · rw [hT_alc, a1, if_neg (by omega)]; exact a6.1
  · rw [hL_alc, a1, if_neg (by omega)]; exact a6.2.1
  · rw [hT_alc, a1, if_neg (by omega)]; exact a6.2.2.1
  · rw [hL_alc, a1, if_neg (by omega)]; exact a6.2.2.2.1
  · rw [hR_alc, a1, if_neg (by omega)]; exact a6.2.2.2.2 j
theorem Bd_r (A : Bd n m L h) (e : RL[m]? = some (a, j, b)) (dv : DV a j = true) (h2 : 2 ≤ a) (hm : m < RL.length := by decide +kernel) : Bd n (m + 1) L (sR h a j (some b)) := by
  obtain ⟨a1, a2, a3, a4, a5, a6, a7, a8⟩ := A
  refine ⟨a1, a2, fun i a' j' b' q1 q2 => ?_, a4, fun a' j' q1 q2 q3 => ?_, ⟨a6.1, a6.2.1, a6.2.2.1, a6.2.2.2.1, fun j => ?_⟩, a7, a8⟩
  · rw [hR_sR]
    by_cases w : i = m
    · subst w; rw [e] at q2; cases q2; rw [if_pos ⟨rfl, rfl⟩]
    · rw [if_neg (RL_d m (by rw [← RL_n]; exact hm) i (by omega) _ e _ q2)]; exact a3 i a' j' b' (by omega) q2
  · rw [hR_sR, if_neg (fun w => by rw [w.1, w.2, dv] at q3; cases q3)]; exact a5 a' j' q1 q2 q3
  · rw [hR_sR, if_neg (by omega)]; exact a6.2.2.2.2 j
theorem Bd_i (A : Bd n m L h) (e : gB 0 a k = some (lo, hi)) (hv : lo ≤ v ∧ v ≤ hi) : Bd n m L (sI h a k v) := by
  obtain ⟨a1, a2, a3, a4, a5, a6, a7, a8⟩ := A
  refine ⟨a1, a2, a3, fun b j lo' hi' q1 q2 q3 => ?_, a5, a6, a7, a8⟩
  rw [hI_sI]
  split
  · rename_i w; rw [w.1, w.2, e] at q3; cases q3; exact hv
  · exact a4 b j lo' hi' q1 q2 q3
theorem Bd_z (A : Bd n m L h) (e : gB 0 a k = none) : Bd n m L (sI h a k v) := by
  obtain ⟨a1, a2, a3, a4, a5, a6, a7, a8⟩ := A
  refine ⟨a1, a2, a3, fun b j lo' hi' q1 q2 q3 => ?_, a5, a6, a7, a8⟩
  rw [hI_sI]
  split
  · rename_i w; rw [w.1, w.2, e] at q3; cases q3
  · exact a4 b j lo' hi' q1 q2 q3
end BD
theorem K28_3 {d L : Nat} {h : Hp} (A : Bd 4 0 L h) : PU DA (d + 0) 28 [vR (some 3)] h (fun g => Bd 5 1 L g ∧ True) := by
  refine PU_of (fun Q hQ => ?_)
  refine x_ent en28 ?_
  refine x_aload_n d28_0 rfl ?_
  refine x_cO d28_1 cl28 m5_3 (by exact Nat.le_of_ble_eq_true rfl) ?_
  refine x_aload_n d28_4 rfl ?_
  refine x_sipush d28_5 (by decide) ?_
  refine x_newa d28_8 rfl (by decide) (by omega) (x_wrR (fun g r => r = 4 ∧ Bd 5 0 L g) ⟨A.1, Bd_a A rfl (by decide)⟩ (fun h r1 q1 => ?_))
  obtain ⟨rfl, A⟩ := q1
  refine x_pfR d28_10 cl28 f5_9 (Bd.o A (a := 3) (by decide) (by decide) rfl) rfl (fun _ => ⟨by decide +kernel, rfl⟩) (x_wr (fun g => Bd 5 1 L g ∧ True) ⟨Bd_r A (m := 0) rfl rfl (by decide), trivial⟩ (fun h q2 => ?_))
  obtain ⟨A, -⟩ := q2
  exact x_ret d28_13 rt28 (hQ _ ⟨A, trivial⟩)
theorem K180_5 {d L : Nat} {h : Hp} (A : Bd 6 2 L h) : PU DA (d + 0) 180 [vR (some 5)] h (fun g => Bd 6 2 L g ∧ True) := by
  refine PU_of (fun Q hQ => ?_)
  refine x_ent en180 ?_
  refine x_aload_n d180_0 rfl ?_
  refine x_cO d180_1 cl180 m15_1 (by exact Nat.le_of_ble_eq_true rfl) ?_
  exact x_ret d180_4 rt180 (hQ _ ⟨A, trivial⟩)
theorem K179_5 {d L : Nat} {h : Hp} (A : Bd 6 2 L h) : PU DA (d + 1) 179 [vR (some 5)] h (fun g => Bd 6 2 L g ∧ True) := by
  refine PU_of (fun Q hQ => ?_)
  refine x_ent en179 ?_
  refine x_aload_n d179_0 rfl ?_
  refine x_PU d179_1 cl179 m14_1 kd180 po180 le180 (by decide) (Bd.o A (a := 5) (by decide) (by decide) rfl).1 (K180_5 A) (fun h q => ?_)
  obtain ⟨A, -⟩ := q
  refine x_aload_n d179_4 rfl ?_
  refine x_iconst d179_5 ?_
  refine x_pfI d179_6 cl179 f14_7 (Bd.o A (a := 5) (by decide) (by decide) rfl) rfl (fun q => by cases q) (x_wr (fun g => Bd 6 2 L g ∧ True) ⟨Bd_z A rfl, trivial⟩ (fun h q1 => ?_))
  obtain ⟨A, -⟩ := q1
  exact x_ret d179_9 rt179 (hQ _ ⟨A, trivial⟩)
theorem K165_5 {d L : Nat} {h : Hp} (A : Bd 6 2 L h) : PU DA (d + 2) 165 [vR (some 5)] h (fun g => Bd 6 3 L g ∧ True) := by
  refine PU_of (fun Q hQ => ?_)
  refine x_ent en165 ?_
  refine x_aload_n d165_0 rfl ?_
  refine x_PU d165_1 cl165 m12_1 kd179 po179 le179 (by decide) (Bd.o A (a := 5) (by decide) (by decide) rfl).1 (K179_5 A) (fun h q => ?_)
  obtain ⟨A, -⟩ := q
  refine x_aload_n d165_4 rfl ?_
  refine x_gst d165_5 cl165 rfl ?_
  refine x_pfR d165_8 cl165 f12_9 (Bd.o A (a := 5) (by decide) (by decide) rfl) rfl (fun q => by cases q) (x_wr (fun g => Bd 6 3 L g ∧ True) ⟨Bd_r A (m := 2) rfl rfl (by decide), trivial⟩ (fun h q1 => ?_))
  obtain ⟨A, -⟩ := q1
  exact x_ret d165_11 rt165 (hQ _ ⟨A, trivial⟩)
theorem K67_7 {d L : Nat} {h : Hp} (A : Bd 8 5 L h) : PU DA (d + 0) 67 [vR (some 7)] h (fun g => Bd 12 9 L g ∧ True) := by
  refine PU_of (fun Q hQ => ?_)
  refine x_ent en67 ?_
  refine x_aload_n d67_0 rfl ?_
  refine x_cO d67_1 cl67 m8_3 (by exact Nat.le_of_ble_eq_true rfl) ?_
  refine x_aload_n d67_4 rfl ?_
  refine x_iconst d67_5 ?_
  refine x_anew d67_6 cl67 an8_9 (by omega) (x_wrR (fun g r => r = 8 ∧ Bd 9 5 L g) ⟨A.1, Bd_a A rfl (by decide)⟩ (fun h r1 q1 => ?_))
  obtain ⟨rfl, A⟩ := q1
  refine x_pfR d67_9 cl67 f8_11 (Bd.o A (a := 7) (by decide) (by decide) rfl) rfl (fun _ => ⟨by decide +kernel, rfl⟩) (x_wr (fun g => Bd 9 6 L g ∧ True) ⟨Bd_r A (m := 5) rfl rfl (by decide), trivial⟩ (fun h q2 => ?_))
  obtain ⟨A, -⟩ := q2
  refine x_aload_n d67_12 rfl ?_
  refine x_bipush d67_13 (by decide) ?_
  refine x_pfI d67_15 cl67 f8_17 (Bd.o A (a := 7) (by decide) (by decide) rfl) rfl (fun q => by cases q) (x_wr (fun g => Bd 9 6 L g ∧ True) ⟨Bd_i A rfl (by omega), trivial⟩ (fun h q3 => ?_))
  obtain ⟨A, -⟩ := q3
  refine x_aload_n d67_18 rfl ?_
  refine x_sipush d67_19 (by decide) ?_
  refine x_pfI d67_22 cl67 f8_21 (Bd.o A (a := 7) (by decide) (by decide) rfl) rfl (fun q => by cases q) (x_wr (fun g => Bd 9 6 L g ∧ True) ⟨Bd_i A rfl (by omega), trivial⟩ (fun h q4 => ?_))
  obtain ⟨A, -⟩ := q4
  refine x_aload_n d67_25 rfl ?_
  refine x_iconst d67_26 ?_
  refine x_newa d67_27 rfl (by decide) (by omega) (x_wrR (fun g r => r = 9 ∧ Bd 10 6 L g) ⟨A.1, Bd_a A rfl (by decide)⟩ (fun h r5 q5 => ?_))
  obtain ⟨rfl, A⟩ := q5
  refine x_pfR d67_29 cl67 f8_24 (Bd.o A (a := 7) (by decide) (by decide) rfl) rfl (fun _ => ⟨by decide +kernel, rfl⟩) (x_wr (fun g => Bd 10 7 L g ∧ True) ⟨Bd_r A (m := 6) rfl rfl (by decide), trivial⟩ (fun h q6 => ?_))
  obtain ⟨A, -⟩ := q6
  refine x_aload_n d67_32 rfl ?_
  refine x_iconst d67_33 ?_
  refine x_newa d67_34 rfl (by decide) (by omega) (x_wrR (fun g r => r = 10 ∧ Bd 11 7 L g) ⟨A.1, Bd_a A rfl (by decide)⟩ (fun h r7 q7 => ?_))
  obtain ⟨rfl, A⟩ := q7
  refine x_pfR d67_36 cl67 f8_28 (Bd.o A (a := 7) (by decide) (by decide) rfl) rfl (fun _ => ⟨by decide +kernel, rfl⟩) (x_wr (fun g => Bd 11 8 L g ∧ True) ⟨Bd_r A (m := 7) rfl rfl (by decide), trivial⟩ (fun h q8 => ?_))
  obtain ⟨A, -⟩ := q8
  refine x_aload_n d67_39 rfl ?_
  refine x_iconst d67_40 ?_
  refine x_newa d67_41 rfl (by decide) (by omega) (x_wrR (fun g r => r = 11 ∧ Bd 12 8 L g) ⟨A.1, Bd_a A rfl (by decide)⟩ (fun h r9 q9 => ?_))
  obtain ⟨rfl, A⟩ := q9
  refine x_pfR d67_43 cl67 f8_31 (Bd.o A (a := 7) (by decide) (by decide) rfl) rfl (fun _ => ⟨by decide +kernel, rfl⟩) (x_wr (fun g => Bd 12 9 L g ∧ True) ⟨Bd_r A (m := 8) rfl rfl (by decide), trivial⟩ (fun h q10 => ?_))
  obtain ⟨A, -⟩ := q10
  exact x_ret d67_46 rt67 (hQ _ ⟨A, trivial⟩)
theorem K67_12 {d L : Nat} {h : Hp} (A : Bd 13 10 L h) : PU DA (d + 0) 67 [vR (some 12)] h (fun g => Bd 17 14 L g ∧ True) := by
  refine PU_of (fun Q hQ => ?_)
  refine x_ent en67 ?_
  refine x_aload_n d67_0 rfl ?_
  refine x_cO d67_1 cl67 m8_3 (by exact Nat.le_of_ble_eq_true rfl) ?_
  refine x_aload_n d67_4 rfl ?_
  refine x_iconst d67_5 ?_
  refine x_anew d67_6 cl67 an8_9 (by omega) (x_wrR (fun g r => r = 13 ∧ Bd 14 10 L g) ⟨A.1, Bd_a A rfl (by decide)⟩ (fun h r1 q1 => ?_))
  obtain ⟨rfl, A⟩ := q1
  refine x_pfR d67_9 cl67 f8_11 (Bd.o A (a := 12) (by decide) (by decide) rfl) rfl (fun _ => ⟨by decide +kernel, rfl⟩) (x_wr (fun g => Bd 14 11 L g ∧ True) ⟨Bd_r A (m := 10) rfl rfl (by decide), trivial⟩ (fun h q2 => ?_))
  obtain ⟨A, -⟩ := q2
  refine x_aload_n d67_12 rfl ?_
  refine x_bipush d67_13 (by decide) ?_
  refine x_pfI d67_15 cl67 f8_17 (Bd.o A (a := 12) (by decide) (by decide) rfl) rfl (fun q => by cases q) (x_wr (fun g => Bd 14 11 L g ∧ True) ⟨Bd_i A rfl (by omega), trivial⟩ (fun h q3 => ?_))
  obtain ⟨A, -⟩ := q3
  refine x_aload_n d67_18 rfl ?_
  refine x_sipush d67_19 (by decide) ?_
  refine x_pfI d67_22 cl67 f8_21 (Bd.o A (a := 12) (by decide) (by decide) rfl) rfl (fun q => by cases q) (x_wr (fun g => Bd 14 11 L g ∧ True) ⟨Bd_i A rfl (by omega), trivial⟩ (fun h q4 => ?_))
  obtain ⟨A, -⟩ := q4
  refine x_aload_n d67_25 rfl ?_
  refine x_iconst d67_26 ?_
  refine x_newa d67_27 rfl (by decide) (by omega) (x_wrR (fun g r => r = 14 ∧ Bd 15 11 L g) ⟨A.1, Bd_a A rfl (by decide)⟩ (fun h r5 q5 => ?_))
  obtain ⟨rfl, A⟩ := q5
  refine x_pfR d67_29 cl67 f8_24 (Bd.o A (a := 12) (by decide) (by decide) rfl) rfl (fun _ => ⟨by decide +kernel, rfl⟩) (x_wr (fun g => Bd 15 12 L g ∧ True) ⟨Bd_r A (m := 11) rfl rfl (by decide), trivial⟩ (fun h q6 => ?_))
  obtain ⟨A, -⟩ := q6
  refine x_aload_n d67_32 rfl ?_
  refine x_iconst d67_33 ?_
  refine x_newa d67_34 rfl (by decide) (by omega) (x_wrR (fun g r => r = 15 ∧ Bd 16 12 L g) ⟨A.1, Bd_a A rfl (by decide)⟩ (fun h r7 q7 => ?_))
  obtain ⟨rfl, A⟩ := q7
  refine x_pfR d67_36 cl67 f8_28 (Bd.o A (a := 12) (by decide) (by decide) rfl) rfl (fun _ => ⟨by decide +kernel, rfl⟩) (x_wr (fun g => Bd 16 13 L g ∧ True) ⟨Bd_r A (m := 12) rfl rfl (by decide), trivial⟩ (fun h q8 => ?_))
  obtain ⟨A, -⟩ := q8
  refine x_aload_n d67_39 rfl ?_
  refine x_iconst d67_40 ?_
  refine x_newa d67_41 rfl (by decide) (by omega) (x_wrR (fun g r => r = 16 ∧ Bd 17 13 L g) ⟨A.1, Bd_a A rfl (by decide)⟩ (fun h r9 q9 => ?_))
  obtain ⟨rfl, A⟩ := q9
  refine x_pfR d67_43 cl67 f8_31 (Bd.o A (a := 12) (by decide) (by decide) rfl) rfl (fun _ => ⟨by decide +kernel, rfl⟩) (x_wr (fun g => Bd 17 14 L g ∧ True) ⟨Bd_r A (m := 13) rfl rfl (by decide), trivial⟩ (fun h q10 => ?_))
  obtain ⟨A, -⟩ := q10
  exact x_ret d67_46 rt67 (hQ _ ⟨A, trivial⟩)
theorem K67_17 {d L : Nat} {h : Hp} (A : Bd 18 15 L h) : PU DA (d + 0) 67 [vR (some 17)] h (fun g => Bd 22 19 L g ∧ True) := by
  refine PU_of (fun Q hQ => ?_)
  refine x_ent en67 ?_
  refine x_aload_n d67_0 rfl ?_
  refine x_cO d67_1 cl67 m8_3 (by exact Nat.le_of_ble_eq_true rfl) ?_
  refine x_aload_n d67_4 rfl ?_
  refine x_iconst d67_5 ?_
  refine x_anew d67_6 cl67 an8_9 (by omega) (x_wrR (fun g r => r = 18 ∧ Bd 19 15 L g) ⟨A.1, Bd_a A rfl (by decide)⟩ (fun h r1 q1 => ?_))
  obtain ⟨rfl, A⟩ := q1
  refine x_pfR d67_9 cl67 f8_11 (Bd.o A (a := 17) (by decide) (by decide) rfl) rfl (fun _ => ⟨by decide +kernel, rfl⟩) (x_wr (fun g => Bd 19 16 L g ∧ True) ⟨Bd_r A (m := 15) rfl rfl (by decide), trivial⟩ (fun h q2 => ?_))
  obtain ⟨A, -⟩ := q2
  refine x_aload_n d67_12 rfl ?_
  refine x_bipush d67_13 (by decide) ?_
  refine x_pfI d67_15 cl67 f8_17 (Bd.o A (a := 17) (by decide) (by decide) rfl) rfl (fun q => by cases q) (x_wr (fun g => Bd 19 16 L g ∧ True) ⟨Bd_i A rfl (by omega), trivial⟩ (fun h q3 => ?_))
  obtain ⟨A, -⟩ := q3
  refine x_aload_n d67_18 rfl ?_
  refine x_sipush d67_19 (by decide) ?_
  refine x_pfI d67_22 cl67 f8_21 (Bd.o A (a := 17) (by decide) (by decide) rfl) rfl (fun q => by cases q) (x_wr (fun g => Bd 19 16 L g ∧ True) ⟨Bd_i A rfl (by omega), trivial⟩ (fun h q4 => ?_))
  obtain ⟨A, -⟩ := q4
  refine x_aload_n d67_25 rfl ?_
  refine x_iconst d67_26 ?_
  refine x_newa d67_27 rfl (by decide) (by omega) (x_wrR (fun g r => r = 19 ∧ Bd 20 16 L g) ⟨A.1, Bd_a A rfl (by decide)⟩ (fun h r5 q5 => ?_))
  obtain ⟨rfl, A⟩ := q5
  refine x_pfR d67_29 cl67 f8_24 (Bd.o A (a := 17) (by decide) (by decide) rfl) rfl (fun _ => ⟨by decide +kernel, rfl⟩) (x_wr (fun g => Bd 20 17 L g ∧ True) ⟨Bd_r A (m := 16) rfl rfl (by decide), trivial⟩ (fun h q6 => ?_))
  obtain ⟨A, -⟩ := q6
  refine x_aload_n d67_32 rfl ?_
  refine x_iconst d67_33 ?_
  refine x_newa d67_34 rfl (by decide) (by omega) (x_wrR (fun g r => r = 20 ∧ Bd 21 17 L g) ⟨A.1, Bd_a A rfl (by decide)⟩ (fun h r7 q7 => ?_))
  obtain ⟨rfl, A⟩ := q7
  refine x_pfR d67_36 cl67 f8_28 (Bd.o A (a := 17) (by decide) (by decide) rfl) rfl (fun _ => ⟨by decide +kernel, rfl⟩) (x_wr (fun g => Bd 21 18 L g ∧ True) ⟨Bd_r A (m := 17) rfl rfl (by decide), trivial⟩ (fun h q8 => ?_))
  obtain ⟨A, -⟩ := q8
  refine x_aload_n d67_39 rfl ?_
  refine x_iconst d67_40 ?_
  refine x_newa d67_41 rfl (by decide) (by omega) (x_wrR (fun g r => r = 21 ∧ Bd 22 18 L g) ⟨A.1, Bd_a A rfl (by decide)⟩ (fun h r9 q9 => ?_))
  obtain ⟨rfl, A⟩ := q9
  refine x_pfR d67_43 cl67 f8_31 (Bd.o A (a := 17) (by decide) (by decide) rfl) rfl (fun _ => ⟨by decide +kernel, rfl⟩) (x_wr (fun g => Bd 22 19 L g ∧ True) ⟨Bd_r A (m := 18) rfl rfl (by decide), trivial⟩ (fun h q10 => ?_))
  obtain ⟨A, -⟩ := q10
  exact x_ret d67_46 rt67 (hQ _ ⟨A, trivial⟩)
theorem K67_22 {d L : Nat} {h : Hp} (A : Bd 23 20 L h) : PU DA (d + 0) 67 [vR (some 22)] h (fun g => Bd 27 24 L g ∧ True) := by
  refine PU_of (fun Q hQ => ?_)
  refine x_ent en67 ?_
  refine x_aload_n d67_0 rfl ?_
  refine x_cO d67_1 cl67 m8_3 (by exact Nat.le_of_ble_eq_true rfl) ?_
  refine x_aload_n d67_4 rfl ?_
  refine x_iconst d67_5 ?_
  refine x_anew d67_6 cl67 an8_9 (by omega) (x_wrR (fun g r => r = 23 ∧ Bd 24 20 L g) ⟨A.1, Bd_a A rfl (by decide)⟩ (fun h r1 q1 => ?_))
  obtain ⟨rfl, A⟩ := q1
  refine x_pfR d67_9 cl67 f8_11 (Bd.o A (a := 22) (by decide) (by decide) rfl) rfl (fun _ => ⟨by decide +kernel, rfl⟩) (x_wr (fun g => Bd 24 21 L g ∧ True) ⟨Bd_r A (m := 20) rfl rfl (by decide), trivial⟩ (fun h q2 => ?_))
  obtain ⟨A, -⟩ := q2
  refine x_aload_n d67_12 rfl ?_
  refine x_bipush d67_13 (by decide) ?_
  refine x_pfI d67_15 cl67 f8_17 (Bd.o A (a := 22) (by decide) (by decide) rfl) rfl (fun q => by cases q) (x_wr (fun g => Bd 24 21 L g ∧ True) ⟨Bd_i A rfl (by omega), trivial⟩ (fun h q3 => ?_))
  obtain ⟨A, -⟩ := q3
  refine x_aload_n d67_18 rfl ?_
  refine x_sipush d67_19 (by decide) ?_
  refine x_pfI d67_22 cl67 f8_21 (Bd.o A (a := 22) (by decide) (by decide) rfl) rfl (fun q => by cases q) (x_wr (fun g => Bd 24 21 L g ∧ True) ⟨Bd_i A rfl (by omega), trivial⟩ (fun h q4 => ?_))
  obtain ⟨A, -⟩ := q4
  refine x_aload_n d67_25 rfl ?_
  refine x_iconst d67_26 ?_
  refine x_newa d67_27 rfl (by decide) (by omega) (x_wrR (fun g r => r = 24 ∧ Bd 25 21 L g) ⟨A.1, Bd_a A rfl (by decide)⟩ (fun h r5 q5 => ?_))
  obtain ⟨rfl, A⟩ := q5
  refine x_pfR d67_29 cl67 f8_24 (Bd.o A (a := 22) (by decide) (by decide) rfl) rfl (fun _ => ⟨by decide +kernel, rfl⟩) (x_wr (fun g => Bd 25 22 L g ∧ True) ⟨Bd_r A (m := 21) rfl rfl (by decide), trivial⟩ (fun h q6 => ?_))
  obtain ⟨A, -⟩ := q6
  refine x_aload_n d67_32 rfl ?_
  refine x_iconst d67_33 ?_
  refine x_newa d67_34 rfl (by decide) (by omega) (x_wrR (fun g r => r = 25 ∧ Bd 26 22 L g) ⟨A.1, Bd_a A rfl (by decide)⟩ (fun h r7 q7 => ?_))
  obtain ⟨rfl, A⟩ := q7
  refine x_pfR d67_36 cl67 f8_28 (Bd.o A (a := 22) (by decide) (by decide) rfl) rfl (fun _ => ⟨by decide +kernel, rfl⟩) (x_wr (fun g => Bd 26 23 L g ∧ True) ⟨Bd_r A (m := 22) rfl rfl (by decide), trivial⟩ (fun h q8 => ?_))
  obtain ⟨A, -⟩ := q8
  refine x_aload_n d67_39 rfl ?_
  refine x_iconst d67_40 ?_
  refine x_newa d67_41 rfl (by decide) (by omega) (x_wrR (fun g r => r = 26 ∧ Bd 27 23 L g) ⟨A.1, Bd_a A rfl (by decide)⟩ (fun h r9 q9 => ?_))
  obtain ⟨rfl, A⟩ := q9
  refine x_pfR d67_43 cl67 f8_31 (Bd.o A (a := 22) (by decide) (by decide) rfl) rfl (fun _ => ⟨by decide +kernel, rfl⟩) (x_wr (fun g => Bd 27 24 L g ∧ True) ⟨Bd_r A (m := 23) rfl rfl (by decide), trivial⟩ (fun h q10 => ?_))
  obtain ⟨A, -⟩ := q10
  exact x_ret d67_46 rt67 (hQ _ ⟨A, trivial⟩)
theorem K67_27 {d L : Nat} {h : Hp} (A : Bd 28 25 L h) : PU DA (d + 0) 67 [vR (some 27)] h (fun g => Bd 32 29 L g ∧ True) := by
  refine PU_of (fun Q hQ => ?_)
  refine x_ent en67 ?_
  refine x_aload_n d67_0 rfl ?_
  refine x_cO d67_1 cl67 m8_3 (by exact Nat.le_of_ble_eq_true rfl) ?_
  refine x_aload_n d67_4 rfl ?_
  refine x_iconst d67_5 ?_
  refine x_anew d67_6 cl67 an8_9 (by omega) (x_wrR (fun g r => r = 28 ∧ Bd 29 25 L g) ⟨A.1, Bd_a A rfl (by decide)⟩ (fun h r1 q1 => ?_))
  obtain ⟨rfl, A⟩ := q1
  refine x_pfR d67_9 cl67 f8_11 (Bd.o A (a := 27) (by decide) (by decide) rfl) rfl (fun _ => ⟨by decide +kernel, rfl⟩) (x_wr (fun g => Bd 29 26 L g ∧ True) ⟨Bd_r A (m := 25) rfl rfl (by decide), trivial⟩ (fun h q2 => ?_))
  obtain ⟨A, -⟩ := q2
  refine x_aload_n d67_12 rfl ?_
  refine x_bipush d67_13 (by decide) ?_
  refine x_pfI d67_15 cl67 f8_17 (Bd.o A (a := 27) (by decide) (by decide) rfl) rfl (fun q => by cases q) (x_wr (fun g => Bd 29 26 L g ∧ True) ⟨Bd_i A rfl (by omega), trivial⟩ (fun h q3 => ?_))
  obtain ⟨A, -⟩ := q3
  refine x_aload_n d67_18 rfl ?_
  refine x_sipush d67_19 (by decide) ?_
  refine x_pfI d67_22 cl67 f8_21 (Bd.o A (a := 27) (by decide) (by decide) rfl) rfl (fun q => by cases q) (x_wr (fun g => Bd 29 26 L g ∧ True) ⟨Bd_i A rfl (by omega), trivial⟩ (fun h q4 => ?_))
  obtain ⟨A, -⟩ := q4
  refine x_aload_n d67_25 rfl ?_
  refine x_iconst d67_26 ?_
  refine x_newa d67_27 rfl (by decide) (by omega) (x_wrR (fun g r => r = 29 ∧ Bd 30 26 L g) ⟨A.1, Bd_a A rfl (by decide)⟩ (fun h r5 q5 => ?_))
  obtain ⟨rfl, A⟩ := q5
  refine x_pfR d67_29 cl67 f8_24 (Bd.o A (a := 27) (by decide) (by decide) rfl) rfl (fun _ => ⟨by decide +kernel, rfl⟩) (x_wr (fun g => Bd 30 27 L g ∧ True) ⟨Bd_r A (m := 26) rfl rfl (by decide), trivial⟩ (fun h q6 => ?_))
  obtain ⟨A, -⟩ := q6
  refine x_aload_n d67_32 rfl ?_
  refine x_iconst d67_33 ?_
  refine x_newa d67_34 rfl (by decide) (by omega) (x_wrR (fun g r => r = 30 ∧ Bd 31 27 L g) ⟨A.1, Bd_a A rfl (by decide)⟩ (fun h r7 q7 => ?_))
  obtain ⟨rfl, A⟩ := q7
  refine x_pfR d67_36 cl67 f8_28 (Bd.o A (a := 27) (by decide) (by decide) rfl) rfl (fun _ => ⟨by decide +kernel, rfl⟩) (x_wr (fun g => Bd 31 28 L g ∧ True) ⟨Bd_r A (m := 27) rfl rfl (by decide), trivial⟩ (fun h q8 => ?_))
  obtain ⟨A, -⟩ := q8
  refine x_aload_n d67_39 rfl ?_
  refine x_iconst d67_40 ?_
  refine x_newa d67_41 rfl (by decide) (by omega) (x_wrR (fun g r => r = 31 ∧ Bd 32 28 L g) ⟨A.1, Bd_a A rfl (by decide)⟩ (fun h r9 q9 => ?_))
  obtain ⟨rfl, A⟩ := q9
  refine x_pfR d67_43 cl67 f8_31 (Bd.o A (a := 27) (by decide) (by decide) rfl) rfl (fun _ => ⟨by decide +kernel, rfl⟩) (x_wr (fun g => Bd 32 29 L g ∧ True) ⟨Bd_r A (m := 28) rfl rfl (by decide), trivial⟩ (fun h q10 => ?_))
  obtain ⟨A, -⟩ := q10
  exact x_ret d67_46 rt67 (hQ _ ⟨A, trivial⟩)
theorem K67_32 {d L : Nat} {h : Hp} (A : Bd 33 30 L h) : PU DA (d + 0) 67 [vR (some 32)] h (fun g => Bd 37 34 L g ∧ True) := by
  refine PU_of (fun Q hQ => ?_)
  refine x_ent en67 ?_
  refine x_aload_n d67_0 rfl ?_
  refine x_cO d67_1 cl67 m8_3 (by exact Nat.le_of_ble_eq_true rfl) ?_
  refine x_aload_n d67_4 rfl ?_
  refine x_iconst d67_5 ?_
  refine x_anew d67_6 cl67 an8_9 (by omega) (x_wrR (fun g r => r = 33 ∧ Bd 34 30 L g) ⟨A.1, Bd_a A rfl (by decide)⟩ (fun h r1 q1 => ?_))
  obtain ⟨rfl, A⟩ := q1
  refine x_pfR d67_9 cl67 f8_11 (Bd.o A (a := 32) (by decide) (by decide) rfl) rfl (fun _ => ⟨by decide +kernel, rfl⟩) (x_wr (fun g => Bd 34 31 L g ∧ True) ⟨Bd_r A (m := 30) rfl rfl (by decide), trivial⟩ (fun h q2 => ?_))
  obtain ⟨A, -⟩ := q2
  refine x_aload_n d67_12 rfl ?_
  refine x_bipush d67_13 (by decide) ?_
  refine x_pfI d67_15 cl67 f8_17 (Bd.o A (a := 32) (by decide) (by decide) rfl) rfl (fun q => by cases q) (x_wr (fun g => Bd 34 31 L g ∧ True) ⟨Bd_i A rfl (by omega), trivial⟩ (fun h q3 => ?_))
  obtain ⟨A, -⟩ := q3
  refine x_aload_n d67_18 rfl ?_
  refine x_sipush d67_19 (by decide) ?_
  refine x_pfI d67_22 cl67 f8_21 (Bd.o A (a := 32) (by decide) (by decide) rfl) rfl (fun q => by cases q) (x_wr (fun g => Bd 34 31 L g ∧ True) ⟨Bd_i A rfl (by omega), trivial⟩ (fun h q4 => ?_))
  obtain ⟨A, -⟩ := q4
  refine x_aload_n d67_25 rfl ?_
  refine x_iconst d67_26 ?_
  refine x_newa d67_27 rfl (by decide) (by omega) (x_wrR (fun g r => r = 34 ∧ Bd 35 31 L g) ⟨A.1, Bd_a A rfl (by decide)⟩ (fun h r5 q5 => ?_))
  obtain ⟨rfl, A⟩ := q5
  refine x_pfR d67_29 cl67 f8_24 (Bd.o A (a := 32) (by decide) (by decide) rfl) rfl (fun _ => ⟨by decide +kernel, rfl⟩) (x_wr (fun g => Bd 35 32 L g ∧ True) ⟨Bd_r A (m := 31) rfl rfl (by decide), trivial⟩ (fun h q6 => ?_))
  obtain ⟨A, -⟩ := q6
  refine x_aload_n d67_32 rfl ?_
  refine x_iconst d67_33 ?_
  refine x_newa d67_34 rfl (by decide) (by omega) (x_wrR (fun g r => r = 35 ∧ Bd 36 32 L g) ⟨A.1, Bd_a A rfl (by decide)⟩ (fun h r7 q7 => ?_))
  obtain ⟨rfl, A⟩ := q7
  refine x_pfR d67_36 cl67 f8_28 (Bd.o A (a := 32) (by decide) (by decide) rfl) rfl (fun _ => ⟨by decide +kernel, rfl⟩) (x_wr (fun g => Bd 36 33 L g ∧ True) ⟨Bd_r A (m := 32) rfl rfl (by decide), trivial⟩ (fun h q8 => ?_))
  obtain ⟨A, -⟩ := q8
  refine x_aload_n d67_39 rfl ?_
  refine x_iconst d67_40 ?_
  refine x_newa d67_41 rfl (by decide) (by omega) (x_wrR (fun g r => r = 36 ∧ Bd 37 33 L g) ⟨A.1, Bd_a A rfl (by decide)⟩ (fun h r9 q9 => ?_))
  obtain ⟨rfl, A⟩ := q9
  refine x_pfR d67_43 cl67 f8_31 (Bd.o A (a := 32) (by decide) (by decide) rfl) rfl (fun _ => ⟨by decide +kernel, rfl⟩) (x_wr (fun g => Bd 37 34 L g ∧ True) ⟨Bd_r A (m := 33) rfl rfl (by decide), trivial⟩ (fun h q10 => ?_))
  obtain ⟨A, -⟩ := q10
  exact x_ret d67_46 rt67 (hQ _ ⟨A, trivial⟩)
theorem K37_37 {d L : Nat} {h : Hp} (A : Bd 38 35 L h) : PU DA (d + 1) 37 [vR (some 37)] h (fun g => Bd 44 41 L g ∧ True) := by
  refine PU_of (fun Q hQ => ?_)
  refine x_ent en37 ?_
  refine x_aload_n d37_0 rfl ?_
  refine x_cO d37_1 cl37 m6_3 (by exact Nat.le_of_ble_eq_true rfl) ?_
  refine x_aload_n d37_4 rfl ?_
  refine x_bipush d37_5 (by decide) ?_
  refine x_newa d37_7 rfl (by decide) (by omega) (x_wrR (fun g r => r = 38 ∧ Bd 39 35 L g) ⟨A.1, Bd_a A rfl (by decide)⟩ (fun h r1 q1 => ?_))
  obtain ⟨rfl, A⟩ := q1
  refine x_pfR d37_9 cl37 f6_9 (Bd.o A (a := 37) (by decide) (by decide) rfl) rfl (fun _ => ⟨by decide +kernel, rfl⟩) (x_wr (fun g => Bd 39 36 L g ∧ True) ⟨Bd_r A (m := 35) rfl rfl (by decide), trivial⟩ (fun h q2 => ?_))
  obtain ⟨A, -⟩ := q2
  refine x_aload_n d37_12 rfl ?_
  refine x_bipush d37_13 (by decide) ?_
  refine x_newa d37_15 rfl (by decide) (by omega) (x_wrR (fun g r => r = 39 ∧ Bd 40 36 L g) ⟨A.1, Bd_a A rfl (by decide)⟩ (fun h r3 q3 => ?_))
  obtain ⟨rfl, A⟩ := q3
  refine x_pfR d37_17 cl37 f6_15 (Bd.o A (a := 37) (by decide) (by decide) rfl) rfl (fun _ => ⟨by decide +kernel, rfl⟩) (x_wr (fun g => Bd 40 37 L g ∧ True) ⟨Bd_r A (m := 36) rfl rfl (by decide), trivial⟩ (fun h q4 => ?_))
  obtain ⟨A, -⟩ := q4
  refine x_aload_n d37_20 rfl ?_
  refine x_bipush d37_21 (by decide) ?_
  refine x_newa d37_23 rfl (by decide) (by omega) (x_wrR (fun g r => r = 40 ∧ Bd 41 37 L g) ⟨A.1, Bd_a A rfl (by decide)⟩ (fun h r5 q5 => ?_))
  obtain ⟨rfl, A⟩ := q5
  refine x_pfR d37_25 cl37 f6_18 (Bd.o A (a := 37) (by decide) (by decide) rfl) rfl (fun _ => ⟨by decide +kernel, rfl⟩) (x_wr (fun g => Bd 41 38 L g ∧ True) ⟨Bd_r A (m := 37) rfl rfl (by decide), trivial⟩ (fun h q6 => ?_))
  obtain ⟨A, -⟩ := q6
  refine x_aload_n d37_28 rfl ?_
  refine x_bipush d37_29 (by decide) ?_
  refine x_newa d37_31 rfl (by decide) (by omega) (x_wrR (fun g r => r = 41 ∧ Bd 42 38 L g) ⟨A.1, Bd_a A rfl (by decide)⟩ (fun h r7 q7 => ?_))
  obtain ⟨rfl, A⟩ := q7
  refine x_pfR d37_33 cl37 f6_21 (Bd.o A (a := 37) (by decide) (by decide) rfl) rfl (fun _ => ⟨by decide +kernel, rfl⟩) (x_wr (fun g => Bd 42 39 L g ∧ True) ⟨Bd_r A (m := 38) rfl rfl (by decide), trivial⟩ (fun h q8 => ?_))
  obtain ⟨A, -⟩ := q8
  refine x_aload_n d37_36 rfl ?_
  refine x_bipush d37_37 (by decide) ?_
  refine x_newa d37_39 rfl (by decide) (by omega) (x_wrR (fun g r => r = 42 ∧ Bd 43 39 L g) ⟨A.1, Bd_a A rfl (by decide)⟩ (fun h r9 q9 => ?_))
  obtain ⟨rfl, A⟩ := q9
  refine x_pfR d37_41 cl37 f6_24 (Bd.o A (a := 37) (by decide) (by decide) rfl) rfl (fun _ => ⟨by decide +kernel, rfl⟩) (x_wr (fun g => Bd 43 40 L g ∧ True) ⟨Bd_r A (m := 39) rfl rfl (by decide), trivial⟩ (fun h q10 => ?_))
  obtain ⟨A, -⟩ := q10
  refine x_aload_n d37_44 rfl ?_
  refine x_bipush d37_45 (by decide) ?_
  refine x_newa d37_47 rfl (by decide) (by omega) (x_wrR (fun g r => r = 43 ∧ Bd 44 40 L g) ⟨A.1, Bd_a A rfl (by decide)⟩ (fun h r11 q11 => ?_))
  obtain ⟨rfl, A⟩ := q11
  refine x_pfR d37_49 cl37 f6_27 (Bd.o A (a := 37) (by decide) (by decide) rfl) rfl (fun _ => ⟨by decide +kernel, rfl⟩) (x_wr (fun g => Bd 44 41 L g ∧ True) ⟨Bd_r A (m := 40) rfl rfl (by decide), trivial⟩ (fun h q12 => ?_))
  obtain ⟨A, -⟩ := q12
  refine x_aload_n d37_52 rfl ?_
  refine x_gfR d37_53 cl37 f6_15 (Bd.o A (a := 37) (by decide) (by decide) rfl) rfl (Bd.r A (i := 36) (by decide) rfl) ?_
  refine x_sipush d37_56 (by decide) ?_
  refine x_SU d37_59 cl37 m6_30 kd181 po181 le181 (C181 (by decide) (Bd.o A (a := 39) (by decide) (by decide) rfl) (by rw [(Bd.len A (a := 39) (by decide) (by decide) rfl)]; decide)) (fun g q => ?_)
  subst q
  refine x_wr (fun g => Bd 44 41 L g ∧ True) (fil_ind (P := fun g => Bd 44 41 L g ∧ True) ⟨A, trivial⟩ _ (fun g k _ q => ⟨Bd_i q.1 rfl (by decide), trivial⟩)) (fun h q => ?_)
  obtain ⟨A, -⟩ := q
  refine x_iconst d37_62 ?_
  refine x_nm (fun w63_13 ew63_13 => ?_)
  refine x_istore_n [some (vR _), some (vI _)] d37_63 rfl ?_
  refine (x_ub (N := 6) (P := fun i14 => ∀ h : Hp, (Bd 44 41 L h ∧ True) → wp DA (d + 1) 37 64 [some (vR (some 37)), some (vI i14)] [] h Q) w63_13 (by omega) (fun i14 hi14 hj14 ih14 h hh14 => ?_)) _ ⟨A, trivial⟩
  obtain ⟨A, -⟩ := hh14
  refine x_iload_n d37_64 rfl ?_
  refine x_bipush d37_65 (by decide) ?_
  refine x_icge (t := 88) d37_67 rfl (by omega) (fun c67_15 => ?_) (fun c67_15 => ?_)
  · exact x_ret d37_88 rt37 (hQ _ ⟨A, trivial⟩)
  · refine x_aload_n d37_70 rfl ?_
    refine x_gfR d37_71 cl37 f6_15 (Bd.o A (a := 37) (by decide) (by decide) rfl) rfl (Bd.r A (i := 36) (by decide) rfl) ?_
    refine x_iload_n d37_74 rfl ?_
    refine x_bipush d37_75 (by decide) ?_
    refine x_imul d37_77 ?_
    refine x_iload_n d37_78 rfl ?_
    refine x_iadd d37_79 ?_
    refine x_iconst d37_80 ?_
    refine x_iastore d37_81 (by decide) (Bd.o A (a := 39) (by decide) (by decide) rfl) ⟨by omega, by rw [(Bd.len A (a := 39) (by decide) (by decide) rfl)]; omega⟩ rfl (x_wr (fun g => Bd 44 41 L g ∧ True) ⟨Bd_i A rfl (by omega), trivial⟩ (fun h q16 => ?_))
    obtain ⟨A, -⟩ := q16
    refine x_iinc [some (vR _), some (vI _)] d37_82 rfl rfl ?_
    refine x_goto (t := 64) d37_85 rfl ?_
    exact ih14 (by omega) _ ⟨A, trivial⟩
theorem K180_44 {d L : Nat} {h : Hp} (A : Bd 45 42 L h) : PU DA (d + 0) 180 [vR (some 44)] h (fun g => Bd 45 42 L g ∧ True) := by
  refine PU_of (fun Q hQ => ?_)
  refine x_ent en180 ?_
  refine x_aload_n d180_0 rfl ?_
  refine x_cO d180_1 cl180 m15_1 (by exact Nat.le_of_ble_eq_true rfl) ?_
  exact x_ret d180_4 rt180 (hQ _ ⟨A, trivial⟩)
theorem K179_44 {d L : Nat} {h : Hp} (A : Bd 45 42 L h) : PU DA (d + 1) 179 [vR (some 44)] h (fun g => Bd 45 42 L g ∧ True) := by
  refine PU_of (fun Q hQ => ?_)
  refine x_ent en179 ?_
  refine x_aload_n d179_0 rfl ?_
  refine x_PU d179_1 cl179 m14_1 kd180 po180 le180 (by decide) (Bd.o A (a := 44) (by decide) (by decide) rfl).1 (K180_44 A) (fun h q => ?_)
  obtain ⟨A, -⟩ := q
  refine x_aload_n d179_4 rfl ?_
  refine x_iconst d179_5 ?_
  refine x_pfI d179_6 cl179 f14_7 (Bd.o A (a := 44) (by decide) (by decide) rfl) rfl (fun q => by cases q) (x_wr (fun g => Bd 45 42 L g ∧ True) ⟨Bd_z A rfl, trivial⟩ (fun h q1 => ?_))
  obtain ⟨A, -⟩ := q1
  exact x_ret d179_9 rt179 (hQ _ ⟨A, trivial⟩)
theorem K165_44 {d L : Nat} {h : Hp} (A : Bd 45 42 L h) : PU DA (d + 2) 165 [vR (some 44)] h (fun g => Bd 45 43 L g ∧ True) := by
  refine PU_of (fun Q hQ => ?_)
  refine x_ent en165 ?_
  refine x_aload_n d165_0 rfl ?_
  refine x_PU d165_1 cl165 m12_1 kd179 po179 le179 (by decide) (Bd.o A (a := 44) (by decide) (by decide) rfl).1 (K179_44 A) (fun h q => ?_)
  obtain ⟨A, -⟩ := q
  refine x_aload_n d165_4 rfl ?_
  refine x_gst d165_5 cl165 rfl ?_
  refine x_pfR d165_8 cl165 f12_9 (Bd.o A (a := 44) (by decide) (by decide) rfl) rfl (fun q => by cases q) (x_wr (fun g => Bd 45 43 L g ∧ True) ⟨Bd_r A (m := 42) rfl rfl (by decide), trivial⟩ (fun h q1 => ?_))
  obtain ⟨A, -⟩ := q1
  exact x_ret d165_11 rt165 (hQ _ ⟨A, trivial⟩)
theorem K180_45 {d L : Nat} {h : Hp} (A : Bd 46 44 L h) : PU DA (d + 0) 180 [vR (some 45)] h (fun g => Bd 46 44 L g ∧ True) := by
  refine PU_of (fun Q hQ => ?_)
  refine x_ent en180 ?_
  refine x_aload_n d180_0 rfl ?_
  refine x_cO d180_1 cl180 m15_1 (by exact Nat.le_of_ble_eq_true rfl) ?_
  exact x_ret d180_4 rt180 (hQ _ ⟨A, trivial⟩)
theorem K179_45 {d L : Nat} {h : Hp} (A : Bd 46 44 L h) : PU DA (d + 1) 179 [vR (some 45)] h (fun g => Bd 46 44 L g ∧ True) := by
  refine PU_of (fun Q hQ => ?_)
  refine x_ent en179 ?_
  refine x_aload_n d179_0 rfl ?_
  refine x_PU d179_1 cl179 m14_1 kd180 po180 le180 (by decide) (Bd.o A (a := 45) (by decide) (by decide) rfl).1 (K180_45 A) (fun h q => ?_)
  obtain ⟨A, -⟩ := q
  refine x_aload_n d179_4 rfl ?_
  refine x_iconst d179_5 ?_
  refine x_pfI d179_6 cl179 f14_7 (Bd.o A (a := 45) (by decide) (by decide) rfl) rfl (fun q => by cases q) (x_wr (fun g => Bd 46 44 L g ∧ True) ⟨Bd_z A rfl, trivial⟩ (fun h q1 => ?_))
  obtain ⟨A, -⟩ := q1
  exact x_ret d179_9 rt179 (hQ _ ⟨A, trivial⟩)
theorem K165_45 {d L : Nat} {h : Hp} (A : Bd 46 44 L h) : PU DA (d + 2) 165 [vR (some 45)] h (fun g => Bd 46 45 L g ∧ True) := by
  refine PU_of (fun Q hQ => ?_)
  refine x_ent en165 ?_
  refine x_aload_n d165_0 rfl ?_
  refine x_PU d165_1 cl165 m12_1 kd179 po179 le179 (by decide) (Bd.o A (a := 45) (by decide) (by decide) rfl).1 (K179_45 A) (fun h q => ?_)
  obtain ⟨A, -⟩ := q
  refine x_aload_n d165_4 rfl ?_
  refine x_gst d165_5 cl165 rfl ?_
  refine x_pfR d165_8 cl165 f12_9 (Bd.o A (a := 45) (by decide) (by decide) rfl) rfl (fun q => by cases q) (x_wr (fun g => Bd 46 45 L g ∧ True) ⟨Bd_r A (m := 44) rfl rfl (by decide), trivial⟩ (fun h q1 => ?_))
  obtain ⟨A, -⟩ := q1
  exact x_ret d165_11 rt165 (hQ _ ⟨A, trivial⟩)
theorem K180_46 {d L : Nat} {h : Hp} (A : Bd 47 46 L h) : PU DA (d + 0) 180 [vR (some 46)] h (fun g => Bd 47 46 L g ∧ True) := by
  refine PU_of (fun Q hQ => ?_)
  refine x_ent en180 ?_
  refine x_aload_n d180_0 rfl ?_
  refine x_cO d180_1 cl180 m15_1 (by exact Nat.le_of_ble_eq_true rfl) ?_
  exact x_ret d180_4 rt180 (hQ _ ⟨A, trivial⟩)
theorem K179_46 {d L : Nat} {h : Hp} (A : Bd 47 46 L h) : PU DA (d + 1) 179 [vR (some 46)] h (fun g => Bd 47 46 L g ∧ True) := by
  refine PU_of (fun Q hQ => ?_)
  refine x_ent en179 ?_
  refine x_aload_n d179_0 rfl ?_
  refine x_PU d179_1 cl179 m14_1 kd180 po180 le180 (by decide) (Bd.o A (a := 46) (by decide) (by decide) rfl).1 (K180_46 A) (fun h q => ?_)
  obtain ⟨A, -⟩ := q
  refine x_aload_n d179_4 rfl ?_
  refine x_iconst d179_5 ?_
  refine x_pfI d179_6 cl179 f14_7 (Bd.o A (a := 46) (by decide) (by decide) rfl) rfl (fun q => by cases q) (x_wr (fun g => Bd 47 46 L g ∧ True) ⟨Bd_z A rfl, trivial⟩ (fun h q1 => ?_))
  obtain ⟨A, -⟩ := q1
  exact x_ret d179_9 rt179 (hQ _ ⟨A, trivial⟩)
theorem K165_46 {d L : Nat} {h : Hp} (A : Bd 47 46 L h) : PU DA (d + 2) 165 [vR (some 46)] h (fun g => Bd 47 47 L g ∧ True) := by
  refine PU_of (fun Q hQ => ?_)
  refine x_ent en165 ?_
  refine x_aload_n d165_0 rfl ?_
  refine x_PU d165_1 cl165 m12_1 kd179 po179 le179 (by decide) (Bd.o A (a := 46) (by decide) (by decide) rfl).1 (K179_46 A) (fun h q => ?_)
  obtain ⟨A, -⟩ := q
  refine x_aload_n d165_4 rfl ?_
  refine x_gst d165_5 cl165 rfl ?_
  refine x_pfR d165_8 cl165 f12_9 (Bd.o A (a := 46) (by decide) (by decide) rfl) rfl (fun q => by cases q) (x_wr (fun g => Bd 47 47 L g ∧ True) ⟨Bd_r A (m := 46) rfl rfl (by decide), trivial⟩ (fun h q1 => ?_))
  obtain ⟨A, -⟩ := q1
  exact x_ret d165_11 rt165 (hQ _ ⟨A, trivial⟩)
theorem K10_47 {d L : Nat} {h : Hp} (A : Bd 48 48 L h) : PU DA (d + 0) 10 [vR (some 47)] h (fun g => Bd 49 49 L g ∧ True) := by
  refine PU_of (fun Q hQ => ?_)
  refine x_ent en10 ?_
  refine x_aload_n d10_0 rfl ?_
  refine x_cO d10_1 cl10 m3_3 (by exact Nat.le_of_ble_eq_true rfl) ?_
  refine x_aload_n d10_4 rfl ?_
  refine x_bipush d10_5 (by decide) ?_
  refine x_newa d10_7 rfl (by decide) (by omega) (x_wrR (fun g r => r = 48 ∧ Bd 49 48 L g) ⟨A.1, Bd_a A rfl (by decide)⟩ (fun h r1 q1 => ?_))
  obtain ⟨rfl, A⟩ := q1
  refine x_pfR d10_9 cl10 f3_9 (Bd.o A (a := 47) (by decide) (by decide) rfl) rfl (fun _ => ⟨by decide +kernel, rfl⟩) (x_wr (fun g => Bd 49 49 L g ∧ True) ⟨Bd_r A (m := 48) rfl rfl (by decide), trivial⟩ (fun h q2 => ?_))
  obtain ⟨A, -⟩ := q2
  exact x_ret d10_12 rt10 (hQ _ ⟨A, trivial⟩)
theorem K3_49 {d L : Nat} {h : Hp} (A : Bd 50 50 L h) : PU DA (d + 1) 3 [vR (some 49)] h (fun g => Bd 55 55 L g ∧ True) := by
  refine PU_of (fun Q hQ => ?_)
  refine x_ent en3 ?_
  refine x_aload_n d3_0 rfl ?_
  refine x_cO d3_1 cl3 m2_3 (by exact Nat.le_of_ble_eq_true rfl) ?_
  refine x_aload_n d3_4 rfl ?_
  refine x_iconst d3_5 ?_
  refine x_newa d3_6 rfl (by decide) (by omega) (x_wrR (fun g r => r = 50 ∧ Bd 51 50 L g) ⟨A.1, Bd_a A rfl (by decide)⟩ (fun h r1 q1 => ?_))
  obtain ⟨rfl, A⟩ := q1
  refine x_pfR d3_8 cl3 f2_9 (Bd.o A (a := 49) (by decide) (by decide) rfl) rfl (fun _ => ⟨by decide +kernel, rfl⟩) (x_wr (fun g => Bd 51 51 L g ∧ True) ⟨Bd_r A (m := 50) rfl rfl (by decide), trivial⟩ (fun h q2 => ?_))
  obtain ⟨A, -⟩ := q2
  refine x_aload_n d3_11 rfl ?_
  refine x_bipush d3_12 (by decide) ?_
  refine x_newa d3_14 rfl (by decide) (by omega) (x_wrR (fun g r => r = 51 ∧ Bd 52 51 L g) ⟨A.1, Bd_a A rfl (by decide)⟩ (fun h r3 q3 => ?_))
  obtain ⟨rfl, A⟩ := q3
  refine x_pfR d3_16 cl3 f2_15 (Bd.o A (a := 49) (by decide) (by decide) rfl) rfl (fun _ => ⟨by decide +kernel, rfl⟩) (x_wr (fun g => Bd 52 52 L g ∧ True) ⟨Bd_r A (m := 51) rfl rfl (by decide), trivial⟩ (fun h q4 => ?_))
  obtain ⟨A, -⟩ := q4
  refine x_aload_n d3_19 rfl ?_
  refine x_bipush d3_20 (by decide) ?_
  refine x_newa d3_22 rfl (by decide) (by omega) (x_wrR (fun g r => r = 52 ∧ Bd 53 52 L g) ⟨A.1, Bd_a A rfl (by decide)⟩ (fun h r5 q5 => ?_))
  obtain ⟨rfl, A⟩ := q5
  refine x_pfR d3_24 cl3 f2_18 (Bd.o A (a := 49) (by decide) (by decide) rfl) rfl (fun _ => ⟨by decide +kernel, rfl⟩) (x_wr (fun g => Bd 53 53 L g ∧ True) ⟨Bd_r A (m := 52) rfl rfl (by decide), trivial⟩ (fun h q6 => ?_))
  obtain ⟨A, -⟩ := q6
  refine x_aload_n d3_27 rfl ?_
  refine x_bipush d3_28 (by decide) ?_
  refine x_newa d3_30 rfl (by decide) (by omega) (x_wrR (fun g r => r = 53 ∧ Bd 54 53 L g) ⟨A.1, Bd_a A rfl (by decide)⟩ (fun h r7 q7 => ?_))
  obtain ⟨rfl, A⟩ := q7
  refine x_pfR d3_32 cl3 f2_21 (Bd.o A (a := 49) (by decide) (by decide) rfl) rfl (fun _ => ⟨by decide +kernel, rfl⟩) (x_wr (fun g => Bd 54 54 L g ∧ True) ⟨Bd_r A (m := 53) rfl rfl (by decide), trivial⟩ (fun h q8 => ?_))
  obtain ⟨A, -⟩ := q8
  refine x_aload_n d3_35 rfl ?_
  refine x_bipush d3_36 (by decide) ?_
  refine x_newa d3_38 rfl (by decide) (by omega) (x_wrR (fun g r => r = 54 ∧ Bd 55 54 L g) ⟨A.1, Bd_a A rfl (by decide)⟩ (fun h r9 q9 => ?_))
  obtain ⟨rfl, A⟩ := q9
  refine x_pfR d3_40 cl3 f2_24 (Bd.o A (a := 49) (by decide) (by decide) rfl) rfl (fun _ => ⟨by decide +kernel, rfl⟩) (x_wr (fun g => Bd 55 55 L g ∧ True) ⟨Bd_r A (m := 54) rfl rfl (by decide), trivial⟩ (fun h q10 => ?_))
  obtain ⟨A, -⟩ := q10
  refine x_aload_n d3_43 rfl ?_
  refine x_gfR d3_44 cl3 f2_9 (Bd.o A (a := 49) (by decide) (by decide) rfl) rfl (Bd.r A (i := 50) (by decide) rfl) ?_
  refine x_iconst d3_47 ?_
  refine x_SU d3_48 cl3 m2_28 kd181 po181 le181 (C181 (by decide) (Bd.o A (a := 50) (by decide) (by decide) rfl) (by rw [(Bd.len A (a := 50) (by decide) (by decide) rfl)]; decide)) (fun g q => ?_)
  subst q
  refine x_wr (fun g => Bd 55 55 L g ∧ True) (fil_ind (P := fun g => Bd 55 55 L g ∧ True) ⟨A, trivial⟩ _ (fun g k _ q => ⟨Bd_i q.1 rfl (by decide), trivial⟩)) (fun h q => ?_)
  obtain ⟨A, -⟩ := q
  exact x_ret d3_51 rt3 (hQ _ ⟨A, trivial⟩)
theorem K180_59 {d L : Nat} {h : Hp} (A : Bd 60 59 L h) : PU DA (d + 0) 180 [vR (some 59)] h (fun g => Bd 60 59 L g ∧ True) := by
  refine PU_of (fun Q hQ => ?_)
  refine x_ent en180 ?_
  refine x_aload_n d180_0 rfl ?_
  refine x_cO d180_1 cl180 m15_1 (by exact Nat.le_of_ble_eq_true rfl) ?_
  exact x_ret d180_4 rt180 (hQ _ ⟨A, trivial⟩)
theorem K179_59 {d L : Nat} {h : Hp} (A : Bd 60 59 L h) : PU DA (d + 1) 179 [vR (some 59)] h (fun g => Bd 60 59 L g ∧ True) := by
  refine PU_of (fun Q hQ => ?_)
  refine x_ent en179 ?_
  refine x_aload_n d179_0 rfl ?_
  refine x_PU d179_1 cl179 m14_1 kd180 po180 le180 (by decide) (Bd.o A (a := 59) (by decide) (by decide) rfl).1 (K180_59 A) (fun h q => ?_)
  obtain ⟨A, -⟩ := q
  refine x_aload_n d179_4 rfl ?_
  refine x_iconst d179_5 ?_
  refine x_pfI d179_6 cl179 f14_7 (Bd.o A (a := 59) (by decide) (by decide) rfl) rfl (fun q => by cases q) (x_wr (fun g => Bd 60 59 L g ∧ True) ⟨Bd_z A rfl, trivial⟩ (fun h q1 => ?_))
  obtain ⟨A, -⟩ := q1
  exact x_ret d179_9 rt179 (hQ _ ⟨A, trivial⟩)
theorem K165_59 {d L : Nat} {h : Hp} (A : Bd 60 59 L h) : PU DA (d + 2) 165 [vR (some 59)] h (fun g => Bd 60 60 L g ∧ True) := by
  refine PU_of (fun Q hQ => ?_)
  refine x_ent en165 ?_
  refine x_aload_n d165_0 rfl ?_
  refine x_PU d165_1 cl165 m12_1 kd179 po179 le179 (by decide) (Bd.o A (a := 59) (by decide) (by decide) rfl).1 (K179_59 A) (fun h q => ?_)
  obtain ⟨A, -⟩ := q
  refine x_aload_n d165_4 rfl ?_
  refine x_gst d165_5 cl165 rfl ?_
  refine x_pfR d165_8 cl165 f12_9 (Bd.o A (a := 59) (by decide) (by decide) rfl) rfl (fun q => by cases q) (x_wr (fun g => Bd 60 60 L g ∧ True) ⟨Bd_r A (m := 59) rfl rfl (by decide), trivial⟩ (fun h q1 => ?_))
  obtain ⟨A, -⟩ := q1
  exact x_ret d165_11 rt165 (hQ _ ⟨A, trivial⟩)
theorem K45_55 {d L : Nat} {h : Hp} (A : Bd 56 56 L h) : PU DA (d + 3) 45 [vR (some 55)] h (fun g => Bd 63 64 L g ∧ True) := by
  refine PU_of (fun Q hQ => ?_)
  refine x_ent en45 ?_
  refine x_aload_n d45_0 rfl ?_
  refine x_cO d45_1 cl45 m7_3 (by exact Nat.le_of_ble_eq_true rfl) ?_
  refine x_aload_n d45_4 rfl ?_
  refine x_bipush d45_5 (by decide) ?_
  refine x_newa d45_7 rfl (by decide) (by omega) (x_wrR (fun g r => r = 56 ∧ Bd 57 56 L g) ⟨A.1, Bd_a A rfl (by decide)⟩ (fun h r1 q1 => ?_))
  obtain ⟨rfl, A⟩ := q1
  refine x_pfR d45_9 cl45 f7_9 (Bd.o A (a := 55) (by decide) (by decide) rfl) rfl (fun _ => ⟨by decide +kernel, rfl⟩) (x_wr (fun g => Bd 57 57 L g ∧ True) ⟨Bd_r A (m := 56) rfl rfl (by decide), trivial⟩ (fun h q2 => ?_))
  obtain ⟨A, -⟩ := q2
  refine x_aload_n d45_12 rfl ?_
  refine x_bipush d45_13 (by decide) ?_
  refine x_newa d45_15 rfl (by decide) (by omega) (x_wrR (fun g r => r = 57 ∧ Bd 58 57 L g) ⟨A.1, Bd_a A rfl (by decide)⟩ (fun h r3 q3 => ?_))
  obtain ⟨rfl, A⟩ := q3
  refine x_pfR d45_17 cl45 f7_15 (Bd.o A (a := 55) (by decide) (by decide) rfl) rfl (fun _ => ⟨by decide +kernel, rfl⟩) (x_wr (fun g => Bd 58 58 L g ∧ True) ⟨Bd_r A (m := 57) rfl rfl (by decide), trivial⟩ (fun h q4 => ?_))
  obtain ⟨A, -⟩ := q4
  refine x_aload_n d45_20 rfl ?_
  refine x_bipush d45_21 (by decide) ?_
  refine x_newa d45_23 rfl (by decide) (by omega) (x_wrR (fun g r => r = 58 ∧ Bd 59 58 L g) ⟨A.1, Bd_a A rfl (by decide)⟩ (fun h r5 q5 => ?_))
  obtain ⟨rfl, A⟩ := q5
  refine x_pfR d45_25 cl45 f7_19 (Bd.o A (a := 55) (by decide) (by decide) rfl) rfl (fun _ => ⟨by decide +kernel, rfl⟩) (x_wr (fun g => Bd 59 59 L g ∧ True) ⟨Bd_r A (m := 58) rfl rfl (by decide), trivial⟩ (fun h q6 => ?_))
  obtain ⟨A, -⟩ := q6
  refine x_aload_n d45_28 rfl ?_
  refine x_new d45_29 cl45 nw7_22 (x_wrR (fun g r => r = 59 ∧ Bd 60 59 L g) ⟨A.1, Bd_a A rfl (by decide)⟩ (fun h r7 q7 => ?_))
  obtain ⟨rfl, A⟩ := q7
  refine x_dupR d45_32 ?_
  refine x_PU d45_33 cl45 m7_24 kd165 po165 le165 (by decide) (Bd.o A (a := 59) (by decide) (by decide) rfl).1 (K165_59 A) (fun h q => ?_)
  obtain ⟨A, -⟩ := q
  refine x_pfR d45_36 cl45 f7_25 (Bd.o A (a := 55) (by decide) (by decide) rfl) rfl (fun _ => ⟨by decide +kernel, rfl⟩) (x_wr (fun g => Bd 60 61 L g ∧ True) ⟨Bd_r A (m := 60) rfl rfl (by decide), trivial⟩ (fun h q8 => ?_))
  obtain ⟨A, -⟩ := q8
  refine x_aload_n d45_39 rfl ?_
  refine x_sipush d45_40 (by decide) ?_
  refine x_newa d45_43 rfl (by decide) (by omega) (x_wrR (fun g r => r = 60 ∧ Bd 61 61 L g) ⟨A.1, Bd_a A rfl (by decide)⟩ (fun h r9 q9 => ?_))
  obtain ⟨rfl, A⟩ := q9
  refine x_pfR d45_45 cl45 f7_29 (Bd.o A (a := 55) (by decide) (by decide) rfl) rfl (fun _ => ⟨by decide +kernel, rfl⟩) (x_wr (fun g => Bd 61 62 L g ∧ True) ⟨Bd_r A (m := 61) rfl rfl (by decide), trivial⟩ (fun h q10 => ?_))
  obtain ⟨A, -⟩ := q10
  refine x_aload_n d45_48 rfl ?_
  refine x_sipush d45_49 (by decide) ?_
  refine x_newa d45_52 rfl (by decide) (by omega) (x_wrR (fun g r => r = 61 ∧ Bd 62 62 L g) ⟨A.1, Bd_a A rfl (by decide)⟩ (fun h r11 q11 => ?_))
  obtain ⟨rfl, A⟩ := q11
  refine x_pfR d45_54 cl45 f7_32 (Bd.o A (a := 55) (by decide) (by decide) rfl) rfl (fun _ => ⟨by decide +kernel, rfl⟩) (x_wr (fun g => Bd 62 63 L g ∧ True) ⟨Bd_r A (m := 62) rfl rfl (by decide), trivial⟩ (fun h q12 => ?_))
  obtain ⟨A, -⟩ := q12
  refine x_aload_n d45_57 rfl ?_
  refine x_sipush d45_58 (by decide) ?_
  refine x_newa d45_61 rfl (by decide) (by omega) (x_wrR (fun g r => r = 62 ∧ Bd 63 63 L g) ⟨A.1, Bd_a A rfl (by decide)⟩ (fun h r13 q13 => ?_))
  obtain ⟨rfl, A⟩ := q13
  refine x_pfR d45_63 cl45 f7_35 (Bd.o A (a := 55) (by decide) (by decide) rfl) rfl (fun _ => ⟨by decide +kernel, rfl⟩) (x_wr (fun g => Bd 63 64 L g ∧ True) ⟨Bd_r A (m := 63) rfl rfl (by decide), trivial⟩ (fun h q14 => ?_))
  obtain ⟨A, -⟩ := q14
  exact x_ret d45_66 rt45 (hQ _ ⟨A, trivial⟩)
theorem K75_63 {d L : Nat} {h : Hp} (A : Bd 64 65 L h) : PU DA (d + 0) 75 [vR (some 63)] h (fun g => Bd 66 67 L g ∧ True) := by
  refine PU_of (fun Q hQ => ?_)
  refine x_ent en75 ?_
  refine x_aload_n d75_0 rfl ?_
  refine x_cO d75_1 cl75 m9_3 (by exact Nat.le_of_ble_eq_true rfl) ?_
  refine x_aload_n d75_4 rfl ?_
  refine x_bipush d75_5 (by decide) ?_
  refine x_newa d75_7 rfl (by decide) (by omega) (x_wrR (fun g r => r = 64 ∧ Bd 65 65 L g) ⟨A.1, Bd_a A rfl (by decide)⟩ (fun h r1 q1 => ?_))
  obtain ⟨rfl, A⟩ := q1
  refine x_pfR d75_9 cl75 f9_9 (Bd.o A (a := 63) (by decide) (by decide) rfl) rfl (fun _ => ⟨by decide +kernel, rfl⟩) (x_wr (fun g => Bd 65 66 L g ∧ True) ⟨Bd_r A (m := 65) rfl rfl (by decide), trivial⟩ (fun h q2 => ?_))
  obtain ⟨A, -⟩ := q2
  refine x_aload_n d75_12 rfl ?_
  refine x_bipush d75_13 (by decide) ?_
  refine x_newa d75_15 rfl (by decide) (by omega) (x_wrR (fun g r => r = 65 ∧ Bd 66 66 L g) ⟨A.1, Bd_a A rfl (by decide)⟩ (fun h r3 q3 => ?_))
  obtain ⟨rfl, A⟩ := q3
  refine x_pfR d75_17 cl75 f9_15 (Bd.o A (a := 63) (by decide) (by decide) rfl) rfl (fun _ => ⟨by decide +kernel, rfl⟩) (x_wr (fun g => Bd 66 67 L g ∧ True) ⟨Bd_r A (m := 66) rfl rfl (by decide), trivial⟩ (fun h q4 => ?_))
  obtain ⟨A, -⟩ := q4
  exact x_ret d75_20 rt75 (hQ _ ⟨A, trivial⟩)
theorem K81_2 {d L : Nat} {h : Hp} (A : Bd 3 0 L h) : PU DA (d + 4) 81 [vR (some 2)] h (fun g => Bd 69 71 L g ∧ True) := by
  refine PU_of (fun Q hQ => ?_)
  refine x_ent en81 ?_
  refine x_aload_n d81_0 rfl ?_
  refine x_cO d81_1 cl81 m11_1 (by exact Nat.le_of_ble_eq_true rfl) ?_
  refine x_aload_n d81_4 rfl ?_
  refine x_new d81_5 cl81 nw11_7 (x_wrR (fun g r => r = 3 ∧ Bd 4 0 L g) ⟨A.1, Bd_a A rfl (by decide)⟩ (fun h r1 q1 => ?_))
  obtain ⟨rfl, A⟩ := q1
  refine x_dupR d81_8 ?_
  refine x_PU d81_9 cl81 m11_9 kd28 po28 le28 (by decide) (Bd.o A (a := 3) (by decide) (by decide) rfl).1 (K28_3 A) (fun h q => ?_)
  obtain ⟨A, -⟩ := q
  refine x_pfR d81_12 cl81 f11_10 (Bd.o A (a := 2) (by decide) (by decide) rfl) rfl (fun _ => ⟨by decide +kernel, rfl⟩) (x_wr (fun g => Bd 5 2 L g ∧ True) ⟨Bd_r A (m := 1) rfl rfl (by decide), trivial⟩ (fun h q2 => ?_))
  obtain ⟨A, -⟩ := q2
  refine x_aload_n d81_15 rfl ?_
  refine x_new d81_16 cl81 nw11_16 (x_wrR (fun g r => r = 5 ∧ Bd 6 2 L g) ⟨A.1, Bd_a A rfl (by decide)⟩ (fun h r3 q3 => ?_))
  obtain ⟨rfl, A⟩ := q3
  refine x_dupR d81_19 ?_
  refine x_PU d81_20 cl81 m11_18 kd165 po165 le165 (by decide) (Bd.o A (a := 5) (by decide) (by decide) rfl).1 (K165_5 A) (fun h q => ?_)
  obtain ⟨A, -⟩ := q
  refine x_pfR d81_23 cl81 f11_19 (Bd.o A (a := 2) (by decide) (by decide) rfl) rfl (fun _ => ⟨by decide +kernel, rfl⟩) (x_wr (fun g => Bd 6 4 L g ∧ True) ⟨Bd_r A (m := 3) rfl rfl (by decide), trivial⟩ (fun h q4 => ?_))
  obtain ⟨A, -⟩ := q4
  refine x_aload_n d81_26 rfl ?_
  refine x_bipush d81_27 (by decide) ?_
  refine x_anew d81_29 cl81 an11_23 (by omega) (x_wrR (fun g r => r = 6 ∧ Bd 7 4 L g) ⟨A.1, Bd_a A rfl (by decide)⟩ (fun h r5 q5 => ?_))
  obtain ⟨rfl, A⟩ := q5
  refine x_pfR d81_32 cl81 f11_25 (Bd.o A (a := 2) (by decide) (by decide) rfl) rfl (fun _ => ⟨by decide +kernel, rfl⟩) (x_wr (fun g => Bd 7 5 L g ∧ True) ⟨Bd_r A (m := 4) rfl rfl (by decide), trivial⟩ (fun h q6 => ?_))
  obtain ⟨A, -⟩ := q6
  refine x_iconst d81_35 ?_
  refine x_nm (fun w36_7 ew36_7 => ?_)
  refine x_istore_n [some (vR _), some (vI _)] d81_36 rfl ?_
  subst ew36_7
  refine x_iload_n d81_37 rfl ?_
  refine x_bipush d81_38 (by decide) ?_
  refine x_icge (t := 62) d81_40 rfl (by omega) (fun c40_8 => ?_) (fun c40_8 => ?_)
  · exfalso; omega
  · refine x_aload_n d81_43 rfl ?_
    refine x_gfR d81_44 cl81 f11_25 (Bd.o A (a := 2) (by decide) (by decide) rfl) rfl (Bd.r A (i := 4) (by decide) rfl) ?_
    refine x_iload_n d81_47 rfl ?_
    refine x_new d81_48 cl81 nw11_23 (x_wrR (fun g r => r = 7 ∧ Bd 8 5 L g) ⟨A.1, Bd_a A rfl (by decide)⟩ (fun h r9 q9 => ?_))
    obtain ⟨rfl, A⟩ := q9
    refine x_dupR d81_51 ?_
    refine x_PU d81_52 cl81 m11_29 kd67 po67 le67 (by decide) (Bd.o A (a := 7) (by decide) (by decide) rfl).1 (K67_7 A) (fun h q => ?_)
    obtain ⟨A, -⟩ := q
    refine x_aastS d81_55 (by decide) (Bd.o A (a := 6) (by decide) (by decide) rfl).1 ⟨by omega, by rw [(Bd.len A (a := 6) (by decide) (by decide) rfl)]; omega⟩ rfl (Bd.o A (a := 7) (by decide) (by decide) rfl).1 (Or.inr (Or.inl ⟨(Bd.o A (a := 6) (by decide) (by decide) rfl).2, (Bd.o A (a := 7) (by decide) (by decide) rfl).2⟩)) (x_wr (fun g => Bd 12 10 L g ∧ True) ⟨Bd_r A (m := 9) rfl rfl (by decide), trivial⟩ (fun h q10 => ?_))
    obtain ⟨A, -⟩ := q10
    refine x_iinc [some (vR _), some (vI _)] d81_56 rfl rfl ?_
    refine x_goto (t := 37) d81_59 rfl ?_
    refine x_iload_n d81_37 rfl ?_
    refine x_bipush d81_38 (by decide) ?_
    refine x_icge (t := 62) d81_40 rfl (by omega) (fun c40_11 => ?_) (fun c40_11 => ?_)
    · exfalso; omega
    · refine x_aload_n d81_43 rfl ?_
      refine x_gfR d81_44 cl81 f11_25 (Bd.o A (a := 2) (by decide) (by decide) rfl) rfl (Bd.r A (i := 4) (by decide) rfl) ?_
      refine x_iload_n d81_47 rfl ?_
      refine x_new d81_48 cl81 nw11_23 (x_wrR (fun g r => r = 12 ∧ Bd 13 10 L g) ⟨A.1, Bd_a A rfl (by decide)⟩ (fun h r12 q12 => ?_))
      obtain ⟨rfl, A⟩ := q12
      refine x_dupR d81_51 ?_
      refine x_PU d81_52 cl81 m11_29 kd67 po67 le67 (by decide) (Bd.o A (a := 12) (by decide) (by decide) rfl).1 (K67_12 A) (fun h q => ?_)
      obtain ⟨A, -⟩ := q
      refine x_aastS d81_55 (by decide) (Bd.o A (a := 6) (by decide) (by decide) rfl).1 ⟨by omega, by rw [(Bd.len A (a := 6) (by decide) (by decide) rfl)]; omega⟩ rfl (Bd.o A (a := 12) (by decide) (by decide) rfl).1 (Or.inr (Or.inl ⟨(Bd.o A (a := 6) (by decide) (by decide) rfl).2, (Bd.o A (a := 12) (by decide) (by decide) rfl).2⟩)) (x_wr (fun g => Bd 17 15 L g ∧ True) ⟨Bd_r A (m := 14) rfl rfl (by decide), trivial⟩ (fun h q13 => ?_))
      obtain ⟨A, -⟩ := q13
      refine x_iinc [some (vR _), some (vI _)] d81_56 rfl rfl ?_
      refine x_goto (t := 37) d81_59 rfl ?_
      refine x_iload_n d81_37 rfl ?_
      refine x_bipush d81_38 (by decide) ?_
      refine x_icge (t := 62) d81_40 rfl (by omega) (fun c40_14 => ?_) (fun c40_14 => ?_)
      · exfalso; omega
      · refine x_aload_n d81_43 rfl ?_
        refine x_gfR d81_44 cl81 f11_25 (Bd.o A (a := 2) (by decide) (by decide) rfl) rfl (Bd.r A (i := 4) (by decide) rfl) ?_
        refine x_iload_n d81_47 rfl ?_
        refine x_new d81_48 cl81 nw11_23 (x_wrR (fun g r => r = 17 ∧ Bd 18 15 L g) ⟨A.1, Bd_a A rfl (by decide)⟩ (fun h r15 q15 => ?_))
        obtain ⟨rfl, A⟩ := q15
        refine x_dupR d81_51 ?_
        refine x_PU d81_52 cl81 m11_29 kd67 po67 le67 (by decide) (Bd.o A (a := 17) (by decide) (by decide) rfl).1 (K67_17 A) (fun h q => ?_)
        obtain ⟨A, -⟩ := q
        refine x_aastS d81_55 (by decide) (Bd.o A (a := 6) (by decide) (by decide) rfl).1 ⟨by omega, by rw [(Bd.len A (a := 6) (by decide) (by decide) rfl)]; omega⟩ rfl (Bd.o A (a := 17) (by decide) (by decide) rfl).1 (Or.inr (Or.inl ⟨(Bd.o A (a := 6) (by decide) (by decide) rfl).2, (Bd.o A (a := 17) (by decide) (by decide) rfl).2⟩)) (x_wr (fun g => Bd 22 20 L g ∧ True) ⟨Bd_r A (m := 19) rfl rfl (by decide), trivial⟩ (fun h q16 => ?_))
        obtain ⟨A, -⟩ := q16
        refine x_iinc [some (vR _), some (vI _)] d81_56 rfl rfl ?_
        refine x_goto (t := 37) d81_59 rfl ?_
        refine x_iload_n d81_37 rfl ?_
        refine x_bipush d81_38 (by decide) ?_
        refine x_icge (t := 62) d81_40 rfl (by omega) (fun c40_17 => ?_) (fun c40_17 => ?_)
        · exfalso; omega
        · refine x_aload_n d81_43 rfl ?_
          refine x_gfR d81_44 cl81 f11_25 (Bd.o A (a := 2) (by decide) (by decide) rfl) rfl (Bd.r A (i := 4) (by decide) rfl) ?_
          refine x_iload_n d81_47 rfl ?_
          refine x_new d81_48 cl81 nw11_23 (x_wrR (fun g r => r = 22 ∧ Bd 23 20 L g) ⟨A.1, Bd_a A rfl (by decide)⟩ (fun h r18 q18 => ?_))
          obtain ⟨rfl, A⟩ := q18
          refine x_dupR d81_51 ?_
          refine x_PU d81_52 cl81 m11_29 kd67 po67 le67 (by decide) (Bd.o A (a := 22) (by decide) (by decide) rfl).1 (K67_22 A) (fun h q => ?_)
          obtain ⟨A, -⟩ := q
          refine x_aastS d81_55 (by decide) (Bd.o A (a := 6) (by decide) (by decide) rfl).1 ⟨by omega, by rw [(Bd.len A (a := 6) (by decide) (by decide) rfl)]; omega⟩ rfl (Bd.o A (a := 22) (by decide) (by decide) rfl).1 (Or.inr (Or.inl ⟨(Bd.o A (a := 6) (by decide) (by decide) rfl).2, (Bd.o A (a := 22) (by decide) (by decide) rfl).2⟩)) (x_wr (fun g => Bd 27 25 L g ∧ True) ⟨Bd_r A (m := 24) rfl rfl (by decide), trivial⟩ (fun h q19 => ?_))
          obtain ⟨A, -⟩ := q19
          refine x_iinc [some (vR _), some (vI _)] d81_56 rfl rfl ?_
          refine x_goto (t := 37) d81_59 rfl ?_
          refine x_iload_n d81_37 rfl ?_
          refine x_bipush d81_38 (by decide) ?_
          refine x_icge (t := 62) d81_40 rfl (by omega) (fun c40_20 => ?_) (fun c40_20 => ?_)
          · exfalso; omega
          · refine x_aload_n d81_43 rfl ?_
            refine x_gfR d81_44 cl81 f11_25 (Bd.o A (a := 2) (by decide) (by decide) rfl) rfl (Bd.r A (i := 4) (by decide) rfl) ?_
            refine x_iload_n d81_47 rfl ?_
            refine x_new d81_48 cl81 nw11_23 (x_wrR (fun g r => r = 27 ∧ Bd 28 25 L g) ⟨A.1, Bd_a A rfl (by decide)⟩ (fun h r21 q21 => ?_))
            obtain ⟨rfl, A⟩ := q21
            refine x_dupR d81_51 ?_
            refine x_PU d81_52 cl81 m11_29 kd67 po67 le67 (by decide) (Bd.o A (a := 27) (by decide) (by decide) rfl).1 (K67_27 A) (fun h q => ?_)
            obtain ⟨A, -⟩ := q
            refine x_aastS d81_55 (by decide) (Bd.o A (a := 6) (by decide) (by decide) rfl).1 ⟨by omega, by rw [(Bd.len A (a := 6) (by decide) (by decide) rfl)]; omega⟩ rfl (Bd.o A (a := 27) (by decide) (by decide) rfl).1 (Or.inr (Or.inl ⟨(Bd.o A (a := 6) (by decide) (by decide) rfl).2, (Bd.o A (a := 27) (by decide) (by decide) rfl).2⟩)) (x_wr (fun g => Bd 32 30 L g ∧ True) ⟨Bd_r A (m := 29) rfl rfl (by decide), trivial⟩ (fun h q22 => ?_))
            obtain ⟨A, -⟩ := q22
            refine x_iinc [some (vR _), some (vI _)] d81_56 rfl rfl ?_
            refine x_goto (t := 37) d81_59 rfl ?_
            refine x_iload_n d81_37 rfl ?_
            refine x_bipush d81_38 (by decide) ?_
            refine x_icge (t := 62) d81_40 rfl (by omega) (fun c40_23 => ?_) (fun c40_23 => ?_)
            · exfalso; omega
            · refine x_aload_n d81_43 rfl ?_
              refine x_gfR d81_44 cl81 f11_25 (Bd.o A (a := 2) (by decide) (by decide) rfl) rfl (Bd.r A (i := 4) (by decide) rfl) ?_
              refine x_iload_n d81_47 rfl ?_
              refine x_new d81_48 cl81 nw11_23 (x_wrR (fun g r => r = 32 ∧ Bd 33 30 L g) ⟨A.1, Bd_a A rfl (by decide)⟩ (fun h r24 q24 => ?_))
              obtain ⟨rfl, A⟩ := q24
              refine x_dupR d81_51 ?_
              refine x_PU d81_52 cl81 m11_29 kd67 po67 le67 (by decide) (Bd.o A (a := 32) (by decide) (by decide) rfl).1 (K67_32 A) (fun h q => ?_)
              obtain ⟨A, -⟩ := q
              refine x_aastS d81_55 (by decide) (Bd.o A (a := 6) (by decide) (by decide) rfl).1 ⟨by omega, by rw [(Bd.len A (a := 6) (by decide) (by decide) rfl)]; omega⟩ rfl (Bd.o A (a := 32) (by decide) (by decide) rfl).1 (Or.inr (Or.inl ⟨(Bd.o A (a := 6) (by decide) (by decide) rfl).2, (Bd.o A (a := 32) (by decide) (by decide) rfl).2⟩)) (x_wr (fun g => Bd 37 35 L g ∧ True) ⟨Bd_r A (m := 34) rfl rfl (by decide), trivial⟩ (fun h q25 => ?_))
              obtain ⟨A, -⟩ := q25
              refine x_iinc [some (vR _), some (vI _)] d81_56 rfl rfl ?_
              refine x_goto (t := 37) d81_59 rfl ?_
              refine x_iload_n d81_37 rfl ?_
              refine x_bipush d81_38 (by decide) ?_
              refine x_icge (t := 62) d81_40 rfl (by omega) (fun c40_26 => ?_) (fun c40_26 => ?_)
              · refine x_aload_n d81_62 rfl ?_
                refine x_new d81_63 cl81 nw11_30 (x_wrR (fun g r => r = 37 ∧ Bd 38 35 L g) ⟨A.1, Bd_a A rfl (by decide)⟩ (fun h r27 q27 => ?_))
                obtain ⟨rfl, A⟩ := q27
                refine x_dupR d81_66 ?_
                refine x_PU d81_67 cl81 m11_32 kd37 po37 le37 (by decide) (Bd.o A (a := 37) (by decide) (by decide) rfl).1 (K37_37 A) (fun h q => ?_)
                obtain ⟨A, -⟩ := q
                refine x_pfR d81_70 cl81 f11_33 (Bd.o A (a := 2) (by decide) (by decide) rfl) rfl (fun _ => ⟨by decide +kernel, rfl⟩) (x_wr (fun g => Bd 44 42 L g ∧ True) ⟨Bd_r A (m := 41) rfl rfl (by decide), trivial⟩ (fun h q28 => ?_))
                obtain ⟨A, -⟩ := q28
                refine x_aload_n d81_73 rfl ?_
                refine x_new d81_74 cl81 nw11_16 (x_wrR (fun g r => r = 44 ∧ Bd 45 42 L g) ⟨A.1, Bd_a A rfl (by decide)⟩ (fun h r29 q29 => ?_))
                obtain ⟨rfl, A⟩ := q29
                refine x_dupR d81_77 ?_
                refine x_PU d81_78 cl81 m11_18 kd165 po165 le165 (by decide) (Bd.o A (a := 44) (by decide) (by decide) rfl).1 (K165_44 A) (fun h q => ?_)
                obtain ⟨A, -⟩ := q
                refine x_pfR d81_81 cl81 f11_37 (Bd.o A (a := 2) (by decide) (by decide) rfl) rfl (fun _ => ⟨by decide +kernel, rfl⟩) (x_wr (fun g => Bd 45 44 L g ∧ True) ⟨Bd_r A (m := 43) rfl rfl (by decide), trivial⟩ (fun h q30 => ?_))
                obtain ⟨A, -⟩ := q30
                refine x_aload_n d81_84 rfl ?_
                refine x_new d81_85 cl81 nw11_16 (x_wrR (fun g r => r = 45 ∧ Bd 46 44 L g) ⟨A.1, Bd_a A rfl (by decide)⟩ (fun h r31 q31 => ?_))
                obtain ⟨rfl, A⟩ := q31
                refine x_dupR d81_88 ?_
                refine x_PU d81_89 cl81 m11_18 kd165 po165 le165 (by decide) (Bd.o A (a := 45) (by decide) (by decide) rfl).1 (K165_45 A) (fun h q => ?_)
                obtain ⟨A, -⟩ := q
                refine x_pfR d81_92 cl81 f11_40 (Bd.o A (a := 2) (by decide) (by decide) rfl) rfl (fun _ => ⟨by decide +kernel, rfl⟩) (x_wr (fun g => Bd 46 46 L g ∧ True) ⟨Bd_r A (m := 45) rfl rfl (by decide), trivial⟩ (fun h q32 => ?_))
                obtain ⟨A, -⟩ := q32
                refine x_aload_n d81_95 rfl ?_
                refine x_new d81_96 cl81 nw11_16 (x_wrR (fun g r => r = 46 ∧ Bd 47 46 L g) ⟨A.1, Bd_a A rfl (by decide)⟩ (fun h r33 q33 => ?_))
                obtain ⟨rfl, A⟩ := q33
                refine x_dupR d81_99 ?_
                refine x_PU d81_100 cl81 m11_18 kd165 po165 le165 (by decide) (Bd.o A (a := 46) (by decide) (by decide) rfl).1 (K165_46 A) (fun h q => ?_)
                obtain ⟨A, -⟩ := q
                refine x_pfR d81_103 cl81 f11_43 (Bd.o A (a := 2) (by decide) (by decide) rfl) rfl (fun _ => ⟨by decide +kernel, rfl⟩) (x_wr (fun g => Bd 47 48 L g ∧ True) ⟨Bd_r A (m := 47) rfl rfl (by decide), trivial⟩ (fun h q34 => ?_))
                obtain ⟨A, -⟩ := q34
                refine x_aload_n d81_106 rfl ?_
                refine x_new d81_107 cl81 nw11_46 (x_wrR (fun g r => r = 47 ∧ Bd 48 48 L g) ⟨A.1, Bd_a A rfl (by decide)⟩ (fun h r35 q35 => ?_))
                obtain ⟨rfl, A⟩ := q35
                refine x_dupR d81_110 ?_
                refine x_PU d81_111 cl81 m11_48 kd10 po10 le10 (by decide) (Bd.o A (a := 47) (by decide) (by decide) rfl).1 (K10_47 A) (fun h q => ?_)
                obtain ⟨A, -⟩ := q
                refine x_pfR d81_114 cl81 f11_49 (Bd.o A (a := 2) (by decide) (by decide) rfl) rfl (fun _ => ⟨by decide +kernel, rfl⟩) (x_wr (fun g => Bd 49 50 L g ∧ True) ⟨Bd_r A (m := 49) rfl rfl (by decide), trivial⟩ (fun h q36 => ?_))
                obtain ⟨A, -⟩ := q36
                refine x_aload_n d81_117 rfl ?_
                refine x_new d81_118 cl81 nw11_53 (x_wrR (fun g r => r = 49 ∧ Bd 50 50 L g) ⟨A.1, Bd_a A rfl (by decide)⟩ (fun h r37 q37 => ?_))
                obtain ⟨rfl, A⟩ := q37
                refine x_dupR d81_121 ?_
                refine x_PU d81_122 cl81 m11_55 kd3 po3 le3 (by decide) (Bd.o A (a := 49) (by decide) (by decide) rfl).1 (K3_49 A) (fun h q => ?_)
                obtain ⟨A, -⟩ := q
                refine x_pfR d81_125 cl81 f11_56 (Bd.o A (a := 2) (by decide) (by decide) rfl) rfl (fun _ => ⟨by decide +kernel, rfl⟩) (x_wr (fun g => Bd 55 56 L g ∧ True) ⟨Bd_r A (m := 55) rfl rfl (by decide), trivial⟩ (fun h q38 => ?_))
                obtain ⟨A, -⟩ := q38
                refine x_aload_n d81_128 rfl ?_
                refine x_new d81_129 cl81 nw11_60 (x_wrR (fun g r => r = 55 ∧ Bd 56 56 L g) ⟨A.1, Bd_a A rfl (by decide)⟩ (fun h r39 q39 => ?_))
                obtain ⟨rfl, A⟩ := q39
                refine x_dupR d81_132 ?_
                refine x_PU d81_133 cl81 m11_62 kd45 po45 le45 (by decide) (Bd.o A (a := 55) (by decide) (by decide) rfl).1 (K45_55 A) (fun h q => ?_)
                obtain ⟨A, -⟩ := q
                refine x_pfR d81_136 cl81 f11_63 (Bd.o A (a := 2) (by decide) (by decide) rfl) rfl (fun _ => ⟨by decide +kernel, rfl⟩) (x_wr (fun g => Bd 63 65 L g ∧ True) ⟨Bd_r A (m := 64) rfl rfl (by decide), trivial⟩ (fun h q40 => ?_))
                obtain ⟨A, -⟩ := q40
                refine x_aload_n d81_139 rfl ?_
                refine x_new d81_140 cl81 nw11_67 (x_wrR (fun g r => r = 63 ∧ Bd 64 65 L g) ⟨A.1, Bd_a A rfl (by decide)⟩ (fun h r41 q41 => ?_))
                obtain ⟨rfl, A⟩ := q41
                refine x_dupR d81_143 ?_
                refine x_PU d81_144 cl81 m11_69 kd75 po75 le75 (by decide) (Bd.o A (a := 63) (by decide) (by decide) rfl).1 (K75_63 A) (fun h q => ?_)
                obtain ⟨A, -⟩ := q
                refine x_pfR d81_147 cl81 f11_70 (Bd.o A (a := 2) (by decide) (by decide) rfl) rfl (fun _ => ⟨by decide +kernel, rfl⟩) (x_wr (fun g => Bd 66 68 L g ∧ True) ⟨Bd_r A (m := 67) rfl rfl (by decide), trivial⟩ (fun h q42 => ?_))
                obtain ⟨A, -⟩ := q42
                refine x_aload_n d81_150 rfl ?_
                refine x_bipush d81_151 (by decide) ?_
                refine x_newa d81_153 rfl (by decide) (by omega) (x_wrR (fun g r => r = 66 ∧ Bd 67 68 L g) ⟨A.1, Bd_a A rfl (by decide)⟩ (fun h r43 q43 => ?_))
                obtain ⟨rfl, A⟩ := q43
                refine x_pfR d81_155 cl81 f11_74 (Bd.o A (a := 2) (by decide) (by decide) rfl) rfl (fun _ => ⟨by decide +kernel, rfl⟩) (x_wr (fun g => Bd 67 69 L g ∧ True) ⟨Bd_r A (m := 68) rfl rfl (by decide), trivial⟩ (fun h q44 => ?_))
                obtain ⟨A, -⟩ := q44
                refine x_aload_n d81_158 rfl ?_
                refine x_sipush d81_159 (by decide) ?_
                refine x_newa d81_162 rfl (by decide) (by omega) (x_wrR (fun g r => r = 67 ∧ Bd 68 69 L g) ⟨A.1, Bd_a A rfl (by decide)⟩ (fun h r45 q45 => ?_))
                obtain ⟨rfl, A⟩ := q45
                refine x_pfR d81_164 cl81 f11_78 (Bd.o A (a := 2) (by decide) (by decide) rfl) rfl (fun _ => ⟨by decide +kernel, rfl⟩) (x_wr (fun g => Bd 68 70 L g ∧ True) ⟨Bd_r A (m := 69) rfl rfl (by decide), trivial⟩ (fun h q46 => ?_))
                obtain ⟨A, -⟩ := q46
                refine x_aload_n d81_167 rfl ?_
                refine x_sipush d81_168 (by decide) ?_
                refine x_newa d81_171 rfl (by decide) (by omega) (x_wrR (fun g r => r = 68 ∧ Bd 69 70 L g) ⟨A.1, Bd_a A rfl (by decide)⟩ (fun h r47 q47 => ?_))
                obtain ⟨rfl, A⟩ := q47
                refine x_pfR d81_173 cl81 f11_81 (Bd.o A (a := 2) (by decide) (by decide) rfl) rfl (fun _ => ⟨by decide +kernel, rfl⟩) (x_wr (fun g => Bd 69 71 L g ∧ True) ⟨Bd_r A (m := 70) rfl rfl (by decide), trivial⟩ (fun h q48 => ?_))
                obtain ⟨A, -⟩ := q48
                exact x_ret d81_176 rt81 (hQ _ ⟨A, trivial⟩)
              · exfalso; omega
theorem RL_f : ∀ x ∈ fxR, x ∈ RL := by decide +kernel
theorem RL_l : ∀ l, isLs l → (l, 1, 0) ∈ RL := by
  intro l q
  rcases q with q | q | q | q | q <;> subst q <;> decide +kernel
theorem gB_69 {a j : Nat} {lo hi : Int} (q : gB 0 a j = some (lo, hi)) : 2 ≤ a ∧ a < 69 := by
  unfold gB at q
  split at q <;> first | exact ⟨by decide, by decide⟩ | cases q
theorem DV_69 {a j : Nat} (q : DV a j = false) : 2 ≤ a ∧ a < 69 := by
  rcases Nat.lt_or_ge a 69 with w | w
  · refine ⟨?_, w⟩
    rcases Nat.lt_or_ge a 2 with w2 | w2
    · rw [DV_lt (by omega)] at q; cases q
    · exact w2
  · rw [DV_ge w] at q; cases q
/-- the whole house is there -/
theorem Bd_Hu {L : Nat} {h : Hp} (A : Bd 69 71 L h) (hL : L ≤ 260) : Hu 0 h := by
  obtain ⟨a1, a2, a3, a4, a5, a6, a7, a8⟩ := A
  have rr : ∀ a j b, (a, j, b) ∈ RL → hR h a j = some b := fun a j b q => by
    obtain ⟨i, hi⟩ := List.mem_iff_getElem?.mp q
    have : i < 71 := by
      rw [← RL_n]
      exact (List.getElem?_eq_some_iff.mp hi).1
    exact a3 i a j b this hi
  refine ⟨⟨by omega, fun a q => ?_, fun a j b q => rr a j b (RL_f _ (lkp_mem q))⟩, fun a j lo hi q => a4 a j lo hi (gB_69 q).1 (gB_69 q).2 q, fun l q => rr l 1 0 (RL_l l q), ⟨a6.1, a6.2.2.2.2, a6.2.1, a6.2.2.1, by rw [a6.2.2.2.1]; exact hL⟩, fun a j q => a5 a j (DV_69 q).1 (DV_69 q).2 q⟩
  have l := fT_lt q
  have l2 : 2 ≤ a := by
    rcases Nat.lt_or_ge a 2 with w | w
    · rcases (show a = 0 ∨ a = 1 by omega) with e | e <;> subst e <;> exact absurd rfl q
    · exact w
  have e : fxT[a]? = some (fT a, fL a) := by
    unfold fT fL
    have : a < fxT.length := l
    rw [List.getElem?_eq_getElem this]; rfl
  exact a2 a _ _ l2 l e
