/-! ===== NEW OBJECTS ===== -/
section NEWS
variable {h : Hp} {a b j k t l s : Nat} {v : Int} {r : Option Nat}
theorem Ob_alc (o : Ob h a t) : Ob (alc h l b s) a t := ⟨Nat.lt_succ_of_lt o.1, by show u1 (hT h) (hN h) l a = t; unfold u1; rw [if_neg (by have := o.1; omega)]; exact o.2⟩
theorem Ob_new : Ob (alc h t b s) (hN h) t := ⟨Nat.lt_succ_self _, by show u1 (hT h) (hN h) t (hN h) = t; unfold u1; rw [if_pos rfl]⟩
theorem hI_alc : hI (alc h t l s) b j = if b = hN h then 0 else hI h b j := rfl
theorem hR_alc : hR (alc h t l s) b j = if b = hN h then none else hR h b j := rfl
theorem hT_alc : hT (alc h t l s) b = if b = hN h then t else hT h b := rfl
theorem hL_alc : hL (alc h t l s) b = if b = hN h then l else hL h b := rfl
theorem hN_alc : hN (alc h t l s) = hN h + 1 := rfl
theorem hC_alc : hC (alc h t l s) = hC h + 1 := rfl
theorem hS_alc : hS (alc h t l s) = hS h + s := rfl
theorem hN_sI : hN (sI h a k v) = hN h := rfl
theorem hT_sI : hT (sI h a k v) b = hT h b := rfl
theorem hL_sI : hL (sI h a k v) b = hL h b := rfl
theorem hR_sI : hR (sI h a k v) b j = hR h b j := rfl
theorem hC_sI : hC (sI h a k v) = hC h := rfl
theorem hS_sI : hS (sI h a k v) = hS h := rfl
theorem hN_sR : hN (sR h a k r) = hN h := rfl
theorem hT_sR : hT (sR h a k r) b = hT h b := rfl
theorem hL_sR : hL (sR h a k r) b = hL h b := rfl
theorem hI_sR : hI (sR h a k r) b j = hI h b j := rfl
theorem hC_sR : hC (sR h a k r) = hC h := rfl
theorem hS_sR : hS (sR h a k r) = hS h := rfl
theorem hR_sR : hR (sR h a k r) b j = if b = a ∧ j = k then r else hR h b j := rfl
theorem hN_fil : hN (fil h a k v) = hN h := rfl
theorem hT_fil : hT (fil h a k v) b = hT h b := rfl
theorem hL_fil : hL (fil h a k v) b = hL h b := rfl
theorem hR_fil : hR (fil h a k v) b j = hR h b j := rfl
theorem hC_fil : hC (fil h a k v) = hC h := rfl
theorem hS_fil : hS (fil h a k v) = hS h := rfl
end NEWS
def mkBi (h : Hp) (x y w : Int) : Hp := sI (sI (sI (alc h 0 0 3) (hN h) 0 x) (hN h) 1 y) (hN h) 2 w
def mkTm (h : Hp) (x y w : Int) : Hp := sI (sI (sI (alc h 10 0 3) (hN h) 0 x) (hN h) 1 y) (hN h) 2 w
def mkCv (h : Hp) (x y w z u : Int) : Hp := sI (sI (sI (sI (sI (sR (alc (alc h 1 0 8) 100 10 10) (hN h) 7 (some (hN h + 1))) (hN h) 0 x) (hN h) 1 y) (hN h) 2 w) (hN h) 3 z) (hN h) 4 u
theorem C0 {d : Nat} {h : Hp} {x y w : Int} (h69 : 69 ≤ hN h) : PU DA (d + 0) 0 [vR (some (hN h)), vI x, vI y, vI w] (alc h 0 0 3) (fun g => g = mkBi h x y w) := by
  refine PU_of (fun Q hQ => ?_)
  have o : Ob (alc h 0 0 3) (hN h) 0 := Ob_new
  refine x_ent en0 ?_
  refine x_aload_n d0_0 rfl ?_
  refine x_cO d0_1 cl0 m0_1 (by exact Nat.le_of_ble_eq_true rfl) ?_
  refine x_aload_n d0_4 rfl ?_
  refine x_iload_n d0_5 rfl ?_
  refine x_pfI d0_6 cl0 f0_7 o rfl (fun _ => ⟨by decide +kernel, rfl⟩) ?_
  refine x_aload_n d0_9 rfl ?_
  refine x_iload_n d0_10 rfl ?_
  refine x_pfI d0_11 cl0 f0_13 o rfl (fun _ => ⟨by decide +kernel, rfl⟩) ?_
  refine x_aload_n d0_14 rfl ?_
  refine x_iload_n d0_15 rfl ?_
  refine x_pfI d0_16 cl0 f0_16 o rfl (fun _ => ⟨by decide +kernel, rfl⟩) ?_
  exact x_ret d0_19 rt0 (hQ _ rfl)
theorem C79 {d : Nat} {h : Hp} {x y w : Int} (h69 : 69 ≤ hN h) : PU DA (d + 0) 79 [vR (some (hN h)), vI x, vI y, vI w] (alc h 10 0 3) (fun g => g = mkTm h x y w) := by
  refine PU_of (fun Q hQ => ?_)
  have o : Ob (alc h 10 0 3) (hN h) 10 := Ob_new
  refine x_ent en79 ?_
  refine x_aload_n d79_0 rfl ?_
  refine x_cO d79_1 cl79 m10_1 (by exact Nat.le_of_ble_eq_true rfl) ?_
  refine x_aload_n d79_4 rfl ?_
  refine x_iload_n d79_5 rfl ?_
  refine x_pfI d79_6 cl79 f10_7 o rfl (fun _ => ⟨by decide +kernel, rfl⟩) ?_
  refine x_aload_n d79_9 rfl ?_
  refine x_iload_n d79_10 rfl ?_
  refine x_pfI d79_11 cl79 f10_13 o rfl (fun _ => ⟨by decide +kernel, rfl⟩) ?_
  refine x_aload_n d79_14 rfl ?_
  refine x_iload_n d79_15 rfl ?_
  refine x_pfI d79_16 cl79 f10_16 o rfl (fun _ => ⟨by decide +kernel, rfl⟩) ?_
  exact x_ret d79_19 rt79 (hQ _ rfl)
theorem C1 {d : Nat} {h : Hp} {x y w z u : Int} (h69 : 69 ≤ hN h) : PU DA (d + 0) 1 [vR (some (hN h)), vI x, vI y, vI w, vI z, vI u] (alc h 1 0 8) (fun g => g = mkCv h x y w z u) := by
  refine PU_of (fun Q hQ => ?_)
  have o : Ob (alc h 1 0 8) (hN h) 1 := Ob_new
  refine x_ent en1 ?_
  refine x_aload_n d1_0 rfl ?_
  refine x_cO d1_1 cl1 m1_3 (by exact Nat.le_of_ble_eq_true rfl) ?_
  refine x_aload_n d1_4 rfl ?_
  refine x_bipush d1_5 (by decide) ?_
  refine x_newa d1_7 rfl (by decide) (by omega) ?_
  have o := Ob_alc (l := 100) (b := 10) (s := 10) o
  refine x_pfR d1_9 cl1 f1_9 o rfl (fun _ => ⟨by decide +kernel, rfl⟩) ?_
  refine x_aload_n d1_12 rfl ?_
  refine x_iload_n d1_13 rfl ?_
  refine x_pfI d1_14 cl1 f1_15 o rfl (fun _ => ⟨by decide +kernel, rfl⟩) ?_
  refine x_aload_n d1_17 rfl ?_
  refine x_iload_n d1_18 rfl ?_
  refine x_pfI d1_19 cl1 f1_19 o rfl (fun _ => ⟨by decide +kernel, rfl⟩) ?_
  refine x_aload_n d1_22 rfl ?_
  refine x_iload_n d1_23 rfl ?_
  refine x_pfI d1_24 cl1 f1_22 o rfl (fun _ => ⟨by decide +kernel, rfl⟩) ?_
  refine x_aload_n d1_27 rfl ?_
  refine x_iload d1_28 rfl ?_
  refine x_pfI d1_30 cl1 f1_25 o rfl (fun _ => ⟨by decide +kernel, rfl⟩) ?_
  refine x_aload_n d1_33 rfl ?_
  refine x_iload d1_34 rfl ?_
  refine x_pfI d1_36 cl1 f1_28 o rfl (fun _ => ⟨by decide +kernel, rfl⟩) ?_
  exact x_ret d1_39 rt1 (hQ _ rfl)
theorem mkBi_ok {h : Hp} {x y w : Int} (h69 : 69 ≤ hN h) (q1 : 0 ≤ x ∧ x ≤ 9) (q2 : 1 ≤ y ∧ y ≤ 255) (q3 : 1 ≤ w ∧ w ≤ 9999) : Mv h (mkBi h x y w) (fun _ => False) ∧ Bi (mkBi h x y w) (hN h) ∧ hC (mkBi h x y w) = hC h + 1 ∧ hS (mkBi h x y w) = hS h + 3 := by
  refine ⟨⟨⟨by simp [mkBi, hI_sI, hI_alc, hR_alc, hT_alc, hL_alc, hN_alc, hC_alc, hS_alc, hN_sI, hT_sI, hL_sI, hR_sI, hC_sI, hS_sI, hN_sR, hT_sR, hL_sR, hI_sR, hC_sR, hS_sR, hR_sR, hN_fil, hT_fil, hL_fil, hR_fil, hC_fil, hS_fil, fil_I]; try omega, fun a ha => ?_⟩, fun _ _ q => q.elim, fun a ha _ j => ?_⟩, Bi.mk (h := mkBi h x y w) h69 (by simp [mkBi, hI_sI, hI_alc, hR_alc, hT_alc, hL_alc, hN_alc, hC_alc, hS_alc, hN_sI, hT_sI, hL_sI, hR_sI, hC_sI, hS_sI, hN_sR, hT_sR, hL_sR, hI_sR, hC_sR, hS_sR, hR_sR, hN_fil, hT_fil, hL_fil, hR_fil, hC_fil, hS_fil, fil_I]; try omega) (by simp [mkBi, hI_sI, hI_alc, hR_alc, hT_alc, hL_alc, hN_alc, hC_alc, hS_alc, hN_sI, hT_sI, hL_sI, hR_sI, hC_sI, hS_sI, hN_sR, hT_sR, hL_sR, hI_sR, hC_sR, hS_sR, hR_sR, hN_fil, hT_fil, hL_fil, hR_fil, hC_fil, hS_fil, fil_I]; try omega) (by simp [mkBi, hI_sI, hI_alc, hR_alc, hT_alc, hL_alc, hN_alc, hC_alc, hS_alc, hN_sI, hT_sI, hL_sI, hR_sI, hC_sI, hS_sI, hN_sR, hT_sR, hL_sR, hI_sR, hC_sR, hS_sR, hR_sR, hN_fil, hT_fil, hL_fil, hR_fil, hC_fil, hS_fil, fil_I]; try omega) (by simp [mkBi, hI_sI, hI_alc, hR_alc, hT_alc, hL_alc, hN_alc, hC_alc, hS_alc, hN_sI, hT_sI, hL_sI, hR_sI, hC_sI, hS_sI, hN_sR, hT_sR, hL_sR, hI_sR, hC_sR, hS_sR, hR_sR, hN_fil, hT_fil, hL_fil, hR_fil, hC_fil, hS_fil, fil_I]; try omega) (by simp [mkBi, hI_sI, hI_alc, hR_alc, hT_alc, hL_alc, hN_alc, hC_alc, hS_alc, hN_sI, hT_sI, hL_sI, hR_sI, hC_sI, hS_sI, hN_sR, hT_sR, hL_sR, hI_sR, hC_sR, hS_sR, hR_sR, hN_fil, hT_fil, hL_fil, hR_fil, hC_fil, hS_fil, fil_I]; try omega), by simp [mkBi, hI_sI, hI_alc, hR_alc, hT_alc, hL_alc, hN_alc, hC_alc, hS_alc, hN_sI, hT_sI, hL_sI, hR_sI, hC_sI, hS_sI, hN_sR, hT_sR, hL_sR, hI_sR, hC_sR, hS_sR, hR_sR, hN_fil, hT_fil, hL_fil, hR_fil, hC_fil, hS_fil, fil_I], by simp [mkBi, hI_sI, hI_alc, hR_alc, hT_alc, hL_alc, hN_alc, hC_alc, hS_alc, hN_sI, hT_sI, hL_sI, hR_sI, hC_sI, hS_sI, hN_sR, hT_sR, hL_sR, hI_sR, hC_sR, hS_sR, hR_sR, hN_fil, hT_fil, hL_fil, hR_fil, hC_fil, hS_fil, fil_I]; try omega⟩
  · have h1 : a ≠ hN h := by omega
    have h2 : a ≠ hN h + 1 := by omega
    simp [mkBi, hI_sI, hI_alc, hR_alc, hT_alc, hL_alc, hN_alc, hC_alc, hS_alc, hN_sI, hT_sI, hL_sI, hR_sI, hC_sI, hS_sI, hN_sR, hT_sR, hL_sR, hI_sR, hC_sR, hS_sR, hR_sR, hN_fil, hT_fil, hL_fil, hR_fil, hC_fil, hS_fil, fil_I, h1, h2]
  · have h1 : a ≠ hN h := by omega
    have h2 : a ≠ hN h + 1 := by omega
    simp [mkBi, hI_sI, hI_alc, hR_alc, hT_alc, hL_alc, hN_alc, hC_alc, hS_alc, hN_sI, hT_sI, hL_sI, hR_sI, hC_sI, hS_sI, hN_sR, hT_sR, hL_sR, hI_sR, hC_sR, hS_sR, hR_sR, hN_fil, hT_fil, hL_fil, hR_fil, hC_fil, hS_fil, fil_I, h1, h2]
theorem mkTm_ok {h : Hp} {x y w : Int} (h69 : 69 ≤ hN h) (q1 : 0 ≤ x ∧ x ≤ 99) (q2 : 0 ≤ y ∧ y ≤ 999) (q3 : 0 ≤ w ∧ w ≤ 999) : Mv h (mkTm h x y w) (fun _ => False) ∧ Tm (mkTm h x y w) (hN h) ∧ hC (mkTm h x y w) = hC h + 1 ∧ hS (mkTm h x y w) = hS h + 3 := by
  refine ⟨⟨⟨by simp [mkTm, hI_sI, hI_alc, hR_alc, hT_alc, hL_alc, hN_alc, hC_alc, hS_alc, hN_sI, hT_sI, hL_sI, hR_sI, hC_sI, hS_sI, hN_sR, hT_sR, hL_sR, hI_sR, hC_sR, hS_sR, hR_sR, hN_fil, hT_fil, hL_fil, hR_fil, hC_fil, hS_fil, fil_I]; try omega, fun a ha => ?_⟩, fun _ _ q => q.elim, fun a ha _ j => ?_⟩, Tm.mk (h := mkTm h x y w) h69 (by simp [mkTm, hI_sI, hI_alc, hR_alc, hT_alc, hL_alc, hN_alc, hC_alc, hS_alc, hN_sI, hT_sI, hL_sI, hR_sI, hC_sI, hS_sI, hN_sR, hT_sR, hL_sR, hI_sR, hC_sR, hS_sR, hR_sR, hN_fil, hT_fil, hL_fil, hR_fil, hC_fil, hS_fil, fil_I]; try omega) (by simp [mkTm, hI_sI, hI_alc, hR_alc, hT_alc, hL_alc, hN_alc, hC_alc, hS_alc, hN_sI, hT_sI, hL_sI, hR_sI, hC_sI, hS_sI, hN_sR, hT_sR, hL_sR, hI_sR, hC_sR, hS_sR, hR_sR, hN_fil, hT_fil, hL_fil, hR_fil, hC_fil, hS_fil, fil_I]; try omega) (by simp [mkTm, hI_sI, hI_alc, hR_alc, hT_alc, hL_alc, hN_alc, hC_alc, hS_alc, hN_sI, hT_sI, hL_sI, hR_sI, hC_sI, hS_sI, hN_sR, hT_sR, hL_sR, hI_sR, hC_sR, hS_sR, hR_sR, hN_fil, hT_fil, hL_fil, hR_fil, hC_fil, hS_fil, fil_I]; try omega) (by simp [mkTm, hI_sI, hI_alc, hR_alc, hT_alc, hL_alc, hN_alc, hC_alc, hS_alc, hN_sI, hT_sI, hL_sI, hR_sI, hC_sI, hS_sI, hN_sR, hT_sR, hL_sR, hI_sR, hC_sR, hS_sR, hR_sR, hN_fil, hT_fil, hL_fil, hR_fil, hC_fil, hS_fil, fil_I]; try omega) (by simp [mkTm, hI_sI, hI_alc, hR_alc, hT_alc, hL_alc, hN_alc, hC_alc, hS_alc, hN_sI, hT_sI, hL_sI, hR_sI, hC_sI, hS_sI, hN_sR, hT_sR, hL_sR, hI_sR, hC_sR, hS_sR, hR_sR, hN_fil, hT_fil, hL_fil, hR_fil, hC_fil, hS_fil, fil_I]; try omega), by simp [mkTm, hI_sI, hI_alc, hR_alc, hT_alc, hL_alc, hN_alc, hC_alc, hS_alc, hN_sI, hT_sI, hL_sI, hR_sI, hC_sI, hS_sI, hN_sR, hT_sR, hL_sR, hI_sR, hC_sR, hS_sR, hR_sR, hN_fil, hT_fil, hL_fil, hR_fil, hC_fil, hS_fil, fil_I], by simp [mkTm, hI_sI, hI_alc, hR_alc, hT_alc, hL_alc, hN_alc, hC_alc, hS_alc, hN_sI, hT_sI, hL_sI, hR_sI, hC_sI, hS_sI, hN_sR, hT_sR, hL_sR, hI_sR, hC_sR, hS_sR, hR_sR, hN_fil, hT_fil, hL_fil, hR_fil, hC_fil, hS_fil, fil_I]; try omega⟩
  · have h1 : a ≠ hN h := by omega
    have h2 : a ≠ hN h + 1 := by omega
    simp [mkTm, hI_sI, hI_alc, hR_alc, hT_alc, hL_alc, hN_alc, hC_alc, hS_alc, hN_sI, hT_sI, hL_sI, hR_sI, hC_sI, hS_sI, hN_sR, hT_sR, hL_sR, hI_sR, hC_sR, hS_sR, hR_sR, hN_fil, hT_fil, hL_fil, hR_fil, hC_fil, hS_fil, fil_I, h1, h2]
  · have h1 : a ≠ hN h := by omega
    have h2 : a ≠ hN h + 1 := by omega
    simp [mkTm, hI_sI, hI_alc, hR_alc, hT_alc, hL_alc, hN_alc, hC_alc, hS_alc, hN_sI, hT_sI, hL_sI, hR_sI, hC_sI, hS_sI, hN_sR, hT_sR, hL_sR, hI_sR, hC_sR, hS_sR, hR_sR, hN_fil, hT_fil, hL_fil, hR_fil, hC_fil, hS_fil, fil_I, h1, h2]
theorem mkCv_ok {h : Hp} {x y w z u : Int} (h69 : 69 ≤ hN h) (q1 : 0 ≤ x ∧ x ≤ 5) (q2 : 0 ≤ y ∧ y ≤ 5) (q3 : 1 ≤ w ∧ w ≤ 4) (q4 : 0 ≤ z ∧ z ≤ 0) (q5 : 0 ≤ u ∧ u ≤ 999) : Mv h (mkCv h x y w z u) (fun _ => False) ∧ Cv (mkCv h x y w z u) (hN h) ∧ hC (mkCv h x y w z u) = hC h + 2 ∧ hS (mkCv h x y w z u) = hS h + 18 := by
  refine ⟨⟨⟨by simp [mkCv, hI_sI, hI_alc, hR_alc, hT_alc, hL_alc, hN_alc, hC_alc, hS_alc, hN_sI, hT_sI, hL_sI, hR_sI, hC_sI, hS_sI, hN_sR, hT_sR, hL_sR, hI_sR, hC_sR, hS_sR, hR_sR, hN_fil, hT_fil, hL_fil, hR_fil, hC_fil, hS_fil, fil_I]; try omega, fun a ha => ?_⟩, fun _ _ q => q.elim, fun a ha _ j => ?_⟩, Cv.mk (h := mkCv h x y w z u) h69 (by simp [mkCv, hI_sI, hI_alc, hR_alc, hT_alc, hL_alc, hN_alc, hC_alc, hS_alc, hN_sI, hT_sI, hL_sI, hR_sI, hC_sI, hS_sI, hN_sR, hT_sR, hL_sR, hI_sR, hC_sR, hS_sR, hR_sR, hN_fil, hT_fil, hL_fil, hR_fil, hC_fil, hS_fil, fil_I]; try omega) (by simp [mkCv, hI_sI, hI_alc, hR_alc, hT_alc, hL_alc, hN_alc, hC_alc, hS_alc, hN_sI, hT_sI, hL_sI, hR_sI, hC_sI, hS_sI, hN_sR, hT_sR, hL_sR, hI_sR, hC_sR, hS_sR, hR_sR, hN_fil, hT_fil, hL_fil, hR_fil, hC_fil, hS_fil, fil_I]; try omega) (by simp [mkCv, hI_sI, hI_alc, hR_alc, hT_alc, hL_alc, hN_alc, hC_alc, hS_alc, hN_sI, hT_sI, hL_sI, hR_sI, hC_sI, hS_sI, hN_sR, hT_sR, hL_sR, hI_sR, hC_sR, hS_sR, hR_sR, hN_fil, hT_fil, hL_fil, hR_fil, hC_fil, hS_fil, fil_I]; try omega) (by simp [mkCv, hI_sI, hI_alc, hR_alc, hT_alc, hL_alc, hN_alc, hC_alc, hS_alc, hN_sI, hT_sI, hL_sI, hR_sI, hC_sI, hS_sI, hN_sR, hT_sR, hL_sR, hI_sR, hC_sR, hS_sR, hR_sR, hN_fil, hT_fil, hL_fil, hR_fil, hC_fil, hS_fil, fil_I]; try omega) (by simp [mkCv, hI_sI, hI_alc, hR_alc, hT_alc, hL_alc, hN_alc, hC_alc, hS_alc, hN_sI, hT_sI, hL_sI, hR_sI, hC_sI, hS_sI, hN_sR, hT_sR, hL_sR, hI_sR, hC_sR, hS_sR, hR_sR, hN_fil, hT_fil, hL_fil, hR_fil, hC_fil, hS_fil, fil_I]; try omega) (by simp [mkCv, hI_sI, hI_alc, hR_alc, hT_alc, hL_alc, hN_alc, hC_alc, hS_alc, hN_sI, hT_sI, hL_sI, hR_sI, hC_sI, hS_sI, hN_sR, hT_sR, hL_sR, hI_sR, hC_sR, hS_sR, hR_sR, hN_fil, hT_fil, hL_fil, hR_fil, hC_fil, hS_fil, fil_I]; try omega) (by simp [mkCv, hI_sI, hI_alc, hR_alc, hT_alc, hL_alc, hN_alc, hC_alc, hS_alc, hN_sI, hT_sI, hL_sI, hR_sI, hC_sI, hS_sI, hN_sR, hT_sR, hL_sR, hI_sR, hC_sR, hS_sR, hR_sR, hN_fil, hT_fil, hL_fil, hR_fil, hC_fil, hS_fil, fil_I]; try omega) (by simp [mkCv, hI_sI, hI_alc, hR_alc, hT_alc, hL_alc, hN_alc, hC_alc, hS_alc, hN_sI, hT_sI, hL_sI, hR_sI, hC_sI, hS_sI, hN_sR, hT_sR, hL_sR, hI_sR, hC_sR, hS_sR, hR_sR, hN_fil, hT_fil, hL_fil, hR_fil, hC_fil, hS_fil, fil_I]; try omega) (by simp [mkCv, hI_sI, hI_alc, hR_alc, hT_alc, hL_alc, hN_alc, hC_alc, hS_alc, hN_sI, hT_sI, hL_sI, hR_sI, hC_sI, hS_sI, hN_sR, hT_sR, hL_sR, hI_sR, hC_sR, hS_sR, hR_sR, hN_fil, hT_fil, hL_fil, hR_fil, hC_fil, hS_fil, fil_I]; try omega) (by simp [mkCv, hI_sI, hI_alc, hR_alc, hT_alc, hL_alc, hN_alc, hC_alc, hS_alc, hN_sI, hT_sI, hL_sI, hR_sI, hC_sI, hS_sI, hN_sR, hT_sR, hL_sR, hI_sR, hC_sR, hS_sR, hR_sR, hN_fil, hT_fil, hL_fil, hR_fil, hC_fil, hS_fil, fil_I]; try omega) (by simp [mkCv, hI_sI, hI_alc, hR_alc, hT_alc, hL_alc, hN_alc, hC_alc, hS_alc, hN_sI, hT_sI, hL_sI, hR_sI, hC_sI, hS_sI, hN_sR, hT_sR, hL_sR, hI_sR, hC_sR, hS_sR, hR_sR, hN_fil, hT_fil, hL_fil, hR_fil, hC_fil, hS_fil, fil_I]; try omega) (by simp [mkCv, hI_sI, hI_alc, hR_alc, hT_alc, hL_alc, hN_alc, hC_alc, hS_alc, hN_sI, hT_sI, hL_sI, hR_sI, hC_sI, hS_sI, hN_sR, hT_sR, hL_sR, hI_sR, hC_sR, hS_sR, hR_sR, hN_fil, hT_fil, hL_fil, hR_fil, hC_fil, hS_fil, fil_I]; try omega) (by intro j; simp [mkCv, hI_sI, hI_alc, hR_alc, hT_alc, hL_alc, hN_alc, hC_alc, hS_alc, hN_sI, hT_sI, hL_sI, hR_sI, hC_sI, hS_sI, hN_sR, hT_sR, hL_sR, hI_sR, hC_sR, hS_sR, hR_sR, hN_fil, hT_fil, hL_fil, hR_fil, hC_fil, hS_fil, fil_I]; try omega), by simp [mkCv, hI_sI, hI_alc, hR_alc, hT_alc, hL_alc, hN_alc, hC_alc, hS_alc, hN_sI, hT_sI, hL_sI, hR_sI, hC_sI, hS_sI, hN_sR, hT_sR, hL_sR, hI_sR, hC_sR, hS_sR, hR_sR, hN_fil, hT_fil, hL_fil, hR_fil, hC_fil, hS_fil, fil_I], by simp [mkCv, hI_sI, hI_alc, hR_alc, hT_alc, hL_alc, hN_alc, hC_alc, hS_alc, hN_sI, hT_sI, hL_sI, hR_sI, hC_sI, hS_sI, hN_sR, hT_sR, hL_sR, hI_sR, hC_sR, hS_sR, hR_sR, hN_fil, hT_fil, hL_fil, hR_fil, hC_fil, hS_fil, fil_I]; try omega⟩
  · have h1 : a ≠ hN h := by omega
    have h2 : a ≠ hN h + 1 := by omega
    simp [mkCv, hI_sI, hI_alc, hR_alc, hT_alc, hL_alc, hN_alc, hC_alc, hS_alc, hN_sI, hT_sI, hL_sI, hR_sI, hC_sI, hS_sI, hN_sR, hT_sR, hL_sR, hI_sR, hC_sR, hS_sR, hR_sR, hN_fil, hT_fil, hL_fil, hR_fil, hC_fil, hS_fil, fil_I, h1, h2]
  · have h1 : a ≠ hN h := by omega
    have h2 : a ≠ hN h + 1 := by omega
    simp [mkCv, hI_sI, hI_alc, hR_alc, hT_alc, hL_alc, hN_alc, hC_alc, hS_alc, hN_sI, hT_sI, hL_sI, hR_sI, hC_sI, hS_sI, hN_sR, hT_sR, hL_sR, hI_sR, hC_sR, hS_sR, hR_sR, hN_fil, hT_fil, hL_fil, hR_fil, hC_fil, hS_fil, fil_I, h1, h2]
