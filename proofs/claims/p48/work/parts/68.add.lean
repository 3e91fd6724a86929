theorem C191 {D : Nat → Nat → Bool} {d : Nat} {h : Hp} {x y w : Int} (qx : 0 ≤ x ∧ x ≤ 50) (qy : y = 1) (qw : 0 ≤ w ∧ w ≤ 25) : ∃ v : Int, (fun v : Int => x + 1 ≤ v ∧ v ≤ x + 25) v ∧ PV D (d + 0) 191 [vI x, vI y, vI w] h (vI v) := by
  refine PE_of (fun Q hQ => ?_)
  refine x_ent en191 ?_
  refine x_iload_n d191_0 rfl ?_
  refine x_iload_n d191_1 rfl ?_
  refine x_iload_n d191_2 rfl ?_
  refine x_nat d191_3 cl191 m22_194 (by decide) (popN_of (q := [vI _, vI _]) (show mArg 904 = 2 by decide +kernel) rfl rfl) (by exact Nat.le_of_ble_eq_true rfl) (nat_904 (by omega)) ?_
  refine x_nm (fun m3 em3 => ?_)
  try dsimp only at em3
  have hm3 : 1 ≤ m3 ∧ m3 ≤ 25 := by rw [em3]; split <;> omega
  refine x_iadd d191_6 ?_
  refine x_nm (fun w7_1 ew7_1 => ?_)
  refine x_istore_n [some (vI _), some (vI _), some (vI _), some (vI _)] d191_7 rfl ?_
  refine x_iconst d191_8 ?_
  refine x_iload_n d191_9 rfl ?_
  refine x_icge (t := 21) d191_10 rfl (by omega) (fun c10_2 => ?_) (fun c10_2 => ?_)
  · exfalso; omega
  · refine x_iload_n d191_13 rfl ?_
    refine x_ldc d191_14 cl191 ci22_200 ?_
    refine x_icgt (t := 21) d191_16 rfl (by omega) (fun c16_3 => ?_) (fun c16_3 => ?_)
    · exfalso; omega
    · refine x_iload_n d191_19 rfl ?_
      exact x_iret d191_20 rt191 (hQ _ (by omega))
/-! ===== A LIST IS ADDED TO ===== -/
theorem shr1 {n : Nat} (hn : n ≤ 40) : 0 ≤ o32 fshr (n : Int) 1 ∧ o32 fshr (n : Int) 1 ≤ 25 := by
  have key : ∀ n : Nat, n ≤ 40 → 0 ≤ o32 fshr (n : Int) 1 ∧ o32 fshr (n : Int) 1 ≤ 25 := by decide +kernel
  exact key n hn
/-- a list's row is a new one -/
def GW (h g : Hp) (l e n : Nat) : Prop := hN g = hN h + 1 ∧ hC g = hC h + 1 ∧ hS g ≤ hS h + 70 ∧ (∀ a, a < hN h → hT g a = hT h a ∧ hL g a = hL h a) ∧ (∀ a, a < hN h → ∀ j, hI g a j = hI h a j) ∧ (∀ a, a < hN h → a ≠ l → ∀ j, hR g a j = hR h a j) ∧ hR g l 1 = some (hN h) ∧ hT g (hN h) = 103 ∧ (n + 1 ≤ hL g (hN h) ∧ hL g (hN h) ≤ 70) ∧ ∀ j, hR g (hN h) j = if j < n then hR h e j else none
theorem nat_902 {h : Hp} {a n : Nat} (h2 : 2 ≤ a) (ha : a < hN h) (t : hT h a = 103) (hn : n < 60000) (hl : hL h a ≤ n) (el : ∀ j, j < hL h a → elB h a j = true) : nat DA 902 [vR (some a), vI (n : Int)] h = some (some (vR (some (hN h))), cpyR h a n) := by
  show (if _ then _ else _) = _
  rw [if_pos ⟨h2, ha, t, by omega, by omega, by omega, fun j hj => ⟨rfl, el j hj⟩⟩, Int.toNat_natCast]
theorem GW_cpy {h : Hp} {l e n m : Nat} (hl : l < hN h) (he : hL h e = n) (e0 : e < hN h) (hm : n + 1 ≤ m) (hm2 : m ≤ 70) : GW h (sR (cpyR h e m) l 1 (some (hN h))) l e n := by
  refine ⟨rfl, rfl, by show hS h + m ≤ hS h + 70; omega, fun a ha => ⟨?_, ?_⟩, fun a ha j => ?_, fun a ha hn j => ?_, ?_, ?_, ?_, fun j => ?_⟩
  · show u1 (hT h) (hN h) 103 a = _
    unfold u1; rw [if_neg (by omega)]
  · show u1 (hL h) (hN h) m a = _
    unfold u1; rw [if_neg (by omega)]
  · show ur (hI h) (hN h) (fun _ => 0) a j = _
    unfold ur; rw [if_neg (by omega)]
  · show u2 (ur (ur (hR h) (hN h) (fun _ => none)) (hN h) (fun j => if j < hL h e then hR h e j else none)) l 1 (some (hN h)) a j = _
    unfold u2 ur; rw [if_neg (by omega), if_neg (by omega), if_neg (by omega)]
  · show u2 _ l 1 _ l 1 = _
    unfold u2; rw [if_pos ⟨rfl, rfl⟩]
  · show u1 (hT h) (hN h) 103 (hN h) = _
    unfold u1; rw [if_pos rfl]
  · show n + 1 ≤ u1 (hL h) (hN h) m (hN h) ∧ u1 (hL h) (hN h) m (hN h) ≤ 70
    unfold u1; rw [if_pos rfl]; exact ⟨hm, hm2⟩
  · show u2 (ur (ur (hR h) (hN h) (fun _ => none)) (hN h) (fun j => if j < hL h e then hR h e j else none)) l 1 (some (hN h)) (hN h) j = _
    unfold u2 ur
    rw [if_neg (by omega), if_pos rfl]
    show (if j < hL h e then hR h e j else none) = _
    rw [he]
theorem GW_new {h : Hp} {l m : Nat} (hl : l < hN h) (hm : 1 ≤ m) (hm2 : m ≤ 70) : GW h (sR (alc h 103 m m) l 1 (some (hN h))) l 0 0 := by
  refine ⟨rfl, rfl, by show hS h + m ≤ hS h + 70; omega, fun a ha => ⟨?_, ?_⟩, fun a ha j => ?_, fun a ha hn j => ?_, ?_, ?_, ?_, fun j => ?_⟩
  · show u1 (hT h) (hN h) 103 a = _
    unfold u1; rw [if_neg (by omega)]
  · show u1 (hL h) (hN h) m a = _
    unfold u1; rw [if_neg (by omega)]
  · show ur (hI h) (hN h) (fun _ => 0) a j = _
    unfold ur; rw [if_neg (by omega)]
  · show u2 (ur (hR h) (hN h) (fun _ => none)) l 1 (some (hN h)) a j = _
    unfold u2 ur; rw [if_neg (by omega), if_neg (by omega)]
  · show u2 _ l 1 _ l 1 = _
    unfold u2; rw [if_pos ⟨rfl, rfl⟩]
  · show u1 (hT h) (hN h) 103 (hN h) = _
    unfold u1; rw [if_pos rfl]
  · show 0 + 1 ≤ u1 (hL h) (hN h) m (hN h) ∧ u1 (hL h) (hN h) m (hN h) ≤ 70
    unfold u1; rw [if_pos rfl]; omega
  · show u2 (ur (hR h) (hN h) (fun _ => none)) l 1 (some (hN h)) (hN h) j = _
    unfold u2 ur
    rw [if_neg (by omega), if_pos rfl]
    simp
theorem C172 {d : Nat} {h : Hp} {l e n : Nat} (ol : Ob h l 12) (h2 : 2 ≤ l) (e1 : hR h l 1 = some e) (he : e < hN h) (te : hT h e = 103) (ee : e = 0 ∨ 69 ≤ e) (len : hL h e = n) (hn : n ≤ 40) (el : ∀ j, j < n → elB h e j = true) (z0 : e = 0 → n = 0) : PW DA (d + 1) 172 [vR (some l), vI ((n : Int) + 1)] h (fun w g => w = vR (some (hN h)) ∧ GW h g l e n) := by
  refine x_ent en172 ?_
  refine x_aload_n d172_0 rfl ?_
  refine x_gfR d172_1 cl172 f12_9 ol rfl e1 ?_
  refine x_alen d172_4 he (by rw [te]; decide) ?_
  rw [len]
  refine x_istore_n [some (vR _), some (vI _), some (vI _), none] d172_5 rfl ?_
  refine x_iload_n d172_6 rfl ?_
  have cp : 69 ≤ e → wp DA (d + 1) 172 20 [some (vR (some l)), some (vI ((n : Int) + 1)), some (vI (n : Int)), none] [] h (fun r => ∃ v, r.1 = .inl (some v) ∧ (v = vR (some (hN h)) ∧ GW h r.2 l e n)) := by
    intro e9
    refine x_iload_n d172_20 rfl ?_
    refine x_iload_n d172_21 rfl ?_
    refine x_iload_n d172_22 rfl ?_
    refine x_isub d172_23 ?_
    refine x_iload_n d172_24 rfl ?_
    refine x_iconst d172_25 ?_
    refine x_ishr d172_26 ?_
    have hs := shr1 hn
    refine x_SE d172_27 cl172 m12_73 kd191 po191 le191 (C191 (by omega) (by omega) hs) (fun v r z => ?_)
    try dsimp only at r
    refine x_nm (fun w ew => ?_)
    refine x_istore_n [some (vR _), some (vI _), some (vI _), some (vI _)] d172_30 rfl ?_
    refine x_aload_n d172_31 rfl ?_
    refine x_aload_n d172_32 rfl ?_
    refine x_gfR d172_33 cl172 f12_9 ol rfl e1 ?_
    refine x_iload_n d172_36 rfl ?_
    obtain ⟨m, hm⟩ : ∃ m : Nat, w = (m : Int) := ⟨w.toNat, by omega⟩
    subst hm
    refine x_nat d172_37 cl172 m12_66 (by decide) (popN_of (q := [vI _, vR _]) (show mArg 902 = 2 by decide +kernel) rfl rfl) (by exact Nat.le_of_ble_eq_true rfl) (nat_902 (by omega) he te (by omega) (by omega) (fun j hj => el j (by omega))) ?_
    refine x_dupx d172_40 rfl rfl ?_
    refine x_pfR d172_41 cl172 f12_9 (a := l) ⟨by show l < hN h + 1; have := ol.1; omega, by show u1 (hT h) (hN h) 103 l = 12; unfold u1; rw [if_neg (by have := ol.1; omega)]; exact ol.2⟩ rfl (fun q => by cases q) ?_
    exact x_aret d172_44 rt172 ⟨_, rfl, rfl, GW_cpy ol.1 len he (by omega) (by omega)⟩
  refine x_ifgt (t := 20) d172_7 rfl (by omega) (fun c => ?_) (fun c => ?_)
  · exact cp (by rcases ee with w | w; · have := z0 w; omega
                 · exact w)
  refine x_aload_n d172_10 rfl ?_
  refine x_gfR d172_11 cl172 f12_9 ol rfl e1 ?_
  refine x_gst d172_14 cl172 rfl ?_
  refine x_acmpeq (t := 45) d172_17 rfl (fun c9 => ?_) (fun c9 => ?_)
  · have n0 : n = 0 := by omega
    subst n0
    have ez : e = 0 := by simpa using c9
    subst ez
    refine x_aload_n d172_45 rfl ?_
    refine x_bipush d172_46 (by decide) ?_
    refine x_iload_n d172_48 rfl ?_
    refine x_nat d172_49 cl172 m12_79 (by decide) (popN_of (q := [vI _, vI _]) (show mArg 904 = 2 by decide +kernel) rfl rfl) (by exact Nat.le_of_ble_eq_true rfl) (nat_904 (by omega)) ?_
    refine x_anew d172_52 cl172 an12_7 (by decide) ?_
    refine x_dupx d172_55 rfl rfl ?_
    refine x_pfR d172_56 cl172 f12_9 (a := l) ⟨by show l < hN h + 1; have := ol.1; omega, by show u1 (hT h) (hN h) 103 l = 12; unfold u1; rw [if_neg (by have := ol.1; omega)]; exact ol.2⟩ rfl (fun q => by cases q) ?_
    exact x_aret d172_59 rt172 ⟨_, rfl, rfl, GW_new ol.1 (by decide) (by decide)⟩
  · exact cp (by rcases ee with w | w; · exact absurd (by rw [w]) c9
                 · exact w)
theorem C171 {d : Nat} {h : Hp} {l e n : Nat} (ol : Ob h l 12) (h2 : 2 ≤ l) (e1 : hR h l 1 = some e) (he : e < hN h) (te : hT h e = 103) (ee : e = 0 ∨ 69 ≤ e) (len : hL h e = n) (hn : n ≤ 40) (el : ∀ j, j < n → elB h e j = true) (z0 : e = 0 → n = 0) (en : hI h l 2 = n) : PW DA (d + 2) 171 [vR (some l)] h (fun w g => w = vR (some (hN h)) ∧ GW h g l e n) := by
  refine x_ent en171 ?_
  refine x_aload_n d171_0 rfl ?_
  refine x_aload_n d171_1 rfl ?_
  refine x_gfI d171_2 cl171 f12_48 (by decide) ol rfl ?_
  refine x_iconst d171_5 ?_
  refine x_iadd d171_6 ?_
  rw [en]
  refine x_VW d171_7 cl171 m12_69 kd172 tg172 po172 le172 h2 ol (C172 ol h2 e1 he te ee len hn el z0) (fun v g q => ?_)
  obtain ⟨rfl, q⟩ := q
  exact x_aret d171_10 rt171 ⟨_, rfl, rfl, q⟩
/-- the cells that were there stay -/
def Ge (h g : Hp) : Prop := hN h ≤ hN g ∧ ∀ a, a < hN h → hT g a = hT h a ∧ hL g a = hL h a
/-- a list l of n with b added -/
def Gr (h g : Hp) (l n b : Nat) : Prop := Ge h g ∧ (∀ a, a < hN h → a ≠ l → ∀ j, hI g a j = hI h a j) ∧ hI g l 2 = (n : Int) + 1 ∧ ∃ e e', hR h l 1 = some e ∧ hR g l 1 = some e' ∧ ((e' = e ∧ 69 ≤ e) ∨ hN h ≤ e') ∧ 69 ≤ e' ∧ e' < hN g ∧ hT g e' = 103 ∧ (n + 1 ≤ hL g e' ∧ hL g e' ≤ 100) ∧ (∀ j, j < n → hR g e' j = hR h e j) ∧ hR g e' n = some b ∧ (∀ j, n < j → hR g e' j = none) ∧ (∀ a, a < hN h → a ≠ e' → a ≠ l → ∀ j, hR g a j = hR h a j)
theorem C170 {d : Nat} {h : Hp} {l e n b : Nat} (ol : Ob h l 12) (h2 : 2 ≤ l) (l69 : l < 69) (e1 : hR h l 1 = some e) (he : e < hN h) (te : hT h e = 103) (ee : e = 0 ∨ 69 ≤ e) (len : n ≤ hL h e ∧ hL h e ≤ 100) (hn : n ≤ 40) (el : ∀ j, j < n → elB h e j = true) (z0 : e = 0 → hL h e = 0) (en : hI h l 2 = n) (hN9 : 69 ≤ hN h) (hb : b < hN h ∧ hT h b < 13) (rest : ∀ j, n ≤ j → hR h e j = none) : PU DA (d + 3) 170 [vR (some l), vR (some b), vR (some e), vI (n : Int)] h (fun g => Gr h g l n b ∧ hC g ≤ hC h + 1 ∧ hS g ≤ hS h + 70) := by
  refine PU_of (fun Q hQ => ?_)
  refine x_ent en170 ?_
  refine x_iload_n d170_0 rfl ?_
  refine x_aload_n d170_1 rfl ?_
  refine x_alen d170_2 he (by rw [te]; decide) ?_
  have tail : ∀ (g : Hp) (e' : Nat), hN h ≤ hN g → (∀ a, a < hN h → hT g a = hT h a ∧ hL g a = hL h a) → (∀ a, a < hN h → ∀ j, hI g a j = hI h a j) → (∀ a, a < hN h → a ≠ l → ∀ j, hR g a j = hR h a j) → hR g l 1 = some e' → ((e' = e ∧ 69 ≤ e) ∨ hN h ≤ e') → e' < hN g → hT g e' = 103 → (n + 1 ≤ hL g e' ∧ hL g e' ≤ 100) → (∀ j, hR g e' j = if j < n then hR h e j else none) → hC g ≤ hC h + 1 → hS g ≤ hS h + 70 → wp DA (d + 3) 170 11 [some (vR (some l)), some (vR (some b)), some (vR (some e')), some (vI (n : Int))] [] g Q := by
    intro g e' g1 g2 g3 g4 g5 g6 g7 g8 g9 g10 g11 g12
    refine x_aload_n d170_11 rfl ?_
    refine x_iload_n d170_12 rfl ?_
    refine x_aload_n d170_13 rfl ?_
    refine x_aastS d170_14 (by omega) g7 ⟨by omega, by omega⟩ rfl (by omega) (Or.inl ⟨g8, by rw [(g2 b hb.1).1]; exact hb.2⟩) ?_
    refine x_aload_n d170_15 rfl ?_
    refine x_iload_n d170_16 rfl ?_
    refine x_iconst d170_17 ?_
    refine x_iadd d170_18 ?_
    refine x_pfI d170_19 cl170 f12_48 (a := l) ⟨by show l < hN g; have := ol.1; omega, by show hT g l = 12; rw [(g2 l ol.1).1]; exact ol.2⟩ rfl (fun q => by cases q) ?_
    refine x_ret d170_22 rt170 (hQ _ ⟨⟨⟨g1, g2⟩, fun a ha hne j => ?_, ?_, e, e', e1, ?_, g6, by omega, g7, g8, g9, fun j hj => ?_, ?_, fun j hj => ?_, fun a ha hn1 hn2 j => ?_⟩, g11, g12⟩)
    · rw [hI_ne hne]; exact g3 a ha j
    · exact hI_eq
    · show u2 (hR g) e' _ _ l 1 = _
      unfold u2; rw [if_neg (by omega)]; exact g5
    · show u2 (hR g) e' _ _ e' j = _
      unfold u2; rw [if_neg (by omega), g10 j, if_pos hj]
    · show u2 (hR g) e' _ _ e' n = _
      unfold u2; rw [if_pos ⟨rfl, by omega⟩]
    · show u2 (hR g) e' _ _ e' j = _
      unfold u2; rw [if_neg (by omega), g10 j, if_neg (by omega)]
    · show u2 (hR g) e' _ _ a j = _
      unfold u2; rw [if_neg (by omega)]; exact g4 a ha hn2 j
  by_cases c : n = hL h e
  · refine x_icne (t := 11) d170_3 rfl (by omega) (fun q => by omega) (fun q => ?_)
    refine x_aload_n d170_6 rfl ?_
    refine x_VW d170_7 cl170 m12_129 kd171 tg171 po171 le171 h2 ol (C171 ol h2 e1 he te ee c.symm hn el (fun q => by have := z0 q; omega) en) (fun v g q => ?_)
    obtain ⟨rfl, q1, q2, q3, q4, q5, q6, q7, q8, q9, q10⟩ := q
    refine x_astore_n [some (vR _), some (vR _), some (vR _), some (vI _)] d170_10 rfl ?_
    exact tail g (hN h) (by omega) q4 q5 q6 q7 (Or.inr (Nat.le_refl _)) (by omega) q8 (by omega) q10 (by omega) q3
  · have e9 : 69 ≤ e := by
      rcases ee with w | w
      · have := z0 w; omega
      · exact w
    have t := tail h e (Nat.le_refl _) (fun a _ => ⟨rfl, rfl⟩) (fun a _ j => rfl) (fun a _ _ j => rfl) e1 (Or.inl ⟨rfl, e9⟩) he te (by omega) (fun j => by
      by_cases w : j < n
      · rw [if_pos w]
      · rw [if_neg w]; exact rest j (by omega)) (by omega) (by omega)
    exact x_icne (t := 11) d170_3 rfl (by omega) (fun _ => t) (fun q => by omega)
