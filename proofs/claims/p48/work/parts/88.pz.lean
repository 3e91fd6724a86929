/-! ===== THE DIE, THE ISSUE ===== -/
theorem gB_69r {r : Int} {a j : Nat} {lo hi : Int} (q : gB r a j = some (lo, hi)) : a < 69 := by
  unfold gB at q
  split at q <;> first | exact (by decide) | cases q
theorem Hu_Mv {r : Int} {h g : Hp} (M : Mv h g (fun _ => False)) (S : Hu r h) : Hu r g := by
  have F := S.1
  have x : ∀ a, a < 69 → ∀ j, hI g a j = hI h a j ∧ hR g a j = hR h a j := fun a q j => M.2.2 a (Nat.lt_of_lt_of_le q F.1) id j
  refine ⟨Fx_Mv M F, fun a j lo hi q => by rw [(x a (gB_69r q) j).1]; exact S.2.1 a j lo hi q, fun l q => by rw [(x l (isLs_o F q).2.1 1).2]; exact S.2.2.1 l q, ⟨by rw [M.t (by have := F.1; omega)]; exact S.2.2.2.1.1, fun j => by rw [(x 0 (by decide) j).2]; exact S.2.2.2.1.2.1 j, B1_t (M.l (by have := F.1; omega)) (M.t (by have := F.1; omega)) (M.l (by have := F.1; omega)) S.2.2.2.1.2.2⟩, fun a j q => by rw [(x a (DV_69 q).2 j).2]; exact S.2.2.2.2 a j q⟩
theorem C92 {d : Nat} {h : Hp} {x y w : Int} (qx : 0 ≤ x ∧ x ≤ 5) (qy : 0 ≤ y ∧ y ≤ 999) (qw : 0 ≤ w ∧ w ≤ 999) (qyw : y ≤ w) (S : Hu 1 h) : PW DA (d + 5) 92 [vR (some 2), vI x, vI y, vI w] h (fun w g => ∃ v : Int, w = vI v ∧ (∃ mP mC mI mD mB, IV g mP mC mI mD mB 0 0 0 1 0) ∧ hC g ≤ hC h + 2 ∧ hS g ≤ hS h + 80) := by
  refine PW_of (fun Q hQ => ?_)
  have V := Vis_DA
  obtain ⟨c0, s0, hcc, hss⟩ : ∃ c0 s0, hC h = c0 ∧ hS h = s0 := ⟨_, _, rfl, rfl⟩
  refine x_ent en92 ?_
  refine x_iload_n d92_0 rfl ?_
  refine x_SE d92_1 cl92 m11_266 kd93 po93 le93 (C93 (by omega)) (fun v1 r1 z1 => ?_)
  try dsimp only at r1
  refine x_SN d92_4 cl92 m11_112 kd94 po94 le94 (C94 (by omega)) ?_
  refine x_iload_n d92_7 rfl ?_
  refine x_SE d92_8 cl92 m11_276 kd90 po90 le90 (C90 (by omega)) (fun v3 r3 z3 => ?_)
  try dsimp only at r3
  refine x_ifeq (t := 30) d92_11 rfl (by omega) (fun c11_4 => ?_) (fun c11_4 => ?_)
  · refine x_iconst d92_30 ?_
    refine x_SN d92_31 cl92 m11_88 kd84 po84 le84 (C84 (by omega)) ?_
    refine x_aload_n d92_34 rfl ?_
    refine x_gfR d92_35 cl92 f11_40 (S.F.o rfl (by decide)) rfl (S.F.r rfl) ?_
    refine x_VE d92_38 cl92 m11_129 kd168 tg168 po168 le168 (by decide) (S.F.o rfl (by decide)) (C168 (S.F.o rfl (by decide)) rfl S.ld) (fun v6 r6 z6 => ?_)
    try dsimp only at r6
    refine x_bipush d92_41 (by decide) ?_
    refine x_icge (t := 50) d92_43 rfl (by omega) (fun c43_7 => ?_) (fun c43_7 => ?_)
    · refine x_iconst d92_50 ?_
      refine x_SN d92_51 cl92 m11_122 kd88 po88 le88 (C88 (by omega)) ?_
      refine x_aload_n d92_54 rfl ?_
      refine x_gfR d92_55 cl92 f11_40 (S.F.o rfl (by decide)) rfl (S.F.r rfl) ?_
      obtain ⟨c, hc0⟩ : ∃ c, hN h = c := ⟨_, rfl⟩
      refine x_new d92_58 cl92 nw11_290 ?_
      refine x_dupR d92_61 ?_
      refine x_iload_n d92_62 rfl ?_
      refine x_iload_n d92_63 rfl ?_
      refine x_iload_n d92_64 rfl ?_
      refine x_PU d92_65 cl92 m11_292 kd79 po79 le79 (by have := S.F.1; omega) (Ob_new (t := 10) (b := 0) (s := 3)).1 (C79 S.F.1) (fun g q => ?_)
      subst q
      rw [hc0]
      refine x_wr (fun g => Hu 1 g ∧ Tm g c ∧ hC g = hC h + 1 ∧ hS g = hS h + 3) (by
        obtain ⟨M, GC, hc9, hs9⟩ := mkTm_ok (h := h) (x := x) (y := y) (w := w) S.F.1 (by omega) (by omega) (by omega)
        exact ⟨Hu_Mv M S, hc0 ▸ GC, hc9, hs9⟩) (fun h q => ?_)
      obtain ⟨S, GC, hc9, hs9⟩ := q
      refine x_VW d92_68 cl92 m11_294 kd169 tg169 po169 le169 (by decide) (S.F.o rfl (by decide)) (C169 S.F S.RW S.LD (by unfold isLs; decide) S.ld (by decide) (fun p T => by rw [T.t]; decide) ⟨by have := GC.n; omega, by rw [GC.t]; decide⟩) (fun w9 g q => ?_)
      obtain ⟨v9, rfl, G, hc8, hs8⟩ := q
      refine x_wr (fun g => (∃ mP mC mI mD mB, IV g mP mC mI mD mB 0 0 0 1 0) ∧ hC g ≤ hC h + 1 ∧ hS g ≤ hS h + 70) ⟨⟨_, _, _, _, _, IV_die S (by decide) G GC⟩, hc8, hs8⟩ (fun h q => ?_)
      obtain ⟨⟨mP, mC, mI, mD, mB, S, X⟩, hc8, hs8⟩ := q
      refine x_pop d92_71 rfl ?_
      refine x_aload_n d92_72 rfl ?_
      refine x_gfR d92_73 cl92 f11_40 (S.F.o rfl (by decide)) rfl (S.F.r rfl) ?_
      refine x_VE d92_76 cl92 m11_129 kd168 tg168 po168 le168 (by decide) (S.F.o rfl (by decide)) (C168 (S.F.o rfl (by decide)) rfl S.ld) (fun v10 r10 z10 => ?_)
      try dsimp only at r10
      refine x_iconst d92_79 ?_
      refine x_isub d92_80 ?_
      exact x_iret d92_81 rt92 (hQ _ _ ⟨⟨mP, mC, mI, mD, mB, S, X⟩, by omega, by omega⟩)
    · refine x_iconst d92_46 ?_
      refine x_goto (t := 51) d92_47 rfl ?_
      refine x_SN d92_51 cl92 m11_122 kd88 po88 le88 (C88 (by omega)) ?_
      refine x_aload_n d92_54 rfl ?_
      refine x_gfR d92_55 cl92 f11_40 (S.F.o rfl (by decide)) rfl (S.F.r rfl) ?_
      obtain ⟨c, hc0⟩ : ∃ c, hN h = c := ⟨_, rfl⟩
      refine x_new d92_58 cl92 nw11_290 ?_
      refine x_dupR d92_61 ?_
      refine x_iload_n d92_62 rfl ?_
      refine x_iload_n d92_63 rfl ?_
      refine x_iload_n d92_64 rfl ?_
      refine x_PU d92_65 cl92 m11_292 kd79 po79 le79 (by have := S.F.1; omega) (Ob_new (t := 10) (b := 0) (s := 3)).1 (C79 S.F.1) (fun g q => ?_)
      subst q
      rw [hc0]
      refine x_wr (fun g => Hu 1 g ∧ Tm g c ∧ hC g = hC h + 1 ∧ hS g = hS h + 3) (by
        obtain ⟨M, GC, hc9, hs9⟩ := mkTm_ok (h := h) (x := x) (y := y) (w := w) S.F.1 (by omega) (by omega) (by omega)
        exact ⟨Hu_Mv M S, hc0 ▸ GC, hc9, hs9⟩) (fun h q => ?_)
      obtain ⟨S, GC, hc9, hs9⟩ := q
      refine x_VW d92_68 cl92 m11_294 kd169 tg169 po169 le169 (by decide) (S.F.o rfl (by decide)) (C169 S.F S.RW S.LD (by unfold isLs; decide) S.ld (by decide) (fun p T => by rw [T.t]; decide) ⟨by have := GC.n; omega, by rw [GC.t]; decide⟩) (fun w9 g q => ?_)
      obtain ⟨v9, rfl, G, hc8, hs8⟩ := q
      refine x_wr (fun g => (∃ mP mC mI mD mB, IV g mP mC mI mD mB 0 0 0 1 0) ∧ hC g ≤ hC h + 1 ∧ hS g ≤ hS h + 70) ⟨⟨_, _, _, _, _, IV_die S (by decide) G GC⟩, hc8, hs8⟩ (fun h q => ?_)
      obtain ⟨⟨mP, mC, mI, mD, mB, S, X⟩, hc8, hs8⟩ := q
      refine x_pop d92_71 rfl ?_
      refine x_aload_n d92_72 rfl ?_
      refine x_gfR d92_73 cl92 f11_40 (S.F.o rfl (by decide)) rfl (S.F.r rfl) ?_
      refine x_VE d92_76 cl92 m11_129 kd168 tg168 po168 le168 (by decide) (S.F.o rfl (by decide)) (C168 (S.F.o rfl (by decide)) rfl S.ld) (fun v13 r13 z13 => ?_)
      try dsimp only at r13
      refine x_iconst d92_79 ?_
      refine x_isub d92_80 ?_
      exact x_iret d92_81 rt92 (hQ _ _ ⟨⟨mP, mC, mI, mD, mB, S, X⟩, by omega, by omega⟩)
  · refine x_iload_n d92_14 rfl ?_
    refine x_SE d92_15 cl92 m11_276 kd90 po90 le90 (C90 (by omega)) (fun v14 r14 z14 => ?_)
    try dsimp only at r14
    refine x_ifeq (t := 30) d92_18 rfl (by omega) (fun c18_15 => ?_) (fun c18_15 => ?_)
    · refine x_iconst d92_30 ?_
      refine x_SN d92_31 cl92 m11_88 kd84 po84 le84 (C84 (by omega)) ?_
      refine x_aload_n d92_34 rfl ?_
      refine x_gfR d92_35 cl92 f11_40 (S.F.o rfl (by decide)) rfl (S.F.r rfl) ?_
      refine x_VE d92_38 cl92 m11_129 kd168 tg168 po168 le168 (by decide) (S.F.o rfl (by decide)) (C168 (S.F.o rfl (by decide)) rfl S.ld) (fun v17 r17 z17 => ?_)
      try dsimp only at r17
      refine x_bipush d92_41 (by decide) ?_
      refine x_icge (t := 50) d92_43 rfl (by omega) (fun c43_18 => ?_) (fun c43_18 => ?_)
      · refine x_iconst d92_50 ?_
        refine x_SN d92_51 cl92 m11_122 kd88 po88 le88 (C88 (by omega)) ?_
        refine x_aload_n d92_54 rfl ?_
        refine x_gfR d92_55 cl92 f11_40 (S.F.o rfl (by decide)) rfl (S.F.r rfl) ?_
        obtain ⟨c, hc0⟩ : ∃ c, hN h = c := ⟨_, rfl⟩
        refine x_new d92_58 cl92 nw11_290 ?_
        refine x_dupR d92_61 ?_
        refine x_iload_n d92_62 rfl ?_
        refine x_iload_n d92_63 rfl ?_
        refine x_iload_n d92_64 rfl ?_
        refine x_PU d92_65 cl92 m11_292 kd79 po79 le79 (by have := S.F.1; omega) (Ob_new (t := 10) (b := 0) (s := 3)).1 (C79 S.F.1) (fun g q => ?_)
        subst q
        rw [hc0]
        refine x_wr (fun g => Hu 1 g ∧ Tm g c ∧ hC g = hC h + 1 ∧ hS g = hS h + 3) (by
          obtain ⟨M, GC, hc9, hs9⟩ := mkTm_ok (h := h) (x := x) (y := y) (w := w) S.F.1 (by omega) (by omega) (by omega)
          exact ⟨Hu_Mv M S, hc0 ▸ GC, hc9, hs9⟩) (fun h q => ?_)
        obtain ⟨S, GC, hc9, hs9⟩ := q
        refine x_VW d92_68 cl92 m11_294 kd169 tg169 po169 le169 (by decide) (S.F.o rfl (by decide)) (C169 S.F S.RW S.LD (by unfold isLs; decide) S.ld (by decide) (fun p T => by rw [T.t]; decide) ⟨by have := GC.n; omega, by rw [GC.t]; decide⟩) (fun w9 g q => ?_)
        obtain ⟨v9, rfl, G, hc8, hs8⟩ := q
        refine x_wr (fun g => (∃ mP mC mI mD mB, IV g mP mC mI mD mB 0 0 0 1 0) ∧ hC g ≤ hC h + 1 ∧ hS g ≤ hS h + 70) ⟨⟨_, _, _, _, _, IV_die S (by decide) G GC⟩, hc8, hs8⟩ (fun h q => ?_)
        obtain ⟨⟨mP, mC, mI, mD, mB, S, X⟩, hc8, hs8⟩ := q
        refine x_pop d92_71 rfl ?_
        refine x_aload_n d92_72 rfl ?_
        refine x_gfR d92_73 cl92 f11_40 (S.F.o rfl (by decide)) rfl (S.F.r rfl) ?_
        refine x_VE d92_76 cl92 m11_129 kd168 tg168 po168 le168 (by decide) (S.F.o rfl (by decide)) (C168 (S.F.o rfl (by decide)) rfl S.ld) (fun v21 r21 z21 => ?_)
        try dsimp only at r21
        refine x_iconst d92_79 ?_
        refine x_isub d92_80 ?_
        exact x_iret d92_81 rt92 (hQ _ _ ⟨⟨mP, mC, mI, mD, mB, S, X⟩, by omega, by omega⟩)
      · refine x_iconst d92_46 ?_
        refine x_goto (t := 51) d92_47 rfl ?_
        refine x_SN d92_51 cl92 m11_122 kd88 po88 le88 (C88 (by omega)) ?_
        refine x_aload_n d92_54 rfl ?_
        refine x_gfR d92_55 cl92 f11_40 (S.F.o rfl (by decide)) rfl (S.F.r rfl) ?_
        obtain ⟨c, hc0⟩ : ∃ c, hN h = c := ⟨_, rfl⟩
        refine x_new d92_58 cl92 nw11_290 ?_
        refine x_dupR d92_61 ?_
        refine x_iload_n d92_62 rfl ?_
        refine x_iload_n d92_63 rfl ?_
        refine x_iload_n d92_64 rfl ?_
        refine x_PU d92_65 cl92 m11_292 kd79 po79 le79 (by have := S.F.1; omega) (Ob_new (t := 10) (b := 0) (s := 3)).1 (C79 S.F.1) (fun g q => ?_)
        subst q
        rw [hc0]
        refine x_wr (fun g => Hu 1 g ∧ Tm g c ∧ hC g = hC h + 1 ∧ hS g = hS h + 3) (by
          obtain ⟨M, GC, hc9, hs9⟩ := mkTm_ok (h := h) (x := x) (y := y) (w := w) S.F.1 (by omega) (by omega) (by omega)
          exact ⟨Hu_Mv M S, hc0 ▸ GC, hc9, hs9⟩) (fun h q => ?_)
        obtain ⟨S, GC, hc9, hs9⟩ := q
        refine x_VW d92_68 cl92 m11_294 kd169 tg169 po169 le169 (by decide) (S.F.o rfl (by decide)) (C169 S.F S.RW S.LD (by unfold isLs; decide) S.ld (by decide) (fun p T => by rw [T.t]; decide) ⟨by have := GC.n; omega, by rw [GC.t]; decide⟩) (fun w9 g q => ?_)
        obtain ⟨v9, rfl, G, hc8, hs8⟩ := q
        refine x_wr (fun g => (∃ mP mC mI mD mB, IV g mP mC mI mD mB 0 0 0 1 0) ∧ hC g ≤ hC h + 1 ∧ hS g ≤ hS h + 70) ⟨⟨_, _, _, _, _, IV_die S (by decide) G GC⟩, hc8, hs8⟩ (fun h q => ?_)
        obtain ⟨⟨mP, mC, mI, mD, mB, S, X⟩, hc8, hs8⟩ := q
        refine x_pop d92_71 rfl ?_
        refine x_aload_n d92_72 rfl ?_
        refine x_gfR d92_73 cl92 f11_40 (S.F.o rfl (by decide)) rfl (S.F.r rfl) ?_
        refine x_VE d92_76 cl92 m11_129 kd168 tg168 po168 le168 (by decide) (S.F.o rfl (by decide)) (C168 (S.F.o rfl (by decide)) rfl S.ld) (fun v24 r24 z24 => ?_)
        try dsimp only at r24
        refine x_iconst d92_79 ?_
        refine x_isub d92_80 ?_
        exact x_iret d92_81 rt92 (hQ _ _ ⟨⟨mP, mC, mI, mD, mB, S, X⟩, by omega, by omega⟩)
    · refine x_iload_n d92_21 rfl ?_
      refine x_iload_n d92_22 rfl ?_
      refine x_icgt (t := 30) d92_23 rfl (by omega) (fun c23_25 => ?_) (fun c23_25 => ?_)
      · refine x_iconst d92_30 ?_
        refine x_SN d92_31 cl92 m11_88 kd84 po84 le84 (C84 (by omega)) ?_
        refine x_aload_n d92_34 rfl ?_
        refine x_gfR d92_35 cl92 f11_40 (S.F.o rfl (by decide)) rfl (S.F.r rfl) ?_
        refine x_VE d92_38 cl92 m11_129 kd168 tg168 po168 le168 (by decide) (S.F.o rfl (by decide)) (C168 (S.F.o rfl (by decide)) rfl S.ld) (fun v27 r27 z27 => ?_)
        try dsimp only at r27
        refine x_bipush d92_41 (by decide) ?_
        refine x_icge (t := 50) d92_43 rfl (by omega) (fun c43_28 => ?_) (fun c43_28 => ?_)
        · refine x_iconst d92_50 ?_
          refine x_SN d92_51 cl92 m11_122 kd88 po88 le88 (C88 (by omega)) ?_
          refine x_aload_n d92_54 rfl ?_
          refine x_gfR d92_55 cl92 f11_40 (S.F.o rfl (by decide)) rfl (S.F.r rfl) ?_
          obtain ⟨c, hc0⟩ : ∃ c, hN h = c := ⟨_, rfl⟩
          refine x_new d92_58 cl92 nw11_290 ?_
          refine x_dupR d92_61 ?_
          refine x_iload_n d92_62 rfl ?_
          refine x_iload_n d92_63 rfl ?_
          refine x_iload_n d92_64 rfl ?_
          refine x_PU d92_65 cl92 m11_292 kd79 po79 le79 (by have := S.F.1; omega) (Ob_new (t := 10) (b := 0) (s := 3)).1 (C79 S.F.1) (fun g q => ?_)
          subst q
          rw [hc0]
          refine x_wr (fun g => Hu 1 g ∧ Tm g c ∧ hC g = hC h + 1 ∧ hS g = hS h + 3) (by
            obtain ⟨M, GC, hc9, hs9⟩ := mkTm_ok (h := h) (x := x) (y := y) (w := w) S.F.1 (by omega) (by omega) (by omega)
            exact ⟨Hu_Mv M S, hc0 ▸ GC, hc9, hs9⟩) (fun h q => ?_)
          obtain ⟨S, GC, hc9, hs9⟩ := q
          refine x_VW d92_68 cl92 m11_294 kd169 tg169 po169 le169 (by decide) (S.F.o rfl (by decide)) (C169 S.F S.RW S.LD (by unfold isLs; decide) S.ld (by decide) (fun p T => by rw [T.t]; decide) ⟨by have := GC.n; omega, by rw [GC.t]; decide⟩) (fun w9 g q => ?_)
          obtain ⟨v9, rfl, G, hc8, hs8⟩ := q
          refine x_wr (fun g => (∃ mP mC mI mD mB, IV g mP mC mI mD mB 0 0 0 1 0) ∧ hC g ≤ hC h + 1 ∧ hS g ≤ hS h + 70) ⟨⟨_, _, _, _, _, IV_die S (by decide) G GC⟩, hc8, hs8⟩ (fun h q => ?_)
          obtain ⟨⟨mP, mC, mI, mD, mB, S, X⟩, hc8, hs8⟩ := q
          refine x_pop d92_71 rfl ?_
          refine x_aload_n d92_72 rfl ?_
          refine x_gfR d92_73 cl92 f11_40 (S.F.o rfl (by decide)) rfl (S.F.r rfl) ?_
          refine x_VE d92_76 cl92 m11_129 kd168 tg168 po168 le168 (by decide) (S.F.o rfl (by decide)) (C168 (S.F.o rfl (by decide)) rfl S.ld) (fun v31 r31 z31 => ?_)
          try dsimp only at r31
          refine x_iconst d92_79 ?_
          refine x_isub d92_80 ?_
          exact x_iret d92_81 rt92 (hQ _ _ ⟨⟨mP, mC, mI, mD, mB, S, X⟩, by omega, by omega⟩)
        · refine x_iconst d92_46 ?_
          refine x_goto (t := 51) d92_47 rfl ?_
          refine x_SN d92_51 cl92 m11_122 kd88 po88 le88 (C88 (by omega)) ?_
          refine x_aload_n d92_54 rfl ?_
          refine x_gfR d92_55 cl92 f11_40 (S.F.o rfl (by decide)) rfl (S.F.r rfl) ?_
          obtain ⟨c, hc0⟩ : ∃ c, hN h = c := ⟨_, rfl⟩
          refine x_new d92_58 cl92 nw11_290 ?_
          refine x_dupR d92_61 ?_
          refine x_iload_n d92_62 rfl ?_
          refine x_iload_n d92_63 rfl ?_
          refine x_iload_n d92_64 rfl ?_
          refine x_PU d92_65 cl92 m11_292 kd79 po79 le79 (by have := S.F.1; omega) (Ob_new (t := 10) (b := 0) (s := 3)).1 (C79 S.F.1) (fun g q => ?_)
          subst q
          rw [hc0]
          refine x_wr (fun g => Hu 1 g ∧ Tm g c ∧ hC g = hC h + 1 ∧ hS g = hS h + 3) (by
            obtain ⟨M, GC, hc9, hs9⟩ := mkTm_ok (h := h) (x := x) (y := y) (w := w) S.F.1 (by omega) (by omega) (by omega)
            exact ⟨Hu_Mv M S, hc0 ▸ GC, hc9, hs9⟩) (fun h q => ?_)
          obtain ⟨S, GC, hc9, hs9⟩ := q
          refine x_VW d92_68 cl92 m11_294 kd169 tg169 po169 le169 (by decide) (S.F.o rfl (by decide)) (C169 S.F S.RW S.LD (by unfold isLs; decide) S.ld (by decide) (fun p T => by rw [T.t]; decide) ⟨by have := GC.n; omega, by rw [GC.t]; decide⟩) (fun w9 g q => ?_)
          obtain ⟨v9, rfl, G, hc8, hs8⟩ := q
          refine x_wr (fun g => (∃ mP mC mI mD mB, IV g mP mC mI mD mB 0 0 0 1 0) ∧ hC g ≤ hC h + 1 ∧ hS g ≤ hS h + 70) ⟨⟨_, _, _, _, _, IV_die S (by decide) G GC⟩, hc8, hs8⟩ (fun h q => ?_)
          obtain ⟨⟨mP, mC, mI, mD, mB, S, X⟩, hc8, hs8⟩ := q
          refine x_pop d92_71 rfl ?_
          refine x_aload_n d92_72 rfl ?_
          refine x_gfR d92_73 cl92 f11_40 (S.F.o rfl (by decide)) rfl (S.F.r rfl) ?_
          refine x_VE d92_76 cl92 m11_129 kd168 tg168 po168 le168 (by decide) (S.F.o rfl (by decide)) (C168 (S.F.o rfl (by decide)) rfl S.ld) (fun v34 r34 z34 => ?_)
          try dsimp only at r34
          refine x_iconst d92_79 ?_
          refine x_isub d92_80 ?_
          exact x_iret d92_81 rt92 (hQ _ _ ⟨⟨mP, mC, mI, mD, mB, S, X⟩, by omega, by omega⟩)
      · refine x_iconst d92_26 ?_
        refine x_goto (t := 31) d92_27 rfl ?_
        refine x_SN d92_31 cl92 m11_88 kd84 po84 le84 (C84 (by omega)) ?_
        refine x_aload_n d92_34 rfl ?_
        refine x_gfR d92_35 cl92 f11_40 (S.F.o rfl (by decide)) rfl (S.F.r rfl) ?_
        refine x_VE d92_38 cl92 m11_129 kd168 tg168 po168 le168 (by decide) (S.F.o rfl (by decide)) (C168 (S.F.o rfl (by decide)) rfl S.ld) (fun v36 r36 z36 => ?_)
        try dsimp only at r36
        refine x_bipush d92_41 (by decide) ?_
        refine x_icge (t := 50) d92_43 rfl (by omega) (fun c43_37 => ?_) (fun c43_37 => ?_)
        · refine x_iconst d92_50 ?_
          refine x_SN d92_51 cl92 m11_122 kd88 po88 le88 (C88 (by omega)) ?_
          refine x_aload_n d92_54 rfl ?_
          refine x_gfR d92_55 cl92 f11_40 (S.F.o rfl (by decide)) rfl (S.F.r rfl) ?_
          obtain ⟨c, hc0⟩ : ∃ c, hN h = c := ⟨_, rfl⟩
          refine x_new d92_58 cl92 nw11_290 ?_
          refine x_dupR d92_61 ?_
          refine x_iload_n d92_62 rfl ?_
          refine x_iload_n d92_63 rfl ?_
          refine x_iload_n d92_64 rfl ?_
          refine x_PU d92_65 cl92 m11_292 kd79 po79 le79 (by have := S.F.1; omega) (Ob_new (t := 10) (b := 0) (s := 3)).1 (C79 S.F.1) (fun g q => ?_)
          subst q
          rw [hc0]
          refine x_wr (fun g => Hu 1 g ∧ Tm g c ∧ hC g = hC h + 1 ∧ hS g = hS h + 3) (by
            obtain ⟨M, GC, hc9, hs9⟩ := mkTm_ok (h := h) (x := x) (y := y) (w := w) S.F.1 (by omega) (by omega) (by omega)
            exact ⟨Hu_Mv M S, hc0 ▸ GC, hc9, hs9⟩) (fun h q => ?_)
          obtain ⟨S, GC, hc9, hs9⟩ := q
          refine x_VW d92_68 cl92 m11_294 kd169 tg169 po169 le169 (by decide) (S.F.o rfl (by decide)) (C169 S.F S.RW S.LD (by unfold isLs; decide) S.ld (by decide) (fun p T => by rw [T.t]; decide) ⟨by have := GC.n; omega, by rw [GC.t]; decide⟩) (fun w9 g q => ?_)
          obtain ⟨v9, rfl, G, hc8, hs8⟩ := q
          refine x_wr (fun g => (∃ mP mC mI mD mB, IV g mP mC mI mD mB 0 0 0 1 0) ∧ hC g ≤ hC h + 1 ∧ hS g ≤ hS h + 70) ⟨⟨_, _, _, _, _, IV_die S (by decide) G GC⟩, hc8, hs8⟩ (fun h q => ?_)
          obtain ⟨⟨mP, mC, mI, mD, mB, S, X⟩, hc8, hs8⟩ := q
          refine x_pop d92_71 rfl ?_
          refine x_aload_n d92_72 rfl ?_
          refine x_gfR d92_73 cl92 f11_40 (S.F.o rfl (by decide)) rfl (S.F.r rfl) ?_
          refine x_VE d92_76 cl92 m11_129 kd168 tg168 po168 le168 (by decide) (S.F.o rfl (by decide)) (C168 (S.F.o rfl (by decide)) rfl S.ld) (fun v40 r40 z40 => ?_)
          try dsimp only at r40
          refine x_iconst d92_79 ?_
          refine x_isub d92_80 ?_
          exact x_iret d92_81 rt92 (hQ _ _ ⟨⟨mP, mC, mI, mD, mB, S, X⟩, by omega, by omega⟩)
        · refine x_iconst d92_46 ?_
          refine x_goto (t := 51) d92_47 rfl ?_
          refine x_SN d92_51 cl92 m11_122 kd88 po88 le88 (C88 (by omega)) ?_
          refine x_aload_n d92_54 rfl ?_
          refine x_gfR d92_55 cl92 f11_40 (S.F.o rfl (by decide)) rfl (S.F.r rfl) ?_
          obtain ⟨c, hc0⟩ : ∃ c, hN h = c := ⟨_, rfl⟩
          refine x_new d92_58 cl92 nw11_290 ?_
          refine x_dupR d92_61 ?_
          refine x_iload_n d92_62 rfl ?_
          refine x_iload_n d92_63 rfl ?_
          refine x_iload_n d92_64 rfl ?_
          refine x_PU d92_65 cl92 m11_292 kd79 po79 le79 (by have := S.F.1; omega) (Ob_new (t := 10) (b := 0) (s := 3)).1 (C79 S.F.1) (fun g q => ?_)
          subst q
          rw [hc0]
          refine x_wr (fun g => Hu 1 g ∧ Tm g c ∧ hC g = hC h + 1 ∧ hS g = hS h + 3) (by
            obtain ⟨M, GC, hc9, hs9⟩ := mkTm_ok (h := h) (x := x) (y := y) (w := w) S.F.1 (by omega) (by omega) (by omega)
            exact ⟨Hu_Mv M S, hc0 ▸ GC, hc9, hs9⟩) (fun h q => ?_)
          obtain ⟨S, GC, hc9, hs9⟩ := q
          refine x_VW d92_68 cl92 m11_294 kd169 tg169 po169 le169 (by decide) (S.F.o rfl (by decide)) (C169 S.F S.RW S.LD (by unfold isLs; decide) S.ld (by decide) (fun p T => by rw [T.t]; decide) ⟨by have := GC.n; omega, by rw [GC.t]; decide⟩) (fun w9 g q => ?_)
          obtain ⟨v9, rfl, G, hc8, hs8⟩ := q
          refine x_wr (fun g => (∃ mP mC mI mD mB, IV g mP mC mI mD mB 0 0 0 1 0) ∧ hC g ≤ hC h + 1 ∧ hS g ≤ hS h + 70) ⟨⟨_, _, _, _, _, IV_die S (by decide) G GC⟩, hc8, hs8⟩ (fun h q => ?_)
          obtain ⟨⟨mP, mC, mI, mD, mB, S, X⟩, hc8, hs8⟩ := q
          refine x_pop d92_71 rfl ?_
          refine x_aload_n d92_72 rfl ?_
          refine x_gfR d92_73 cl92 f11_40 (S.F.o rfl (by decide)) rfl (S.F.r rfl) ?_
          refine x_VE d92_76 cl92 m11_129 kd168 tg168 po168 le168 (by decide) (S.F.o rfl (by decide)) (C168 (S.F.o rfl (by decide)) rfl S.ld) (fun v43 r43 z43 => ?_)
          try dsimp only at r43
          refine x_iconst d92_79 ?_
          refine x_isub d92_80 ?_
          exact x_iret d92_81 rt92 (hQ _ _ ⟨⟨mP, mC, mI, mD, mB, S, X⟩, by omega, by omega⟩)
theorem C91w {d : Nat} {h : Hp} {x y w : Int} (qx : 1 ≤ x ∧ x ≤ 99) (qy : 0 ≤ y ∧ y ≤ 999) (qw : 0 ≤ w ∧ w ≤ 999) (qyw : y ≤ w) {mP mC mI mD mB : Nat → Nat} {nP nC nI nD nB : Nat} (K : IV h mP mC mI mD mB nP nC nI nD nB) (ni9 : nI < 10) : PW DA (d + 5) 91 [vR (some 2), vI x, vI y, vI w] h (fun v g => ∃ v1 : Int, v = vI v1 ∧ MR h g) := by
  refine PW_of (fun Q hQ => ?_)
  have V := Vis_DA
  obtain ⟨S, X⟩ := K
  obtain ⟨c0, s0, hcc, hss⟩ : ∃ c0 s0, hC h = c0 ∧ hS h = s0 := ⟨_, _, rfl, rfl⟩
  refine x_ent en91 ?_
  refine x_iload_n d91_0 rfl ?_
  refine x_iconst d91_1 ?_
  refine x_bipush d91_2 (by decide) ?_
  refine x_SE d91_4 cl91 m11_84 kd83 po83 le83 (C83 (by omega) (by omega) (by omega)) (fun v1 r1 z1 => ?_)
  try dsimp only at r1
  refine x_ifeq (t := 33) d91_7 rfl (by omega) (fun c7_2 => ?_) (fun c7_2 => ?_)
  · refine x_iconst d91_33 ?_
    refine x_SN d91_34 cl91 m11_88 kd84 po84 le84 (C84 (by omega)) ?_
    refine x_aload_n d91_37 rfl ?_
    refine x_gfR d91_38 cl91 f11_37 (S.F.o rfl (by decide)) rfl (S.F.r rfl) ?_
    refine x_VE d91_41 cl91 m11_129 kd168 tg168 po168 le168 (by decide) (S.F.o rfl (by decide)) (C168 (S.F.o rfl (by decide)) rfl S.li) (fun v4 r4 z4 => ?_)
    try dsimp only at r4
    refine x_bipush d91_44 (by decide) ?_
    refine x_icge (t := 53) d91_46 rfl (by omega) (fun c46_5 => ?_) (fun c46_5 => ?_)
    · refine x_iconst d91_53 ?_
      refine x_SN d91_54 cl91 m11_122 kd88 po88 le88 (C88 (by omega)) ?_
      refine x_aload_n d91_57 rfl ?_
      refine x_gfR d91_58 cl91 f11_37 (S.F.o rfl (by decide)) rfl (S.F.r rfl) ?_
      obtain ⟨c, hc0⟩ : ∃ c, hN h = c := ⟨_, rfl⟩
      refine x_new d91_61 cl91 nw11_290 ?_
      refine x_dupR d91_64 ?_
      refine x_iload_n d91_65 rfl ?_
      refine x_iload_n d91_66 rfl ?_
      refine x_iload_n d91_67 rfl ?_
      refine x_PU d91_68 cl91 m11_292 kd79 po79 le79 (by have := S.F.1; omega) (Ob_new (t := 10) (b := 0) (s := 3)).1 (C79 S.F.1) (fun g q => ?_)
      subst q
      rw [hc0]
      refine x_wr (fun g => IV g mP mC mI mD mB nP nC nI nD nB ∧ Tm g c ∧ hI g c 0 = x ∧ hC g = hC h + 1 ∧ hS g = hS h + 3) (by
        obtain ⟨M, GC, hc9, hs9⟩ := mkTm_ok (h := h) (x := x) (y := y) (w := w) S.F.1 (by omega) (by omega) (by omega)
        refine ⟨IV_ext M ⟨S, X⟩, hc0 ▸ GC, ?_, hc9, hs9⟩
        rw [← hc0]; simp [mkTm, hI_sI]) (fun h q => ?_)
      obtain ⟨⟨S, X⟩, GC, hw9, hc9, hs9⟩ := q
      have hcp := hcc; have hsp := hss
      obtain ⟨c0, s0, hcc, hss⟩ : ∃ c0 s0, hC h = c0 ∧ hS h = s0 := ⟨_, _, rfl, rfl⟩
      refine x_VW d91_71 cl91 m11_294 kd169 tg169 po169 le169 (by decide) (S.F.o rfl (by decide)) (C169 S.F (Hv_RW S) X.1.2.2.2 (by unfold isLs; decide) S.li (by omega) (fun p T => by rw [T.t]; decide) ⟨by have := GC.n; omega, by rw [GC.t]; decide⟩) (fun w9 g q => ?_)
      obtain ⟨v9, rfl, G, hc8, hs8⟩ := q
      refine x_wr (fun g => ∃ mI1 nI1, IV g mP mC mI1 mD mB nP nC nI1 nD nB ∧ hC g ≤ hC h + 1 ∧ hS g ≤ hS h + 70) ⟨_, _, IV_addI ⟨S, X⟩ G GC (by omega) (by omega), hc8, hs8⟩ (fun h q => ?_)
      obtain ⟨mI, nI, ⟨S, X⟩, hc8, hs8⟩ := q
      refine x_pop d91_74 rfl ?_
      refine x_aload_n d91_75 rfl ?_
      refine x_gfR d91_76 cl91 f11_37 (S.F.o rfl (by decide)) rfl (S.F.r rfl) ?_
      refine x_VE d91_79 cl91 m11_129 kd168 tg168 po168 le168 (by decide) (S.F.o rfl (by decide)) (C168 (S.F.o rfl (by decide)) rfl S.li) (fun v8 r8 z8 => ?_)
      try dsimp only at r8
      refine x_iconst d91_82 ?_
      refine x_isub d91_83 ?_
      exact x_iret d91_84 rt91 (hQ _ _ (MR_of ⟨S, X⟩ (by omega) (by omega)))
    · refine x_iconst d91_49 ?_
      refine x_goto (t := 54) d91_50 rfl ?_
      refine x_SN d91_54 cl91 m11_122 kd88 po88 le88 (C88 (by omega)) ?_
      refine x_aload_n d91_57 rfl ?_
      refine x_gfR d91_58 cl91 f11_37 (S.F.o rfl (by decide)) rfl (S.F.r rfl) ?_
      obtain ⟨c, hc0⟩ : ∃ c, hN h = c := ⟨_, rfl⟩
      refine x_new d91_61 cl91 nw11_290 ?_
      refine x_dupR d91_64 ?_
      refine x_iload_n d91_65 rfl ?_
      refine x_iload_n d91_66 rfl ?_
      refine x_iload_n d91_67 rfl ?_
      refine x_PU d91_68 cl91 m11_292 kd79 po79 le79 (by have := S.F.1; omega) (Ob_new (t := 10) (b := 0) (s := 3)).1 (C79 S.F.1) (fun g q => ?_)
      subst q
      rw [hc0]
      refine x_wr (fun g => IV g mP mC mI mD mB nP nC nI nD nB ∧ Tm g c ∧ hI g c 0 = x ∧ hC g = hC h + 1 ∧ hS g = hS h + 3) (by
        obtain ⟨M, GC, hc9, hs9⟩ := mkTm_ok (h := h) (x := x) (y := y) (w := w) S.F.1 (by omega) (by omega) (by omega)
        refine ⟨IV_ext M ⟨S, X⟩, hc0 ▸ GC, ?_, hc9, hs9⟩
        rw [← hc0]; simp [mkTm, hI_sI]) (fun h q => ?_)
      obtain ⟨⟨S, X⟩, GC, hw9, hc9, hs9⟩ := q
      have hcp := hcc; have hsp := hss
      obtain ⟨c0, s0, hcc, hss⟩ : ∃ c0 s0, hC h = c0 ∧ hS h = s0 := ⟨_, _, rfl, rfl⟩
      refine x_VW d91_71 cl91 m11_294 kd169 tg169 po169 le169 (by decide) (S.F.o rfl (by decide)) (C169 S.F (Hv_RW S) X.1.2.2.2 (by unfold isLs; decide) S.li (by omega) (fun p T => by rw [T.t]; decide) ⟨by have := GC.n; omega, by rw [GC.t]; decide⟩) (fun w9 g q => ?_)
      obtain ⟨v9, rfl, G, hc8, hs8⟩ := q
      refine x_wr (fun g => ∃ mI1 nI1, IV g mP mC mI1 mD mB nP nC nI1 nD nB ∧ hC g ≤ hC h + 1 ∧ hS g ≤ hS h + 70) ⟨_, _, IV_addI ⟨S, X⟩ G GC (by omega) (by omega), hc8, hs8⟩ (fun h q => ?_)
      obtain ⟨mI, nI, ⟨S, X⟩, hc8, hs8⟩ := q
      refine x_pop d91_74 rfl ?_
      refine x_aload_n d91_75 rfl ?_
      refine x_gfR d91_76 cl91 f11_37 (S.F.o rfl (by decide)) rfl (S.F.r rfl) ?_
      refine x_VE d91_79 cl91 m11_129 kd168 tg168 po168 le168 (by decide) (S.F.o rfl (by decide)) (C168 (S.F.o rfl (by decide)) rfl S.li) (fun v11 r11 z11 => ?_)
      try dsimp only at r11
      refine x_iconst d91_82 ?_
      refine x_isub d91_83 ?_
      exact x_iret d91_84 rt91 (hQ _ _ (MR_of ⟨S, X⟩ (by omega) (by omega)))
  · refine x_iload_n d91_10 rfl ?_
    refine x_SE d91_11 cl91 m11_276 kd90 po90 le90 (C90 (by omega)) (fun v12 r12 z12 => ?_)
    try dsimp only at r12
    refine x_ifeq (t := 33) d91_14 rfl (by omega) (fun c14_13 => ?_) (fun c14_13 => ?_)
    · refine x_iconst d91_33 ?_
      refine x_SN d91_34 cl91 m11_88 kd84 po84 le84 (C84 (by omega)) ?_
      refine x_aload_n d91_37 rfl ?_
      refine x_gfR d91_38 cl91 f11_37 (S.F.o rfl (by decide)) rfl (S.F.r rfl) ?_
      refine x_VE d91_41 cl91 m11_129 kd168 tg168 po168 le168 (by decide) (S.F.o rfl (by decide)) (C168 (S.F.o rfl (by decide)) rfl S.li) (fun v15 r15 z15 => ?_)
      try dsimp only at r15
      refine x_bipush d91_44 (by decide) ?_
      refine x_icge (t := 53) d91_46 rfl (by omega) (fun c46_16 => ?_) (fun c46_16 => ?_)
      · refine x_iconst d91_53 ?_
        refine x_SN d91_54 cl91 m11_122 kd88 po88 le88 (C88 (by omega)) ?_
        refine x_aload_n d91_57 rfl ?_
        refine x_gfR d91_58 cl91 f11_37 (S.F.o rfl (by decide)) rfl (S.F.r rfl) ?_
        obtain ⟨c, hc0⟩ : ∃ c, hN h = c := ⟨_, rfl⟩
        refine x_new d91_61 cl91 nw11_290 ?_
        refine x_dupR d91_64 ?_
        refine x_iload_n d91_65 rfl ?_
        refine x_iload_n d91_66 rfl ?_
        refine x_iload_n d91_67 rfl ?_
        refine x_PU d91_68 cl91 m11_292 kd79 po79 le79 (by have := S.F.1; omega) (Ob_new (t := 10) (b := 0) (s := 3)).1 (C79 S.F.1) (fun g q => ?_)
        subst q
        rw [hc0]
        refine x_wr (fun g => IV g mP mC mI mD mB nP nC nI nD nB ∧ Tm g c ∧ hI g c 0 = x ∧ hC g = hC h + 1 ∧ hS g = hS h + 3) (by
          obtain ⟨M, GC, hc9, hs9⟩ := mkTm_ok (h := h) (x := x) (y := y) (w := w) S.F.1 (by omega) (by omega) (by omega)
          refine ⟨IV_ext M ⟨S, X⟩, hc0 ▸ GC, ?_, hc9, hs9⟩
          rw [← hc0]; simp [mkTm, hI_sI]) (fun h q => ?_)
        obtain ⟨⟨S, X⟩, GC, hw9, hc9, hs9⟩ := q
        have hcp := hcc; have hsp := hss
        obtain ⟨c0, s0, hcc, hss⟩ : ∃ c0 s0, hC h = c0 ∧ hS h = s0 := ⟨_, _, rfl, rfl⟩
        refine x_VW d91_71 cl91 m11_294 kd169 tg169 po169 le169 (by decide) (S.F.o rfl (by decide)) (C169 S.F (Hv_RW S) X.1.2.2.2 (by unfold isLs; decide) S.li (by omega) (fun p T => by rw [T.t]; decide) ⟨by have := GC.n; omega, by rw [GC.t]; decide⟩) (fun w9 g q => ?_)
        obtain ⟨v9, rfl, G, hc8, hs8⟩ := q
        refine x_wr (fun g => ∃ mI1 nI1, IV g mP mC mI1 mD mB nP nC nI1 nD nB ∧ hC g ≤ hC h + 1 ∧ hS g ≤ hS h + 70) ⟨_, _, IV_addI ⟨S, X⟩ G GC (by omega) (by omega), hc8, hs8⟩ (fun h q => ?_)
        obtain ⟨mI, nI, ⟨S, X⟩, hc8, hs8⟩ := q
        refine x_pop d91_74 rfl ?_
        refine x_aload_n d91_75 rfl ?_
        refine x_gfR d91_76 cl91 f11_37 (S.F.o rfl (by decide)) rfl (S.F.r rfl) ?_
        refine x_VE d91_79 cl91 m11_129 kd168 tg168 po168 le168 (by decide) (S.F.o rfl (by decide)) (C168 (S.F.o rfl (by decide)) rfl S.li) (fun v19 r19 z19 => ?_)
        try dsimp only at r19
        refine x_iconst d91_82 ?_
        refine x_isub d91_83 ?_
        exact x_iret d91_84 rt91 (hQ _ _ (MR_of ⟨S, X⟩ (by omega) (by omega)))
      · refine x_iconst d91_49 ?_
        refine x_goto (t := 54) d91_50 rfl ?_
        refine x_SN d91_54 cl91 m11_122 kd88 po88 le88 (C88 (by omega)) ?_
        refine x_aload_n d91_57 rfl ?_
        refine x_gfR d91_58 cl91 f11_37 (S.F.o rfl (by decide)) rfl (S.F.r rfl) ?_
        obtain ⟨c, hc0⟩ : ∃ c, hN h = c := ⟨_, rfl⟩
        refine x_new d91_61 cl91 nw11_290 ?_
        refine x_dupR d91_64 ?_
        refine x_iload_n d91_65 rfl ?_
        refine x_iload_n d91_66 rfl ?_
        refine x_iload_n d91_67 rfl ?_
        refine x_PU d91_68 cl91 m11_292 kd79 po79 le79 (by have := S.F.1; omega) (Ob_new (t := 10) (b := 0) (s := 3)).1 (C79 S.F.1) (fun g q => ?_)
        subst q
        rw [hc0]
        refine x_wr (fun g => IV g mP mC mI mD mB nP nC nI nD nB ∧ Tm g c ∧ hI g c 0 = x ∧ hC g = hC h + 1 ∧ hS g = hS h + 3) (by
          obtain ⟨M, GC, hc9, hs9⟩ := mkTm_ok (h := h) (x := x) (y := y) (w := w) S.F.1 (by omega) (by omega) (by omega)
          refine ⟨IV_ext M ⟨S, X⟩, hc0 ▸ GC, ?_, hc9, hs9⟩
          rw [← hc0]; simp [mkTm, hI_sI]) (fun h q => ?_)
        obtain ⟨⟨S, X⟩, GC, hw9, hc9, hs9⟩ := q
        have hcp := hcc; have hsp := hss
        obtain ⟨c0, s0, hcc, hss⟩ : ∃ c0 s0, hC h = c0 ∧ hS h = s0 := ⟨_, _, rfl, rfl⟩
        refine x_VW d91_71 cl91 m11_294 kd169 tg169 po169 le169 (by decide) (S.F.o rfl (by decide)) (C169 S.F (Hv_RW S) X.1.2.2.2 (by unfold isLs; decide) S.li (by omega) (fun p T => by rw [T.t]; decide) ⟨by have := GC.n; omega, by rw [GC.t]; decide⟩) (fun w9 g q => ?_)
        obtain ⟨v9, rfl, G, hc8, hs8⟩ := q
        refine x_wr (fun g => ∃ mI1 nI1, IV g mP mC mI1 mD mB nP nC nI1 nD nB ∧ hC g ≤ hC h + 1 ∧ hS g ≤ hS h + 70) ⟨_, _, IV_addI ⟨S, X⟩ G GC (by omega) (by omega), hc8, hs8⟩ (fun h q => ?_)
        obtain ⟨mI, nI, ⟨S, X⟩, hc8, hs8⟩ := q
        refine x_pop d91_74 rfl ?_
        refine x_aload_n d91_75 rfl ?_
        refine x_gfR d91_76 cl91 f11_37 (S.F.o rfl (by decide)) rfl (S.F.r rfl) ?_
        refine x_VE d91_79 cl91 m11_129 kd168 tg168 po168 le168 (by decide) (S.F.o rfl (by decide)) (C168 (S.F.o rfl (by decide)) rfl S.li) (fun v22 r22 z22 => ?_)
        try dsimp only at r22
        refine x_iconst d91_82 ?_
        refine x_isub d91_83 ?_
        exact x_iret d91_84 rt91 (hQ _ _ (MR_of ⟨S, X⟩ (by omega) (by omega)))
    · refine x_iload_n d91_17 rfl ?_
      refine x_SE d91_18 cl91 m11_276 kd90 po90 le90 (C90 (by omega)) (fun v23 r23 z23 => ?_)
      try dsimp only at r23
      refine x_ifeq (t := 33) d91_21 rfl (by omega) (fun c21_24 => ?_) (fun c21_24 => ?_)
      · refine x_iconst d91_33 ?_
        refine x_SN d91_34 cl91 m11_88 kd84 po84 le84 (C84 (by omega)) ?_
        refine x_aload_n d91_37 rfl ?_
        refine x_gfR d91_38 cl91 f11_37 (S.F.o rfl (by decide)) rfl (S.F.r rfl) ?_
        refine x_VE d91_41 cl91 m11_129 kd168 tg168 po168 le168 (by decide) (S.F.o rfl (by decide)) (C168 (S.F.o rfl (by decide)) rfl S.li) (fun v26 r26 z26 => ?_)
        try dsimp only at r26
        refine x_bipush d91_44 (by decide) ?_
        refine x_icge (t := 53) d91_46 rfl (by omega) (fun c46_27 => ?_) (fun c46_27 => ?_)
        · refine x_iconst d91_53 ?_
          refine x_SN d91_54 cl91 m11_122 kd88 po88 le88 (C88 (by omega)) ?_
          refine x_aload_n d91_57 rfl ?_
          refine x_gfR d91_58 cl91 f11_37 (S.F.o rfl (by decide)) rfl (S.F.r rfl) ?_
          obtain ⟨c, hc0⟩ : ∃ c, hN h = c := ⟨_, rfl⟩
          refine x_new d91_61 cl91 nw11_290 ?_
          refine x_dupR d91_64 ?_
          refine x_iload_n d91_65 rfl ?_
          refine x_iload_n d91_66 rfl ?_
          refine x_iload_n d91_67 rfl ?_
          refine x_PU d91_68 cl91 m11_292 kd79 po79 le79 (by have := S.F.1; omega) (Ob_new (t := 10) (b := 0) (s := 3)).1 (C79 S.F.1) (fun g q => ?_)
          subst q
          rw [hc0]
          refine x_wr (fun g => IV g mP mC mI mD mB nP nC nI nD nB ∧ Tm g c ∧ hI g c 0 = x ∧ hC g = hC h + 1 ∧ hS g = hS h + 3) (by
            obtain ⟨M, GC, hc9, hs9⟩ := mkTm_ok (h := h) (x := x) (y := y) (w := w) S.F.1 (by omega) (by omega) (by omega)
            refine ⟨IV_ext M ⟨S, X⟩, hc0 ▸ GC, ?_, hc9, hs9⟩
            rw [← hc0]; simp [mkTm, hI_sI]) (fun h q => ?_)
          obtain ⟨⟨S, X⟩, GC, hw9, hc9, hs9⟩ := q
          have hcp := hcc; have hsp := hss
          obtain ⟨c0, s0, hcc, hss⟩ : ∃ c0 s0, hC h = c0 ∧ hS h = s0 := ⟨_, _, rfl, rfl⟩
          refine x_VW d91_71 cl91 m11_294 kd169 tg169 po169 le169 (by decide) (S.F.o rfl (by decide)) (C169 S.F (Hv_RW S) X.1.2.2.2 (by unfold isLs; decide) S.li (by omega) (fun p T => by rw [T.t]; decide) ⟨by have := GC.n; omega, by rw [GC.t]; decide⟩) (fun w9 g q => ?_)
          obtain ⟨v9, rfl, G, hc8, hs8⟩ := q
          refine x_wr (fun g => ∃ mI1 nI1, IV g mP mC mI1 mD mB nP nC nI1 nD nB ∧ hC g ≤ hC h + 1 ∧ hS g ≤ hS h + 70) ⟨_, _, IV_addI ⟨S, X⟩ G GC (by omega) (by omega), hc8, hs8⟩ (fun h q => ?_)
          obtain ⟨mI, nI, ⟨S, X⟩, hc8, hs8⟩ := q
          refine x_pop d91_74 rfl ?_
          refine x_aload_n d91_75 rfl ?_
          refine x_gfR d91_76 cl91 f11_37 (S.F.o rfl (by decide)) rfl (S.F.r rfl) ?_
          refine x_VE d91_79 cl91 m11_129 kd168 tg168 po168 le168 (by decide) (S.F.o rfl (by decide)) (C168 (S.F.o rfl (by decide)) rfl S.li) (fun v30 r30 z30 => ?_)
          try dsimp only at r30
          refine x_iconst d91_82 ?_
          refine x_isub d91_83 ?_
          exact x_iret d91_84 rt91 (hQ _ _ (MR_of ⟨S, X⟩ (by omega) (by omega)))
        · refine x_iconst d91_49 ?_
          refine x_goto (t := 54) d91_50 rfl ?_
          refine x_SN d91_54 cl91 m11_122 kd88 po88 le88 (C88 (by omega)) ?_
          refine x_aload_n d91_57 rfl ?_
          refine x_gfR d91_58 cl91 f11_37 (S.F.o rfl (by decide)) rfl (S.F.r rfl) ?_
          obtain ⟨c, hc0⟩ : ∃ c, hN h = c := ⟨_, rfl⟩
          refine x_new d91_61 cl91 nw11_290 ?_
          refine x_dupR d91_64 ?_
          refine x_iload_n d91_65 rfl ?_
          refine x_iload_n d91_66 rfl ?_
          refine x_iload_n d91_67 rfl ?_
          refine x_PU d91_68 cl91 m11_292 kd79 po79 le79 (by have := S.F.1; omega) (Ob_new (t := 10) (b := 0) (s := 3)).1 (C79 S.F.1) (fun g q => ?_)
          subst q
          rw [hc0]
          refine x_wr (fun g => IV g mP mC mI mD mB nP nC nI nD nB ∧ Tm g c ∧ hI g c 0 = x ∧ hC g = hC h + 1 ∧ hS g = hS h + 3) (by
            obtain ⟨M, GC, hc9, hs9⟩ := mkTm_ok (h := h) (x := x) (y := y) (w := w) S.F.1 (by omega) (by omega) (by omega)
            refine ⟨IV_ext M ⟨S, X⟩, hc0 ▸ GC, ?_, hc9, hs9⟩
            rw [← hc0]; simp [mkTm, hI_sI]) (fun h q => ?_)
          obtain ⟨⟨S, X⟩, GC, hw9, hc9, hs9⟩ := q
          have hcp := hcc; have hsp := hss
          obtain ⟨c0, s0, hcc, hss⟩ : ∃ c0 s0, hC h = c0 ∧ hS h = s0 := ⟨_, _, rfl, rfl⟩
          refine x_VW d91_71 cl91 m11_294 kd169 tg169 po169 le169 (by decide) (S.F.o rfl (by decide)) (C169 S.F (Hv_RW S) X.1.2.2.2 (by unfold isLs; decide) S.li (by omega) (fun p T => by rw [T.t]; decide) ⟨by have := GC.n; omega, by rw [GC.t]; decide⟩) (fun w9 g q => ?_)
          obtain ⟨v9, rfl, G, hc8, hs8⟩ := q
          refine x_wr (fun g => ∃ mI1 nI1, IV g mP mC mI1 mD mB nP nC nI1 nD nB ∧ hC g ≤ hC h + 1 ∧ hS g ≤ hS h + 70) ⟨_, _, IV_addI ⟨S, X⟩ G GC (by omega) (by omega), hc8, hs8⟩ (fun h q => ?_)
          obtain ⟨mI, nI, ⟨S, X⟩, hc8, hs8⟩ := q
          refine x_pop d91_74 rfl ?_
          refine x_aload_n d91_75 rfl ?_
          refine x_gfR d91_76 cl91 f11_37 (S.F.o rfl (by decide)) rfl (S.F.r rfl) ?_
          refine x_VE d91_79 cl91 m11_129 kd168 tg168 po168 le168 (by decide) (S.F.o rfl (by decide)) (C168 (S.F.o rfl (by decide)) rfl S.li) (fun v33 r33 z33 => ?_)
          try dsimp only at r33
          refine x_iconst d91_82 ?_
          refine x_isub d91_83 ?_
          exact x_iret d91_84 rt91 (hQ _ _ (MR_of ⟨S, X⟩ (by omega) (by omega)))
      · refine x_iload_n d91_24 rfl ?_
        refine x_iload_n d91_25 rfl ?_
        refine x_icgt (t := 33) d91_26 rfl (by omega) (fun c26_34 => ?_) (fun c26_34 => ?_)
        · refine x_iconst d91_33 ?_
          refine x_SN d91_34 cl91 m11_88 kd84 po84 le84 (C84 (by omega)) ?_
          refine x_aload_n d91_37 rfl ?_
          refine x_gfR d91_38 cl91 f11_37 (S.F.o rfl (by decide)) rfl (S.F.r rfl) ?_
          refine x_VE d91_41 cl91 m11_129 kd168 tg168 po168 le168 (by decide) (S.F.o rfl (by decide)) (C168 (S.F.o rfl (by decide)) rfl S.li) (fun v36 r36 z36 => ?_)
          try dsimp only at r36
          refine x_bipush d91_44 (by decide) ?_
          refine x_icge (t := 53) d91_46 rfl (by omega) (fun c46_37 => ?_) (fun c46_37 => ?_)
          · refine x_iconst d91_53 ?_
            refine x_SN d91_54 cl91 m11_122 kd88 po88 le88 (C88 (by omega)) ?_
            refine x_aload_n d91_57 rfl ?_
            refine x_gfR d91_58 cl91 f11_37 (S.F.o rfl (by decide)) rfl (S.F.r rfl) ?_
            obtain ⟨c, hc0⟩ : ∃ c, hN h = c := ⟨_, rfl⟩
            refine x_new d91_61 cl91 nw11_290 ?_
            refine x_dupR d91_64 ?_
            refine x_iload_n d91_65 rfl ?_
            refine x_iload_n d91_66 rfl ?_
            refine x_iload_n d91_67 rfl ?_
            refine x_PU d91_68 cl91 m11_292 kd79 po79 le79 (by have := S.F.1; omega) (Ob_new (t := 10) (b := 0) (s := 3)).1 (C79 S.F.1) (fun g q => ?_)
            subst q
            rw [hc0]
            refine x_wr (fun g => IV g mP mC mI mD mB nP nC nI nD nB ∧ Tm g c ∧ hI g c 0 = x ∧ hC g = hC h + 1 ∧ hS g = hS h + 3) (by
              obtain ⟨M, GC, hc9, hs9⟩ := mkTm_ok (h := h) (x := x) (y := y) (w := w) S.F.1 (by omega) (by omega) (by omega)
              refine ⟨IV_ext M ⟨S, X⟩, hc0 ▸ GC, ?_, hc9, hs9⟩
              rw [← hc0]; simp [mkTm, hI_sI]) (fun h q => ?_)
            obtain ⟨⟨S, X⟩, GC, hw9, hc9, hs9⟩ := q
            have hcp := hcc; have hsp := hss
            obtain ⟨c0, s0, hcc, hss⟩ : ∃ c0 s0, hC h = c0 ∧ hS h = s0 := ⟨_, _, rfl, rfl⟩
            refine x_VW d91_71 cl91 m11_294 kd169 tg169 po169 le169 (by decide) (S.F.o rfl (by decide)) (C169 S.F (Hv_RW S) X.1.2.2.2 (by unfold isLs; decide) S.li (by omega) (fun p T => by rw [T.t]; decide) ⟨by have := GC.n; omega, by rw [GC.t]; decide⟩) (fun w9 g q => ?_)
            obtain ⟨v9, rfl, G, hc8, hs8⟩ := q
            refine x_wr (fun g => ∃ mI1 nI1, IV g mP mC mI1 mD mB nP nC nI1 nD nB ∧ hC g ≤ hC h + 1 ∧ hS g ≤ hS h + 70) ⟨_, _, IV_addI ⟨S, X⟩ G GC (by omega) (by omega), hc8, hs8⟩ (fun h q => ?_)
            obtain ⟨mI, nI, ⟨S, X⟩, hc8, hs8⟩ := q
            refine x_pop d91_74 rfl ?_
            refine x_aload_n d91_75 rfl ?_
            refine x_gfR d91_76 cl91 f11_37 (S.F.o rfl (by decide)) rfl (S.F.r rfl) ?_
            refine x_VE d91_79 cl91 m11_129 kd168 tg168 po168 le168 (by decide) (S.F.o rfl (by decide)) (C168 (S.F.o rfl (by decide)) rfl S.li) (fun v40 r40 z40 => ?_)
            try dsimp only at r40
            refine x_iconst d91_82 ?_
            refine x_isub d91_83 ?_
            exact x_iret d91_84 rt91 (hQ _ _ (MR_of ⟨S, X⟩ (by omega) (by omega)))
          · refine x_iconst d91_49 ?_
            refine x_goto (t := 54) d91_50 rfl ?_
            refine x_SN d91_54 cl91 m11_122 kd88 po88 le88 (C88 (by omega)) ?_
            refine x_aload_n d91_57 rfl ?_
            refine x_gfR d91_58 cl91 f11_37 (S.F.o rfl (by decide)) rfl (S.F.r rfl) ?_
            obtain ⟨c, hc0⟩ : ∃ c, hN h = c := ⟨_, rfl⟩
            refine x_new d91_61 cl91 nw11_290 ?_
            refine x_dupR d91_64 ?_
            refine x_iload_n d91_65 rfl ?_
            refine x_iload_n d91_66 rfl ?_
            refine x_iload_n d91_67 rfl ?_
            refine x_PU d91_68 cl91 m11_292 kd79 po79 le79 (by have := S.F.1; omega) (Ob_new (t := 10) (b := 0) (s := 3)).1 (C79 S.F.1) (fun g q => ?_)
            subst q
            rw [hc0]
            refine x_wr (fun g => IV g mP mC mI mD mB nP nC nI nD nB ∧ Tm g c ∧ hI g c 0 = x ∧ hC g = hC h + 1 ∧ hS g = hS h + 3) (by
              obtain ⟨M, GC, hc9, hs9⟩ := mkTm_ok (h := h) (x := x) (y := y) (w := w) S.F.1 (by omega) (by omega) (by omega)
              refine ⟨IV_ext M ⟨S, X⟩, hc0 ▸ GC, ?_, hc9, hs9⟩
              rw [← hc0]; simp [mkTm, hI_sI]) (fun h q => ?_)
            obtain ⟨⟨S, X⟩, GC, hw9, hc9, hs9⟩ := q
            have hcp := hcc; have hsp := hss
            obtain ⟨c0, s0, hcc, hss⟩ : ∃ c0 s0, hC h = c0 ∧ hS h = s0 := ⟨_, _, rfl, rfl⟩
            refine x_VW d91_71 cl91 m11_294 kd169 tg169 po169 le169 (by decide) (S.F.o rfl (by decide)) (C169 S.F (Hv_RW S) X.1.2.2.2 (by unfold isLs; decide) S.li (by omega) (fun p T => by rw [T.t]; decide) ⟨by have := GC.n; omega, by rw [GC.t]; decide⟩) (fun w9 g q => ?_)
            obtain ⟨v9, rfl, G, hc8, hs8⟩ := q
            refine x_wr (fun g => ∃ mI1 nI1, IV g mP mC mI1 mD mB nP nC nI1 nD nB ∧ hC g ≤ hC h + 1 ∧ hS g ≤ hS h + 70) ⟨_, _, IV_addI ⟨S, X⟩ G GC (by omega) (by omega), hc8, hs8⟩ (fun h q => ?_)
            obtain ⟨mI, nI, ⟨S, X⟩, hc8, hs8⟩ := q
            refine x_pop d91_74 rfl ?_
            refine x_aload_n d91_75 rfl ?_
            refine x_gfR d91_76 cl91 f11_37 (S.F.o rfl (by decide)) rfl (S.F.r rfl) ?_
            refine x_VE d91_79 cl91 m11_129 kd168 tg168 po168 le168 (by decide) (S.F.o rfl (by decide)) (C168 (S.F.o rfl (by decide)) rfl S.li) (fun v43 r43 z43 => ?_)
            try dsimp only at r43
            refine x_iconst d91_82 ?_
            refine x_isub d91_83 ?_
            exact x_iret d91_84 rt91 (hQ _ _ (MR_of ⟨S, X⟩ (by omega) (by omega)))
        · refine x_iconst d91_29 ?_
          refine x_goto (t := 34) d91_30 rfl ?_
          refine x_SN d91_34 cl91 m11_88 kd84 po84 le84 (C84 (by omega)) ?_
          refine x_aload_n d91_37 rfl ?_
          refine x_gfR d91_38 cl91 f11_37 (S.F.o rfl (by decide)) rfl (S.F.r rfl) ?_
          refine x_VE d91_41 cl91 m11_129 kd168 tg168 po168 le168 (by decide) (S.F.o rfl (by decide)) (C168 (S.F.o rfl (by decide)) rfl S.li) (fun v45 r45 z45 => ?_)
          try dsimp only at r45
          refine x_bipush d91_44 (by decide) ?_
          refine x_icge (t := 53) d91_46 rfl (by omega) (fun c46_46 => ?_) (fun c46_46 => ?_)
          · refine x_iconst d91_53 ?_
            refine x_SN d91_54 cl91 m11_122 kd88 po88 le88 (C88 (by omega)) ?_
            refine x_aload_n d91_57 rfl ?_
            refine x_gfR d91_58 cl91 f11_37 (S.F.o rfl (by decide)) rfl (S.F.r rfl) ?_
            obtain ⟨c, hc0⟩ : ∃ c, hN h = c := ⟨_, rfl⟩
            refine x_new d91_61 cl91 nw11_290 ?_
            refine x_dupR d91_64 ?_
            refine x_iload_n d91_65 rfl ?_
            refine x_iload_n d91_66 rfl ?_
            refine x_iload_n d91_67 rfl ?_
            refine x_PU d91_68 cl91 m11_292 kd79 po79 le79 (by have := S.F.1; omega) (Ob_new (t := 10) (b := 0) (s := 3)).1 (C79 S.F.1) (fun g q => ?_)
            subst q
            rw [hc0]
            refine x_wr (fun g => IV g mP mC mI mD mB nP nC nI nD nB ∧ Tm g c ∧ hI g c 0 = x ∧ hC g = hC h + 1 ∧ hS g = hS h + 3) (by
              obtain ⟨M, GC, hc9, hs9⟩ := mkTm_ok (h := h) (x := x) (y := y) (w := w) S.F.1 (by omega) (by omega) (by omega)
              refine ⟨IV_ext M ⟨S, X⟩, hc0 ▸ GC, ?_, hc9, hs9⟩
              rw [← hc0]; simp [mkTm, hI_sI]) (fun h q => ?_)
            obtain ⟨⟨S, X⟩, GC, hw9, hc9, hs9⟩ := q
            have hcp := hcc; have hsp := hss
            obtain ⟨c0, s0, hcc, hss⟩ : ∃ c0 s0, hC h = c0 ∧ hS h = s0 := ⟨_, _, rfl, rfl⟩
            refine x_VW d91_71 cl91 m11_294 kd169 tg169 po169 le169 (by decide) (S.F.o rfl (by decide)) (C169 S.F (Hv_RW S) X.1.2.2.2 (by unfold isLs; decide) S.li (by omega) (fun p T => by rw [T.t]; decide) ⟨by have := GC.n; omega, by rw [GC.t]; decide⟩) (fun w9 g q => ?_)
            obtain ⟨v9, rfl, G, hc8, hs8⟩ := q
            refine x_wr (fun g => ∃ mI1 nI1, IV g mP mC mI1 mD mB nP nC nI1 nD nB ∧ hC g ≤ hC h + 1 ∧ hS g ≤ hS h + 70) ⟨_, _, IV_addI ⟨S, X⟩ G GC (by omega) (by omega), hc8, hs8⟩ (fun h q => ?_)
            obtain ⟨mI, nI, ⟨S, X⟩, hc8, hs8⟩ := q
            refine x_pop d91_74 rfl ?_
            refine x_aload_n d91_75 rfl ?_
            refine x_gfR d91_76 cl91 f11_37 (S.F.o rfl (by decide)) rfl (S.F.r rfl) ?_
            refine x_VE d91_79 cl91 m11_129 kd168 tg168 po168 le168 (by decide) (S.F.o rfl (by decide)) (C168 (S.F.o rfl (by decide)) rfl S.li) (fun v49 r49 z49 => ?_)
            try dsimp only at r49
            refine x_iconst d91_82 ?_
            refine x_isub d91_83 ?_
            exact x_iret d91_84 rt91 (hQ _ _ (MR_of ⟨S, X⟩ (by omega) (by omega)))
          · refine x_iconst d91_49 ?_
            refine x_goto (t := 54) d91_50 rfl ?_
            refine x_SN d91_54 cl91 m11_122 kd88 po88 le88 (C88 (by omega)) ?_
            refine x_aload_n d91_57 rfl ?_
            refine x_gfR d91_58 cl91 f11_37 (S.F.o rfl (by decide)) rfl (S.F.r rfl) ?_
            obtain ⟨c, hc0⟩ : ∃ c, hN h = c := ⟨_, rfl⟩
            refine x_new d91_61 cl91 nw11_290 ?_
            refine x_dupR d91_64 ?_
            refine x_iload_n d91_65 rfl ?_
            refine x_iload_n d91_66 rfl ?_
            refine x_iload_n d91_67 rfl ?_
            refine x_PU d91_68 cl91 m11_292 kd79 po79 le79 (by have := S.F.1; omega) (Ob_new (t := 10) (b := 0) (s := 3)).1 (C79 S.F.1) (fun g q => ?_)
            subst q
            rw [hc0]
            refine x_wr (fun g => IV g mP mC mI mD mB nP nC nI nD nB ∧ Tm g c ∧ hI g c 0 = x ∧ hC g = hC h + 1 ∧ hS g = hS h + 3) (by
              obtain ⟨M, GC, hc9, hs9⟩ := mkTm_ok (h := h) (x := x) (y := y) (w := w) S.F.1 (by omega) (by omega) (by omega)
              refine ⟨IV_ext M ⟨S, X⟩, hc0 ▸ GC, ?_, hc9, hs9⟩
              rw [← hc0]; simp [mkTm, hI_sI]) (fun h q => ?_)
            obtain ⟨⟨S, X⟩, GC, hw9, hc9, hs9⟩ := q
            have hcp := hcc; have hsp := hss
            obtain ⟨c0, s0, hcc, hss⟩ : ∃ c0 s0, hC h = c0 ∧ hS h = s0 := ⟨_, _, rfl, rfl⟩
            refine x_VW d91_71 cl91 m11_294 kd169 tg169 po169 le169 (by decide) (S.F.o rfl (by decide)) (C169 S.F (Hv_RW S) X.1.2.2.2 (by unfold isLs; decide) S.li (by omega) (fun p T => by rw [T.t]; decide) ⟨by have := GC.n; omega, by rw [GC.t]; decide⟩) (fun w9 g q => ?_)
            obtain ⟨v9, rfl, G, hc8, hs8⟩ := q
            refine x_wr (fun g => ∃ mI1 nI1, IV g mP mC mI1 mD mB nP nC nI1 nD nB ∧ hC g ≤ hC h + 1 ∧ hS g ≤ hS h + 70) ⟨_, _, IV_addI ⟨S, X⟩ G GC (by omega) (by omega), hc8, hs8⟩ (fun h q => ?_)
            obtain ⟨mI, nI, ⟨S, X⟩, hc8, hs8⟩ := q
            refine x_pop d91_74 rfl ?_
            refine x_aload_n d91_75 rfl ?_
            refine x_gfR d91_76 cl91 f11_37 (S.F.o rfl (by decide)) rfl (S.F.r rfl) ?_
            refine x_VE d91_79 cl91 m11_129 kd168 tg168 po168 le168 (by decide) (S.F.o rfl (by decide)) (C168 (S.F.o rfl (by decide)) rfl S.li) (fun v52 r52 z52 => ?_)
            try dsimp only at r52
            refine x_iconst d91_82 ?_
            refine x_isub d91_83 ?_
            exact x_iret d91_84 rt91 (hQ _ _ (MR_of ⟨S, X⟩ (by omega) (by omega)))
