/-! ===== A TURN OF THE LAW ===== -/
theorem and31 {x : Int} : 0 ≤ o32 fand x 2147483647 ∧ o32 fand x 2147483647 < 2147483648 := by
  have r := o32_r (f := fand) (x := x) (y := 2147483647)
  refine ⟨?_, r.2⟩
  rw [← o32_toInt, B32_and]
  have e : (B32 2147483647).toNat = 2147483647 := B32_nat (by decide)
  have k : (B32 x &&& B32 2147483647).toNat ≤ 2147483647 := by
    rw [BitVec.toNat_and, e]; exact Nat.and_le_right
  rw [BitVec.toInt_eq_toNat_of_lt (by omega)]
  omega
theorem below_r {x n : Int} (hn : 0 < n) : 0 ≤ (o32 fand x 2147483647).tmod n ∧ (o32 fand x 2147483647).tmod n < n := by
  rw [Int.tmod_eq_emod_of_nonneg and31.1]
  exact ⟨Int.emod_nonneg _ (by omega), Int.emod_lt_of_pos _ hn⟩
/-- after a turn -/
def MR2 (h g : Hp) : Prop := ∃ (mP mC mI mD mB : Nat → Nat) (nP nC nI nD nB : Nat), IV g mP mC mI mD mB nP nC nI nD nB ∧ hC g ≤ hC h + 50 ∧ hS g ≤ hS h + 700
theorem MR2_of {h g : Hp} {mP mC mI mD mB : Nat → Nat} {nP nC nI nD nB : Nat} (K : IV g mP mC mI mD mB nP nC nI nD nB) (c : hC g ≤ hC h + 50) (s : hS g ≤ hS h + 700) : MR2 h g := ⟨mP, mC, mI, mD, mB, nP, nC, nI, nD, nB, K, c, s⟩
theorem x_VM {D : Nat → Nat → Bool} {d y pc nx k c z a t : Nat} {ls : XL} {st as r : List XV} {h : Hp} {Q : XO × Hp → Prop} (hd : cod y pc = some (.invokevirtual k, nx)) (hc : cls y = c) (hl : lkp mthL c k = some z) (hk : mKnd z = 1) (ht : mTag z = t) (hp : popN (mArg z) st = some (vR (some a) :: as, r)) (he : (entL (vR (some a) :: as)).length ≤ mLoc z) (h2 : 2 ≤ a) (o : Ob h a t) (cc : MX D d z (vR (some a) :: as) h (fun w g => ∃ v : Int, w = vI v ∧ MR h g)) (hn : ∀ e, hnd y pc e = true) (kx : Q (.inl none, tck h 1 6)) (kk : ∀ v g, MR h g → wp D (d + 1) y nx ls (vI v :: r) g Q) (hs : szS r ≤ 8 := by exact Nat.le_of_ble_eq_true rfl) : wp D (d + 1) y pc ls st h Q :=
  x_cV hd hc hl hk ht hp he h2 o hs cc (fun v' h1 q => by
    rcases q with ⟨w, q1, v, rfl, q2⟩ | ⟨e, -, q1, -⟩
    · cases q1; exact kk v h1 q2
    · cases q1) (fun e h1 q => by
    rcases q with ⟨w, q1, -⟩ | ⟨e', -, q1, q2⟩
    · cases q1
    · rw [hn e]
      have q2 : h1 = tck h 1 6 := q2
      rw [q2]; exact kx)
theorem C175 {D : Nat → Nat → Bool} {d : Nat} {h : Hp} {x n : Int} (qn : 1 ≤ n ∧ n ≤ 2000) : ∃ v : Int, (fun v : Int => 0 ≤ v ∧ v < n) v ∧ PV D (d + 0) 175 [vI x, vI n] h (vI v) := by
  refine PE_of (fun Q hQ => ?_)
  refine x_ent en175 ?_
  refine x_iload_n d175_0 rfl ?_
  refine x_ldc d175_1 cl175 ci13_7 ?_
  refine x_iandq d175_3 (fun q1 => ?_)
  refine x_iload_n d175_4 rfl ?_
  have ha31 := and31 (x := x)
  refine x_irem d175_5 (by omega) ?_
  exact x_iret d175_6 rt175 (hQ _ (below_r (by omega)))
theorem C176 {D : Nat → Nat → Bool} {d : Nat} {h : Hp} {x : Int} (V : Vis D) (o1 : Ob h 1 100) (hl : hL h 1 ≤ 260) (qx : 0 ≤ x ∧ x ≤ 100) : ∃ v : Int, (fun v : Int => True) v ∧ PV D (d + 0) 176 [vR (some 1), vI x] h (vI v) := by
  refine PE_of (fun Q hQ => ?_)
  refine x_ent en176 ?_
  refine x_iload_n d176_0 rfl ?_
  refine x_aload_n d176_1 rfl ?_
  refine x_alen d176_2 o1.1 (by rw [o1.2]; decide) ?_
  refine x_nm (fun a1 e1 => ?_)
  rw [(show hL h 1 = hL h 1 from rfl)] at e1
  refine x_icge (t := 12) d176_3 rfl (by omega) (fun c3_2 => ?_) (fun c3_2 => ?_)
  · refine x_ldc d176_12 cl176 ci13_8 ?_
    refine x_iload_n d176_14 rfl ?_
    refine x_iconst d176_15 ?_
    refine x_iadd d176_16 ?_
    refine x_imul d176_17 ?_
    exact x_iret d176_18 rt176 (hQ _ trivial)
  · refine x_aload_n d176_6 rfl ?_
    refine x_iload_n d176_7 rfl ?_
    refine x_iaload d176_8 o1 ⟨by omega, by rw [(show hL h 1 = hL h 1 from rfl)]; omega⟩ (V.s (by decide)) ?_
    refine x_goto (t := 18) d176_9 rfl ?_
    exact x_iret d176_18 rt176 (hQ _ trivial)
theorem C177 {d : Nat} {h : Hp} {x y : Int} (qx : -2147483648 ≤ x ∧ x < 2147483648) (qy : 0 ≤ y ∧ y ≤ 16) {mP mC mI mD mB : Nat → Nat} {nP nC nI nD nB : Nat} (K : IV h mP mC mI mD mB nP nC nI nD nB) : PU DA (d + 12) 177 [vR (some 2), vI x, vI y] h (fun g => MR2 h g) := by
  refine PU_of (fun Q hQ => ?_)
  have S := K.1
  obtain ⟨h9, e9⟩ : ∃ h9, h9 = h := ⟨_, rfl⟩
  have hc0 : hC h = hC h9 := by rw [e9]
  have hs0 : hS h = hS h9 := by rw [e9]
  rw [← e9] at hQ
  refine x_ent en177 ?_
  refine x_iload_n d177_0 rfl ?_
  refine x_bipush d177_1 (by decide) ?_
  refine x_SE d177_3 cl177 m13_18 kd175 po175 le175 (C175 (by omega)) (fun v1 r1 z1 => ?_)
  try dsimp only at r1
  refine x_nm (fun w6_2 ew6_2 => ?_)
  refine x_istore_n [some (vR _), some (vI _), some (vI _), some (vI _), none, none, none] d177_6 rfl ?_
  refine x_iload_n d177_7 rfl ?_
  refine x_iconst d177_8 ?_
  refine x_ishrq d177_9 (fun q3 => ?_)
  refine x_bipush d177_10 (by decide) ?_
  refine x_SE d177_12 cl177 m13_18 kd175 po175 le175 (C175 (by omega)) (fun v4 r4 z4 => ?_)
  try dsimp only at r4
  refine x_nm (fun w15_5 ew15_5 => ?_)
  refine x_istore [some (vR _), some (vI _), some (vI _), some (vI _), some (vI _), none, none] d177_15 rfl ?_
  refine x_iload_n d177_17 rfl ?_
  refine x_iconst d177_18 ?_
  refine x_ishrq d177_19 (fun q6 => ?_)
  refine x_bipush d177_20 (by decide) ?_
  refine x_SE d177_22 cl177 m13_18 kd175 po175 le175 (C175 (by omega)) (fun v7 r7 z7 => ?_)
  try dsimp only at r7
  refine x_nm (fun w25_8 ew25_8 => ?_)
  refine x_istore [some (vR _), some (vI _), some (vI _), some (vI _), some (vI _), some (vI _), none] d177_25 rfl ?_
  refine x_iload_n d177_27 rfl ?_
  rcases (show y = 0 ∨ y = 1 ∨ y = 2 ∨ y = 3 ∨ y = 4 ∨ y = 5 ∨ y = 6 ∨ y = 7 ∨ y = 8 ∨ y = 9 ∨ y = 10 ∨ y = 11 ∨ y = 12 ∨ y = 13 ∨ y = 14 ∨ y = 15 ∨ y = 16 by omega) with rfl | rfl | rfl | rfl | rfl | rfl | rfl | rfl | rfl | rfl | rfl | rfl | rfl | rfl | rfl | rfl | rfl
  · refine x_tsw (t := 108) d177_28 (by omega) rfl ?_
    refine x_aload_n d177_108 rfl ?_
    refine x_iconst d177_109 ?_
    refine x_iload_n d177_110 rfl ?_
    refine x_iconst d177_111 ?_
    refine x_SE d177_112 cl177 m13_18 kd175 po175 le175 (C175 (by omega)) (fun v9 r9 z9 => ?_)
    try dsimp only at r9
    refine x_iadd d177_115 ?_
    refine x_iconst d177_116 ?_
    refine x_iload_n d177_117 rfl ?_
    refine x_iconst d177_118 ?_
    refine x_ishrq d177_119 (fun q10 => ?_)
    refine x_iconst d177_120 ?_
    refine x_SE d177_121 cl177 m13_18 kd175 po175 le175 (C175 (by omega)) (fun v11 r11 z11 => ?_)
    try dsimp only at r11
    refine x_iadd d177_124 ?_
    refine x_iload_n d177_125 rfl ?_
    refine x_iconst d177_126 ?_
    refine x_ishrq d177_127 (fun q12 => ?_)
    refine x_bipush d177_128 (by decide) ?_
    refine x_SE d177_130 cl177 m13_18 kd175 po175 le175 (C175 (by omega)) (fun v13 r13 z13 => ?_)
    try dsimp only at r13
    refine x_iload_n d177_133 rfl ?_
    refine x_bipush d177_134 (by decide) ?_
    refine x_ishrq d177_136 (fun q14 => ?_)
    refine x_iconst d177_137 ?_
    refine x_SE d177_138 cl177 m13_18 kd175 po175 le175 (C175 (by omega)) (fun v15 r15 z15 => ?_)
    try dsimp only at r15
    refine x_ifne (t := 148) d177_141 rfl (by omega) (fun c141_16 => ?_) (fun c141_16 => ?_)
    · refine x_iconst d177_148 ?_
      refine x_VM d177_149 cl177 m13_48 kd95 tg95 po95 le95 (by decide) (S.F.o rfl (by decide)) (C95 (by omega) (by omega) (by omega) (by omega) K) (fun _ => rfl) (hQ _ (MR2_of (h := h9) (g := tck h 1 6) K (by show hC h + 1 ≤ hC h9 + 50; omega) (by show hS h + 6 ≤ hS h9 + 700; omega))) (fun v17 h q17 => ?_)
      obtain ⟨mP, mC, mI, mD, mB, nP, nC, nI, nD, nB, K, hc9, hs9⟩ := q17
      have S := K.1
      refine x_pop d177_152 rfl ?_
      refine x_goto (t := 598) d177_153 rfl ?_
      refine x_goto (t := 610) d177_598 rfl ?_
      exact x_ret d177_610 rt177 (hQ _ (MR2_of (h := h9) K (by omega) (by omega)))
    · refine x_iconst d177_144 ?_
      refine x_goto (t := 149) d177_145 rfl ?_
      refine x_VM d177_149 cl177 m13_48 kd95 tg95 po95 le95 (by decide) (S.F.o rfl (by decide)) (C95 (by omega) (by omega) (by omega) (by omega) K) (fun _ => rfl) (hQ _ (MR2_of (h := h9) (g := tck h 1 6) K (by show hC h + 1 ≤ hC h9 + 50; omega) (by show hS h + 6 ≤ hS h9 + 700; omega))) (fun v18 h q18 => ?_)
      obtain ⟨mP, mC, mI, mD, mB, nP, nC, nI, nD, nB, K, hc9, hs9⟩ := q18
      have S := K.1
      refine x_pop d177_152 rfl ?_
      refine x_goto (t := 598) d177_153 rfl ?_
      refine x_goto (t := 610) d177_598 rfl ?_
      exact x_ret d177_610 rt177 (hQ _ (MR2_of (h := h9) K (by omega) (by omega)))
  · refine x_tsw (t := 156) d177_28 (by omega) rfl ?_
    refine x_aload_n d177_156 rfl ?_
    refine x_iconst d177_157 ?_
    refine x_iload_n d177_158 rfl ?_
    refine x_iconst d177_159 ?_
    refine x_SE d177_160 cl177 m13_18 kd175 po175 le175 (C175 (by omega)) (fun v19 r19 z19 => ?_)
    try dsimp only at r19
    refine x_iadd d177_163 ?_
    refine x_iconst d177_164 ?_
    refine x_iload_n d177_165 rfl ?_
    refine x_iconst d177_166 ?_
    refine x_ishrq d177_167 (fun q20 => ?_)
    refine x_iconst d177_168 ?_
    refine x_SE d177_169 cl177 m13_18 kd175 po175 le175 (C175 (by omega)) (fun v21 r21 z21 => ?_)
    try dsimp only at r21
    refine x_iadd d177_172 ?_
    refine x_iload_n d177_173 rfl ?_
    refine x_iconst d177_174 ?_
    refine x_ishrq d177_175 (fun q22 => ?_)
    refine x_bipush d177_176 (by decide) ?_
    refine x_SE d177_178 cl177 m13_18 kd175 po175 le175 (C175 (by omega)) (fun v23 r23 z23 => ?_)
    try dsimp only at r23
    refine x_iload d177_181 rfl ?_
    refine x_iload_n d177_183 rfl ?_
    refine x_iconst d177_184 ?_
    refine x_ishrq d177_185 (fun q24 => ?_)
    refine x_bipush d177_186 (by decide) ?_
    refine x_SE d177_188 cl177 m13_18 kd175 po175 le175 (C175 (by omega)) (fun v25 r25 z25 => ?_)
    try dsimp only at r25
    refine x_VM d177_191 cl177 m13_52 kd100 tg100 po100 le100 (by decide) (S.F.o rfl (by decide)) (C100 (by omega) (by omega) (by omega) (by omega) (by omega) K) (fun _ => rfl) (hQ _ (MR2_of (h := h9) (g := tck h 1 6) K (by show hC h + 1 ≤ hC h9 + 50; omega) (by show hS h + 6 ≤ hS h9 + 700; omega))) (fun v26 h q26 => ?_)
    obtain ⟨mP, mC, mI, mD, mB, nP, nC, nI, nD, nB, K, hc9, hs9⟩ := q26
    have S := K.1
    refine x_pop d177_194 rfl ?_
    refine x_goto (t := 598) d177_195 rfl ?_
    refine x_goto (t := 610) d177_598 rfl ?_
    exact x_ret d177_610 rt177 (hQ _ (MR2_of (h := h9) K (by omega) (by omega)))
  · refine x_tsw (t := 156) d177_28 (by omega) rfl ?_
    refine x_aload_n d177_156 rfl ?_
    refine x_iconst d177_157 ?_
    refine x_iload_n d177_158 rfl ?_
    refine x_iconst d177_159 ?_
    refine x_SE d177_160 cl177 m13_18 kd175 po175 le175 (C175 (by omega)) (fun v27 r27 z27 => ?_)
    try dsimp only at r27
    refine x_iadd d177_163 ?_
    refine x_iconst d177_164 ?_
    refine x_iload_n d177_165 rfl ?_
    refine x_iconst d177_166 ?_
    refine x_ishrq d177_167 (fun q28 => ?_)
    refine x_iconst d177_168 ?_
    refine x_SE d177_169 cl177 m13_18 kd175 po175 le175 (C175 (by omega)) (fun v29 r29 z29 => ?_)
    try dsimp only at r29
    refine x_iadd d177_172 ?_
    refine x_iload_n d177_173 rfl ?_
    refine x_iconst d177_174 ?_
    refine x_ishrq d177_175 (fun q30 => ?_)
    refine x_bipush d177_176 (by decide) ?_
    refine x_SE d177_178 cl177 m13_18 kd175 po175 le175 (C175 (by omega)) (fun v31 r31 z31 => ?_)
    try dsimp only at r31
    refine x_iload d177_181 rfl ?_
    refine x_iload_n d177_183 rfl ?_
    refine x_iconst d177_184 ?_
    refine x_ishrq d177_185 (fun q32 => ?_)
    refine x_bipush d177_186 (by decide) ?_
    refine x_SE d177_188 cl177 m13_18 kd175 po175 le175 (C175 (by omega)) (fun v33 r33 z33 => ?_)
    try dsimp only at r33
    refine x_VM d177_191 cl177 m13_52 kd100 tg100 po100 le100 (by decide) (S.F.o rfl (by decide)) (C100 (by omega) (by omega) (by omega) (by omega) (by omega) K) (fun _ => rfl) (hQ _ (MR2_of (h := h9) (g := tck h 1 6) K (by show hC h + 1 ≤ hC h9 + 50; omega) (by show hS h + 6 ≤ hS h9 + 700; omega))) (fun v34 h q34 => ?_)
    obtain ⟨mP, mC, mI, mD, mB, nP, nC, nI, nD, nB, K, hc9, hs9⟩ := q34
    have S := K.1
    refine x_pop d177_194 rfl ?_
    refine x_goto (t := 598) d177_195 rfl ?_
    refine x_goto (t := 610) d177_598 rfl ?_
    exact x_ret d177_610 rt177 (hQ _ (MR2_of (h := h9) K (by omega) (by omega)))
  · refine x_tsw (t := 198) d177_28 (by omega) rfl ?_
    refine x_aload_n d177_198 rfl ?_
    refine x_iload_n d177_199 rfl ?_
    refine x_iload_n d177_200 rfl ?_
    refine x_iconst d177_201 ?_
    refine x_ishrq d177_202 (fun q35 => ?_)
    refine x_iconst d177_203 ?_
    refine x_SE d177_204 cl177 m13_18 kd175 po175 le175 (C175 (by omega)) (fun v36 r36 z36 => ?_)
    try dsimp only at r36
    refine x_iload_n d177_207 rfl ?_
    refine x_iconst d177_208 ?_
    refine x_ishrq d177_209 (fun q37 => ?_)
    refine x_sipush d177_210 (by decide) ?_
    refine x_SE d177_213 cl177 m13_18 kd175 po175 le175 (C175 (by omega)) (fun v38 r38 z38 => ?_)
    try dsimp only at r38
    refine x_iload_n d177_216 rfl ?_
    refine x_iconst d177_217 ?_
    refine x_SE d177_218 cl177 m13_18 kd175 po175 le175 (C175 (by omega)) (fun v39 r39 z39 => ?_)
    try dsimp only at r39
    refine x_ifne (t := 228) d177_221 rfl (by omega) (fun c221_40 => ?_) (fun c221_40 => ?_)
    · refine x_iconst d177_228 ?_
      refine x_VM d177_229 cl177 m13_56 kd102 tg102 po102 le102 (by decide) (S.F.o rfl (by decide)) (C102 (by omega) (by omega) (by omega) (by omega) K) (fun _ => rfl) (hQ _ (MR2_of (h := h9) (g := tck h 1 6) K (by show hC h + 1 ≤ hC h9 + 50; omega) (by show hS h + 6 ≤ hS h9 + 700; omega))) (fun v41 h q41 => ?_)
      obtain ⟨mP, mC, mI, mD, mB, nP, nC, nI, nD, nB, K, hc9, hs9⟩ := q41
      have S := K.1
      refine x_pop d177_232 rfl ?_
      refine x_goto (t := 598) d177_233 rfl ?_
      refine x_goto (t := 610) d177_598 rfl ?_
      exact x_ret d177_610 rt177 (hQ _ (MR2_of (h := h9) K (by omega) (by omega)))
    · refine x_iconst d177_224 ?_
      refine x_goto (t := 229) d177_225 rfl ?_
      refine x_VM d177_229 cl177 m13_56 kd102 tg102 po102 le102 (by decide) (S.F.o rfl (by decide)) (C102 (by omega) (by omega) (by omega) (by omega) K) (fun _ => rfl) (hQ _ (MR2_of (h := h9) (g := tck h 1 6) K (by show hC h + 1 ≤ hC h9 + 50; omega) (by show hS h + 6 ≤ hS h9 + 700; omega))) (fun v42 h q42 => ?_)
      obtain ⟨mP, mC, mI, mD, mB, nP, nC, nI, nD, nB, K, hc9, hs9⟩ := q42
      have S := K.1
      refine x_pop d177_232 rfl ?_
      refine x_goto (t := 598) d177_233 rfl ?_
      refine x_goto (t := 610) d177_598 rfl ?_
      exact x_ret d177_610 rt177 (hQ _ (MR2_of (h := h9) K (by omega) (by omega)))
  · refine x_tsw (t := 236) d177_28 (by omega) rfl ?_
    refine x_aload_n d177_236 rfl ?_
    refine x_iload_n d177_237 rfl ?_
    refine x_iload_n d177_238 rfl ?_
    refine x_iconst d177_239 ?_
    refine x_ishrq d177_240 (fun q43 => ?_)
    refine x_iconst d177_241 ?_
    refine x_SE d177_242 cl177 m13_18 kd175 po175 le175 (C175 (by omega)) (fun v44 r44 z44 => ?_)
    try dsimp only at r44
    refine x_bipush d177_245 (by decide) ?_
    refine x_iload_n d177_247 rfl ?_
    refine x_iconst d177_248 ?_
    refine x_ishrq d177_249 (fun q45 => ?_)
    refine x_iconst d177_250 ?_
    refine x_SE d177_251 cl177 m13_18 kd175 po175 le175 (C175 (by omega)) (fun v46 r46 z46 => ?_)
    try dsimp only at r46
    refine x_iadd d177_254 ?_
    refine x_sipush d177_255 (by decide) ?_
    refine x_VM d177_258 cl177 m13_59 kd104 tg104 po104 le104 (by decide) (S.F.o rfl (by decide)) (C104 (by omega) (by omega) (by omega) (by omega) K) (fun _ => rfl) (hQ _ (MR2_of (h := h9) (g := tck h 1 6) K (by show hC h + 1 ≤ hC h9 + 50; omega) (by show hS h + 6 ≤ hS h9 + 700; omega))) (fun v47 h q47 => ?_)
    obtain ⟨mP, mC, mI, mD, mB, nP, nC, nI, nD, nB, K, hc9, hs9⟩ := q47
    have S := K.1
    refine x_pop d177_261 rfl ?_
    refine x_goto (t := 598) d177_262 rfl ?_
    refine x_goto (t := 610) d177_598 rfl ?_
    exact x_ret d177_610 rt177 (hQ _ (MR2_of (h := h9) K (by omega) (by omega)))
  · refine x_tsw (t := 265) d177_28 (by omega) rfl ?_
    refine x_aload_n d177_265 rfl ?_
    refine x_iload_n d177_266 rfl ?_
    refine x_iload d177_267 rfl ?_
    refine x_iload_n d177_269 rfl ?_
    refine x_bipush d177_270 (by decide) ?_
    refine x_ishrq d177_272 (fun q48 => ?_)
    refine x_bipush d177_273 (by decide) ?_
    refine x_SE d177_275 cl177 m13_18 kd175 po175 le175 (C175 (by omega)) (fun v49 r49 z49 => ?_)
    try dsimp only at r49
    refine x_VM d177_278 cl177 m13_62 kd105 tg105 po105 le105 (by decide) (S.F.o rfl (by decide)) (C105 (by omega) (by omega) (by omega) K) (fun _ => rfl) (hQ _ (MR2_of (h := h9) (g := tck h 1 6) K (by show hC h + 1 ≤ hC h9 + 50; omega) (by show hS h + 6 ≤ hS h9 + 700; omega))) (fun v50 h q50 => ?_)
    obtain ⟨mP, mC, mI, mD, mB, nP, nC, nI, nD, nB, K, hc9, hs9⟩ := q50
    have S := K.1
    refine x_pop d177_281 rfl ?_
    refine x_goto (t := 598) d177_282 rfl ?_
    refine x_goto (t := 610) d177_598 rfl ?_
    exact x_ret d177_610 rt177 (hQ _ (MR2_of (h := h9) K (by omega) (by omega)))
  · refine x_tsw (t := 285) d177_28 (by omega) rfl ?_
    refine x_aload_n d177_285 rfl ?_
    refine x_iload_n d177_286 rfl ?_
    refine x_iload d177_287 rfl ?_
    refine x_iconst d177_289 ?_
    refine x_iload_n d177_290 rfl ?_
    refine x_bipush d177_291 (by decide) ?_
    refine x_ishrq d177_293 (fun q51 => ?_)
    refine x_iconst d177_294 ?_
    refine x_SE d177_295 cl177 m13_18 kd175 po175 le175 (C175 (by omega)) (fun v52 r52 z52 => ?_)
    try dsimp only at r52
    refine x_iadd d177_298 ?_
    refine x_iconst d177_299 ?_
    refine x_iload_n d177_300 rfl ?_
    refine x_iconst d177_301 ?_
    refine x_ishrq d177_302 (fun q53 => ?_)
    refine x_sipush d177_303 (by decide) ?_
    refine x_SE d177_306 cl177 m13_18 kd175 po175 le175 (C175 (by omega)) (fun v54 r54 z54 => ?_)
    try dsimp only at r54
    refine x_VM d177_309 cl177 m13_65 kd106 tg106 po106 le106 (by decide) (S.F.o rfl (by decide)) (C106 (by omega) (by omega) (by omega) (by omega) (by omega) K) (fun _ => rfl) (hQ _ (MR2_of (h := h9) (g := tck h 1 6) K (by show hC h + 1 ≤ hC h9 + 50; omega) (by show hS h + 6 ≤ hS h9 + 700; omega))) (fun v55 h q55 => ?_)
    obtain ⟨mP, mC, mI, mD, mB, nP, nC, nI, nD, nB, K, hc9, hs9⟩ := q55
    have S := K.1
    refine x_pop d177_312 rfl ?_
    refine x_goto (t := 598) d177_313 rfl ?_
    refine x_goto (t := 610) d177_598 rfl ?_
    exact x_ret d177_610 rt177 (hQ _ (MR2_of (h := h9) K (by omega) (by omega)))
  · refine x_tsw (t := 316) d177_28 (by omega) rfl ?_
    refine x_aload_n d177_316 rfl ?_
    refine x_iload_n d177_317 rfl ?_
    refine x_iconst d177_318 ?_
    refine x_iload_n d177_319 rfl ?_
    refine x_iconst d177_320 ?_
    refine x_ishrq d177_321 (fun q56 => ?_)
    refine x_iconst d177_322 ?_
    refine x_SE d177_323 cl177 m13_18 kd175 po175 le175 (C175 (by omega)) (fun v57 r57 z57 => ?_)
    try dsimp only at r57
    refine x_VM d177_326 cl177 m13_68 kd107 tg107 po107 le107 (by decide) (S.F.o rfl (by decide)) (C107 (by omega) (by omega) (by omega) K) (fun _ => rfl) (hQ _ (MR2_of (h := h9) (g := tck h 1 6) K (by show hC h + 1 ≤ hC h9 + 50; omega) (by show hS h + 6 ≤ hS h9 + 700; omega))) (fun v58 h q58 => ?_)
    obtain ⟨mP, mC, mI, mD, mB, nP, nC, nI, nD, nB, K, hc9, hs9⟩ := q58
    have S := K.1
    refine x_pop d177_329 rfl ?_
    refine x_goto (t := 598) d177_330 rfl ?_
    refine x_goto (t := 610) d177_598 rfl ?_
    exact x_ret d177_610 rt177 (hQ _ (MR2_of (h := h9) K (by omega) (by omega)))
  · refine x_tsw (t := 333) d177_28 (by omega) rfl ?_
    refine x_aload_n d177_333 rfl ?_
    refine x_iload_n d177_334 rfl ?_
    refine x_iload_n d177_335 rfl ?_
    refine x_iconst d177_336 ?_
    refine x_ishrq d177_337 (fun q59 => ?_)
    refine x_sipush d177_338 (by decide) ?_
    refine x_SE d177_341 cl177 m13_18 kd175 po175 le175 (C175 (by omega)) (fun v60 r60 z60 => ?_)
    try dsimp only at r60
    refine x_iload_n d177_344 rfl ?_
    refine x_iconst d177_345 ?_
    refine x_SE d177_346 cl177 m13_18 kd175 po175 le175 (C175 (by omega)) (fun v61 r61 z61 => ?_)
    try dsimp only at r61
    refine x_ifne (t := 356) d177_349 rfl (by omega) (fun c349_62 => ?_) (fun c349_62 => ?_)
    · refine x_iconst d177_356 ?_
      refine x_VM d177_357 cl177 m13_71 kd111 tg111 po111 le111 (by decide) (S.F.o rfl (by decide)) (C111 (by omega) (by omega) (by omega) K) (fun _ => rfl) (hQ _ (MR2_of (h := h9) (g := tck h 1 6) K (by show hC h + 1 ≤ hC h9 + 50; omega) (by show hS h + 6 ≤ hS h9 + 700; omega))) (fun v63 h q63 => ?_)
      obtain ⟨mP, mC, mI, mD, mB, nP, nC, nI, nD, nB, K, hc9, hs9⟩ := q63
      have S := K.1
      refine x_pop d177_360 rfl ?_
      refine x_goto (t := 598) d177_361 rfl ?_
      refine x_goto (t := 610) d177_598 rfl ?_
      exact x_ret d177_610 rt177 (hQ _ (MR2_of (h := h9) K (by omega) (by omega)))
    · refine x_iconst d177_352 ?_
      refine x_goto (t := 357) d177_353 rfl ?_
      refine x_VM d177_357 cl177 m13_71 kd111 tg111 po111 le111 (by decide) (S.F.o rfl (by decide)) (C111 (by omega) (by omega) (by omega) K) (fun _ => rfl) (hQ _ (MR2_of (h := h9) (g := tck h 1 6) K (by show hC h + 1 ≤ hC h9 + 50; omega) (by show hS h + 6 ≤ hS h9 + 700; omega))) (fun v64 h q64 => ?_)
      obtain ⟨mP, mC, mI, mD, mB, nP, nC, nI, nD, nB, K, hc9, hs9⟩ := q64
      have S := K.1
      refine x_pop d177_360 rfl ?_
      refine x_goto (t := 598) d177_361 rfl ?_
      refine x_goto (t := 610) d177_598 rfl ?_
      exact x_ret d177_610 rt177 (hQ _ (MR2_of (h := h9) K (by omega) (by omega)))
  · refine x_tsw (t := 364) d177_28 (by omega) rfl ?_
    refine x_aload_n d177_364 rfl ?_
    refine x_iload_n d177_365 rfl ?_
    refine x_iconst d177_366 ?_
    refine x_SE d177_367 cl177 m13_18 kd175 po175 le175 (C175 (by omega)) (fun v65 r65 z65 => ?_)
    try dsimp only at r65
    refine x_iload d177_370 rfl ?_
    refine x_iload_n d177_372 rfl ?_
    refine x_bipush d177_373 (by decide) ?_
    refine x_ishrq d177_375 (fun q66 => ?_)
    refine x_bipush d177_376 (by decide) ?_
    refine x_SE d177_378 cl177 m13_18 kd175 po175 le175 (C175 (by omega)) (fun v67 r67 z67 => ?_)
    try dsimp only at r67
    refine x_VM d177_381 cl177 m13_75 kd112 tg112 po112 le112 (by decide) (S.F.o rfl (by decide)) (C112 (by omega) (by omega) (by omega) K) (fun _ => rfl) (hQ _ (MR2_of (h := h9) (g := tck h 1 6) K (by show hC h + 1 ≤ hC h9 + 50; omega) (by show hS h + 6 ≤ hS h9 + 700; omega))) (fun v68 h q68 => ?_)
    obtain ⟨mP, mC, mI, mD, mB, nP, nC, nI, nD, nB, K, hc9, hs9⟩ := q68
    have S := K.1
    refine x_pop d177_384 rfl ?_
    refine x_goto (t := 598) d177_385 rfl ?_
    refine x_goto (t := 610) d177_598 rfl ?_
    exact x_ret d177_610 rt177 (hQ _ (MR2_of (h := h9) K (by omega) (by omega)))
  · refine x_tsw (t := 388) d177_28 (by omega) rfl ?_
    refine x_aload_n d177_388 rfl ?_
    refine x_iload_n d177_389 rfl ?_
    refine x_iload d177_390 rfl ?_
    refine x_iload_n d177_392 rfl ?_
    refine x_bipush d177_393 (by decide) ?_
    refine x_ishrq d177_395 (fun q69 => ?_)
    refine x_iconst d177_396 ?_
    refine x_SE d177_397 cl177 m13_18 kd175 po175 le175 (C175 (by omega)) (fun v70 r70 z70 => ?_)
    try dsimp only at r70
    refine x_VM d177_400 cl177 m13_78 kd113 tg113 po113 le113 (by decide) (S.F.o rfl (by decide)) (C113 (by omega) (by omega) (by omega) K) (fun _ => rfl) (hQ _ (MR2_of (h := h9) (g := tck h 1 6) K (by show hC h + 1 ≤ hC h9 + 50; omega) (by show hS h + 6 ≤ hS h9 + 700; omega))) (fun v71 h q71 => ?_)
    obtain ⟨mP, mC, mI, mD, mB, nP, nC, nI, nD, nB, K, hc9, hs9⟩ := q71
    have S := K.1
    refine x_pop d177_403 rfl ?_
    refine x_goto (t := 598) d177_404 rfl ?_
    refine x_goto (t := 610) d177_598 rfl ?_
    exact x_ret d177_610 rt177 (hQ _ (MR2_of (h := h9) K (by omega) (by omega)))
  · refine x_tsw (t := 407) d177_28 (by omega) rfl ?_
    refine x_aload_n d177_407 rfl ?_
    refine x_iload_n d177_408 rfl ?_
    refine x_iload_n d177_409 rfl ?_
    refine x_iconst d177_410 ?_
    refine x_ishrq d177_411 (fun q72 => ?_)
    refine x_iconst d177_412 ?_
    refine x_SE d177_413 cl177 m13_18 kd175 po175 le175 (C175 (by omega)) (fun v73 r73 z73 => ?_)
    try dsimp only at r73
    refine x_iload_n d177_416 rfl ?_
    refine x_iconst d177_417 ?_
    refine x_SE d177_418 cl177 m13_18 kd175 po175 le175 (C175 (by omega)) (fun v74 r74 z74 => ?_)
    try dsimp only at r74
    refine x_ifne (t := 428) d177_421 rfl (by omega) (fun c421_75 => ?_) (fun c421_75 => ?_)
    · refine x_iconst d177_428 ?_
      refine x_VM d177_429 cl177 m13_81 kd114 tg114 po114 le114 (by decide) (S.F.o rfl (by decide)) (C114 (by omega) (by omega) (by omega) K) (fun _ => rfl) (hQ _ (MR2_of (h := h9) (g := tck h 1 6) K (by show hC h + 1 ≤ hC h9 + 50; omega) (by show hS h + 6 ≤ hS h9 + 700; omega))) (fun v76 h q76 => ?_)
      obtain ⟨mP, mC, mI, mD, mB, nP, nC, nI, nD, nB, K, hc9, hs9⟩ := q76
      have S := K.1
      refine x_pop d177_432 rfl ?_
      refine x_goto (t := 598) d177_433 rfl ?_
      refine x_goto (t := 610) d177_598 rfl ?_
      exact x_ret d177_610 rt177 (hQ _ (MR2_of (h := h9) K (by omega) (by omega)))
    · refine x_iconst d177_424 ?_
      refine x_goto (t := 429) d177_425 rfl ?_
      refine x_VM d177_429 cl177 m13_81 kd114 tg114 po114 le114 (by decide) (S.F.o rfl (by decide)) (C114 (by omega) (by omega) (by omega) K) (fun _ => rfl) (hQ _ (MR2_of (h := h9) (g := tck h 1 6) K (by show hC h + 1 ≤ hC h9 + 50; omega) (by show hS h + 6 ≤ hS h9 + 700; omega))) (fun v77 h q77 => ?_)
      obtain ⟨mP, mC, mI, mD, mB, nP, nC, nI, nD, nB, K, hc9, hs9⟩ := q77
      have S := K.1
      refine x_pop d177_432 rfl ?_
      refine x_goto (t := 598) d177_433 rfl ?_
      refine x_goto (t := 610) d177_598 rfl ?_
      exact x_ret d177_610 rt177 (hQ _ (MR2_of (h := h9) K (by omega) (by omega)))
  · refine x_tsw (t := 436) d177_28 (by omega) rfl ?_
    refine x_aload_n d177_436 rfl ?_
    refine x_iload_n d177_437 rfl ?_
    refine x_iload_n d177_438 rfl ?_
    refine x_iconst d177_439 ?_
    refine x_ishrq d177_440 (fun q78 => ?_)
    refine x_iconst d177_441 ?_
    refine x_SE d177_442 cl177 m13_18 kd175 po175 le175 (C175 (by omega)) (fun v79 r79 z79 => ?_)
    try dsimp only at r79
    refine x_ifne (t := 452) d177_445 rfl (by omega) (fun c445_80 => ?_) (fun c445_80 => ?_)
    · refine x_iconst d177_452 ?_
      refine x_VM d177_453 cl177 m13_84 kd116 tg116 po116 le116 (by decide) (S.F.o rfl (by decide)) (C116 (by omega) (by omega) K) (fun _ => rfl) (hQ _ (MR2_of (h := h9) (g := tck h 1 6) K (by show hC h + 1 ≤ hC h9 + 50; omega) (by show hS h + 6 ≤ hS h9 + 700; omega))) (fun v81 h q81 => ?_)
      obtain ⟨mP, mC, mI, mD, mB, nP, nC, nI, nD, nB, K, hc9, hs9⟩ := q81
      have S := K.1
      refine x_pop d177_456 rfl ?_
      refine x_goto (t := 598) d177_457 rfl ?_
      refine x_goto (t := 610) d177_598 rfl ?_
      exact x_ret d177_610 rt177 (hQ _ (MR2_of (h := h9) K (by omega) (by omega)))
    · refine x_iconst d177_448 ?_
      refine x_goto (t := 453) d177_449 rfl ?_
      refine x_VM d177_453 cl177 m13_84 kd116 tg116 po116 le116 (by decide) (S.F.o rfl (by decide)) (C116 (by omega) (by omega) K) (fun _ => rfl) (hQ _ (MR2_of (h := h9) (g := tck h 1 6) K (by show hC h + 1 ≤ hC h9 + 50; omega) (by show hS h + 6 ≤ hS h9 + 700; omega))) (fun v82 h q82 => ?_)
      obtain ⟨mP, mC, mI, mD, mB, nP, nC, nI, nD, nB, K, hc9, hs9⟩ := q82
      have S := K.1
      refine x_pop d177_456 rfl ?_
      refine x_goto (t := 598) d177_457 rfl ?_
      refine x_goto (t := 610) d177_598 rfl ?_
      exact x_ret d177_610 rt177 (hQ _ (MR2_of (h := h9) K (by omega) (by omega)))
  · refine x_tsw (t := 460) d177_28 (by omega) rfl ?_
    refine x_aload_n d177_460 rfl ?_
    refine x_iload_n d177_461 rfl ?_
    refine x_iconst d177_462 ?_
    refine x_ishrq d177_463 (fun q83 => ?_)
    refine x_iconst d177_464 ?_
    refine x_SE d177_465 cl177 m13_18 kd175 po175 le175 (C175 (by omega)) (fun v84 r84 z84 => ?_)
    try dsimp only at r84
    refine x_ifne (t := 475) d177_468 rfl (by omega) (fun c468_85 => ?_) (fun c468_85 => ?_)
    · refine x_iconst d177_475 ?_
      refine x_iload_n d177_476 rfl ?_
      refine x_iload_n d177_477 rfl ?_
      refine x_iconst d177_478 ?_
      refine x_ishrq d177_479 (fun q86 => ?_)
      refine x_bipush d177_480 (by decide) ?_
      refine x_SE d177_482 cl177 m13_18 kd175 po175 le175 (C175 (by omega)) (fun v87 r87 z87 => ?_)
      try dsimp only at r87
      refine x_VM d177_485 cl177 m13_88 kd117 tg117 po117 le117 (by decide) (S.F.o rfl (by decide)) (C117 (by omega) (by omega) (by omega) K) (fun _ => rfl) (hQ _ (MR2_of (h := h9) (g := tck h 1 6) K (by show hC h + 1 ≤ hC h9 + 50; omega) (by show hS h + 6 ≤ hS h9 + 700; omega))) (fun v88 h q88 => ?_)
      obtain ⟨mP, mC, mI, mD, mB, nP, nC, nI, nD, nB, K, hc9, hs9⟩ := q88
      have S := K.1
      refine x_pop d177_488 rfl ?_
      refine x_goto (t := 598) d177_489 rfl ?_
      refine x_goto (t := 610) d177_598 rfl ?_
      exact x_ret d177_610 rt177 (hQ _ (MR2_of (h := h9) K (by omega) (by omega)))
    · refine x_iconst d177_471 ?_
      refine x_goto (t := 476) d177_472 rfl ?_
      refine x_iload_n d177_476 rfl ?_
      refine x_iload_n d177_477 rfl ?_
      refine x_iconst d177_478 ?_
      refine x_ishrq d177_479 (fun q89 => ?_)
      refine x_bipush d177_480 (by decide) ?_
      refine x_SE d177_482 cl177 m13_18 kd175 po175 le175 (C175 (by omega)) (fun v90 r90 z90 => ?_)
      try dsimp only at r90
      refine x_VM d177_485 cl177 m13_88 kd117 tg117 po117 le117 (by decide) (S.F.o rfl (by decide)) (C117 (by omega) (by omega) (by omega) K) (fun _ => rfl) (hQ _ (MR2_of (h := h9) (g := tck h 1 6) K (by show hC h + 1 ≤ hC h9 + 50; omega) (by show hS h + 6 ≤ hS h9 + 700; omega))) (fun v91 h q91 => ?_)
      obtain ⟨mP, mC, mI, mD, mB, nP, nC, nI, nD, nB, K, hc9, hs9⟩ := q91
      have S := K.1
      refine x_pop d177_488 rfl ?_
      refine x_goto (t := 598) d177_489 rfl ?_
      refine x_goto (t := 610) d177_598 rfl ?_
      exact x_ret d177_610 rt177 (hQ _ (MR2_of (h := h9) K (by omega) (by omega)))
  · refine x_tsw (t := 492) d177_28 (by omega) rfl ?_
    refine x_aload_n d177_492 rfl ?_
    refine x_iload_n d177_493 rfl ?_
    refine x_bipush d177_494 (by decide) ?_
    refine x_SE d177_496 cl177 m13_18 kd175 po175 le175 (C175 (by omega)) (fun v92 r92 z92 => ?_)
    try dsimp only at r92
    refine x_iconst d177_499 ?_
    refine x_iload_n d177_500 rfl ?_
    refine x_iconst d177_501 ?_
    refine x_ishrq d177_502 (fun q93 => ?_)
    refine x_bipush d177_503 (by decide) ?_
    refine x_SE d177_505 cl177 m13_18 kd175 po175 le175 (C175 (by omega)) (fun v94 r94 z94 => ?_)
    try dsimp only at r94
    refine x_iadd d177_508 ?_
    refine x_iconst d177_509 ?_
    refine x_iload_n d177_510 rfl ?_
    refine x_iconst d177_511 ?_
    refine x_ishrq d177_512 (fun q95 => ?_)
    refine x_sipush d177_513 (by decide) ?_
    refine x_SE d177_516 cl177 m13_18 kd175 po175 le175 (C175 (by omega)) (fun v96 r96 z96 => ?_)
    try dsimp only at r96
    refine x_iadd d177_519 ?_
    refine x_VM d177_520 cl177 m13_92 kd118 tg118 po118 le118 (by decide) (S.F.o rfl (by decide)) (C118 (by omega) (by omega) (by omega) K) (fun _ => rfl) (hQ _ (MR2_of (h := h9) (g := tck h 1 6) K (by show hC h + 1 ≤ hC h9 + 50; omega) (by show hS h + 6 ≤ hS h9 + 700; omega))) (fun v97 h q97 => ?_)
    obtain ⟨mP, mC, mI, mD, mB, nP, nC, nI, nD, nB, K, hc9, hs9⟩ := q97
    have S := K.1
    refine x_pop d177_523 rfl ?_
    refine x_goto (t := 598) d177_524 rfl ?_
    refine x_goto (t := 610) d177_598 rfl ?_
    exact x_ret d177_610 rt177 (hQ _ (MR2_of (h := h9) K (by omega) (by omega)))
  · refine x_tsw (t := 527) d177_28 (by omega) rfl ?_
    refine x_aload_n d177_527 rfl ?_
    refine x_iload d177_528 rfl ?_
    refine x_iload_n d177_530 rfl ?_
    refine x_bipush d177_531 (by decide) ?_
    refine x_SE d177_533 cl177 m13_18 kd175 po175 le175 (C175 (by omega)) (fun v98 r98 z98 => ?_)
    try dsimp only at r98
    refine x_iload_n d177_536 rfl ?_
    refine x_iconst d177_537 ?_
    refine x_ishrq d177_538 (fun q99 => ?_)
    refine x_bipush d177_539 (by decide) ?_
    refine x_SE d177_541 cl177 m13_18 kd175 po175 le175 (C175 (by omega)) (fun v100 r100 z100 => ?_)
    try dsimp only at r100
    refine x_iload_n d177_544 rfl ?_
    refine x_iconst d177_545 ?_
    refine x_ishrq d177_546 (fun q101 => ?_)
    refine x_bipush d177_547 (by decide) ?_
    refine x_SE d177_549 cl177 m13_18 kd175 po175 le175 (C175 (by omega)) (fun v102 r102 z102 => ?_)
    try dsimp only at r102
    refine x_VM d177_552 cl177 m13_95 kd119 tg119 po119 le119 (by decide) (S.F.o rfl (by decide)) (C119 (by omega) (by omega) (by omega) (by omega) K) (fun _ => rfl) (hQ _ (MR2_of (h := h9) (g := tck h 1 6) K (by show hC h + 1 ≤ hC h9 + 50; omega) (by show hS h + 6 ≤ hS h9 + 700; omega))) (fun v103 h q103 => ?_)
    obtain ⟨mP, mC, mI, mD, mB, nP, nC, nI, nD, nB, K, hc9, hs9⟩ := q103
    have S := K.1
    refine x_pop d177_555 rfl ?_
    refine x_aload_n d177_556 rfl ?_
    refine x_iload_n d177_557 rfl ?_
    refine x_iload_n d177_558 rfl ?_
    refine x_iconst d177_559 ?_
    refine x_ishrq d177_560 (fun q104 => ?_)
    refine x_bipush d177_561 (by decide) ?_
    refine x_SE d177_563 cl177 m13_18 kd175 po175 le175 (C175 (by omega)) (fun v105 r105 z105 => ?_)
    try dsimp only at r105
    refine x_bipush d177_566 (by decide) ?_
    refine x_bipush d177_568 (by decide) ?_
    refine x_iload_n d177_570 rfl ?_
    refine x_iconst d177_571 ?_
    refine x_ishrq d177_572 (fun q106 => ?_)
    refine x_bipush d177_573 (by decide) ?_
    refine x_SE d177_575 cl177 m13_18 kd175 po175 le175 (C175 (by omega)) (fun v107 r107 z107 => ?_)
    try dsimp only at r107
    refine x_VM d177_578 cl177 m13_98 kd121 tg121 po121 le121 (by decide) (S.F.o rfl (by decide)) (C121 (by omega) (by omega) (by omega) (by omega) (by omega) K) (fun _ => rfl) (hQ _ (MR2_of (h := h9) (g := tck h 1 6) K (by show hC h + 1 ≤ hC h9 + 50; omega) (by show hS h + 6 ≤ hS h9 + 700; omega))) (fun v108 h q108 => ?_)
    obtain ⟨mP, mC, mI, mD, mB, nP, nC, nI, nD, nB, K, hc9, hs9⟩ := q108
    have S := K.1
    refine x_pop d177_581 rfl ?_
    refine x_goto (t := 598) d177_582 rfl ?_
    refine x_goto (t := 610) d177_598 rfl ?_
    exact x_ret d177_610 rt177 (hQ _ (MR2_of (h := h9) K (by omega) (by omega)))
  · refine x_tsw (t := 585) d177_28 (by omega) rfl ?_
    refine x_aload_n d177_585 rfl ?_
    refine x_iconst d177_586 ?_
    refine x_iload_n d177_587 rfl ?_
    refine x_bipush d177_588 (by decide) ?_
    refine x_SE d177_590 cl177 m13_18 kd175 po175 le175 (C175 (by omega)) (fun v109 r109 z109 => ?_)
    try dsimp only at r109
    refine x_iadd d177_593 ?_
    refine x_VM d177_594 cl177 m13_101 kd122 tg122 po122 le122 (by decide) (S.F.o rfl (by decide)) (C122 (by omega) K) (fun _ => rfl) (hQ _ (MR2_of (h := h9) (g := tck h 1 6) K (by show hC h + 1 ≤ hC h9 + 50; omega) (by show hS h + 6 ≤ hS h9 + 700; omega))) (fun v110 h q110 => ?_)
    obtain ⟨mP, mC, mI, mD, mB, nP, nC, nI, nD, nB, K, hc9, hs9⟩ := q110
    have S := K.1
    refine x_pop d177_597 rfl ?_
    refine x_goto (t := 610) d177_598 rfl ?_
    exact x_ret d177_610 rt177 (hQ _ (MR2_of (h := h9) K (by omega) (by omega)))
