/-! ===== WHAT THE LAW ASKS ===== -/
theorem t_o32 {mB : Nat → Nat} {nB : Nat} {d y pc : Nat} {ls : XL} {st : List XV} {h : Hp} {P : XV → Prop} {f : Int32 → Int32 → Int32} {a b : Int} (kk : (-2147483648 ≤ o32 f a b ∧ o32 f a b < 2147483648) → TD mB nB h d y pc ls (vI (o32 f a b) :: st) P) : TD mB nB h d y pc ls (vI (o32 f a b) :: st) P := kk o32_r
theorem t_cmp {mB : Nat → Nat} {nB : Nat} {d y pc : Nat} {ls : XL} {st : List XV} {h : Hp} {P : XV → Prop} {a b : Int} (kk : (-1 ≤ cmpZ a b ∧ cmpZ a b ≤ 1) → TD mB nB h d y pc ls (vI (cmpZ a b) :: st) P) : TD mB nB h d y pc ls (vI (cmpZ a b) :: st) P := kk cmpZ_r
theorem cmpZ_self {a : Int} : cmpZ a a = 0 := by
  unfold cmpZ
  rw [if_neg (Int.lt_irrefl _), if_pos rfl]
theorem tb_on {s n : Int} (q : tb s n = 1) : o32 fand (o32 fshr s n) 1 ≠ 0 := by
  unfold tb at q
  split at q
  · cases q
  · assumption
theorem bit_zero {b k : Nat} {w i : Int} (hb : b < 2147483648) (hk : k < 32) (e1 : w = ((b : Nat) : Int)) (e2 : i = ((k : Nat) : Int)) : o32 fand (o32 fshr w i) 1 = 0 ↔ b.testBit k = false := by
  subst e1 e2
  have h := bit_nat hb hk
  unfold tb at h
  generalize hx : o32 fand (o32 fshr ((b : Nat) : Int) ((k : Nat) : Int)) 1 = X at h ⊢
  cases w9 : b.testBit k with
  | true =>
    rw [w9] at h
    by_cases q : X = 0
    · rw [if_pos q] at h; cases h
    · exact ⟨fun e => absurd e q, fun e => by cases e⟩
  | false =>
    rw [w9] at h
    by_cases q : X = 0
    · exact ⟨fun _ => rfl, fun _ => q⟩
    · rw [if_neg q] at h; cases h
theorem shr_nil {b n : Nat} (hb : b < 2 ^ n) (hn : n ≤ 12) : o32 fshr ((b : Nat) : Int) ((n : Nat) : Int) = 0 := by
  have h12 : 2 ^ n ≤ 2 ^ 12 := Nat.pow_le_pow_right (by omega) hn
  refine B32_inj o32_r (by omega) ?_
  rw [B32_shr (by omega)]
  have hm : (B32 ((b : Nat) : Int)).msb = false := by
    rw [BitVec.msb_eq_false_iff_two_mul_lt, B32_nat (by omega)]
    omega
  rw [BitVec.sshiftRight_eq_of_msb_false hm]
  apply BitVec.eq_of_toNat_eq
  rw [BitVec.toNat_ushiftRight, B32_nat (by omega), Nat.shiftRight_eq_div_pow]
  rw [Nat.div_eq_of_lt (by omega)]
  rfl
theorem sB_sM {f : Nat → Int} : ∀ k s, s < 2 ^ k → sB f k s = sM f s k := by
  intro k
  induction k with
  | zero => intro s _; rfl
  | succ k ih =>
    intro s hs
    unfold sB sM
    have hp := Nat.pow_succ (n := 2) (m := k)
    by_cases c : s < 2 ^ k
    · rw [if_pos c, ih s c, Nat.testBit_lt_two_pow c]
      simp
    · rw [if_neg c, ih (s - 2 ^ k) (by omega)]
      have hb : s.testBit k = true := by
        rw [show s = 2 ^ k + (s - 2 ^ k) by omega, Nat.testBit_two_pow_add_eq, Nat.testBit_lt_two_pow (by omega)]; rfl
      rw [hb, if_pos rfl]
      have e := sM_congr (f := f) (g := f) (s := s) k (fun _ _ _ => rfl)
      have e2 : sM f (s - 2 ^ k) k = sM f s k := by
        have key : ∀ m, m ≤ k → sM f (s - 2 ^ k) m = sM f s m := by
          intro m
          induction m with
          | zero => intro _; rfl
          | succ m ihm =>
            intro hm
            unfold sM
            rw [ihm (by omega)]
            have : (s - 2 ^ k).testBit m = s.testBit m := by
              conv => rhs; rw [show s = 2 ^ k + (s - 2 ^ k) by omega]
              rw [Nat.testBit_two_pow_add_gt (by omega)]
            rw [this]
        exact key k (Nat.le_refl k)
      rw [e2]
theorem sM_up (f : Nat → Int) (s : Nat) (i : Int) (q : 0 ≤ i) : sM f s (i + 1).toNat = sM f s i.toNat + (if s.testBit i.toNat then f i.toNat else 0) := by
  rw [show (i + 1).toNat = i.toNat + 1 by omega]; rfl
theorem C178a {d : Nat} {h : Hp} {Q : XV → Prop} {t pn fr v5 v6 i w8 w9 : Int} {mP mC mI mD mB : Nat → Nat} {nP nC nI nD nB : Nat} (S : Hv h mP mC mI mD mB nP nC nI nD nB) (qi : 0 ≤ i ∧ i < nP) (hcp : CPos (plc h (mP i.toNat)) w9) (kk : TD mB nB h (d + 12) 178 135 [some (vR (some 2)), some (vL t), none, some (vI pn), some (vI fr), some (vI v5), some (vI v6), some (vI i), some (vI w8), some (vI w9)] [] Q) : TD mB nB h (d + 12) 178 106 [some (vR (some 2)), some (vL t), none, some (vI pn), some (vI fr), some (vI v5), some (vI v6), some (vI i), some (vI w8), some (vI w9)] [] Q := by
  have V := Vis_DV
  have hnp := S.np
  have hP := Ls.mem S.lp i.toNat (by omega)
  have hshr := hP.sheet
  have hplr : 0 ≤ plc h (mP i.toNat) ∧ plc h (mP i.toNat) ≤ 16777215 := (S.sh (hI h (mP i.toNat) 3).toNat (by omega)).places _
  have hce := CPos_ge hplr hcp
  have hcr := hcp.1
  refine t_s (fun g Q => x_aload_n d178_106 rfl) ?_
  refine t_s (fun g Q => x_iload d178_107 rfl) ?_
  refine t_s (fun g Q => x_iconst d178_109) ?_
  refine t_VE d178_110 cl178 m13_127 kd129 tg129 po129 le129 (by decide) (S.F.o rfl (by decide)) (C129 V S (by omega) (by omega)) (fun v1 r1 z1 => ?_)
  try dsimp only at r1
  have hd113 := r1.2.2.2.1 rfl
  refine t_s (fun g Q => x_iconst d178_113) ?_
  refine t_b (fun g Q => x_icne (t := 121) d178_114 rfl (by omega)) (by omega) (by omega) (fun c114_2 => ?_) (fun c114_2 => ?_)
  · refine t_s (fun g Q => x_iconst d178_121) ?_
    refine t_s (fun g Q => x_iload d178_122 rfl) ?_
    refine t_b (fun g Q => x_iflt (t := 131) d178_124 rfl (by omega)) (by omega) (by omega) (fun c124_3 => ?_) (fun c124_3 => ?_)
    · refine t_s (fun g Q => x_iconst d178_131) ?_
      refine t_b (fun g Q => x_icne (t := 177) d178_132 rfl (by omega)) (by omega) (by omega) (fun c132_4 => ?_) (fun c132_4 => ?_)
      · exfalso; omega
      · exact kk
    · refine t_s (fun g Q => x_iconst d178_127) ?_
      refine t_s (fun g Q => x_goto (t := 132) d178_128 rfl) ?_
      refine t_b (fun g Q => x_icne (t := 177) d178_132 rfl (by omega)) (by omega) (by omega) (fun c132_5 => ?_) (fun c132_5 => ?_)
      · exfalso; omega
      · exact kk
  · refine t_s (fun g Q => x_iconst d178_117) ?_
    refine t_s (fun g Q => x_goto (t := 122) d178_118 rfl) ?_
    refine t_s (fun g Q => x_iload d178_122 rfl) ?_
    refine t_b (fun g Q => x_iflt (t := 131) d178_124 rfl (by omega)) (by omega) (by omega) (fun c124_6 => ?_) (fun c124_6 => ?_)
    · refine t_s (fun g Q => x_iconst d178_131) ?_
      refine t_b (fun g Q => x_icne (t := 177) d178_132 rfl (by omega)) (by omega) (by omega) (fun c132_7 => ?_) (fun c132_7 => ?_)
      · exfalso; omega
      · exact kk
    · refine t_s (fun g Q => x_iconst d178_127) ?_
      refine t_s (fun g Q => x_goto (t := 132) d178_128 rfl) ?_
      refine t_b (fun g Q => x_icne (t := 177) d178_132 rfl (by omega)) (by omega) (by omega) (fun c132_8 => ?_) (fun c132_8 => ?_)
      · exfalso; omega
      · exact kk
theorem C178b {d : Nat} {h : Hp} {Q : XV → Prop} {t pn fr v5 v6 i w8 w9 : Int} {mP mC mI mD mB : Nat → Nat} {nP nC nI nD nB : Nat} (S : Hv h mP mC mI mD mB nP nC nI nD nB) (qi : 0 ≤ i ∧ i < nP) (hsh : w8 = hI h (mP i.toNat) 3) (SI : Si h mP nP) (kk : TD mB nB h (d + 12) 178 168 [some (vR (some 2)), some (vL t), none, some (vI pn), some (vI fr), some (vI v5), some (vI v6), some (vI i), some (vI w8), some (vI w9)] [] Q) : TD mB nB h (d + 12) 178 135 [some (vR (some 2)), some (vL t), none, some (vI pn), some (vI fr), some (vI v5), some (vI v6), some (vI i), some (vI w8), some (vI w9)] [] Q := by
  have V := Vis_DV
  have hnp := S.np
  have hP := Ls.mem S.lp i.toNat (by omega)
  have hshr := hP.sheet
  have hplr : 0 ≤ plc h (mP i.toNat) ∧ plc h (mP i.toNat) ≤ 16777215 := (S.sh (hI h (mP i.toNat) 3).toNat (by omega)).places _
  have hpz : plc h (mP i.toNat) = 0 → pc32 (plc h (mP i.toNat)) = 0 := fun e9 => by rw [e9]; exact pc32_zero
  have hpp : plc h (mP i.toNat) ≠ 0 → 1 ≤ pc32 (plc h (mP i.toNat)) := fun e9 => pc32_pos (by omega)
  have hSI := (SI i.toNat (by omega)).2.1
  refine t_s (fun g Q => x_aload_n d178_135 rfl) ?_
  refine t_s (fun g Q => x_iload d178_136 rfl) ?_
  refine t_s (fun g Q => x_iconst d178_138) ?_
  refine t_VE d178_139 cl178 m13_121 kd127 tg127 po127 le127 (by decide) (S.F.o rfl (by decide)) (C127 V S (by omega) (by omega)) (fun v1 r1 z1 => ?_)
  try dsimp only at r1
  have hpl142 := r1.2.1 rfl
  rw [hsh] at hpl142
  refine t_b (fun g Q => x_ifne (t := 149) d178_142 rfl (by omega)) (by omega) (by omega) (fun c142_2 => ?_) (fun c142_2 => ?_)
  · refine t_s (fun g Q => x_iconst d178_149) ?_
    refine t_s (fun g Q => x_aload_n d178_150 rfl) ?_
    refine t_s (fun g Q => x_iload d178_151 rfl) ?_
    refine t_s (fun g Q => x_iconst d178_153) ?_
    refine t_VE d178_154 cl178 m13_127 kd129 tg129 po129 le129 (by decide) (S.F.o rfl (by decide)) (C129 V S (by omega) (by omega)) (fun v3 r3 z3 => ?_)
    try dsimp only at r3
    have hd157 := r3.2.2.2.1 rfl
    refine t_b (fun g Q => x_ifne (t := 164) d178_157 rfl (by omega)) (by omega) (by omega) (fun c157_4 => ?_) (fun c157_4 => ?_)
    · refine t_s (fun g Q => x_iconst d178_164) ?_
      refine t_b (fun g Q => x_icne (t := 177) d178_165 rfl (by omega)) (by omega) (by omega) (fun c165_5 => ?_) (fun c165_5 => ?_)
      · exfalso; omega
      · exact kk
    · refine t_s (fun g Q => x_iconst d178_160) ?_
      refine t_s (fun g Q => x_goto (t := 165) d178_161 rfl) ?_
      refine t_b (fun g Q => x_icne (t := 177) d178_165 rfl (by omega)) (by omega) (by omega) (fun c165_6 => ?_) (fun c165_6 => ?_)
      · exfalso; omega
      · exact kk
  · refine t_s (fun g Q => x_iconst d178_145) ?_
    refine t_s (fun g Q => x_goto (t := 150) d178_146 rfl) ?_
    refine t_s (fun g Q => x_aload_n d178_150 rfl) ?_
    refine t_s (fun g Q => x_iload d178_151 rfl) ?_
    refine t_s (fun g Q => x_iconst d178_153) ?_
    refine t_VE d178_154 cl178 m13_127 kd129 tg129 po129 le129 (by decide) (S.F.o rfl (by decide)) (C129 V S (by omega) (by omega)) (fun v7 r7 z7 => ?_)
    try dsimp only at r7
    have hd157 := r7.2.2.2.1 rfl
    refine t_b (fun g Q => x_ifne (t := 164) d178_157 rfl (by omega)) (by omega) (by omega) (fun c157_8 => ?_) (fun c157_8 => ?_)
    · refine t_s (fun g Q => x_iconst d178_164) ?_
      refine t_b (fun g Q => x_icne (t := 177) d178_165 rfl (by omega)) (by omega) (by omega) (fun c165_9 => ?_) (fun c165_9 => ?_)
      · exfalso; omega
      · exact kk
    · refine t_s (fun g Q => x_iconst d178_160) ?_
      refine t_s (fun g Q => x_goto (t := 165) d178_161 rfl) ?_
      refine t_b (fun g Q => x_icne (t := 177) d178_165 rfl (by omega)) (by omega) (by omega) (fun c165_10 => ?_) (fun c165_10 => ?_)
      · exfalso; omega
      · exact kk
theorem C178c {d : Nat} {h : Hp} {Q : XV → Prop} {t pn fr v5 v6 i w8 w9 : Int} {mP mC mI mD mB : Nat → Nat} {nP nC nI nD nB : Nat} (S : Hv h mP mC mI mD mB nP nC nI nD nB) (qi : 0 ≤ i ∧ i < nP)  (kk : TD mB nB h (d + 12) 178 179 [some (vR (some 2)), some (vL t), none, some (vI pn), some (vI fr), some (vI v5), some (vI v6), some (vI i), some (vI w8), some (vI w9)] [] Q) : TD mB nB h (d + 12) 178 168 [some (vR (some 2)), some (vL t), none, some (vI pn), some (vI fr), some (vI v5), some (vI v6), some (vI i), some (vI w8), some (vI w9)] [] Q := by
  have V := Vis_DV
  have hnp := S.np
  refine t_s (fun g Q => x_aload_n d178_168 rfl) ?_
  refine t_s (fun g Q => x_iload d178_169 rfl) ?_
  refine t_VE d178_171 cl178 m13_130 kd138 tg138 po138 le138 (by decide) (S.F.o rfl (by decide)) (C138 V S (by omega)) (fun v1 r1 z1 => ?_)
  try dsimp only at r1
  refine t_b (fun g Q => x_ifge (t := 179) d178_174 rfl (by omega)) (by omega) (by omega) (fun c174_2 => ?_) (fun c174_2 => ?_)
  · exact kk
  · exfalso; omega
theorem C178d {d : Nat} {h : Hp} {Q : XV → Prop} {t pn fr v5 v6 i w8 w9 : Int} {mP mC mI mD mB : Nat → Nat} {nP nC nI nD nB : Nat} (S : Hv h mP mC mI mD mB nP nC nI nD nB) (qi : 0 ≤ i ∧ i < nP) (hsh : w8 = hI h (mP i.toNat) 3) (hcp : CPos (plc h (mP i.toNat)) w9) (SI : Si h mP nP) (kk : TD mB nB h (d + 12) 178 201 [some (vR (some 2)), some (vL t), none, some (vI pn), some (vI fr), some (vI v5), some (vI v6), some (vI i), some (vI w8), some (vI w9)] [] Q) : TD mB nB h (d + 12) 178 179 [some (vR (some 2)), some (vL t), none, some (vI pn), some (vI fr), some (vI v5), some (vI v6), some (vI i), some (vI w8), some (vI w9)] [] Q := by
  have V := Vis_DV
  have hnp := S.np
  have hP := Ls.mem S.lp i.toNat (by omega)
  have hshr := hP.sheet
  have hplr : 0 ≤ plc h (mP i.toNat) ∧ plc h (mP i.toNat) ≤ 16777215 := (S.sh (hI h (mP i.toNat) 3).toNat (by omega)).places _
  have hSI := (SI i.toNat (by omega)).2.2
  have hcr := hcp.1
  refine t_s (fun g Q => x_iload d178_179 rfl) ?_
  refine t_b (fun g Q => x_iflt (t := 201) d178_181 rfl (by omega)) (by omega) (by omega) (fun c181_1 => ?_) (fun c181_1 => ?_)
  · exact kk
  · refine t_s (fun g Q => x_aload_n d178_184 rfl) ?_
    refine t_s (fun g Q => x_iload d178_185 rfl) ?_
    refine t_s (fun g Q => x_iconst d178_187) ?_
    refine t_VE d178_188 cl178 m13_121 kd127 tg127 po127 le127 (by decide) (S.F.o rfl (by decide)) (C127 V S (by omega) (by omega)) (fun v2 r2 z2 => ?_)
    try dsimp only at r2
    have hcv := r2.2.2.1 rfl; rw [hsh] at hcv
    have hct := CPos_tb hcp (by omega)
    have hon := tb_on (hSI w9 (by omega) (by omega) hct.1 hct.2.1)
    rw [← hcv] at hon
    refine t_s (fun g Q => x_iload d178_191 rfl) ?_
    refine t_s (fun g Q => x_ishr d178_193) ?_
    refine t_o32 (fun q3 => ?_)
    refine t_s (fun g Q => x_iconst d178_194) ?_
    refine t_s (fun g Q => x_iand d178_195) ?_
    refine t_o32 (fun q4 => ?_)
    refine t_b (fun g Q => x_ifne (t := 201) d178_196 rfl (by omega)) (by omega) (by omega) (fun c196_5 => ?_) (fun c196_5 => ?_)
    · exact kk
    · exfalso; omega
theorem C178e {d : Nat} {h : Hp} {Q : XV → Prop} {t pn fr v5 v6 i w8 w9 : Int} {mP mC mI mD mB : Nat → Nat} {nP nC nI nD nB : Nat} (S : Hv h mP mC mI mD mB nP nC nI nD nB) (qi : 0 ≤ i ∧ i < nP)  (kk : TD mB nB h (d + 12) 178 221 [some (vR (some 2)), some (vL t), none, some (vI pn), some (vI fr), some (vI v5), some (vI v6), some (vI i), some (vI w8), some (vI w9)] [] Q) : TD mB nB h (d + 12) 178 201 [some (vR (some 2)), some (vL t), none, some (vI pn), some (vI fr), some (vI v5), some (vI v6), some (vI i), some (vI w8), some (vI w9)] [] Q := by
  have V := Vis_DV
  have hnp := S.np
  have hP := Ls.mem S.lp i.toNat (by omega)
  obtain ⟨b7, hb7, q7⟩ := C137 (D := DV) (d := 0) Vis_DV S hP
  refine t_s (fun g Q => x_aload_n d178_201 rfl) ?_
  refine t_s (fun g Q => x_iload d178_202 rfl) ?_
  refine t_s (fun g Q => x_iconst d178_204) ?_
  refine t_VE d178_205 cl178 m13_133 kd136 tg136 po136 le136 (by decide) (S.F.o rfl (by decide)) (C136 V S (by omega) (by omega)) (fun v1 r1 z1 => ?_)
  try dsimp only at r1
  have hnr := r1.2.2 b7 ⟨_, q7⟩ rfl
  refine t_s (fun g Q => x_iconst d178_208) ?_
  refine t_b (fun g Q => x_icne (t := 221) d178_209 rfl (by omega)) (by omega) (by omega) (fun c209_2 => ?_) (fun c209_2 => ?_)
  · exact kk
  · refine t_s (fun g Q => x_aload_n d178_212 rfl) ?_
    refine t_s (fun g Q => x_iload d178_213 rfl) ?_
    refine t_VE d178_215 cl178 m13_130 kd138 tg138 po138 le138 (by decide) (S.F.o rfl (by decide)) (C138 V S (by omega)) (fun v3 r3 z3 => ?_)
    try dsimp only at r3
    have hvz := r3.2.2.1 b7 ⟨_, q7⟩
    refine t_b (fun g Q => x_ifgt (t := 233) d178_218 rfl (by omega)) (by omega) (by omega) (fun c218_4 => ?_) (fun c218_4 => ?_)
    · exfalso; omega
    · exact kk
theorem C178f {d : Nat} {h : Hp} {Q : XV → Prop} {t pn fr v5 v6 i w8 w9 : Int} {mP mC mI mD mB : Nat → Nat} {nP nC nI nD nB : Nat} (S : Hv h mP mC mI mD mB nP nC nI nD nB) (qi : 0 ≤ i ∧ i < nP)  (kk : TD mB nB h (d + 12) 178 235 [some (vR (some 2)), some (vL t), none, some (vI pn), some (vI fr), some (vI v5), some (vI v6), some (vI i), some (vI w8), some (vI w9)] [] Q) : TD mB nB h (d + 12) 178 221 [some (vR (some 2)), some (vL t), none, some (vI pn), some (vI fr), some (vI v5), some (vI v6), some (vI i), some (vI w8), some (vI w9)] [] Q := by
  have V := Vis_DV
  have hnp := S.np
  refine t_s (fun g Q => x_aload_n d178_221 rfl) ?_
  refine t_s (fun g Q => x_iload d178_222 rfl) ?_
  refine t_s (fun g Q => x_iconst d178_224) ?_
  refine t_VE d178_225 cl178 m13_136 kd135 tg135 po135 le135 (by decide) (S.F.o rfl (by decide)) (C135 V S (by omega) (by omega)) (fun v1 r1 z1 => ?_)
  try dsimp only at r1
  refine t_s (fun g Q => x_bipush d178_228 (by decide)) ?_
  refine t_b (fun g Q => x_icge (t := 235) d178_230 rfl (by omega)) (by omega) (by omega) (fun c230_2 => ?_) (fun c230_2 => ?_)
  · exact kk
  · exfalso; omega
