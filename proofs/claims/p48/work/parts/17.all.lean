theorem call_facts {D : Nat → Nat → Bool} {y pc nx z n : Nat} {i : Instr} {ls : XL} {st as r : List XV} {h : Hp} (hcs : clS n st) (hs : stp D y pc nx i ls st h = some (.inr (.inr (z, as, r)))) : z ≠ 193 ∧ clS n as := by
  rcases stp_cases hs with ⟨st2, e1, e2⟩ | ⟨ls2, st2, e1, e2⟩ | ⟨t, st2, e1, e2⟩ | ⟨st2, h2, e1, e2⟩ | ⟨-, -, -, e2⟩ | ⟨x, -, -, -, e2⟩ | ⟨x, -, -, -, e2⟩ | ⟨x, -, -, -, e2⟩ | ⟨k, e9, -, -, -, e2⟩ | ⟨k, z2, as2, r2, v, h2, -, -, e3, -, -, e4, e2⟩ | ⟨k, z2, as2, r2, rfl, q1, q2, q3, q4, q5, e2⟩ | ⟨k, z2, a, as2, r2, rfl, q1, q2, q3, q4, q5, q6, q7, e2⟩ | ⟨k, a, r2, -, -, e3, -, e2⟩ | ⟨k, z2, a, as2, r2, rfl, q1, q2, q3, q4, q5, q6, q7, e2⟩ <;> cases e2
  · exact ⟨mthL193 q1, (popN_cl hcs q2).1⟩
  · exact ⟨mthL193 q1, (popN_cl hcs q2).1⟩
  · exact ⟨mthL193 q1, (popN_cl hcs q2).1⟩
theorem okH_nat {E : XE} {D : Nat → Nat → Bool} {z : Nat} {as : List XV} {v : Option XV} {h h' : Hp} (hO : okH E h) (hs : nat D z as h = some (v, h')) : okH E h' := by
  obtain ⟨o1, o2, o3, ⟨o4, o4b⟩, o5, o6, o7⟩ := id hO
  unfold nat at hs
  split at hs
  · rename_i a b n
    split at hs
    · rename_i hq
      obtain ⟨ha2, ha, hb2, hbn, -⟩ := hq
      cases hs
      refine ⟨o1, o2, o3, ⟨o4, o4b⟩, o5, o6, fun j hj => ?_⟩
      show Int32.ofInt (ur (hI h) b (fun j => if j < n.toNat then hI h a j else hI h b j) 1 j) = eX E j
      simp only [ur]; rw [if_neg (by omega)]; exact o7 j hj
    · cases hs
  · rename_i a n
    split at hs
    · rename_i hq
      obtain ⟨ha2, ha, -, hn0, hn1, -⟩ := hq
      cases hs
      have hoa := okH_alc (t := 103) (len := n.toNat) (sl := n.toNat) (by omega) hO
      obtain ⟨p1, p2, p3⟩ := hoa
      refine ⟨p1, fun x j b hx9 hr9 => ?_, p3⟩
      have hr9 : ur (hR (alc h 103 n.toNat n.toNat)) (hN h) (fun j => if j < hL h a then hR h a j else none) x j = some b := hr9
      simp only [ur] at hr9
      show b < hN h + 1
      by_cases hxn : x = hN h
      · rw [if_pos hxn] at hr9
        by_cases hj : j < hL h a
        · rw [if_pos hj] at hr9
          have := o2 a j b ha hr9
          omega
        · rw [if_neg hj] at hr9; cases hr9
      · rw [if_neg hxn] at hr9
        exact p2 x j b hx9 hr9
    · cases hs
  · split at hs <;> cases hs; exact hO
  · split at hs <;> cases hs; exact hO
  · split at hs <;> cases hs; exact hO
  · cases hs
set_option maxHeartbeats 4000000 in
theorem okH_hop {E : XE} {D : Nat → Nat → Bool} {y c : Nat} {i : Instr} {st st' : List XV} {h h' : Hp} (hO : okH E h) (hc : clS (hN h) st) (hs : hop D y c i st h = some (st', h')) : okH E h' := by
  obtain ⟨o1, o2, o3, ⟨o4, o4b⟩, o5, o6, o7⟩ := id hO
  cases i <;> simp only [hop] at hs <;> first
    | (cases hs; done)
    | skip
  case putfield k =>
    split at hs
    · rename_i t j kd fin hf
      obtain ⟨C, T, N, ref, hxc, hj, hlk, hsm, hfin, hdecl, hkd⟩ := fld_w hf
      obtain ⟨hin, ht13, -⟩ := cls_w t C T N hxc
      have h2a : ∀ a, hT h a = t → 2 ≤ a := fun a hta => by
        rcases Nat.lt_or_ge a 2 with q | q
        · have : a = 0 ∨ a = 1 := by omega
          rcases this with rfl | rfl <;> omega
        · exact q
      split at hs <;> first
        | (cases hs; done)
        | (split at hs
           · rename_i hq
             cases hs
             first
              | exact okH_sI (h2a _ hq.2.1) hO
              | exact okH_sR (fun b hb9 => by have := (clS_cons.mp hc).1; rw [hb9] at this; exact this) hO
           · cases hs)
    · cases hs
  case aastore =>
    split at hs
    · split at hs
      · cases hs; exact okH_sR (fun b hb9 => by cases hb9) hO
      · cases hs
    · split at hs
      · rename_i hq
        cases hs
        exact okH_sR (fun b hb9 => by cases hb9; exact hq.2.2.2.2.2.1) hO
      · cases hs
    · cases hs
  case new k =>
    split at hs
    · cases hs; exact okH_alc (by omega) hO
    · cases hs
  case newarray t =>
    split at hs
    · split at hs
      · rename_i hq; cases hs; exact okH_alc (by omega) hO
      · cases hs
    · cases hs
  case anewarray k =>
    split at hs
    · split at hs
      · split at hs
        · rename_i hq; cases hs; exact okH_alc (by omega) hO
        · cases hs
      · cases hs
    · cases hs
  all_goals
    (repeat' split at hs) <;> first
      | (cases hs; done)
      | (cases hs; exact hO)
      | (rename_i hq; cases hs; exact okH_sI hq.1 hO)
theorem okH_stp {E : XE} {D : Nat → Nat → Bool} {y pc nx pc' : Nat} {i : Instr} {ls ls' : XL} {st st' : List XV} {h h' : Hp} (hO : okH E h) (hcs : clS (hN h) st) (hs : stp D y pc nx i ls st h = some (.inl (pc', ls', st', h'))) : okH E h' := by
  rcases stp_cases hs with ⟨st2, e1, e2⟩ | ⟨ls2, st2, e1, e2⟩ | ⟨t, st2, e1, e2⟩ | ⟨st2, h2, e1, e2⟩ | ⟨-, -, -, e2⟩ | ⟨x, -, -, -, e2⟩ | ⟨x, -, -, -, e2⟩ | ⟨x, -, -, -, e2⟩ | ⟨k, e9, -, -, -, e2⟩ | ⟨k, z, as, r, v, h2, -, -, e3, -, -, e4, e2⟩ | ⟨k, z, as, r, -, -, -, -, -, -, e2⟩ | ⟨k, z, a, as, r, -, -, -, -, -, -, -, -, e2⟩ | ⟨k, a, r, -, -, e3, -, e2⟩ | ⟨k, z, a, as, r, -, -, -, -, -, -, -, -, e2⟩ <;> cases e2 <;> first
    | exact hO
    | exact okH_hop hO hcs e1
    | exact okH_nat hO e4
/-- our cells stay in order, and what is answered lies within them -/
theorem exec_okv {E : XE} {D : Nat → Nat → Bool} : ∀ {n d y pc : Nat} {ls : XL} {st : List XV} {h : Hp} {o : XO} {h' : Hp}, okH E h → clL (hN h) ls → clS (hN h) st → exec D n d y pc ls st h = some (o, h') → okH E h' ∧ ∀ w, o = .inl (some w) → clV (hN h') w := by
  intro n
  induction n with
  | zero => intro d y pc ls st h o h' _ _ _ e; simp [exec] at e
  | succ n ih =>
    intro d y pc ls st h o h' hO hcl hcs e
    rw [exec] at e
    split at e
    · cases e
    · split at e
      · cases e
      · rename_i q
        obtain ⟨-, k1, k2⟩ := loc_cl hO hcl hcs q
        exact ih (okH_stp hO hcs q) k1 k2 e
      · rename_i q
        cases e
        rcases stp_cases q with ⟨st2, e1, e2⟩ | ⟨ls2, st2, e1, e2⟩ | ⟨t, st2, e1, e2⟩ | ⟨st2, h2, e1, e2⟩ | ⟨-, -, -, e2⟩ | ⟨x, -, -, -, e2⟩ | ⟨x, -, -, -, e2⟩ | ⟨x, -, rfl, -, e2⟩ | ⟨k, e9, -, -, -, e2⟩ | ⟨k, z, as, r, v, h2, -, -, e3, -, -, e4, e2⟩ | ⟨k, z, as, r, -, -, -, -, -, -, e2⟩ | ⟨k, z, a, as, r, -, -, -, -, -, -, -, -, e2⟩ | ⟨k, a, r, -, -, e3, -, e2⟩ | ⟨k, z, a, as, r, -, -, -, -, -, -, -, -, e2⟩ <;> cases e2
        · exact ⟨hO, fun w hw => by cases hw⟩
        · refine ⟨hO, fun w hw => ?_⟩
          cases hw; exact True.intro
        · refine ⟨hO, fun w hw => ?_⟩
          cases hw; exact True.intro
        · refine ⟨hO, fun w hw => ?_⟩
          cases hw; exact (clS_cons.mp hcs).1
        · exact ⟨hO, fun w hw => by cases hw⟩
      · rename_i q
        split at e
        · cases e
        · split at e
          · obtain ⟨-, kca⟩ := call_facts hcs q
            split at e
            · cases e
            · rename_i v h1 q1
              obtain ⟨g1, g2⟩ := ih hO (clL_ent kca) clS_nil q1
              have hle := exec_leH q1
              have hcr : ∃ r0, clS (hN h) r0 ∧ True := ⟨[], clS_nil, trivial⟩
              refine ih g1 (clL_mono hle.1 hcl) (fun w hw => ?_) e
              rcases List.mem_append.mp hw with hw | hw
              · cases v with
                | none => cases hw
                | some v9 =>
                  have : w = v9 := by simpa using hw
                  subst this; exact g2 _ rfl
              · refine clV_mono hle.1 ?_
                rcases stp_cases q with ⟨st2, e1, e2⟩ | ⟨ls2, st2, e1, e2⟩ | ⟨t, st2, e1, e2⟩ | ⟨st2, h2, e1, e2⟩ | ⟨-, -, -, e2⟩ | ⟨x, -, -, -, e2⟩ | ⟨x, -, -, -, e2⟩ | ⟨x, -, -, -, e2⟩ | ⟨k, e9, -, -, -, e2⟩ | ⟨k, z, as, r, v, h2, -, -, e3, -, -, e4, e2⟩ | ⟨k, z, as, r, -, -, q2, -, -, -, e2⟩ | ⟨k, z, a, as, r, -, -, q2, -, -, -, -, -, e2⟩ | ⟨k, a, r, -, -, e3, -, e2⟩ | ⟨k, z, a, as, r, -, -, q2, -, -, -, -, -, e2⟩ <;> cases e2
                · exact (popN_cl hcs q2).2.1 w hw
                · exact (popN_cl hcs q2).2.1 w hw
                · exact (popN_cl hcs q2).2.1 w hw
            · rename_i x h1 q1
              obtain ⟨g1, g2⟩ := ih hO (clL_ent kca) clS_nil q1
              split at e <;> cases e
              · exact ⟨g1, fun w hw => by cases hw⟩
              · exact ⟨g1, fun w hw => by cases hw⟩
          · cases e
theorem exec_ok {E : XE} {D : Nat → Nat → Bool} {n d y pc : Nat} {ls : XL} {st : List XV} {h : Hp} {o : XO} {h' : Hp} (a : okH E h) (b : clL (hN h) ls) (c : clS (hN h) st) (k : exec D n d y pc ls st h = some (o, h')) : okH E h' := (exec_okv a b c k).1
theorem exec_val {E : XE} {D : Nat → Nat → Bool} {n d y pc : Nat} {ls : XL} {st : List XV} {h : Hp} {v : Option XV} {h' : Hp} (a : okH E h) (b : clL (hN h) ls) (c : clS (hN h) st) (k : exec D n d y pc ls st h = some (.inl v, h')) : ∀ w, v = some w → clV (hN h') w := fun w hw => (exec_okv a b c k).2 w (by rw [hw])
set_option maxHeartbeats 8000000 in
theorem sim (l : Launch) (hl : l.stackTraces = false) (D : Nat → Nat → Bool) : ∀ n, SIMn l D n := by
  intro n
  induction n with
  | zero => intro d y pc ls st h o h' hex; simp [exec] at hex
  | succ n ih =>
    intro d y pc ls st h o h' hex E ad0 h0 ad lsR p e R s m args below meth c H locs cells slots mc ms hCT hG hLR hcl hcs hag hc1 hc2 hmc hms
    refine ⟨exec_leH hex, ?_⟩
    have hO := hG.2.2.2.1
    rw [exec] at hex
    cases hd : cod y pc with
    | none => rw [hd] at hex; cases hex
    | some q =>
      obtain ⟨i, nx⟩ := q
      rw [hd] at hex
      simp only at hex
      cases hs : stp D y pc nx i ls st h with
      | none => rw [hs] at hex; cases hex
      | some q =>
        rw [hs] at hex
        rcases q with ⟨pc', ls', st', h1⟩ | r | ⟨z, as, r⟩
        · simp only at hex
          have l1 := stp_le hs
          have l2 : leH h1 h' := exec_leH hex
          obtain ⟨hN1, hC1, hS1⟩ := l1
          obtain ⟨hN2, hC2, hS2⟩ := l2
          obtain ⟨-, hcl', hcs'⟩ := loc_cl hO hcl hcs hs
          refine sim_loc hCT hd hs hG hLR hcl hcs (by omega) (by omega) (fun ad' lsR' H' locs' ha hG' hLR' => ?_)
          exact (ih d y pc' ls' st' h1 o h' hex E ad0 h0 ad' lsR' p e R s m args below meth c H' locs' _ _ mc ms hCT hG' hLR' hcl' hcs' ⟨by omega, fun a ha9 => by rw [ha a (by omega)]; exact hag.2 a ha9⟩ (by omega) (by omega) hmc hms).2
        · simp only [Option.some.injEq] at hex
          subst hex
          exact sim_fin hl hCT hd hs hG hLR.1.1 hag hc1 hc2 hmc hms
        · simp only at hex
          cases d with
          | zero => cases hex
          | succ d =>
            simp only at hex
            split at hex
            · rename_i hed
              cases hx9 : exec D n d z 0 (ent z as) [] h with
              | none => rw [hx9] at hex; cases hex
              | some q =>
                obtain ⟨o1, h1⟩ := q
                rw [hx9] at hex
                have l1 : leH h h1 := exec_leH hx9
                obtain ⟨hN1, hC1, hS1⟩ := l1
                have l2 : leH h1 h' := by
                  cases o1 with
                  | inl v => exact exec_leH hex
                  | inr e9 =>
                    simp only at hex
                    split at hex <;> cases hex <;> exact leH.rfl
                obtain ⟨hN2, hC2, hS2⟩ := l2
                obtain ⟨hx, hb, hml, hown, hts, hcx, hrt, hlocks, hini, hfr, hlo, htab⟩ := id hCT
                obtain ⟨k193, kca⟩ := call_facts hcs hs
                obtain ⟨rfl, h193, h900, hM, hca, hcr, a9, hrun⟩ := run_call (o1 := o1) (h1 := h1) (cells := cells) (slots := slots) (l := l) (e := e) (below := below) hCT hd hs hG hLR.1.1 hcs (fun hM => RC_of ih hM k193 hed hx9 hO hG.2.2.2.2.1 hG.2.2.2.2.2 kca) (by omega) (by omega)
                intro T hT X
                have hS0 := hG.2.2.1
                have keep : ∀ (st₀ t T' : State) (L : List Loc), st₀.heap = H → T'.heap = t.heap → (∀ q ∈ L, eN E q.base) → va_F (eN E) st₀ t → va_S (eN E) s.heap T'.heap (locs ++ L) := fun st₀ t T' L g0 e9 hLL q6 => by
                  refine ⟨?_, fun q hq hn => ?_, fun z hz => ?_⟩
                  · rw [e9]; exact Nat.le_trans hS0.1 (by rw [← g0]; exact q6.1)
                  · rw [e9, q6.2 q (by rw [g0]; exact Nat.lt_of_lt_of_le hq hS0.1) hn, g0]; exact hS0.2.1 q hq hn
                  · rcases List.mem_append.mp hz with hz | hz
                    · exact hS0.2.2 z hz
                    · exact hLL z hz
                have ok1 : okH E h1 := exec_ok hO (clL_ent kca) clS_nil hx9
                have h2N : 2 ≤ hN h := hO.1
                rcases hrun T hT X with ⟨v, st₀, t, T', L, g0, X', hLL, e9, -, ⟨w9, q1, ad', q2, q3, q4, q5, q6⟩, st9⟩ | ⟨q, st₀, t, T', L, EX, ce, g0, X', hLL, e9, -, ⟨w9, q1, q3, ad', q2, q4, q5, q6⟩, hce, hcvm, hcl9, st9⟩
                · subst q1
                  simp only [Outcome.returned.injEq] at q3
                  subst q3
                  simp only at hex
                  have hG' : GR E ad' h1 s.heap T'.heap (locs ++ L) := ⟨by rw [e9]; exact q4, q5, keep st₀ t T' L g0 e9 hLL q6, ok1, by rw [q2 0 (by omega)]; exact hG.2.2.2.2.1, by rw [q2 1 (by omega)]; exact hG.2.2.2.2.2⟩
                  have hvc : clS (hN h1) (w9.toList ++ r) := fun w hw => by
                    rcases List.mem_append.mp hw with hw | hw
                    · exact exec_val hO (clL_ent kca) clS_nil hx9 w (by simpa using hw)
                    · exact clV_mono hN1 (hcr w hw)
                  have k9 := (ih (d + 1) y (pc + 3) ls (w9.toList ++ r) h1 o h' hex E ad0 h0 ad' lsR p e R s m args below meth c T'.heap (locs ++ L) _ _ mc ms hCT hG' (hLR.ext hcl q2) (clL_mono hN1 hcl) hvc ⟨by omega, fun a ha9 => by rw [q2 a (by omega)]; exact hag.2 a ha9⟩ (show cells + (hC h1 - hC h) + _ ≤ _ by omega) (show slots + (hS h1 - hS h) + _ ≤ _ by omega) hmc hms).2
                  rw [show (w9.toList ++ r).map (cv ad') = (w9.map (cv ad')).toList ++ r.map (cv ad) by
                    rw [List.map_append, map_ext q2 hcr]; cases w9 <;> rfl] at k9
                  obtain ⟨t2, a1, b1⟩ := k9 T' rfl X'
                  exact ⟨t2, st9 t2 a1, b1⟩
                · subst q1
                  subst q3
                  simp only at hex
                  have hG' : GR E ad' h1 s.heap T'.heap (locs ++ L) := ⟨by rw [e9]; exact q4, q5, keep st₀ t T' L g0 e9 hLL q6, ok1, by rw [q2 0 (by omega)]; exact hG.2.2.2.2.1, by rw [q2 1 (by omega)]; exact hG.2.2.2.2.2⟩
                  have hS9 := hG'.2.2.1
                  have hag' : ∀ a, a < hN h0 → ad' a = ad0 a := fun a ha9 => by rw [q2 a (by omega)]; exact hag.2 a ha9
                  have hceT : T'.heap[q]? = some ce := by rw [e9]; exact hce
                  have hxw : vx_W p l e R s m args below meth c T'.heap (locs ++ L) (cells + (hC h1 - hC h)) (slots + (hS h1 - hS h)) (vx_MQ below (QX E ad0 h0 o h') (XX E ad0 h0 o h') args s mc ms (eN E)) (F0 m pc lsR (r.map (cv ad))) q := by
                    split at hex
                    · rename_i hh
                      cases hex
                      unfold hnd at hh
                      simp only [Bool.and_eq_true, beq_iff_eq, decide_eq_true_eq] at hh
                      obtain ⟨⟨rfl, hlo9⟩, hhi9⟩ := hh
                      rw [if_neg (by decide), if_pos rfl] at htab
                      have hvret : ∀ hp9 : Nat, decode (bts 177) hp9 = .ok (.astore 6, 2) → decode (bts 177) (hp9 + 2) = .ok (.return_, 1) → W p l e R s m args below meth c T'.heap (locs ++ L) (cells + (hC h' - hC h)) (slots + (hS h' - hS h)) (vx_MQ below (QX E ad0 h0 (.inl none) h') (XX E ad0 h0 (.inl none) h') args s mc ms (eN E)) (F0 m hp9 lsR [.ref q]) := fun hp9 dd1 dd2 => by
                        refine lv_astore hx hb dd1 hLR.1 (by show 6 < mLoc 177; decide +kernel) rfl (fun lsR' h9 => ?_)
                        refine W.widen (k := mc) (n := ms) (by omega) (by omega) (vx_ret ?_)
                        exact W.vret hx hb (by rw [hrt]; rfl) (fun t2 ht _ => ⟨none, rfl, ad', hag', rfl, by rw [ht]; exact hG'.1, hG'.2.1, hS9.F ht⟩) hS9.2.2 dd2
                      obtain ⟨n0, n1, n2⟩ := hcx.2.2.2.2.2.2.2.2.2.1
                      obtain ⟨c0, c1, c2⟩ := hcx.2.2.2.2.2.2.2.2.2.2.1
                      have hown9 : s.vm.findClass "PerfgaugeHouseLaw" = some m.cls := hown
                      have hcv : ∀ x : ExceptionTableEntry, x.startPc = 27 → x.endPc = 598 → covers x pc = true := fun x k1 k2 => by
                        unfold covers; rw [k1, k2]; simp; omega
                      rcases Nat.lt_or_ge w9 1 with k0 | k0
                      · have : w9 = 0 := by omega
                        subst this
                        exact vx_catch (name := "java/lang/IndexOutOfBoundsException") hown9 [] ⟨27, 598, 601, 104⟩ [⟨27, 598, 604, 106⟩, ⟨27, 598, 607, 108⟩] (htab.trans rfl) (fun z hz => nomatch hz) (hcv _ rfl rfl) (by decide) (hts _ wxh.1) (va_Nw.use rfl c0) hceT hcvm hcl9 (hvret 601 dh601.1 dh601.2)
                      · rcases Nat.lt_or_ge w9 2 with k1 | k1
                        · have : w9 = 1 := by omega
                          subst this
                          exact vx_catch (name := "java/lang/IllegalArgumentException") hown9 [⟨27, 598, 601, 104⟩] ⟨27, 598, 604, 106⟩ [⟨27, 598, 607, 108⟩] (htab.trans rfl) (fun z hz => by
                            have : z = ⟨27, 598, 601, 104⟩ := by simpa using hz
                            subst this
                            exact Or.inr ⟨by decide, _, hts _ wxh.1, n0⟩) (hcv _ rfl rfl) (by decide) (hts _ wxh.2.1) (va_Nw.use rfl c1) hceT hcvm hcl9 (hvret 604 dh604.1 dh604.2)
                        · have hex2 : exN w9 = "java/lang/IllegalStateException" := by unfold exN; rw [if_neg (by omega), if_neg (by omega)]
                          rw [hex2] at hcl9
                          exact vx_catch (name := "java/lang/IllegalStateException") hown9 [⟨27, 598, 601, 104⟩, ⟨27, 598, 604, 106⟩] ⟨27, 598, 607, 108⟩ [] (htab.trans rfl) (fun z hz => by
                            simp only [List.mem_cons, List.not_mem_nil, or_false] at hz
                            rcases hz with rfl | rfl
                            · exact Or.inr ⟨by decide, _, hts _ wxh.1, n1⟩
                            · exact Or.inr ⟨by decide, _, hts _ wxh.2.1, n2⟩) (hcv _ rfl rfl) (by decide) (hts _ wxh.2.2) (va_Nw.use rfl c2) hceT hcvm hcl9 (hvret 607 dh607.1 dh607.2)
                    · rename_i hh
                      cases hex
                      refine vx_out (E := exN w9) (ce := ce) (fun x hx9 => ?_) hlocks hceT hcvm hcl9 (fun t2 ht _ => ⟨w9, rfl, rfl, ad', hag', by rw [ht]; exact hG'.1, hG'.2.1, hS9.F ht⟩) hS9.2.2 (by omega) (by omega)
                      by_cases y193 : y = 193
                      · rw [if_pos y193] at htab
                        obtain ⟨v, hv⟩ := htab
                        cases hv
                      · rw [if_neg y193] at htab
                        by_cases y177 : y = 177
                        · rw [if_pos y177] at htab
                          rw [htab] at hx9
                          have hpc : ¬ (27 ≤ pc ∧ pc < 598) := fun w => hh (by
                            unfold hnd
                            simp only [Bool.and_eq_true, beq_iff_eq, decide_eq_true_eq]
                            exact ⟨⟨y177, w.1⟩, w.2⟩)
                          have : x.startPc = 27 ∧ x.endPc = 598 := by
                            simp only [tableOf, hhA, List.map_cons, List.map_nil, List.mem_cons, List.not_mem_nil, or_false] at hx9
                            rcases hx9 with rfl | rfl | rfl <;> exact ⟨rfl, rfl⟩
                          unfold covers
                          rw [this.1, this.2]
                          simp; omega
                        · rw [if_neg y177] at htab
                          exact (htab x hx9).elim
                  obtain ⟨t2, a1, b1⟩ := hxw T' rfl X'
                  exact ⟨t2, st9.trans a1, b1⟩
            · cases hex
