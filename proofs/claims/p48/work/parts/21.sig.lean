theorem popN_of {n : Nat} {st as r q : List XV} (h1 : n = q.length) (h2 : st = q ++ r) (h3 : q.reverse = as) : popN n st = some (as, r) := by
  subst h1 h2 h3
  unfold popN
  rw [if_pos (by rw [List.length_append]; omega), List.take_left, List.drop_left]
/-! signatures -/
theorem cl0 : cls 0 = 0 := by decide +kernel
theorem rt0 : mRet 0 = 4 := by decide +kernel
theorem kd0 : mKnd 0 = 2 := by decide +kernel
theorem po0 {x0 : Option Nat} {x1 : Int} {x2 : Int} {x3 : Int} {r : List XV} : popN (mArg 0) (vI x3 :: vI x2 :: vI x1 :: vR x0 :: r) = some ([vR x0, vI x1, vI x2, vI x3], r) := popN_of (q := [vI x3, vI x2, vI x1, vR x0]) (show mArg 0 = 4 by decide +kernel) rfl rfl
theorem le0 {x0 : Option Nat} {x1 : Int} {x2 : Int} {x3 : Int} : (entL [vR x0, vI x1, vI x2, vI x3]).length ≤ mLoc 0 := Nat.le_of_ble_eq_true rfl
theorem en0 {x0 : Option Nat} {x1 : Int} {x2 : Int} {x3 : Int} : ent 0 [vR x0, vI x1, vI x2, vI x3] = [some (vR x0), some (vI x1), some (vI x2), some (vI x3)] := rfl
theorem cl1 : cls 1 = 1 := by decide +kernel
theorem rt1 : mRet 1 = 4 := by decide +kernel
theorem kd1 : mKnd 1 = 2 := by decide +kernel
theorem po1 {x0 : Option Nat} {x1 : Int} {x2 : Int} {x3 : Int} {x4 : Int} {x5 : Int} {r : List XV} : popN (mArg 1) (vI x5 :: vI x4 :: vI x3 :: vI x2 :: vI x1 :: vR x0 :: r) = some ([vR x0, vI x1, vI x2, vI x3, vI x4, vI x5], r) := popN_of (q := [vI x5, vI x4, vI x3, vI x2, vI x1, vR x0]) (show mArg 1 = 6 by decide +kernel) rfl rfl
theorem le1 {x0 : Option Nat} {x1 : Int} {x2 : Int} {x3 : Int} {x4 : Int} {x5 : Int} : (entL [vR x0, vI x1, vI x2, vI x3, vI x4, vI x5]).length ≤ mLoc 1 := Nat.le_of_ble_eq_true rfl
theorem en1 {x0 : Option Nat} {x1 : Int} {x2 : Int} {x3 : Int} {x4 : Int} {x5 : Int} : ent 1 [vR x0, vI x1, vI x2, vI x3, vI x4, vI x5] = [some (vR x0), some (vI x1), some (vI x2), some (vI x3), some (vI x4), some (vI x5)] := rfl
theorem cl2 : cls 2 = 1 := by decide +kernel
theorem rt2 : mRet 2 = 0 := by decide +kernel
theorem kd2 : mKnd 2 = 1 := by decide +kernel
theorem tg2 : mTag 2 = 1 := by decide +kernel
theorem po2 {x0 : Option Nat} {r : List XV} : popN (mArg 2) (vR x0 :: r) = some ([vR x0], r) := popN_of (q := [vR x0]) (show mArg 2 = 1 by decide +kernel) rfl rfl
theorem le2 {x0 : Option Nat} : (entL [vR x0]).length ≤ mLoc 2 := Nat.le_of_ble_eq_true rfl
theorem en2 {x0 : Option Nat} : ent 2 [vR x0] = [some (vR x0), none, none] := rfl
theorem cl3 : cls 3 = 2 := by decide +kernel
theorem rt3 : mRet 3 = 4 := by decide +kernel
theorem kd3 : mKnd 3 = 2 := by decide +kernel
theorem po3 {x0 : Option Nat} {r : List XV} : popN (mArg 3) (vR x0 :: r) = some ([vR x0], r) := popN_of (q := [vR x0]) (show mArg 3 = 1 by decide +kernel) rfl rfl
theorem le3 {x0 : Option Nat} : (entL [vR x0]).length ≤ mLoc 3 := Nat.le_of_ble_eq_true rfl
theorem en3 {x0 : Option Nat} : ent 3 [vR x0] = [some (vR x0)] := rfl
theorem cl4 : cls 4 = 2 := by decide +kernel
theorem rt4 : mRet 4 = 4 := by decide +kernel
theorem kd4 : mKnd 4 = 1 := by decide +kernel
theorem tg4 : mTag 4 = 2 := by decide +kernel
theorem po4 {x0 : Option Nat} {r : List XV} : popN (mArg 4) (vR x0 :: r) = some ([vR x0], r) := popN_of (q := [vR x0]) (show mArg 4 = 1 by decide +kernel) rfl rfl
theorem le4 {x0 : Option Nat} : (entL [vR x0]).length ≤ mLoc 4 := Nat.le_of_ble_eq_true rfl
theorem en4 {x0 : Option Nat} : ent 4 [vR x0] = [some (vR x0)] := rfl
theorem cl5 : cls 5 = 2 := by decide +kernel
theorem rt5 : mRet 5 = 0 := by decide +kernel
theorem kd5 : mKnd 5 = 1 := by decide +kernel
theorem tg5 : mTag 5 = 2 := by decide +kernel
theorem po5 {x0 : Option Nat} {x1 : Int} {x2 : Int} {x3 : Int} {x4 : Int} {r : List XV} : popN (mArg 5) (vI x4 :: vI x3 :: vI x2 :: vI x1 :: vR x0 :: r) = some ([vR x0, vI x1, vI x2, vI x3, vI x4], r) := popN_of (q := [vI x4, vI x3, vI x2, vI x1, vR x0]) (show mArg 5 = 5 by decide +kernel) rfl rfl
theorem le5 {x0 : Option Nat} {x1 : Int} {x2 : Int} {x3 : Int} {x4 : Int} : (entL [vR x0, vI x1, vI x2, vI x3, vI x4]).length ≤ mLoc 5 := Nat.le_of_ble_eq_true rfl
theorem en5 {x0 : Option Nat} {x1 : Int} {x2 : Int} {x3 : Int} {x4 : Int} : ent 5 [vR x0, vI x1, vI x2, vI x3, vI x4] = [some (vR x0), some (vI x1), some (vI x2), some (vI x3), some (vI x4)] := rfl
theorem cl6 : cls 6 = 2 := by decide +kernel
theorem rt6 : mRet 6 = 0 := by decide +kernel
theorem kd6 : mKnd 6 = 1 := by decide +kernel
theorem tg6 : mTag 6 = 2 := by decide +kernel
theorem po6 {x0 : Option Nat} {x1 : Int} {x2 : Int} {x3 : Int} {r : List XV} : popN (mArg 6) (vI x3 :: vI x2 :: vI x1 :: vR x0 :: r) = some ([vR x0, vI x1, vI x2, vI x3], r) := popN_of (q := [vI x3, vI x2, vI x1, vR x0]) (show mArg 6 = 4 by decide +kernel) rfl rfl
theorem le6 {x0 : Option Nat} {x1 : Int} {x2 : Int} {x3 : Int} : (entL [vR x0, vI x1, vI x2, vI x3]).length ≤ mLoc 6 := Nat.le_of_ble_eq_true rfl
theorem en6 {x0 : Option Nat} {x1 : Int} {x2 : Int} {x3 : Int} : ent 6 [vR x0, vI x1, vI x2, vI x3] = [some (vR x0), some (vI x1), some (vI x2), some (vI x3), none, none, none] := rfl
theorem cl7 : cls 7 = 2 := by decide +kernel
theorem rt7 : mRet 7 = 0 := by decide +kernel
theorem kd7 : mKnd 7 = 1 := by decide +kernel
theorem tg7 : mTag 7 = 2 := by decide +kernel
theorem po7 {x0 : Option Nat} {x1 : Int} {x2 : Int} {x3 : Int} {r : List XV} : popN (mArg 7) (vI x3 :: vI x2 :: vI x1 :: vR x0 :: r) = some ([vR x0, vI x1, vI x2, vI x3], r) := popN_of (q := [vI x3, vI x2, vI x1, vR x0]) (show mArg 7 = 4 by decide +kernel) rfl rfl
theorem le7 {x0 : Option Nat} {x1 : Int} {x2 : Int} {x3 : Int} : (entL [vR x0, vI x1, vI x2, vI x3]).length ≤ mLoc 7 := Nat.le_of_ble_eq_true rfl
theorem en7 {x0 : Option Nat} {x1 : Int} {x2 : Int} {x3 : Int} : ent 7 [vR x0, vI x1, vI x2, vI x3] = [some (vR x0), some (vI x1), some (vI x2), some (vI x3), none, none] := rfl
theorem cl8 : cls 8 = 2 := by decide +kernel
theorem rt8 : mRet 8 = 0 := by decide +kernel
theorem kd8 : mKnd 8 = 1 := by decide +kernel
theorem tg8 : mTag 8 = 2 := by decide +kernel
theorem po8 {x0 : Option Nat} {x1 : Int} {x2 : Int} {r : List XV} : popN (mArg 8) (vI x2 :: vI x1 :: vR x0 :: r) = some ([vR x0, vI x1, vI x2], r) := popN_of (q := [vI x2, vI x1, vR x0]) (show mArg 8 = 3 by decide +kernel) rfl rfl
theorem le8 {x0 : Option Nat} {x1 : Int} {x2 : Int} : (entL [vR x0, vI x1, vI x2]).length ≤ mLoc 8 := Nat.le_of_ble_eq_true rfl
theorem en8 {x0 : Option Nat} {x1 : Int} {x2 : Int} : ent 8 [vR x0, vI x1, vI x2] = [some (vR x0), some (vI x1), some (vI x2), none, none, none] := rfl
theorem cl9 : cls 9 = 2 := by decide +kernel
theorem rt9 : mRet 9 = 1 := by decide +kernel
theorem kd9 : mKnd 9 = 1 := by decide +kernel
theorem tg9 : mTag 9 = 2 := by decide +kernel
theorem po9 {x0 : Option Nat} {r : List XV} : popN (mArg 9) (vR x0 :: r) = some ([vR x0], r) := popN_of (q := [vR x0]) (show mArg 9 = 1 by decide +kernel) rfl rfl
theorem le9 {x0 : Option Nat} : (entL [vR x0]).length ≤ mLoc 9 := Nat.le_of_ble_eq_true rfl
theorem en9 {x0 : Option Nat} : ent 9 [vR x0] = [some (vR x0), none] := rfl
theorem cl10 : cls 10 = 3 := by decide +kernel
theorem rt10 : mRet 10 = 4 := by decide +kernel
theorem kd10 : mKnd 10 = 2 := by decide +kernel
theorem po10 {x0 : Option Nat} {r : List XV} : popN (mArg 10) (vR x0 :: r) = some ([vR x0], r) := popN_of (q := [vR x0]) (show mArg 10 = 1 by decide +kernel) rfl rfl
theorem le10 {x0 : Option Nat} : (entL [vR x0]).length ≤ mLoc 10 := Nat.le_of_ble_eq_true rfl
theorem en10 {x0 : Option Nat} : ent 10 [vR x0] = [some (vR x0)] := rfl
theorem cl11 : cls 11 = 3 := by decide +kernel
theorem rt11 : mRet 11 = 4 := by decide +kernel
theorem kd11 : mKnd 11 = 1 := by decide +kernel
theorem tg11 : mTag 11 = 3 := by decide +kernel
theorem po11 {x0 : Option Nat} {x1 : Int} {x2 : Int} {x3 : Int} {r : List XV} : popN (mArg 11) (vI x3 :: vI x2 :: vI x1 :: vR x0 :: r) = some ([vR x0, vI x1, vI x2, vI x3], r) := popN_of (q := [vI x3, vI x2, vI x1, vR x0]) (show mArg 11 = 4 by decide +kernel) rfl rfl
theorem le11 {x0 : Option Nat} {x1 : Int} {x2 : Int} {x3 : Int} : (entL [vR x0, vI x1, vI x2, vI x3]).length ≤ mLoc 11 := Nat.le_of_ble_eq_true rfl
theorem en11 {x0 : Option Nat} {x1 : Int} {x2 : Int} {x3 : Int} : ent 11 [vR x0, vI x1, vI x2, vI x3] = [some (vR x0), some (vI x1), some (vI x2), some (vI x3), none] := rfl
theorem cl12 : cls 12 = 3 := by decide +kernel
theorem rt12 : mRet 12 = 0 := by decide +kernel
theorem kd12 : mKnd 12 = 1 := by decide +kernel
theorem tg12 : mTag 12 = 3 := by decide +kernel
theorem po12 {x0 : Option Nat} {x1 : Option Nat} {r : List XV} : popN (mArg 12) (vR x1 :: vR x0 :: r) = some ([vR x0, vR x1], r) := popN_of (q := [vR x1, vR x0]) (show mArg 12 = 2 by decide +kernel) rfl rfl
theorem le12 {x0 : Option Nat} {x1 : Option Nat} : (entL [vR x0, vR x1]).length ≤ mLoc 12 := Nat.le_of_ble_eq_true rfl
theorem en12 {x0 : Option Nat} {x1 : Option Nat} : ent 12 [vR x0, vR x1] = [some (vR x0), some (vR x1), none, none, none, none, none, none] := rfl
theorem cl13 : cls 13 = 3 := by decide +kernel
theorem rt13 : mRet 13 = 2 := by decide +kernel
theorem kd13 : mKnd 13 = 1 := by decide +kernel
theorem tg13 : mTag 13 = 3 := by decide +kernel
theorem po13 {x0 : Option Nat} {x1 : Option Nat} {x2 : Int} {r : List XV} : popN (mArg 13) (vI x2 :: vR x1 :: vR x0 :: r) = some ([vR x0, vR x1, vI x2], r) := popN_of (q := [vI x2, vR x1, vR x0]) (show mArg 13 = 3 by decide +kernel) rfl rfl
theorem le13 {x0 : Option Nat} {x1 : Option Nat} {x2 : Int} : (entL [vR x0, vR x1, vI x2]).length ≤ mLoc 13 := Nat.le_of_ble_eq_true rfl
theorem en13 {x0 : Option Nat} {x1 : Option Nat} {x2 : Int} : ent 13 [vR x0, vR x1, vI x2] = [some (vR x0), some (vR x1), some (vI x2), none, none, none, none] := rfl
theorem cl14 : cls 14 = 4 := by decide +kernel
theorem rt14 : mRet 14 = 0 := by decide +kernel
theorem kd14 : mKnd 14 = 1 := by decide +kernel
theorem tg14 : mTag 14 = 4 := by decide +kernel
theorem po14 {x0 : Option Nat} {x1 : Int} {r : List XV} : popN (mArg 14) (vI x1 :: vR x0 :: r) = some ([vR x0, vI x1], r) := popN_of (q := [vI x1, vR x0]) (show mArg 14 = 2 by decide +kernel) rfl rfl
theorem le14 {x0 : Option Nat} {x1 : Int} : (entL [vR x0, vI x1]).length ≤ mLoc 14 := Nat.le_of_ble_eq_true rfl
theorem en14 {x0 : Option Nat} {x1 : Int} : ent 14 [vR x0, vI x1] = [some (vR x0), some (vI x1), none, none, none] := rfl
theorem cl15 : cls 15 = 4 := by decide +kernel
theorem rt15 : mRet 15 = 0 := by decide +kernel
theorem kd15 : mKnd 15 = 1 := by decide +kernel
theorem tg15 : mTag 15 = 4 := by decide +kernel
theorem po15 {x0 : Option Nat} {x1 : Int} {r : List XV} : popN (mArg 15) (vI x1 :: vR x0 :: r) = some ([vR x0, vI x1], r) := popN_of (q := [vI x1, vR x0]) (show mArg 15 = 2 by decide +kernel) rfl rfl
theorem le15 {x0 : Option Nat} {x1 : Int} : (entL [vR x0, vI x1]).length ≤ mLoc 15 := Nat.le_of_ble_eq_true rfl
theorem en15 {x0 : Option Nat} {x1 : Int} : ent 15 [vR x0, vI x1] = [some (vR x0), some (vI x1), none, none] := rfl
theorem cl16 : cls 16 = 4 := by decide +kernel
theorem rt16 : mRet 16 = 0 := by decide +kernel
theorem kd16 : mKnd 16 = 1 := by decide +kernel
theorem tg16 : mTag 16 = 4 := by decide +kernel
theorem po16 {x0 : Option Nat} {x1 : Int} {r : List XV} : popN (mArg 16) (vI x1 :: vR x0 :: r) = some ([vR x0, vI x1], r) := popN_of (q := [vI x1, vR x0]) (show mArg 16 = 2 by decide +kernel) rfl rfl
theorem le16 {x0 : Option Nat} {x1 : Int} : (entL [vR x0, vI x1]).length ≤ mLoc 16 := Nat.le_of_ble_eq_true rfl
theorem en16 {x0 : Option Nat} {x1 : Int} : ent 16 [vR x0, vI x1] = [some (vR x0), some (vI x1), none, none, none] := rfl
theorem cl17 : cls 17 = 4 := by decide +kernel
theorem rt17 : mRet 17 = 4 := by decide +kernel
theorem kd17 : mKnd 17 = 2 := by decide +kernel
theorem po17 {x0 : Option Nat} {x1 : Int} {x2 : Int} {x3 : Int} {x4 : Int} {x5 : Int} {r : List XV} : popN (mArg 17) (vI x5 :: vI x4 :: vI x3 :: vI x2 :: vI x1 :: vR x0 :: r) = some ([vR x0, vI x1, vI x2, vI x3, vI x4, vI x5], r) := popN_of (q := [vI x5, vI x4, vI x3, vI x2, vI x1, vR x0]) (show mArg 17 = 6 by decide +kernel) rfl rfl
theorem le17 {x0 : Option Nat} {x1 : Int} {x2 : Int} {x3 : Int} {x4 : Int} {x5 : Int} : (entL [vR x0, vI x1, vI x2, vI x3, vI x4, vI x5]).length ≤ mLoc 17 := Nat.le_of_ble_eq_true rfl
theorem en17 {x0 : Option Nat} {x1 : Int} {x2 : Int} {x3 : Int} {x4 : Int} {x5 : Int} : ent 17 [vR x0, vI x1, vI x2, vI x3, vI x4, vI x5] = [some (vR x0), some (vI x1), some (vI x2), some (vI x3), some (vI x4), some (vI x5)] := rfl
theorem cl18 : cls 18 = 4 := by decide +kernel
theorem rt18 : mRet 18 = 4 := by decide +kernel
theorem kd18 : mKnd 18 = 1 := by decide +kernel
theorem tg18 : mTag 18 = 4 := by decide +kernel
theorem po18 {x0 : Option Nat} {x1 : Option Nat} {r : List XV} : popN (mArg 18) (vR x1 :: vR x0 :: r) = some ([vR x0, vR x1], r) := popN_of (q := [vR x1, vR x0]) (show mArg 18 = 2 by decide +kernel) rfl rfl
theorem le18 {x0 : Option Nat} {x1 : Option Nat} : (entL [vR x0, vR x1]).length ≤ mLoc 18 := Nat.le_of_ble_eq_true rfl
theorem en18 {x0 : Option Nat} {x1 : Option Nat} : ent 18 [vR x0, vR x1] = [some (vR x0), some (vR x1), none, none, none] := rfl
theorem cl19 : cls 19 = 4 := by decide +kernel
theorem rt19 : mRet 19 = 1 := by decide +kernel
theorem kd19 : mKnd 19 = 1 := by decide +kernel
theorem tg19 : mTag 19 = 4 := by decide +kernel
theorem po19 {x0 : Option Nat} {x1 : Option Nat} {x2 : Int} {x3 : Int} {r : List XV} : popN (mArg 19) (vI x3 :: vI x2 :: vR x1 :: vR x0 :: r) = some ([vR x0, vR x1, vI x2, vI x3], r) := popN_of (q := [vI x3, vI x2, vR x1, vR x0]) (show mArg 19 = 4 by decide +kernel) rfl rfl
theorem le19 {x0 : Option Nat} {x1 : Option Nat} {x2 : Int} {x3 : Int} : (entL [vR x0, vR x1, vI x2, vI x3]).length ≤ mLoc 19 := Nat.le_of_ble_eq_true rfl
theorem en19 {x0 : Option Nat} {x1 : Option Nat} {x2 : Int} {x3 : Int} : ent 19 [vR x0, vR x1, vI x2, vI x3] = [some (vR x0), some (vR x1), some (vI x2), some (vI x3), none, none, none] := rfl
theorem cl20 : cls 20 = 4 := by decide +kernel
theorem rt20 : mRet 20 = 0 := by decide +kernel
theorem kd20 : mKnd 20 = 1 := by decide +kernel
theorem tg20 : mTag 20 = 4 := by decide +kernel
theorem po20 {x0 : Option Nat} {r : List XV} : popN (mArg 20) (vR x0 :: r) = some ([vR x0], r) := popN_of (q := [vR x0]) (show mArg 20 = 1 by decide +kernel) rfl rfl
theorem le20 {x0 : Option Nat} : (entL [vR x0]).length ≤ mLoc 20 := Nat.le_of_ble_eq_true rfl
theorem en20 {x0 : Option Nat} : ent 20 [vR x0] = [some (vR x0)] := rfl
theorem cl21 : cls 21 = 4 := by decide +kernel
theorem rt21 : mRet 21 = 4 := by decide +kernel
theorem kd21 : mKnd 21 = 1 := by decide +kernel
theorem tg21 : mTag 21 = 4 := by decide +kernel
theorem po21 {x0 : Option Nat} {x1 : Option Nat} {x2 : Int} {x3 : Int} {r : List XV} : popN (mArg 21) (vI x3 :: vI x2 :: vR x1 :: vR x0 :: r) = some ([vR x0, vR x1, vI x2, vI x3], r) := popN_of (q := [vI x3, vI x2, vR x1, vR x0]) (show mArg 21 = 4 by decide +kernel) rfl rfl
theorem le21 {x0 : Option Nat} {x1 : Option Nat} {x2 : Int} {x3 : Int} : (entL [vR x0, vR x1, vI x2, vI x3]).length ≤ mLoc 21 := Nat.le_of_ble_eq_true rfl
theorem en21 {x0 : Option Nat} {x1 : Option Nat} {x2 : Int} {x3 : Int} : ent 21 [vR x0, vR x1, vI x2, vI x3] = [some (vR x0), some (vR x1), some (vI x2), some (vI x3), none, none] := rfl
theorem cl22 : cls 22 = 4 := by decide +kernel
theorem rt22 : mRet 22 = 0 := by decide +kernel
theorem kd22 : mKnd 22 = 1 := by decide +kernel
theorem tg22 : mTag 22 = 4 := by decide +kernel
theorem po22 {x0 : Option Nat} {r : List XV} : popN (mArg 22) (vR x0 :: r) = some ([vR x0], r) := popN_of (q := [vR x0]) (show mArg 22 = 1 by decide +kernel) rfl rfl
theorem le22 {x0 : Option Nat} : (entL [vR x0]).length ≤ mLoc 22 := Nat.le_of_ble_eq_true rfl
theorem en22 {x0 : Option Nat} : ent 22 [vR x0] = [some (vR x0), none, none] := rfl
theorem cl23 : cls 23 = 4 := by decide +kernel
theorem rt23 : mRet 23 = 0 := by decide +kernel
theorem kd23 : mKnd 23 = 1 := by decide +kernel
theorem tg23 : mTag 23 = 4 := by decide +kernel
theorem po23 {x0 : Option Nat} {x1 : Int} {r : List XV} : popN (mArg 23) (vI x1 :: vR x0 :: r) = some ([vR x0, vI x1], r) := popN_of (q := [vI x1, vR x0]) (show mArg 23 = 2 by decide +kernel) rfl rfl
theorem le23 {x0 : Option Nat} {x1 : Int} : (entL [vR x0, vI x1]).length ≤ mLoc 23 := Nat.le_of_ble_eq_true rfl
theorem en23 {x0 : Option Nat} {x1 : Int} : ent 23 [vR x0, vI x1] = [some (vR x0), some (vI x1), none, none] := rfl
theorem cl24 : cls 24 = 4 := by decide +kernel
theorem rt24 : mRet 24 = 0 := by decide +kernel
theorem kd24 : mKnd 24 = 1 := by decide +kernel
theorem tg24 : mTag 24 = 4 := by decide +kernel
theorem po24 {x0 : Option Nat} {r : List XV} : popN (mArg 24) (vR x0 :: r) = some ([vR x0], r) := popN_of (q := [vR x0]) (show mArg 24 = 1 by decide +kernel) rfl rfl
theorem le24 {x0 : Option Nat} : (entL [vR x0]).length ≤ mLoc 24 := Nat.le_of_ble_eq_true rfl
theorem en24 {x0 : Option Nat} : ent 24 [vR x0] = [some (vR x0), none] := rfl
theorem cl25 : cls 25 = 4 := by decide +kernel
theorem rt25 : mRet 25 = 1 := by decide +kernel
theorem kd25 : mKnd 25 = 1 := by decide +kernel
theorem tg25 : mTag 25 = 4 := by decide +kernel
theorem po25 {x0 : Option Nat} {r : List XV} : popN (mArg 25) (vR x0 :: r) = some ([vR x0], r) := popN_of (q := [vR x0]) (show mArg 25 = 1 by decide +kernel) rfl rfl
theorem le25 {x0 : Option Nat} : (entL [vR x0]).length ≤ mLoc 25 := Nat.le_of_ble_eq_true rfl
theorem en25 {x0 : Option Nat} : ent 25 [vR x0] = [some (vR x0)] := rfl
theorem cl26 : cls 26 = 4 := by decide +kernel
theorem rt26 : mRet 26 = 1 := by decide +kernel
theorem kd26 : mKnd 26 = 1 := by decide +kernel
theorem tg26 : mTag 26 = 4 := by decide +kernel
theorem po26 {x0 : Option Nat} {r : List XV} : popN (mArg 26) (vR x0 :: r) = some ([vR x0], r) := popN_of (q := [vR x0]) (show mArg 26 = 1 by decide +kernel) rfl rfl
theorem le26 {x0 : Option Nat} : (entL [vR x0]).length ≤ mLoc 26 := Nat.le_of_ble_eq_true rfl
theorem en26 {x0 : Option Nat} : ent 26 [vR x0] = [some (vR x0)] := rfl
theorem cl27 : cls 27 = 4 := by decide +kernel
theorem rt27 : mRet 27 = 0 := by decide +kernel
theorem kd27 : mKnd 27 = 1 := by decide +kernel
theorem tg27 : mTag 27 = 4 := by decide +kernel
theorem po27 {x0 : Option Nat} {r : List XV} : popN (mArg 27) (vR x0 :: r) = some ([vR x0], r) := popN_of (q := [vR x0]) (show mArg 27 = 1 by decide +kernel) rfl rfl
theorem le27 {x0 : Option Nat} : (entL [vR x0]).length ≤ mLoc 27 := Nat.le_of_ble_eq_true rfl
theorem en27 {x0 : Option Nat} : ent 27 [vR x0] = [some (vR x0), none, none] := rfl
theorem cl28 : cls 28 = 5 := by decide +kernel
theorem rt28 : mRet 28 = 4 := by decide +kernel
theorem kd28 : mKnd 28 = 2 := by decide +kernel
theorem po28 {x0 : Option Nat} {r : List XV} : popN (mArg 28) (vR x0 :: r) = some ([vR x0], r) := popN_of (q := [vR x0]) (show mArg 28 = 1 by decide +kernel) rfl rfl
theorem le28 {x0 : Option Nat} : (entL [vR x0]).length ≤ mLoc 28 := Nat.le_of_ble_eq_true rfl
theorem en28 {x0 : Option Nat} : ent 28 [vR x0] = [some (vR x0)] := rfl
theorem cl29 : cls 29 = 5 := by decide +kernel
theorem rt29 : mRet 29 = 4 := by decide +kernel
theorem kd29 : mKnd 29 = 1 := by decide +kernel
theorem tg29 : mTag 29 = 5 := by decide +kernel
theorem po29 {x0 : Option Nat} {x1 : Int} {x2 : Int} {r : List XV} : popN (mArg 29) (vI x2 :: vI x1 :: vR x0 :: r) = some ([vR x0, vI x1, vI x2], r) := popN_of (q := [vI x2, vI x1, vR x0]) (show mArg 29 = 3 by decide +kernel) rfl rfl
theorem le29 {x0 : Option Nat} {x1 : Int} {x2 : Int} : (entL [vR x0, vI x1, vI x2]).length ≤ mLoc 29 := Nat.le_of_ble_eq_true rfl
theorem en29 {x0 : Option Nat} {x1 : Int} {x2 : Int} : ent 29 [vR x0, vI x1, vI x2] = [some (vR x0), some (vI x1), some (vI x2)] := rfl
theorem cl30 : cls 30 = 5 := by decide +kernel
theorem rt30 : mRet 30 = 0 := by decide +kernel
theorem kd30 : mKnd 30 = 1 := by decide +kernel
theorem tg30 : mTag 30 = 5 := by decide +kernel
theorem po30 {x0 : Option Nat} {r : List XV} : popN (mArg 30) (vR x0 :: r) = some ([vR x0], r) := popN_of (q := [vR x0]) (show mArg 30 = 1 by decide +kernel) rfl rfl
theorem le30 {x0 : Option Nat} : (entL [vR x0]).length ≤ mLoc 30 := Nat.le_of_ble_eq_true rfl
theorem en30 {x0 : Option Nat} : ent 30 [vR x0] = [some (vR x0)] := rfl
theorem cl31 : cls 31 = 5 := by decide +kernel
theorem rt31 : mRet 31 = 4 := by decide +kernel
theorem kd31 : mKnd 31 = 1 := by decide +kernel
theorem tg31 : mTag 31 = 5 := by decide +kernel
theorem po31 {x0 : Option Nat} {x1 : Int} {r : List XV} : popN (mArg 31) (vI x1 :: vR x0 :: r) = some ([vR x0, vI x1], r) := popN_of (q := [vI x1, vR x0]) (show mArg 31 = 2 by decide +kernel) rfl rfl
theorem le31 {x0 : Option Nat} {x1 : Int} : (entL [vR x0, vI x1]).length ≤ mLoc 31 := Nat.le_of_ble_eq_true rfl
theorem en31 {x0 : Option Nat} {x1 : Int} : ent 31 [vR x0, vI x1] = [some (vR x0), some (vI x1), none, none, none, none, none, none] := rfl
theorem cl32 : cls 32 = 5 := by decide +kernel
theorem rt32 : mRet 32 = 0 := by decide +kernel
theorem kd32 : mKnd 32 = 0 := by decide +kernel
theorem po32 {x0 : Int} {r : List XV} : popN (mArg 32) (vI x0 :: r) = some ([vI x0], r) := popN_of (q := [vI x0]) (show mArg 32 = 1 by decide +kernel) rfl rfl
theorem le32 {x0 : Int} : (entL [vI x0]).length ≤ mLoc 32 := Nat.le_of_ble_eq_true rfl
theorem en32 {x0 : Int} : ent 32 [vI x0] = [some (vI x0)] := rfl
theorem cl33 : cls 33 = 5 := by decide +kernel
theorem rt33 : mRet 33 = 4 := by decide +kernel
theorem kd33 : mKnd 33 = 1 := by decide +kernel
theorem tg33 : mTag 33 = 5 := by decide +kernel
theorem po33 {x0 : Option Nat} {x1 : Int} {x2 : Int} {x3 : Int} {x4 : Int} {r : List XV} : popN (mArg 33) (vI x4 :: vI x3 :: vI x2 :: vI x1 :: vR x0 :: r) = some ([vR x0, vI x1, vI x2, vI x3, vI x4], r) := popN_of (q := [vI x4, vI x3, vI x2, vI x1, vR x0]) (show mArg 33 = 5 by decide +kernel) rfl rfl
theorem le33 {x0 : Option Nat} {x1 : Int} {x2 : Int} {x3 : Int} {x4 : Int} : (entL [vR x0, vI x1, vI x2, vI x3, vI x4]).length ≤ mLoc 33 := Nat.le_of_ble_eq_true rfl
theorem en33 {x0 : Option Nat} {x1 : Int} {x2 : Int} {x3 : Int} {x4 : Int} : ent 33 [vR x0, vI x1, vI x2, vI x3, vI x4] = [some (vR x0), some (vI x1), some (vI x2), some (vI x3), some (vI x4), none] := rfl
theorem cl34 : cls 34 = 5 := by decide +kernel
theorem rt34 : mRet 34 = 1 := by decide +kernel
theorem kd34 : mKnd 34 = 1 := by decide +kernel
theorem tg34 : mTag 34 = 5 := by decide +kernel
theorem po34 {x0 : Option Nat} {x1 : Int} {x2 : Int} {x3 : Int} {r : List XV} : popN (mArg 34) (vI x3 :: vI x2 :: vI x1 :: vR x0 :: r) = some ([vR x0, vI x1, vI x2, vI x3], r) := popN_of (q := [vI x3, vI x2, vI x1, vR x0]) (show mArg 34 = 4 by decide +kernel) rfl rfl
theorem le34 {x0 : Option Nat} {x1 : Int} {x2 : Int} {x3 : Int} : (entL [vR x0, vI x1, vI x2, vI x3]).length ≤ mLoc 34 := Nat.le_of_ble_eq_true rfl
theorem en34 {x0 : Option Nat} {x1 : Int} {x2 : Int} {x3 : Int} : ent 34 [vR x0, vI x1, vI x2, vI x3] = [some (vR x0), some (vI x1), some (vI x2), some (vI x3)] := rfl
theorem cl35 : cls 35 = 5 := by decide +kernel
theorem rt35 : mRet 35 = 1 := by decide +kernel
theorem kd35 : mKnd 35 = 1 := by decide +kernel
theorem tg35 : mTag 35 = 5 := by decide +kernel
theorem po35 {x0 : Option Nat} {x1 : Int} {r : List XV} : popN (mArg 35) (vI x1 :: vR x0 :: r) = some ([vR x0, vI x1], r) := popN_of (q := [vI x1, vR x0]) (show mArg 35 = 2 by decide +kernel) rfl rfl
theorem le35 {x0 : Option Nat} {x1 : Int} : (entL [vR x0, vI x1]).length ≤ mLoc 35 := Nat.le_of_ble_eq_true rfl
theorem en35 {x0 : Option Nat} {x1 : Int} : ent 35 [vR x0, vI x1] = [some (vR x0), some (vI x1)] := rfl
theorem cl36 : cls 36 = 5 := by decide +kernel
theorem rt36 : mRet 36 = 0 := by decide +kernel
theorem kd36 : mKnd 36 = 1 := by decide +kernel
theorem tg36 : mTag 36 = 5 := by decide +kernel
theorem po36 {x0 : Option Nat} {x1 : Int} {x2 : Int} {r : List XV} : popN (mArg 36) (vI x2 :: vI x1 :: vR x0 :: r) = some ([vR x0, vI x1, vI x2], r) := popN_of (q := [vI x2, vI x1, vR x0]) (show mArg 36 = 3 by decide +kernel) rfl rfl
theorem le36 {x0 : Option Nat} {x1 : Int} {x2 : Int} : (entL [vR x0, vI x1, vI x2]).length ≤ mLoc 36 := Nat.le_of_ble_eq_true rfl
theorem en36 {x0 : Option Nat} {x1 : Int} {x2 : Int} : ent 36 [vR x0, vI x1, vI x2] = [some (vR x0), some (vI x1), some (vI x2)] := rfl
theorem cl37 : cls 37 = 6 := by decide +kernel
theorem rt37 : mRet 37 = 4 := by decide +kernel
theorem kd37 : mKnd 37 = 2 := by decide +kernel
theorem po37 {x0 : Option Nat} {r : List XV} : popN (mArg 37) (vR x0 :: r) = some ([vR x0], r) := popN_of (q := [vR x0]) (show mArg 37 = 1 by decide +kernel) rfl rfl
theorem le37 {x0 : Option Nat} : (entL [vR x0]).length ≤ mLoc 37 := Nat.le_of_ble_eq_true rfl
theorem en37 {x0 : Option Nat} : ent 37 [vR x0] = [some (vR x0), none] := rfl
theorem cl38 : cls 38 = 6 := by decide +kernel
theorem rt38 : mRet 38 = 0 := by decide +kernel
theorem kd38 : mKnd 38 = 1 := by decide +kernel
theorem tg38 : mTag 38 = 6 := by decide +kernel
theorem po38 {x0 : Option Nat} {x1 : Int} {x2 : Int} {x3 : Int} {x4 : Int} {r : List XV} : popN (mArg 38) (vI x4 :: vI x3 :: vI x2 :: vI x1 :: vR x0 :: r) = some ([vR x0, vI x1, vI x2, vI x3, vI x4], r) := popN_of (q := [vI x4, vI x3, vI x2, vI x1, vR x0]) (show mArg 38 = 5 by decide +kernel) rfl rfl
theorem le38 {x0 : Option Nat} {x1 : Int} {x2 : Int} {x3 : Int} {x4 : Int} : (entL [vR x0, vI x1, vI x2, vI x3, vI x4]).length ≤ mLoc 38 := Nat.le_of_ble_eq_true rfl
theorem en38 {x0 : Option Nat} {x1 : Int} {x2 : Int} {x3 : Int} {x4 : Int} : ent 38 [vR x0, vI x1, vI x2, vI x3, vI x4] = [some (vR x0), some (vI x1), some (vI x2), some (vI x3), some (vI x4)] := rfl
theorem cl39 : cls 39 = 6 := by decide +kernel
theorem rt39 : mRet 39 = 4 := by decide +kernel
theorem kd39 : mKnd 39 = 1 := by decide +kernel
theorem tg39 : mTag 39 = 6 := by decide +kernel
theorem po39 {x0 : Option Nat} {x1 : Int} {x2 : Int} {x3 : Int} {r : List XV} : popN (mArg 39) (vI x3 :: vI x2 :: vI x1 :: vR x0 :: r) = some ([vR x0, vI x1, vI x2, vI x3], r) := popN_of (q := [vI x3, vI x2, vI x1, vR x0]) (show mArg 39 = 4 by decide +kernel) rfl rfl
theorem le39 {x0 : Option Nat} {x1 : Int} {x2 : Int} {x3 : Int} : (entL [vR x0, vI x1, vI x2, vI x3]).length ≤ mLoc 39 := Nat.le_of_ble_eq_true rfl
theorem en39 {x0 : Option Nat} {x1 : Int} {x2 : Int} {x3 : Int} : ent 39 [vR x0, vI x1, vI x2, vI x3] = [some (vR x0), some (vI x1), some (vI x2), some (vI x3), none, none, none] := rfl
theorem cl40 : cls 40 = 6 := by decide +kernel
theorem rt40 : mRet 40 = 4 := by decide +kernel
theorem kd40 : mKnd 40 = 1 := by decide +kernel
theorem tg40 : mTag 40 = 6 := by decide +kernel
theorem po40 {x0 : Option Nat} {x1 : Int} {r : List XV} : popN (mArg 40) (vI x1 :: vR x0 :: r) = some ([vR x0, vI x1], r) := popN_of (q := [vI x1, vR x0]) (show mArg 40 = 2 by decide +kernel) rfl rfl
theorem le40 {x0 : Option Nat} {x1 : Int} : (entL [vR x0, vI x1]).length ≤ mLoc 40 := Nat.le_of_ble_eq_true rfl
theorem en40 {x0 : Option Nat} {x1 : Int} : ent 40 [vR x0, vI x1] = [some (vR x0), some (vI x1), none, none, none] := rfl
theorem cl41 : cls 41 = 6 := by decide +kernel
theorem rt41 : mRet 41 = 0 := by decide +kernel
theorem kd41 : mKnd 41 = 1 := by decide +kernel
theorem tg41 : mTag 41 = 6 := by decide +kernel
theorem po41 {x0 : Option Nat} {x1 : Int} {x2 : Int} {r : List XV} : popN (mArg 41) (vI x2 :: vI x1 :: vR x0 :: r) = some ([vR x0, vI x1, vI x2], r) := popN_of (q := [vI x2, vI x1, vR x0]) (show mArg 41 = 3 by decide +kernel) rfl rfl
theorem le41 {x0 : Option Nat} {x1 : Int} {x2 : Int} : (entL [vR x0, vI x1, vI x2]).length ≤ mLoc 41 := Nat.le_of_ble_eq_true rfl
theorem en41 {x0 : Option Nat} {x1 : Int} {x2 : Int} : ent 41 [vR x0, vI x1, vI x2] = [some (vR x0), some (vI x1), some (vI x2), none] := rfl
theorem cl42 : cls 42 = 6 := by decide +kernel
theorem rt42 : mRet 42 = 0 := by decide +kernel
theorem kd42 : mKnd 42 = 1 := by decide +kernel
theorem tg42 : mTag 42 = 6 := by decide +kernel
theorem po42 {x0 : Option Nat} {x1 : Int} {x2 : Int} {r : List XV} : popN (mArg 42) (vI x2 :: vI x1 :: vR x0 :: r) = some ([vR x0, vI x1, vI x2], r) := popN_of (q := [vI x2, vI x1, vR x0]) (show mArg 42 = 3 by decide +kernel) rfl rfl
theorem le42 {x0 : Option Nat} {x1 : Int} {x2 : Int} : (entL [vR x0, vI x1, vI x2]).length ≤ mLoc 42 := Nat.le_of_ble_eq_true rfl
theorem en42 {x0 : Option Nat} {x1 : Int} {x2 : Int} : ent 42 [vR x0, vI x1, vI x2] = [some (vR x0), some (vI x1), some (vI x2)] := rfl
theorem cl43 : cls 43 = 6 := by decide +kernel
theorem rt43 : mRet 43 = 0 := by decide +kernel
theorem kd43 : mKnd 43 = 1 := by decide +kernel
theorem tg43 : mTag 43 = 6 := by decide +kernel
theorem po43 {x0 : Option Nat} {x1 : Int} {x2 : Int} {x3 : Int} {r : List XV} : popN (mArg 43) (vI x3 :: vI x2 :: vI x1 :: vR x0 :: r) = some ([vR x0, vI x1, vI x2, vI x3], r) := popN_of (q := [vI x3, vI x2, vI x1, vR x0]) (show mArg 43 = 4 by decide +kernel) rfl rfl
theorem le43 {x0 : Option Nat} {x1 : Int} {x2 : Int} {x3 : Int} : (entL [vR x0, vI x1, vI x2, vI x3]).length ≤ mLoc 43 := Nat.le_of_ble_eq_true rfl
theorem en43 {x0 : Option Nat} {x1 : Int} {x2 : Int} {x3 : Int} : ent 43 [vR x0, vI x1, vI x2, vI x3] = [some (vR x0), some (vI x1), some (vI x2), some (vI x3), none, none, none] := rfl
theorem cl44 : cls 44 = 6 := by decide +kernel
theorem rt44 : mRet 44 = 1 := by decide +kernel
theorem kd44 : mKnd 44 = 1 := by decide +kernel
theorem tg44 : mTag 44 = 6 := by decide +kernel
theorem po44 {x0 : Option Nat} {x1 : Int} {x2 : Int} {r : List XV} : popN (mArg 44) (vI x2 :: vI x1 :: vR x0 :: r) = some ([vR x0, vI x1, vI x2], r) := popN_of (q := [vI x2, vI x1, vR x0]) (show mArg 44 = 3 by decide +kernel) rfl rfl
theorem le44 {x0 : Option Nat} {x1 : Int} {x2 : Int} : (entL [vR x0, vI x1, vI x2]).length ≤ mLoc 44 := Nat.le_of_ble_eq_true rfl
theorem en44 {x0 : Option Nat} {x1 : Int} {x2 : Int} : ent 44 [vR x0, vI x1, vI x2] = [some (vR x0), some (vI x1), some (vI x2)] := rfl
theorem cl45 : cls 45 = 7 := by decide +kernel
theorem rt45 : mRet 45 = 4 := by decide +kernel
theorem kd45 : mKnd 45 = 2 := by decide +kernel
theorem po45 {x0 : Option Nat} {r : List XV} : popN (mArg 45) (vR x0 :: r) = some ([vR x0], r) := popN_of (q := [vR x0]) (show mArg 45 = 1 by decide +kernel) rfl rfl
theorem le45 {x0 : Option Nat} : (entL [vR x0]).length ≤ mLoc 45 := Nat.le_of_ble_eq_true rfl
theorem en45 {x0 : Option Nat} : ent 45 [vR x0] = [some (vR x0)] := rfl
theorem cl46 : cls 46 = 7 := by decide +kernel
theorem rt46 : mRet 46 = 4 := by decide +kernel
theorem kd46 : mKnd 46 = 1 := by decide +kernel
theorem tg46 : mTag 46 = 7 := by decide +kernel
theorem po46 {x0 : Option Nat} {r : List XV} : popN (mArg 46) (vR x0 :: r) = some ([vR x0], r) := popN_of (q := [vR x0]) (show mArg 46 = 1 by decide +kernel) rfl rfl
theorem le46 {x0 : Option Nat} : (entL [vR x0]).length ≤ mLoc 46 := Nat.le_of_ble_eq_true rfl
theorem en46 {x0 : Option Nat} : ent 46 [vR x0] = [some (vR x0)] := rfl
theorem cl47 : cls 47 = 7 := by decide +kernel
theorem rt47 : mRet 47 = 1 := by decide +kernel
theorem kd47 : mKnd 47 = 1 := by decide +kernel
theorem tg47 : mTag 47 = 7 := by decide +kernel
theorem po47 {x0 : Option Nat} {x1 : Int} {x2 : Int} {r : List XV} : popN (mArg 47) (vI x2 :: vI x1 :: vR x0 :: r) = some ([vR x0, vI x1, vI x2], r) := popN_of (q := [vI x2, vI x1, vR x0]) (show mArg 47 = 3 by decide +kernel) rfl rfl
theorem le47 {x0 : Option Nat} {x1 : Int} {x2 : Int} : (entL [vR x0, vI x1, vI x2]).length ≤ mLoc 47 := Nat.le_of_ble_eq_true rfl
theorem en47 {x0 : Option Nat} {x1 : Int} {x2 : Int} : ent 47 [vR x0, vI x1, vI x2] = [some (vR x0), some (vI x1), some (vI x2), none] := rfl
theorem cl48 : cls 48 = 7 := by decide +kernel
theorem rt48 : mRet 48 = 0 := by decide +kernel
theorem kd48 : mKnd 48 = 1 := by decide +kernel
theorem tg48 : mTag 48 = 7 := by decide +kernel
theorem po48 {x0 : Option Nat} {x1 : Int} {x2 : Int} {x3 : Int} {r : List XV} : popN (mArg 48) (vI x3 :: vI x2 :: vI x1 :: vR x0 :: r) = some ([vR x0, vI x1, vI x2, vI x3], r) := popN_of (q := [vI x3, vI x2, vI x1, vR x0]) (show mArg 48 = 4 by decide +kernel) rfl rfl
theorem le48 {x0 : Option Nat} {x1 : Int} {x2 : Int} {x3 : Int} : (entL [vR x0, vI x1, vI x2, vI x3]).length ≤ mLoc 48 := Nat.le_of_ble_eq_true rfl
theorem en48 {x0 : Option Nat} {x1 : Int} {x2 : Int} {x3 : Int} : ent 48 [vR x0, vI x1, vI x2, vI x3] = [some (vR x0), some (vI x1), some (vI x2), some (vI x3)] := rfl
theorem cl49 : cls 49 = 7 := by decide +kernel
theorem rt49 : mRet 49 = 0 := by decide +kernel
theorem kd49 : mKnd 49 = 1 := by decide +kernel
theorem tg49 : mTag 49 = 7 := by decide +kernel
theorem po49 {x0 : Option Nat} {r : List XV} : popN (mArg 49) (vR x0 :: r) = some ([vR x0], r) := popN_of (q := [vR x0]) (show mArg 49 = 1 by decide +kernel) rfl rfl
theorem le49 {x0 : Option Nat} : (entL [vR x0]).length ≤ mLoc 49 := Nat.le_of_ble_eq_true rfl
theorem en49 {x0 : Option Nat} : ent 49 [vR x0] = [some (vR x0)] := rfl
theorem cl50 : cls 50 = 7 := by decide +kernel
theorem rt50 : mRet 50 = 0 := by decide +kernel
theorem kd50 : mKnd 50 = 1 := by decide +kernel
theorem tg50 : mTag 50 = 7 := by decide +kernel
theorem po50 {x0 : Option Nat} {x1 : Int} {x2 : Int} {x3 : Int} {r : List XV} : popN (mArg 50) (vI x3 :: vI x2 :: vI x1 :: vR x0 :: r) = some ([vR x0, vI x1, vI x2, vI x3], r) := popN_of (q := [vI x3, vI x2, vI x1, vR x0]) (show mArg 50 = 4 by decide +kernel) rfl rfl
theorem le50 {x0 : Option Nat} {x1 : Int} {x2 : Int} {x3 : Int} : (entL [vR x0, vI x1, vI x2, vI x3]).length ≤ mLoc 50 := Nat.le_of_ble_eq_true rfl
theorem en50 {x0 : Option Nat} {x1 : Int} {x2 : Int} {x3 : Int} : ent 50 [vR x0, vI x1, vI x2, vI x3] = [some (vR x0), some (vI x1), some (vI x2), some (vI x3)] := rfl
theorem cl51 : cls 51 = 7 := by decide +kernel
theorem rt51 : mRet 51 = 4 := by decide +kernel
theorem kd51 : mKnd 51 = 1 := by decide +kernel
theorem tg51 : mTag 51 = 7 := by decide +kernel
theorem po51 {x0 : Option Nat} {x1 : Int} {r : List XV} : popN (mArg 51) (vI x1 :: vR x0 :: r) = some ([vR x0, vI x1], r) := popN_of (q := [vI x1, vR x0]) (show mArg 51 = 2 by decide +kernel) rfl rfl
theorem le51 {x0 : Option Nat} {x1 : Int} : (entL [vR x0, vI x1]).length ≤ mLoc 51 := Nat.le_of_ble_eq_true rfl
theorem en51 {x0 : Option Nat} {x1 : Int} : ent 51 [vR x0, vI x1] = [some (vR x0), some (vI x1), none] := rfl
theorem cl52 : cls 52 = 7 := by decide +kernel
theorem rt52 : mRet 52 = 1 := by decide +kernel
theorem kd52 : mKnd 52 = 1 := by decide +kernel
theorem tg52 : mTag 52 = 7 := by decide +kernel
theorem po52 {x0 : Option Nat} {x1 : Option Nat} {r : List XV} : popN (mArg 52) (vR x1 :: vR x0 :: r) = some ([vR x0, vR x1], r) := popN_of (q := [vR x1, vR x0]) (show mArg 52 = 2 by decide +kernel) rfl rfl
theorem le52 {x0 : Option Nat} {x1 : Option Nat} : (entL [vR x0, vR x1]).length ≤ mLoc 52 := Nat.le_of_ble_eq_true rfl
theorem en52 {x0 : Option Nat} {x1 : Option Nat} : ent 52 [vR x0, vR x1] = [some (vR x0), some (vR x1), none, none] := rfl
theorem cl53 : cls 53 = 7 := by decide +kernel
theorem rt53 : mRet 53 = 4 := by decide +kernel
theorem kd53 : mKnd 53 = 1 := by decide +kernel
theorem tg53 : mTag 53 = 7 := by decide +kernel
theorem po53 {x0 : Option Nat} {x1 : Option Nat} {x2 : Int} {r : List XV} : popN (mArg 53) (vL x2 :: vR x1 :: vR x0 :: r) = some ([vR x0, vR x1, vL x2], r) := popN_of (q := [vL x2, vR x1, vR x0]) (show mArg 53 = 3 by decide +kernel) rfl rfl
theorem le53 {x0 : Option Nat} {x1 : Option Nat} {x2 : Int} : (entL [vR x0, vR x1, vL x2]).length ≤ mLoc 53 := Nat.le_of_ble_eq_true rfl
theorem en53 {x0 : Option Nat} {x1 : Option Nat} {x2 : Int} : ent 53 [vR x0, vR x1, vL x2] = [some (vR x0), some (vR x1), some (vL x2), none, none, none, none, none] := rfl
theorem cl54 : cls 54 = 7 := by decide +kernel
theorem rt54 : mRet 54 = 0 := by decide +kernel
theorem kd54 : mKnd 54 = 1 := by decide +kernel
theorem tg54 : mTag 54 = 7 := by decide +kernel
theorem po54 {x0 : Option Nat} {r : List XV} : popN (mArg 54) (vR x0 :: r) = some ([vR x0], r) := popN_of (q := [vR x0]) (show mArg 54 = 1 by decide +kernel) rfl rfl
theorem le54 {x0 : Option Nat} : (entL [vR x0]).length ≤ mLoc 54 := Nat.le_of_ble_eq_true rfl
theorem en54 {x0 : Option Nat} : ent 54 [vR x0] = [some (vR x0)] := rfl
theorem cl55 : cls 55 = 7 := by decide +kernel
theorem rt55 : mRet 55 = 0 := by decide +kernel
theorem kd55 : mKnd 55 = 1 := by decide +kernel
theorem tg55 : mTag 55 = 7 := by decide +kernel
theorem po55 {x0 : Option Nat} {r : List XV} : popN (mArg 55) (vR x0 :: r) = some ([vR x0], r) := popN_of (q := [vR x0]) (show mArg 55 = 1 by decide +kernel) rfl rfl
theorem le55 {x0 : Option Nat} : (entL [vR x0]).length ≤ mLoc 55 := Nat.le_of_ble_eq_true rfl
theorem en55 {x0 : Option Nat} : ent 55 [vR x0] = [some (vR x0)] := rfl
theorem cl56 : cls 56 = 7 := by decide +kernel
theorem rt56 : mRet 56 = 0 := by decide +kernel
theorem kd56 : mKnd 56 = 1 := by decide +kernel
theorem tg56 : mTag 56 = 7 := by decide +kernel
theorem po56 {x0 : Option Nat} {r : List XV} : popN (mArg 56) (vR x0 :: r) = some ([vR x0], r) := popN_of (q := [vR x0]) (show mArg 56 = 1 by decide +kernel) rfl rfl
theorem le56 {x0 : Option Nat} : (entL [vR x0]).length ≤ mLoc 56 := Nat.le_of_ble_eq_true rfl
theorem en56 {x0 : Option Nat} : ent 56 [vR x0] = [some (vR x0), none, none] := rfl
theorem cl57 : cls 57 = 7 := by decide +kernel
theorem rt57 : mRet 57 = 1 := by decide +kernel
theorem kd57 : mKnd 57 = 1 := by decide +kernel
theorem tg57 : mTag 57 = 7 := by decide +kernel
theorem po57 {x0 : Option Nat} {x1 : Int} {r : List XV} : popN (mArg 57) (vI x1 :: vR x0 :: r) = some ([vR x0, vI x1], r) := popN_of (q := [vI x1, vR x0]) (show mArg 57 = 2 by decide +kernel) rfl rfl
theorem le57 {x0 : Option Nat} {x1 : Int} : (entL [vR x0, vI x1]).length ≤ mLoc 57 := Nat.le_of_ble_eq_true rfl
theorem en57 {x0 : Option Nat} {x1 : Int} : ent 57 [vR x0, vI x1] = [some (vR x0), some (vI x1)] := rfl
theorem cl58 : cls 58 = 7 := by decide +kernel
theorem rt58 : mRet 58 = 0 := by decide +kernel
theorem kd58 : mKnd 58 = 1 := by decide +kernel
theorem tg58 : mTag 58 = 7 := by decide +kernel
theorem po58 {x0 : Option Nat} {r : List XV} : popN (mArg 58) (vR x0 :: r) = some ([vR x0], r) := popN_of (q := [vR x0]) (show mArg 58 = 1 by decide +kernel) rfl rfl
theorem le58 {x0 : Option Nat} : (entL [vR x0]).length ≤ mLoc 58 := Nat.le_of_ble_eq_true rfl
theorem en58 {x0 : Option Nat} : ent 58 [vR x0] = [some (vR x0), none] := rfl
theorem cl59 : cls 59 = 7 := by decide +kernel
theorem rt59 : mRet 59 = 0 := by decide +kernel
theorem kd59 : mKnd 59 = 1 := by decide +kernel
theorem tg59 : mTag 59 = 7 := by decide +kernel
theorem po59 {x0 : Option Nat} {r : List XV} : popN (mArg 59) (vR x0 :: r) = some ([vR x0], r) := popN_of (q := [vR x0]) (show mArg 59 = 1 by decide +kernel) rfl rfl
theorem le59 {x0 : Option Nat} : (entL [vR x0]).length ≤ mLoc 59 := Nat.le_of_ble_eq_true rfl
theorem en59 {x0 : Option Nat} : ent 59 [vR x0] = [some (vR x0), none, none, none] := rfl
theorem cl60 : cls 60 = 7 := by decide +kernel
theorem rt60 : mRet 60 = 0 := by decide +kernel
theorem kd60 : mKnd 60 = 1 := by decide +kernel
theorem tg60 : mTag 60 = 7 := by decide +kernel
theorem po60 {x0 : Option Nat} {x1 : Int} {r : List XV} : popN (mArg 60) (vI x1 :: vR x0 :: r) = some ([vR x0, vI x1], r) := popN_of (q := [vI x1, vR x0]) (show mArg 60 = 2 by decide +kernel) rfl rfl
theorem le60 {x0 : Option Nat} {x1 : Int} : (entL [vR x0, vI x1]).length ≤ mLoc 60 := Nat.le_of_ble_eq_true rfl
theorem en60 {x0 : Option Nat} {x1 : Int} : ent 60 [vR x0, vI x1] = [some (vR x0), some (vI x1), none, none, none] := rfl
theorem cl61 : cls 61 = 7 := by decide +kernel
theorem rt61 : mRet 61 = 0 := by decide +kernel
theorem kd61 : mKnd 61 = 1 := by decide +kernel
theorem tg61 : mTag 61 = 7 := by decide +kernel
theorem po61 {x0 : Option Nat} {x1 : Int} {x2 : Int} {r : List XV} : popN (mArg 61) (vI x2 :: vI x1 :: vR x0 :: r) = some ([vR x0, vI x1, vI x2], r) := popN_of (q := [vI x2, vI x1, vR x0]) (show mArg 61 = 3 by decide +kernel) rfl rfl
theorem le61 {x0 : Option Nat} {x1 : Int} {x2 : Int} : (entL [vR x0, vI x1, vI x2]).length ≤ mLoc 61 := Nat.le_of_ble_eq_true rfl
theorem en61 {x0 : Option Nat} {x1 : Int} {x2 : Int} : ent 61 [vR x0, vI x1, vI x2] = [some (vR x0), some (vI x1), some (vI x2), none, none, none, none] := rfl
theorem cl62 : cls 62 = 7 := by decide +kernel
theorem rt62 : mRet 62 = 1 := by decide +kernel
theorem kd62 : mKnd 62 = 1 := by decide +kernel
theorem tg62 : mTag 62 = 7 := by decide +kernel
theorem po62 {x0 : Option Nat} {x1 : Int} {r : List XV} : popN (mArg 62) (vI x1 :: vR x0 :: r) = some ([vR x0, vI x1], r) := popN_of (q := [vI x1, vR x0]) (show mArg 62 = 2 by decide +kernel) rfl rfl
theorem le62 {x0 : Option Nat} {x1 : Int} : (entL [vR x0, vI x1]).length ≤ mLoc 62 := Nat.le_of_ble_eq_true rfl
theorem en62 {x0 : Option Nat} {x1 : Int} : ent 62 [vR x0, vI x1] = [some (vR x0), some (vI x1)] := rfl
theorem cl63 : cls 63 = 7 := by decide +kernel
theorem rt63 : mRet 63 = 0 := by decide +kernel
theorem kd63 : mKnd 63 = 0 := by decide +kernel
theorem po63 {x0 : Int} {r : List XV} : popN (mArg 63) (vI x0 :: r) = some ([vI x0], r) := popN_of (q := [vI x0]) (show mArg 63 = 1 by decide +kernel) rfl rfl
theorem le63 {x0 : Int} : (entL [vI x0]).length ≤ mLoc 63 := Nat.le_of_ble_eq_true rfl
theorem en63 {x0 : Int} : ent 63 [vI x0] = [some (vI x0)] := rfl
theorem cl64 : cls 64 = 7 := by decide +kernel
theorem rt64 : mRet 64 = 0 := by decide +kernel
theorem kd64 : mKnd 64 = 1 := by decide +kernel
theorem tg64 : mTag 64 = 7 := by decide +kernel
theorem po64 {x0 : Option Nat} {r : List XV} : popN (mArg 64) (vR x0 :: r) = some ([vR x0], r) := popN_of (q := [vR x0]) (show mArg 64 = 1 by decide +kernel) rfl rfl
theorem le64 {x0 : Option Nat} : (entL [vR x0]).length ≤ mLoc 64 := Nat.le_of_ble_eq_true rfl
theorem en64 {x0 : Option Nat} : ent 64 [vR x0] = [some (vR x0)] := rfl
theorem cl65 : cls 65 = 7 := by decide +kernel
theorem rt65 : mRet 65 = 0 := by decide +kernel
theorem kd65 : mKnd 65 = 1 := by decide +kernel
theorem tg65 : mTag 65 = 7 := by decide +kernel
theorem po65 {x0 : Option Nat} {x1 : Int} {r : List XV} : popN (mArg 65) (vI x1 :: vR x0 :: r) = some ([vR x0, vI x1], r) := popN_of (q := [vI x1, vR x0]) (show mArg 65 = 2 by decide +kernel) rfl rfl
theorem le65 {x0 : Option Nat} {x1 : Int} : (entL [vR x0, vI x1]).length ≤ mLoc 65 := Nat.le_of_ble_eq_true rfl
theorem en65 {x0 : Option Nat} {x1 : Int} : ent 65 [vR x0, vI x1] = [some (vR x0), some (vI x1), none] := rfl
theorem cl66 : cls 66 = 7 := by decide +kernel
theorem rt66 : mRet 66 = 1 := by decide +kernel
theorem kd66 : mKnd 66 = 1 := by decide +kernel
theorem tg66 : mTag 66 = 7 := by decide +kernel
theorem po66 {x0 : Option Nat} {r : List XV} : popN (mArg 66) (vR x0 :: r) = some ([vR x0], r) := popN_of (q := [vR x0]) (show mArg 66 = 1 by decide +kernel) rfl rfl
theorem le66 {x0 : Option Nat} : (entL [vR x0]).length ≤ mLoc 66 := Nat.le_of_ble_eq_true rfl
theorem en66 {x0 : Option Nat} : ent 66 [vR x0] = [some (vR x0), none, none] := rfl
theorem cl67 : cls 67 = 8 := by decide +kernel
theorem rt67 : mRet 67 = 4 := by decide +kernel
theorem kd67 : mKnd 67 = 2 := by decide +kernel
theorem po67 {x0 : Option Nat} {r : List XV} : popN (mArg 67) (vR x0 :: r) = some ([vR x0], r) := popN_of (q := [vR x0]) (show mArg 67 = 1 by decide +kernel) rfl rfl
theorem le67 {x0 : Option Nat} : (entL [vR x0]).length ≤ mLoc 67 := Nat.le_of_ble_eq_true rfl
theorem en67 {x0 : Option Nat} : ent 67 [vR x0] = [some (vR x0)] := rfl
theorem cl68 : cls 68 = 8 := by decide +kernel
theorem rt68 : mRet 68 = 4 := by decide +kernel
theorem kd68 : mKnd 68 = 1 := by decide +kernel
theorem tg68 : mTag 68 = 8 := by decide +kernel
theorem po68 {x0 : Option Nat} {r : List XV} : popN (mArg 68) (vR x0 :: r) = some ([vR x0], r) := popN_of (q := [vR x0]) (show mArg 68 = 1 by decide +kernel) rfl rfl
theorem le68 {x0 : Option Nat} : (entL [vR x0]).length ≤ mLoc 68 := Nat.le_of_ble_eq_true rfl
theorem en68 {x0 : Option Nat} : ent 68 [vR x0] = [some (vR x0)] := rfl
theorem cl69 : cls 69 = 8 := by decide +kernel
theorem rt69 : mRet 69 = 4 := by decide +kernel
theorem kd69 : mKnd 69 = 1 := by decide +kernel
theorem tg69 : mTag 69 = 8 := by decide +kernel
theorem po69 {x0 : Option Nat} {r : List XV} : popN (mArg 69) (vR x0 :: r) = some ([vR x0], r) := popN_of (q := [vR x0]) (show mArg 69 = 1 by decide +kernel) rfl rfl
theorem le69 {x0 : Option Nat} : (entL [vR x0]).length ≤ mLoc 69 := Nat.le_of_ble_eq_true rfl
theorem en69 {x0 : Option Nat} : ent 69 [vR x0] = [some (vR x0), none] := rfl
theorem cl70 : cls 70 = 8 := by decide +kernel
theorem rt70 : mRet 70 = 1 := by decide +kernel
theorem kd70 : mKnd 70 = 1 := by decide +kernel
theorem tg70 : mTag 70 = 8 := by decide +kernel
theorem po70 {x0 : Option Nat} {x1 : Int} {x2 : Int} {x3 : Int} {r : List XV} : popN (mArg 70) (vI x3 :: vI x2 :: vI x1 :: vR x0 :: r) = some ([vR x0, vI x1, vI x2, vI x3], r) := popN_of (q := [vI x3, vI x2, vI x1, vR x0]) (show mArg 70 = 4 by decide +kernel) rfl rfl
theorem le70 {x0 : Option Nat} {x1 : Int} {x2 : Int} {x3 : Int} : (entL [vR x0, vI x1, vI x2, vI x3]).length ≤ mLoc 70 := Nat.le_of_ble_eq_true rfl
theorem en70 {x0 : Option Nat} {x1 : Int} {x2 : Int} {x3 : Int} : ent 70 [vR x0, vI x1, vI x2, vI x3] = [some (vR x0), some (vI x1), some (vI x2), some (vI x3), none, none, none, none] := rfl
theorem cl71 : cls 71 = 8 := by decide +kernel
theorem rt71 : mRet 71 = 1 := by decide +kernel
theorem kd71 : mKnd 71 = 1 := by decide +kernel
theorem tg71 : mTag 71 = 8 := by decide +kernel
theorem po71 {x0 : Option Nat} {x1 : Int} {x2 : Int} {r : List XV} : popN (mArg 71) (vI x2 :: vI x1 :: vR x0 :: r) = some ([vR x0, vI x1, vI x2], r) := popN_of (q := [vI x2, vI x1, vR x0]) (show mArg 71 = 3 by decide +kernel) rfl rfl
theorem le71 {x0 : Option Nat} {x1 : Int} {x2 : Int} : (entL [vR x0, vI x1, vI x2]).length ≤ mLoc 71 := Nat.le_of_ble_eq_true rfl
theorem en71 {x0 : Option Nat} {x1 : Int} {x2 : Int} : ent 71 [vR x0, vI x1, vI x2] = [some (vR x0), some (vI x1), some (vI x2), none] := rfl
theorem cl72 : cls 72 = 8 := by decide +kernel
theorem rt72 : mRet 72 = 4 := by decide +kernel
theorem kd72 : mKnd 72 = 1 := by decide +kernel
theorem tg72 : mTag 72 = 8 := by decide +kernel
theorem po72 {x0 : Option Nat} {x1 : Option Nat} {r : List XV} : popN (mArg 72) (vR x1 :: vR x0 :: r) = some ([vR x0, vR x1], r) := popN_of (q := [vR x1, vR x0]) (show mArg 72 = 2 by decide +kernel) rfl rfl
theorem le72 {x0 : Option Nat} {x1 : Option Nat} : (entL [vR x0, vR x1]).length ≤ mLoc 72 := Nat.le_of_ble_eq_true rfl
theorem en72 {x0 : Option Nat} {x1 : Option Nat} : ent 72 [vR x0, vR x1] = [some (vR x0), some (vR x1)] := rfl
theorem cl73 : cls 73 = 8 := by decide +kernel
theorem rt73 : mRet 73 = 0 := by decide +kernel
theorem kd73 : mKnd 73 = 1 := by decide +kernel
theorem tg73 : mTag 73 = 8 := by decide +kernel
theorem po73 {x0 : Option Nat} {r : List XV} : popN (mArg 73) (vR x0 :: r) = some ([vR x0], r) := popN_of (q := [vR x0]) (show mArg 73 = 1 by decide +kernel) rfl rfl
theorem le73 {x0 : Option Nat} : (entL [vR x0]).length ≤ mLoc 73 := Nat.le_of_ble_eq_true rfl
theorem en73 {x0 : Option Nat} : ent 73 [vR x0] = [some (vR x0), none, none] := rfl
theorem cl74 : cls 74 = 8 := by decide +kernel
theorem rt74 : mRet 74 = 0 := by decide +kernel
theorem kd74 : mKnd 74 = 1 := by decide +kernel
theorem tg74 : mTag 74 = 8 := by decide +kernel
theorem po74 {x0 : Option Nat} {x1 : Option Nat} {r : List XV} : popN (mArg 74) (vR x1 :: vR x0 :: r) = some ([vR x0, vR x1], r) := popN_of (q := [vR x1, vR x0]) (show mArg 74 = 2 by decide +kernel) rfl rfl
theorem le74 {x0 : Option Nat} {x1 : Option Nat} : (entL [vR x0, vR x1]).length ≤ mLoc 74 := Nat.le_of_ble_eq_true rfl
theorem en74 {x0 : Option Nat} {x1 : Option Nat} : ent 74 [vR x0, vR x1] = [some (vR x0), some (vR x1)] := rfl
theorem cl75 : cls 75 = 9 := by decide +kernel
theorem rt75 : mRet 75 = 4 := by decide +kernel
theorem kd75 : mKnd 75 = 2 := by decide +kernel
theorem po75 {x0 : Option Nat} {r : List XV} : popN (mArg 75) (vR x0 :: r) = some ([vR x0], r) := popN_of (q := [vR x0]) (show mArg 75 = 1 by decide +kernel) rfl rfl
theorem le75 {x0 : Option Nat} : (entL [vR x0]).length ≤ mLoc 75 := Nat.le_of_ble_eq_true rfl
theorem en75 {x0 : Option Nat} : ent 75 [vR x0] = [some (vR x0)] := rfl
theorem cl76 : cls 76 = 9 := by decide +kernel
theorem rt76 : mRet 76 = 4 := by decide +kernel
theorem kd76 : mKnd 76 = 1 := by decide +kernel
theorem tg76 : mTag 76 = 9 := by decide +kernel
theorem po76 {x0 : Option Nat} {x1 : Int} {x2 : Int} {x3 : Int} {x4 : Int} {r : List XV} : popN (mArg 76) (vI x4 :: vI x3 :: vI x2 :: vI x1 :: vR x0 :: r) = some ([vR x0, vI x1, vI x2, vI x3, vI x4], r) := popN_of (q := [vI x4, vI x3, vI x2, vI x1, vR x0]) (show mArg 76 = 5 by decide +kernel) rfl rfl
theorem le76 {x0 : Option Nat} {x1 : Int} {x2 : Int} {x3 : Int} {x4 : Int} : (entL [vR x0, vI x1, vI x2, vI x3, vI x4]).length ≤ mLoc 76 := Nat.le_of_ble_eq_true rfl
theorem en76 {x0 : Option Nat} {x1 : Int} {x2 : Int} {x3 : Int} {x4 : Int} : ent 76 [vR x0, vI x1, vI x2, vI x3, vI x4] = [some (vR x0), some (vI x1), some (vI x2), some (vI x3), some (vI x4)] := rfl
theorem cl77 : cls 77 = 9 := by decide +kernel
theorem rt77 : mRet 77 = 0 := by decide +kernel
theorem kd77 : mKnd 77 = 1 := by decide +kernel
theorem tg77 : mTag 77 = 9 := by decide +kernel
theorem po77 {x0 : Option Nat} {x1 : Option Nat} {r : List XV} : popN (mArg 77) (vR x1 :: vR x0 :: r) = some ([vR x0, vR x1], r) := popN_of (q := [vR x1, vR x0]) (show mArg 77 = 2 by decide +kernel) rfl rfl
theorem le77 {x0 : Option Nat} {x1 : Option Nat} : (entL [vR x0, vR x1]).length ≤ mLoc 77 := Nat.le_of_ble_eq_true rfl
theorem en77 {x0 : Option Nat} {x1 : Option Nat} : ent 77 [vR x0, vR x1] = [some (vR x0), some (vR x1), none, none, none] := rfl
theorem cl78 : cls 78 = 9 := by decide +kernel
theorem rt78 : mRet 78 = 0 := by decide +kernel
theorem kd78 : mKnd 78 = 1 := by decide +kernel
theorem tg78 : mTag 78 = 9 := by decide +kernel
theorem po78 {x0 : Option Nat} {x1 : Int} {x2 : Option Nat} {r : List XV} : popN (mArg 78) (vR x2 :: vI x1 :: vR x0 :: r) = some ([vR x0, vI x1, vR x2], r) := popN_of (q := [vR x2, vI x1, vR x0]) (show mArg 78 = 3 by decide +kernel) rfl rfl
theorem le78 {x0 : Option Nat} {x1 : Int} {x2 : Option Nat} : (entL [vR x0, vI x1, vR x2]).length ≤ mLoc 78 := Nat.le_of_ble_eq_true rfl
theorem en78 {x0 : Option Nat} {x1 : Int} {x2 : Option Nat} : ent 78 [vR x0, vI x1, vR x2] = [some (vR x0), some (vI x1), some (vR x2), none, none, none, none] := rfl
theorem cl79 : cls 79 = 10 := by decide +kernel
theorem rt79 : mRet 79 = 4 := by decide +kernel
theorem kd79 : mKnd 79 = 2 := by decide +kernel
theorem po79 {x0 : Option Nat} {x1 : Int} {x2 : Int} {x3 : Int} {r : List XV} : popN (mArg 79) (vI x3 :: vI x2 :: vI x1 :: vR x0 :: r) = some ([vR x0, vI x1, vI x2, vI x3], r) := popN_of (q := [vI x3, vI x2, vI x1, vR x0]) (show mArg 79 = 4 by decide +kernel) rfl rfl
theorem le79 {x0 : Option Nat} {x1 : Int} {x2 : Int} {x3 : Int} : (entL [vR x0, vI x1, vI x2, vI x3]).length ≤ mLoc 79 := Nat.le_of_ble_eq_true rfl
theorem en79 {x0 : Option Nat} {x1 : Int} {x2 : Int} {x3 : Int} : ent 79 [vR x0, vI x1, vI x2, vI x3] = [some (vR x0), some (vI x1), some (vI x2), some (vI x3)] := rfl
theorem cl80 : cls 80 = 10 := by decide +kernel
theorem rt80 : mRet 80 = 1 := by decide +kernel
theorem kd80 : mKnd 80 = 1 := by decide +kernel
theorem tg80 : mTag 80 = 10 := by decide +kernel
theorem po80 {x0 : Option Nat} {x1 : Int} {r : List XV} : popN (mArg 80) (vI x1 :: vR x0 :: r) = some ([vR x0, vI x1], r) := popN_of (q := [vI x1, vR x0]) (show mArg 80 = 2 by decide +kernel) rfl rfl
theorem le80 {x0 : Option Nat} {x1 : Int} : (entL [vR x0, vI x1]).length ≤ mLoc 80 := Nat.le_of_ble_eq_true rfl
theorem en80 {x0 : Option Nat} {x1 : Int} : ent 80 [vR x0, vI x1] = [some (vR x0), some (vI x1)] := rfl
theorem cl81 : cls 81 = 11 := by decide +kernel
theorem rt81 : mRet 81 = 4 := by decide +kernel
theorem kd81 : mKnd 81 = 2 := by decide +kernel
theorem po81 {x0 : Option Nat} {r : List XV} : popN (mArg 81) (vR x0 :: r) = some ([vR x0], r) := popN_of (q := [vR x0]) (show mArg 81 = 1 by decide +kernel) rfl rfl
theorem le81 {x0 : Option Nat} : (entL [vR x0]).length ≤ mLoc 81 := Nat.le_of_ble_eq_true rfl
theorem en81 {x0 : Option Nat} : ent 81 [vR x0] = [some (vR x0), none] := rfl
theorem cl82 : cls 82 = 11 := by decide +kernel
theorem rt82 : mRet 82 = 0 := by decide +kernel
theorem kd82 : mKnd 82 = 1 := by decide +kernel
theorem tg82 : mTag 82 = 11 := by decide +kernel
theorem po82 {x0 : Option Nat} {x1 : Int} {x2 : Int} {r : List XV} : popN (mArg 82) (vI x2 :: vI x1 :: vR x0 :: r) = some ([vR x0, vI x1, vI x2], r) := popN_of (q := [vI x2, vI x1, vR x0]) (show mArg 82 = 3 by decide +kernel) rfl rfl
theorem le82 {x0 : Option Nat} {x1 : Int} {x2 : Int} : (entL [vR x0, vI x1, vI x2]).length ≤ mLoc 82 := Nat.le_of_ble_eq_true rfl
theorem en82 {x0 : Option Nat} {x1 : Int} {x2 : Int} : ent 82 [vR x0, vI x1, vI x2] = [some (vR x0), some (vI x1), some (vI x2), none] := rfl
theorem cl83 : cls 83 = 11 := by decide +kernel
theorem rt83 : mRet 83 = 1 := by decide +kernel
theorem kd83 : mKnd 83 = 0 := by decide +kernel
theorem po83 {x0 : Int} {x1 : Int} {x2 : Int} {r : List XV} : popN (mArg 83) (vI x2 :: vI x1 :: vI x0 :: r) = some ([vI x0, vI x1, vI x2], r) := popN_of (q := [vI x2, vI x1, vI x0]) (show mArg 83 = 3 by decide +kernel) rfl rfl
theorem le83 {x0 : Int} {x1 : Int} {x2 : Int} : (entL [vI x0, vI x1, vI x2]).length ≤ mLoc 83 := Nat.le_of_ble_eq_true rfl
theorem en83 {x0 : Int} {x1 : Int} {x2 : Int} : ent 83 [vI x0, vI x1, vI x2] = [some (vI x0), some (vI x1), some (vI x2)] := rfl
theorem cl84 : cls 84 = 11 := by decide +kernel
theorem rt84 : mRet 84 = 4 := by decide +kernel
theorem kd84 : mKnd 84 = 0 := by decide +kernel
theorem po84 {x0 : Int} {r : List XV} : popN (mArg 84) (vI x0 :: r) = some ([vI x0], r) := popN_of (q := [vI x0]) (show mArg 84 = 1 by decide +kernel) rfl rfl
theorem le84 {x0 : Int} : (entL [vI x0]).length ≤ mLoc 84 := Nat.le_of_ble_eq_true rfl
theorem en84 {x0 : Int} : ent 84 [vI x0] = [some (vI x0)] := rfl
theorem cl85 : cls 85 = 11 := by decide +kernel
theorem rt85 : mRet 85 = 0 := by decide +kernel
theorem kd85 : mKnd 85 = 0 := by decide +kernel
theorem po85 {x0 : Int} {r : List XV} : popN (mArg 85) (vI x0 :: r) = some ([vI x0], r) := popN_of (q := [vI x0]) (show mArg 85 = 1 by decide +kernel) rfl rfl
theorem le85 {x0 : Int} : (entL [vI x0]).length ≤ mLoc 85 := Nat.le_of_ble_eq_true rfl
theorem en85 {x0 : Int} : ent 85 [vI x0] = [some (vI x0), none] := rfl
theorem cl86 : cls 86 = 11 := by decide +kernel
theorem rt86 : mRet 86 = 1 := by decide +kernel
theorem kd86 : mKnd 86 = 0 := by decide +kernel
theorem po86 {x0 : Int} {x1 : Int} {r : List XV} : popN (mArg 86) (vI x1 :: vI x0 :: r) = some ([vI x0, vI x1], r) := popN_of (q := [vI x1, vI x0]) (show mArg 86 = 2 by decide +kernel) rfl rfl
theorem le86 {x0 : Int} {x1 : Int} : (entL [vI x0, vI x1]).length ≤ mLoc 86 := Nat.le_of_ble_eq_true rfl
theorem en86 {x0 : Int} {x1 : Int} : ent 86 [vI x0, vI x1] = [some (vI x0), some (vI x1)] := rfl
theorem cl87 : cls 87 = 11 := by decide +kernel
theorem rt87 : mRet 87 = 0 := by decide +kernel
theorem kd87 : mKnd 87 = 1 := by decide +kernel
theorem tg87 : mTag 87 = 11 := by decide +kernel
theorem po87 {x0 : Option Nat} {x1 : Int} {r : List XV} : popN (mArg 87) (vI x1 :: vR x0 :: r) = some ([vR x0, vI x1], r) := popN_of (q := [vI x1, vR x0]) (show mArg 87 = 2 by decide +kernel) rfl rfl
theorem le87 {x0 : Option Nat} {x1 : Int} : (entL [vR x0, vI x1]).length ≤ mLoc 87 := Nat.le_of_ble_eq_true rfl
theorem en87 {x0 : Option Nat} {x1 : Int} : ent 87 [vR x0, vI x1] = [some (vR x0), some (vI x1)] := rfl
theorem cl88 : cls 88 = 11 := by decide +kernel
theorem rt88 : mRet 88 = 4 := by decide +kernel
theorem kd88 : mKnd 88 = 0 := by decide +kernel
theorem po88 {x0 : Int} {r : List XV} : popN (mArg 88) (vI x0 :: r) = some ([vI x0], r) := popN_of (q := [vI x0]) (show mArg 88 = 1 by decide +kernel) rfl rfl
theorem le88 {x0 : Int} : (entL [vI x0]).length ≤ mLoc 88 := Nat.le_of_ble_eq_true rfl
theorem en88 {x0 : Int} : ent 88 [vI x0] = [some (vI x0)] := rfl
theorem cl89 : cls 89 = 11 := by decide +kernel
theorem rt89 : mRet 89 = 0 := by decide +kernel
theorem kd89 : mKnd 89 = 1 := by decide +kernel
theorem tg89 : mTag 89 = 11 := by decide +kernel
theorem po89 {x0 : Option Nat} {x1 : Int} {x2 : Int} {x3 : Int} {x4 : Int} {r : List XV} : popN (mArg 89) (vI x4 :: vI x3 :: vI x2 :: vI x1 :: vR x0 :: r) = some ([vR x0, vI x1, vI x2, vI x3, vI x4], r) := popN_of (q := [vI x4, vI x3, vI x2, vI x1, vR x0]) (show mArg 89 = 5 by decide +kernel) rfl rfl
theorem le89 {x0 : Option Nat} {x1 : Int} {x2 : Int} {x3 : Int} {x4 : Int} : (entL [vR x0, vI x1, vI x2, vI x3, vI x4]).length ≤ mLoc 89 := Nat.le_of_ble_eq_true rfl
theorem en89 {x0 : Option Nat} {x1 : Int} {x2 : Int} {x3 : Int} {x4 : Int} : ent 89 [vR x0, vI x1, vI x2, vI x3, vI x4] = [some (vR x0), some (vI x1), some (vI x2), some (vI x3), some (vI x4)] := rfl
theorem cl90 : cls 90 = 11 := by decide +kernel
theorem rt90 : mRet 90 = 1 := by decide +kernel
theorem kd90 : mKnd 90 = 0 := by decide +kernel
theorem po90 {x0 : Int} {r : List XV} : popN (mArg 90) (vI x0 :: r) = some ([vI x0], r) := popN_of (q := [vI x0]) (show mArg 90 = 1 by decide +kernel) rfl rfl
theorem le90 {x0 : Int} : (entL [vI x0]).length ≤ mLoc 90 := Nat.le_of_ble_eq_true rfl
theorem en90 {x0 : Int} : ent 90 [vI x0] = [some (vI x0)] := rfl
theorem cl91 : cls 91 = 11 := by decide +kernel
theorem rt91 : mRet 91 = 0 := by decide +kernel
theorem kd91 : mKnd 91 = 1 := by decide +kernel
theorem tg91 : mTag 91 = 11 := by decide +kernel
theorem po91 {x0 : Option Nat} {x1 : Int} {x2 : Int} {x3 : Int} {r : List XV} : popN (mArg 91) (vI x3 :: vI x2 :: vI x1 :: vR x0 :: r) = some ([vR x0, vI x1, vI x2, vI x3], r) := popN_of (q := [vI x3, vI x2, vI x1, vR x0]) (show mArg 91 = 4 by decide +kernel) rfl rfl
theorem le91 {x0 : Option Nat} {x1 : Int} {x2 : Int} {x3 : Int} : (entL [vR x0, vI x1, vI x2, vI x3]).length ≤ mLoc 91 := Nat.le_of_ble_eq_true rfl
theorem en91 {x0 : Option Nat} {x1 : Int} {x2 : Int} {x3 : Int} : ent 91 [vR x0, vI x1, vI x2, vI x3] = [some (vR x0), some (vI x1), some (vI x2), some (vI x3)] := rfl
theorem cl92 : cls 92 = 11 := by decide +kernel
theorem rt92 : mRet 92 = 0 := by decide +kernel
theorem kd92 : mKnd 92 = 1 := by decide +kernel
theorem tg92 : mTag 92 = 11 := by decide +kernel
theorem po92 {x0 : Option Nat} {x1 : Int} {x2 : Int} {x3 : Int} {r : List XV} : popN (mArg 92) (vI x3 :: vI x2 :: vI x1 :: vR x0 :: r) = some ([vR x0, vI x1, vI x2, vI x3], r) := popN_of (q := [vI x3, vI x2, vI x1, vR x0]) (show mArg 92 = 4 by decide +kernel) rfl rfl
theorem le92 {x0 : Option Nat} {x1 : Int} {x2 : Int} {x3 : Int} : (entL [vR x0, vI x1, vI x2, vI x3]).length ≤ mLoc 92 := Nat.le_of_ble_eq_true rfl
theorem en92 {x0 : Option Nat} {x1 : Int} {x2 : Int} {x3 : Int} : ent 92 [vR x0, vI x1, vI x2, vI x3] = [some (vR x0), some (vI x1), some (vI x2), some (vI x3)] := rfl
theorem cl93 : cls 93 = 11 := by decide +kernel
theorem rt93 : mRet 93 = 1 := by decide +kernel
theorem kd93 : mKnd 93 = 0 := by decide +kernel
theorem po93 {x0 : Int} {r : List XV} : popN (mArg 93) (vI x0 :: r) = some ([vI x0], r) := popN_of (q := [vI x0]) (show mArg 93 = 1 by decide +kernel) rfl rfl
theorem le93 {x0 : Int} : (entL [vI x0]).length ≤ mLoc 93 := Nat.le_of_ble_eq_true rfl
theorem en93 {x0 : Int} : ent 93 [vI x0] = [some (vI x0)] := rfl
theorem cl94 : cls 94 = 11 := by decide +kernel
theorem rt94 : mRet 94 = 4 := by decide +kernel
theorem kd94 : mKnd 94 = 0 := by decide +kernel
theorem po94 {x0 : Int} {r : List XV} : popN (mArg 94) (vI x0 :: r) = some ([vI x0], r) := popN_of (q := [vI x0]) (show mArg 94 = 1 by decide +kernel) rfl rfl
theorem le94 {x0 : Int} : (entL [vI x0]).length ≤ mLoc 94 := Nat.le_of_ble_eq_true rfl
theorem en94 {x0 : Int} : ent 94 [vI x0] = [some (vI x0)] := rfl
theorem cl95 : cls 95 = 11 := by decide +kernel
theorem rt95 : mRet 95 = 0 := by decide +kernel
theorem kd95 : mKnd 95 = 1 := by decide +kernel
theorem tg95 : mTag 95 = 11 := by decide +kernel
theorem po95 {x0 : Option Nat} {x1 : Int} {x2 : Int} {x3 : Int} {x4 : Int} {r : List XV} : popN (mArg 95) (vI x4 :: vI x3 :: vI x2 :: vI x1 :: vR x0 :: r) = some ([vR x0, vI x1, vI x2, vI x3, vI x4], r) := popN_of (q := [vI x4, vI x3, vI x2, vI x1, vR x0]) (show mArg 95 = 5 by decide +kernel) rfl rfl
theorem le95 {x0 : Option Nat} {x1 : Int} {x2 : Int} {x3 : Int} {x4 : Int} : (entL [vR x0, vI x1, vI x2, vI x3, vI x4]).length ≤ mLoc 95 := Nat.le_of_ble_eq_true rfl
theorem en95 {x0 : Option Nat} {x1 : Int} {x2 : Int} {x3 : Int} {x4 : Int} : ent 95 [vR x0, vI x1, vI x2, vI x3, vI x4] = [some (vR x0), some (vI x1), some (vI x2), some (vI x3), some (vI x4), none] := rfl
theorem cl96 : cls 96 = 11 := by decide +kernel
theorem rt96 : mRet 96 = 1 := by decide +kernel
theorem kd96 : mKnd 96 = 0 := by decide +kernel
theorem po96 {x0 : Int} {x1 : Int} {r : List XV} : popN (mArg 96) (vI x1 :: vI x0 :: r) = some ([vI x0, vI x1], r) := popN_of (q := [vI x1, vI x0]) (show mArg 96 = 2 by decide +kernel) rfl rfl
theorem le96 {x0 : Int} {x1 : Int} : (entL [vI x0, vI x1]).length ≤ mLoc 96 := Nat.le_of_ble_eq_true rfl
theorem en96 {x0 : Int} {x1 : Int} : ent 96 [vI x0, vI x1] = [some (vI x0), some (vI x1)] := rfl
theorem cl97 : cls 97 = 11 := by decide +kernel
theorem rt97 : mRet 97 = 1 := by decide +kernel
theorem kd97 : mKnd 97 = 0 := by decide +kernel
theorem po97 {x0 : Int} {r : List XV} : popN (mArg 97) (vI x0 :: r) = some ([vI x0], r) := popN_of (q := [vI x0]) (show mArg 97 = 1 by decide +kernel) rfl rfl
theorem le97 {x0 : Int} : (entL [vI x0]).length ≤ mLoc 97 := Nat.le_of_ble_eq_true rfl
theorem en97 {x0 : Int} : ent 97 [vI x0] = [some (vI x0)] := rfl
theorem cl98 : cls 98 = 11 := by decide +kernel
theorem rt98 : mRet 98 = 1 := by decide +kernel
theorem kd98 : mKnd 98 = 1 := by decide +kernel
theorem tg98 : mTag 98 = 11 := by decide +kernel
theorem po98 {x0 : Option Nat} {x1 : Int} {r : List XV} : popN (mArg 98) (vI x1 :: vR x0 :: r) = some ([vR x0, vI x1], r) := popN_of (q := [vI x1, vR x0]) (show mArg 98 = 2 by decide +kernel) rfl rfl
theorem le98 {x0 : Option Nat} {x1 : Int} : (entL [vR x0, vI x1]).length ≤ mLoc 98 := Nat.le_of_ble_eq_true rfl
theorem en98 {x0 : Option Nat} {x1 : Int} : ent 98 [vR x0, vI x1] = [some (vR x0), some (vI x1)] := rfl
theorem cl99 : cls 99 = 11 := by decide +kernel
theorem rt99 : mRet 99 = 4 := by decide +kernel
theorem kd99 : mKnd 99 = 1 := by decide +kernel
theorem tg99 : mTag 99 = 11 := by decide +kernel
theorem po99 {x0 : Option Nat} {x1 : Option Nat} {r : List XV} : popN (mArg 99) (vR x1 :: vR x0 :: r) = some ([vR x0, vR x1], r) := popN_of (q := [vR x1, vR x0]) (show mArg 99 = 2 by decide +kernel) rfl rfl
theorem le99 {x0 : Option Nat} {x1 : Option Nat} : (entL [vR x0, vR x1]).length ≤ mLoc 99 := Nat.le_of_ble_eq_true rfl
theorem en99 {x0 : Option Nat} {x1 : Option Nat} : ent 99 [vR x0, vR x1] = [some (vR x0), some (vR x1)] := rfl
theorem cl100 : cls 100 = 11 := by decide +kernel
theorem rt100 : mRet 100 = 0 := by decide +kernel
theorem kd100 : mKnd 100 = 1 := by decide +kernel
theorem tg100 : mTag 100 = 11 := by decide +kernel
theorem po100 {x0 : Option Nat} {x1 : Int} {x2 : Int} {x3 : Int} {x4 : Int} {x5 : Int} {r : List XV} : popN (mArg 100) (vI x5 :: vI x4 :: vI x3 :: vI x2 :: vI x1 :: vR x0 :: r) = some ([vR x0, vI x1, vI x2, vI x3, vI x4, vI x5], r) := popN_of (q := [vI x5, vI x4, vI x3, vI x2, vI x1, vR x0]) (show mArg 100 = 6 by decide +kernel) rfl rfl
theorem le100 {x0 : Option Nat} {x1 : Int} {x2 : Int} {x3 : Int} {x4 : Int} {x5 : Int} : (entL [vR x0, vI x1, vI x2, vI x3, vI x4, vI x5]).length ≤ mLoc 100 := Nat.le_of_ble_eq_true rfl
theorem en100 {x0 : Option Nat} {x1 : Int} {x2 : Int} {x3 : Int} {x4 : Int} {x5 : Int} : ent 100 [vR x0, vI x1, vI x2, vI x3, vI x4, vI x5] = [some (vR x0), some (vI x1), some (vI x2), some (vI x3), some (vI x4), some (vI x5), none, none] := rfl
theorem cl101 : cls 101 = 11 := by decide +kernel
theorem rt101 : mRet 101 = 1 := by decide +kernel
theorem kd101 : mKnd 101 = 0 := by decide +kernel
theorem po101 {x0 : Int} {r : List XV} : popN (mArg 101) (vI x0 :: r) = some ([vI x0], r) := popN_of (q := [vI x0]) (show mArg 101 = 1 by decide +kernel) rfl rfl
theorem le101 {x0 : Int} : (entL [vI x0]).length ≤ mLoc 101 := Nat.le_of_ble_eq_true rfl
theorem en101 {x0 : Int} : ent 101 [vI x0] = [some (vI x0)] := rfl
theorem cl102 : cls 102 = 11 := by decide +kernel
theorem rt102 : mRet 102 = 0 := by decide +kernel
theorem kd102 : mKnd 102 = 1 := by decide +kernel
theorem tg102 : mTag 102 = 11 := by decide +kernel
theorem po102 {x0 : Option Nat} {x1 : Int} {x2 : Int} {x3 : Int} {x4 : Int} {r : List XV} : popN (mArg 102) (vI x4 :: vI x3 :: vI x2 :: vI x1 :: vR x0 :: r) = some ([vR x0, vI x1, vI x2, vI x3, vI x4], r) := popN_of (q := [vI x4, vI x3, vI x2, vI x1, vR x0]) (show mArg 102 = 5 by decide +kernel) rfl rfl
theorem le102 {x0 : Option Nat} {x1 : Int} {x2 : Int} {x3 : Int} {x4 : Int} : (entL [vR x0, vI x1, vI x2, vI x3, vI x4]).length ≤ mLoc 102 := Nat.le_of_ble_eq_true rfl
theorem en102 {x0 : Option Nat} {x1 : Int} {x2 : Int} {x3 : Int} {x4 : Int} : ent 102 [vR x0, vI x1, vI x2, vI x3, vI x4] = [some (vR x0), some (vI x1), some (vI x2), some (vI x3), some (vI x4), none, none] := rfl
theorem cl103 : cls 103 = 11 := by decide +kernel
theorem rt103 : mRet 103 = 1 := by decide +kernel
theorem kd103 : mKnd 103 = 1 := by decide +kernel
theorem tg103 : mTag 103 = 11 := by decide +kernel
theorem po103 {x0 : Option Nat} {x1 : Int} {r : List XV} : popN (mArg 103) (vI x1 :: vR x0 :: r) = some ([vR x0, vI x1], r) := popN_of (q := [vI x1, vR x0]) (show mArg 103 = 2 by decide +kernel) rfl rfl
theorem le103 {x0 : Option Nat} {x1 : Int} : (entL [vR x0, vI x1]).length ≤ mLoc 103 := Nat.le_of_ble_eq_true rfl
theorem en103 {x0 : Option Nat} {x1 : Int} : ent 103 [vR x0, vI x1] = [some (vR x0), some (vI x1)] := rfl
theorem cl104 : cls 104 = 11 := by decide +kernel
theorem rt104 : mRet 104 = 0 := by decide +kernel
theorem kd104 : mKnd 104 = 1 := by decide +kernel
theorem tg104 : mTag 104 = 11 := by decide +kernel
theorem po104 {x0 : Option Nat} {x1 : Int} {x2 : Int} {x3 : Int} {x4 : Int} {r : List XV} : popN (mArg 104) (vI x4 :: vI x3 :: vI x2 :: vI x1 :: vR x0 :: r) = some ([vR x0, vI x1, vI x2, vI x3, vI x4], r) := popN_of (q := [vI x4, vI x3, vI x2, vI x1, vR x0]) (show mArg 104 = 5 by decide +kernel) rfl rfl
theorem le104 {x0 : Option Nat} {x1 : Int} {x2 : Int} {x3 : Int} {x4 : Int} : (entL [vR x0, vI x1, vI x2, vI x3, vI x4]).length ≤ mLoc 104 := Nat.le_of_ble_eq_true rfl
theorem en104 {x0 : Option Nat} {x1 : Int} {x2 : Int} {x3 : Int} {x4 : Int} : ent 104 [vR x0, vI x1, vI x2, vI x3, vI x4] = [some (vR x0), some (vI x1), some (vI x2), some (vI x3), some (vI x4), none] := rfl
theorem cl105 : cls 105 = 11 := by decide +kernel
theorem rt105 : mRet 105 = 0 := by decide +kernel
theorem kd105 : mKnd 105 = 1 := by decide +kernel
theorem tg105 : mTag 105 = 11 := by decide +kernel
theorem po105 {x0 : Option Nat} {x1 : Int} {x2 : Int} {x3 : Int} {r : List XV} : popN (mArg 105) (vI x3 :: vI x2 :: vI x1 :: vR x0 :: r) = some ([vR x0, vI x1, vI x2, vI x3], r) := popN_of (q := [vI x3, vI x2, vI x1, vR x0]) (show mArg 105 = 4 by decide +kernel) rfl rfl
theorem le105 {x0 : Option Nat} {x1 : Int} {x2 : Int} {x3 : Int} : (entL [vR x0, vI x1, vI x2, vI x3]).length ≤ mLoc 105 := Nat.le_of_ble_eq_true rfl
theorem en105 {x0 : Option Nat} {x1 : Int} {x2 : Int} {x3 : Int} : ent 105 [vR x0, vI x1, vI x2, vI x3] = [some (vR x0), some (vI x1), some (vI x2), some (vI x3)] := rfl
theorem cl106 : cls 106 = 11 := by decide +kernel
theorem rt106 : mRet 106 = 0 := by decide +kernel
theorem kd106 : mKnd 106 = 1 := by decide +kernel
theorem tg106 : mTag 106 = 11 := by decide +kernel
theorem po106 {x0 : Option Nat} {x1 : Int} {x2 : Int} {x3 : Int} {x4 : Int} {x5 : Int} {r : List XV} : popN (mArg 106) (vI x5 :: vI x4 :: vI x3 :: vI x2 :: vI x1 :: vR x0 :: r) = some ([vR x0, vI x1, vI x2, vI x3, vI x4, vI x5], r) := popN_of (q := [vI x5, vI x4, vI x3, vI x2, vI x1, vR x0]) (show mArg 106 = 6 by decide +kernel) rfl rfl
theorem le106 {x0 : Option Nat} {x1 : Int} {x2 : Int} {x3 : Int} {x4 : Int} {x5 : Int} : (entL [vR x0, vI x1, vI x2, vI x3, vI x4, vI x5]).length ≤ mLoc 106 := Nat.le_of_ble_eq_true rfl
theorem en106 {x0 : Option Nat} {x1 : Int} {x2 : Int} {x3 : Int} {x4 : Int} {x5 : Int} : ent 106 [vR x0, vI x1, vI x2, vI x3, vI x4, vI x5] = [some (vR x0), some (vI x1), some (vI x2), some (vI x3), some (vI x4), some (vI x5), none, none] := rfl
theorem cl107 : cls 107 = 11 := by decide +kernel
theorem rt107 : mRet 107 = 0 := by decide +kernel
theorem kd107 : mKnd 107 = 1 := by decide +kernel
theorem tg107 : mTag 107 = 11 := by decide +kernel
theorem po107 {x0 : Option Nat} {x1 : Int} {x2 : Int} {x3 : Int} {r : List XV} : popN (mArg 107) (vI x3 :: vI x2 :: vI x1 :: vR x0 :: r) = some ([vR x0, vI x1, vI x2, vI x3], r) := popN_of (q := [vI x3, vI x2, vI x1, vR x0]) (show mArg 107 = 4 by decide +kernel) rfl rfl
theorem le107 {x0 : Option Nat} {x1 : Int} {x2 : Int} {x3 : Int} : (entL [vR x0, vI x1, vI x2, vI x3]).length ≤ mLoc 107 := Nat.le_of_ble_eq_true rfl
theorem en107 {x0 : Option Nat} {x1 : Int} {x2 : Int} {x3 : Int} : ent 107 [vR x0, vI x1, vI x2, vI x3] = [some (vR x0), some (vI x1), some (vI x2), some (vI x3), none] := rfl
theorem cl108 : cls 108 = 11 := by decide +kernel
theorem rt108 : mRet 108 = 1 := by decide +kernel
theorem kd108 : mKnd 108 = 1 := by decide +kernel
theorem tg108 : mTag 108 = 11 := by decide +kernel
theorem po108 {x0 : Option Nat} {x1 : Int} {r : List XV} : popN (mArg 108) (vI x1 :: vR x0 :: r) = some ([vR x0, vI x1], r) := popN_of (q := [vI x1, vR x0]) (show mArg 108 = 2 by decide +kernel) rfl rfl
theorem le108 {x0 : Option Nat} {x1 : Int} : (entL [vR x0, vI x1]).length ≤ mLoc 108 := Nat.le_of_ble_eq_true rfl
theorem en108 {x0 : Option Nat} {x1 : Int} : ent 108 [vR x0, vI x1] = [some (vR x0), some (vI x1)] := rfl
theorem cl109 : cls 109 = 11 := by decide +kernel
theorem rt109 : mRet 109 = 1 := by decide +kernel
theorem kd109 : mKnd 109 = 1 := by decide +kernel
theorem tg109 : mTag 109 = 11 := by decide +kernel
theorem po109 {x0 : Option Nat} {x1 : Int} {r : List XV} : popN (mArg 109) (vI x1 :: vR x0 :: r) = some ([vR x0, vI x1], r) := popN_of (q := [vI x1, vR x0]) (show mArg 109 = 2 by decide +kernel) rfl rfl
theorem le109 {x0 : Option Nat} {x1 : Int} : (entL [vR x0, vI x1]).length ≤ mLoc 109 := Nat.le_of_ble_eq_true rfl
theorem en109 {x0 : Option Nat} {x1 : Int} : ent 109 [vR x0, vI x1] = [some (vR x0), some (vI x1)] := rfl
theorem cl110 : cls 110 = 11 := by decide +kernel
theorem rt110 : mRet 110 = 0 := by decide +kernel
theorem kd110 : mKnd 110 = 1 := by decide +kernel
theorem tg110 : mTag 110 = 11 := by decide +kernel
theorem po110 {x0 : Option Nat} {x1 : Option Nat} {r : List XV} : popN (mArg 110) (vR x1 :: vR x0 :: r) = some ([vR x0, vR x1], r) := popN_of (q := [vR x1, vR x0]) (show mArg 110 = 2 by decide +kernel) rfl rfl
theorem le110 {x0 : Option Nat} {x1 : Option Nat} : (entL [vR x0, vR x1]).length ≤ mLoc 110 := Nat.le_of_ble_eq_true rfl
theorem en110 {x0 : Option Nat} {x1 : Option Nat} : ent 110 [vR x0, vR x1] = [some (vR x0), some (vR x1), none, none] := rfl
theorem cl111 : cls 111 = 11 := by decide +kernel
theorem rt111 : mRet 111 = 0 := by decide +kernel
theorem kd111 : mKnd 111 = 1 := by decide +kernel
theorem tg111 : mTag 111 = 11 := by decide +kernel
theorem po111 {x0 : Option Nat} {x1 : Int} {x2 : Int} {x3 : Int} {r : List XV} : popN (mArg 111) (vI x3 :: vI x2 :: vI x1 :: vR x0 :: r) = some ([vR x0, vI x1, vI x2, vI x3], r) := popN_of (q := [vI x3, vI x2, vI x1, vR x0]) (show mArg 111 = 4 by decide +kernel) rfl rfl
theorem le111 {x0 : Option Nat} {x1 : Int} {x2 : Int} {x3 : Int} : (entL [vR x0, vI x1, vI x2, vI x3]).length ≤ mLoc 111 := Nat.le_of_ble_eq_true rfl
theorem en111 {x0 : Option Nat} {x1 : Int} {x2 : Int} {x3 : Int} : ent 111 [vR x0, vI x1, vI x2, vI x3] = [some (vR x0), some (vI x1), some (vI x2), some (vI x3), none, none] := rfl
theorem cl112 : cls 112 = 11 := by decide +kernel
theorem rt112 : mRet 112 = 0 := by decide +kernel
theorem kd112 : mKnd 112 = 1 := by decide +kernel
theorem tg112 : mTag 112 = 11 := by decide +kernel
theorem po112 {x0 : Option Nat} {x1 : Int} {x2 : Int} {x3 : Int} {r : List XV} : popN (mArg 112) (vI x3 :: vI x2 :: vI x1 :: vR x0 :: r) = some ([vR x0, vI x1, vI x2, vI x3], r) := popN_of (q := [vI x3, vI x2, vI x1, vR x0]) (show mArg 112 = 4 by decide +kernel) rfl rfl
theorem le112 {x0 : Option Nat} {x1 : Int} {x2 : Int} {x3 : Int} : (entL [vR x0, vI x1, vI x2, vI x3]).length ≤ mLoc 112 := Nat.le_of_ble_eq_true rfl
theorem en112 {x0 : Option Nat} {x1 : Int} {x2 : Int} {x3 : Int} : ent 112 [vR x0, vI x1, vI x2, vI x3] = [some (vR x0), some (vI x1), some (vI x2), some (vI x3)] := rfl
theorem cl113 : cls 113 = 11 := by decide +kernel
theorem rt113 : mRet 113 = 0 := by decide +kernel
theorem kd113 : mKnd 113 = 1 := by decide +kernel
theorem tg113 : mTag 113 = 11 := by decide +kernel
theorem po113 {x0 : Option Nat} {x1 : Int} {x2 : Int} {x3 : Int} {r : List XV} : popN (mArg 113) (vI x3 :: vI x2 :: vI x1 :: vR x0 :: r) = some ([vR x0, vI x1, vI x2, vI x3], r) := popN_of (q := [vI x3, vI x2, vI x1, vR x0]) (show mArg 113 = 4 by decide +kernel) rfl rfl
theorem le113 {x0 : Option Nat} {x1 : Int} {x2 : Int} {x3 : Int} : (entL [vR x0, vI x1, vI x2, vI x3]).length ≤ mLoc 113 := Nat.le_of_ble_eq_true rfl
theorem en113 {x0 : Option Nat} {x1 : Int} {x2 : Int} {x3 : Int} : ent 113 [vR x0, vI x1, vI x2, vI x3] = [some (vR x0), some (vI x1), some (vI x2), some (vI x3), none, none] := rfl
theorem cl114 : cls 114 = 11 := by decide +kernel
theorem rt114 : mRet 114 = 0 := by decide +kernel
theorem kd114 : mKnd 114 = 1 := by decide +kernel
theorem tg114 : mTag 114 = 11 := by decide +kernel
theorem po114 {x0 : Option Nat} {x1 : Int} {x2 : Int} {x3 : Int} {r : List XV} : popN (mArg 114) (vI x3 :: vI x2 :: vI x1 :: vR x0 :: r) = some ([vR x0, vI x1, vI x2, vI x3], r) := popN_of (q := [vI x3, vI x2, vI x1, vR x0]) (show mArg 114 = 4 by decide +kernel) rfl rfl
theorem le114 {x0 : Option Nat} {x1 : Int} {x2 : Int} {x3 : Int} : (entL [vR x0, vI x1, vI x2, vI x3]).length ≤ mLoc 114 := Nat.le_of_ble_eq_true rfl
theorem en114 {x0 : Option Nat} {x1 : Int} {x2 : Int} {x3 : Int} : ent 114 [vR x0, vI x1, vI x2, vI x3] = [some (vR x0), some (vI x1), some (vI x2), some (vI x3)] := rfl
theorem cl115 : cls 115 = 11 := by decide +kernel
theorem rt115 : mRet 115 = 1 := by decide +kernel
theorem kd115 : mKnd 115 = 0 := by decide +kernel
theorem po115 {x0 : Int} {r : List XV} : popN (mArg 115) (vI x0 :: r) = some ([vI x0], r) := popN_of (q := [vI x0]) (show mArg 115 = 1 by decide +kernel) rfl rfl
theorem le115 {x0 : Int} : (entL [vI x0]).length ≤ mLoc 115 := Nat.le_of_ble_eq_true rfl
theorem en115 {x0 : Int} : ent 115 [vI x0] = [some (vI x0)] := rfl
theorem cl116 : cls 116 = 11 := by decide +kernel
theorem rt116 : mRet 116 = 0 := by decide +kernel
theorem kd116 : mKnd 116 = 1 := by decide +kernel
theorem tg116 : mTag 116 = 11 := by decide +kernel
theorem po116 {x0 : Option Nat} {x1 : Int} {x2 : Int} {r : List XV} : popN (mArg 116) (vI x2 :: vI x1 :: vR x0 :: r) = some ([vR x0, vI x1, vI x2], r) := popN_of (q := [vI x2, vI x1, vR x0]) (show mArg 116 = 3 by decide +kernel) rfl rfl
theorem le116 {x0 : Option Nat} {x1 : Int} {x2 : Int} : (entL [vR x0, vI x1, vI x2]).length ≤ mLoc 116 := Nat.le_of_ble_eq_true rfl
theorem en116 {x0 : Option Nat} {x1 : Int} {x2 : Int} : ent 116 [vR x0, vI x1, vI x2] = [some (vR x0), some (vI x1), some (vI x2), none] := rfl
theorem cl117 : cls 117 = 11 := by decide +kernel
theorem rt117 : mRet 117 = 0 := by decide +kernel
theorem kd117 : mKnd 117 = 1 := by decide +kernel
theorem tg117 : mTag 117 = 11 := by decide +kernel
theorem po117 {x0 : Option Nat} {x1 : Int} {x2 : Int} {x3 : Int} {r : List XV} : popN (mArg 117) (vI x3 :: vI x2 :: vI x1 :: vR x0 :: r) = some ([vR x0, vI x1, vI x2, vI x3], r) := popN_of (q := [vI x3, vI x2, vI x1, vR x0]) (show mArg 117 = 4 by decide +kernel) rfl rfl
theorem le117 {x0 : Option Nat} {x1 : Int} {x2 : Int} {x3 : Int} : (entL [vR x0, vI x1, vI x2, vI x3]).length ≤ mLoc 117 := Nat.le_of_ble_eq_true rfl
theorem en117 {x0 : Option Nat} {x1 : Int} {x2 : Int} {x3 : Int} : ent 117 [vR x0, vI x1, vI x2, vI x3] = [some (vR x0), some (vI x1), some (vI x2), some (vI x3)] := rfl
theorem cl118 : cls 118 = 11 := by decide +kernel
theorem rt118 : mRet 118 = 0 := by decide +kernel
theorem kd118 : mKnd 118 = 1 := by decide +kernel
theorem tg118 : mTag 118 = 11 := by decide +kernel
theorem po118 {x0 : Option Nat} {x1 : Int} {x2 : Int} {x3 : Int} {r : List XV} : popN (mArg 118) (vI x3 :: vI x2 :: vI x1 :: vR x0 :: r) = some ([vR x0, vI x1, vI x2, vI x3], r) := popN_of (q := [vI x3, vI x2, vI x1, vR x0]) (show mArg 118 = 4 by decide +kernel) rfl rfl
theorem le118 {x0 : Option Nat} {x1 : Int} {x2 : Int} {x3 : Int} : (entL [vR x0, vI x1, vI x2, vI x3]).length ≤ mLoc 118 := Nat.le_of_ble_eq_true rfl
theorem en118 {x0 : Option Nat} {x1 : Int} {x2 : Int} {x3 : Int} : ent 118 [vR x0, vI x1, vI x2, vI x3] = [some (vR x0), some (vI x1), some (vI x2), some (vI x3)] := rfl
theorem cl119 : cls 119 = 11 := by decide +kernel
theorem rt119 : mRet 119 = 0 := by decide +kernel
theorem kd119 : mKnd 119 = 1 := by decide +kernel
theorem tg119 : mTag 119 = 11 := by decide +kernel
theorem po119 {x0 : Option Nat} {x1 : Int} {x2 : Int} {x3 : Int} {x4 : Int} {r : List XV} : popN (mArg 119) (vI x4 :: vI x3 :: vI x2 :: vI x1 :: vR x0 :: r) = some ([vR x0, vI x1, vI x2, vI x3, vI x4], r) := popN_of (q := [vI x4, vI x3, vI x2, vI x1, vR x0]) (show mArg 119 = 5 by decide +kernel) rfl rfl
theorem le119 {x0 : Option Nat} {x1 : Int} {x2 : Int} {x3 : Int} {x4 : Int} : (entL [vR x0, vI x1, vI x2, vI x3, vI x4]).length ≤ mLoc 119 := Nat.le_of_ble_eq_true rfl
theorem en119 {x0 : Option Nat} {x1 : Int} {x2 : Int} {x3 : Int} {x4 : Int} : ent 119 [vR x0, vI x1, vI x2, vI x3, vI x4] = [some (vR x0), some (vI x1), some (vI x2), some (vI x3), some (vI x4)] := rfl
theorem cl120 : cls 120 = 11 := by decide +kernel
theorem rt120 : mRet 120 = 1 := by decide +kernel
theorem kd120 : mKnd 120 = 0 := by decide +kernel
theorem po120 {x0 : Int} {x1 : Int} {x2 : Int} {r : List XV} : popN (mArg 120) (vI x2 :: vI x1 :: vI x0 :: r) = some ([vI x0, vI x1, vI x2], r) := popN_of (q := [vI x2, vI x1, vI x0]) (show mArg 120 = 3 by decide +kernel) rfl rfl
theorem le120 {x0 : Int} {x1 : Int} {x2 : Int} : (entL [vI x0, vI x1, vI x2]).length ≤ mLoc 120 := Nat.le_of_ble_eq_true rfl
theorem en120 {x0 : Int} {x1 : Int} {x2 : Int} : ent 120 [vI x0, vI x1, vI x2] = [some (vI x0), some (vI x1), some (vI x2)] := rfl
theorem cl121 : cls 121 = 11 := by decide +kernel
theorem rt121 : mRet 121 = 0 := by decide +kernel
theorem kd121 : mKnd 121 = 1 := by decide +kernel
theorem tg121 : mTag 121 = 11 := by decide +kernel
theorem po121 {x0 : Option Nat} {x1 : Int} {x2 : Int} {x3 : Int} {x4 : Int} {x5 : Int} {r : List XV} : popN (mArg 121) (vI x5 :: vI x4 :: vI x3 :: vI x2 :: vI x1 :: vR x0 :: r) = some ([vR x0, vI x1, vI x2, vI x3, vI x4, vI x5], r) := popN_of (q := [vI x5, vI x4, vI x3, vI x2, vI x1, vR x0]) (show mArg 121 = 6 by decide +kernel) rfl rfl
theorem le121 {x0 : Option Nat} {x1 : Int} {x2 : Int} {x3 : Int} {x4 : Int} {x5 : Int} : (entL [vR x0, vI x1, vI x2, vI x3, vI x4, vI x5]).length ≤ mLoc 121 := Nat.le_of_ble_eq_true rfl
theorem en121 {x0 : Option Nat} {x1 : Int} {x2 : Int} {x3 : Int} {x4 : Int} {x5 : Int} : ent 121 [vR x0, vI x1, vI x2, vI x3, vI x4, vI x5] = [some (vR x0), some (vI x1), some (vI x2), some (vI x3), some (vI x4), some (vI x5), none] := rfl
theorem cl122 : cls 122 = 11 := by decide +kernel
theorem rt122 : mRet 122 = 0 := by decide +kernel
theorem kd122 : mKnd 122 = 1 := by decide +kernel
theorem tg122 : mTag 122 = 11 := by decide +kernel
theorem po122 {x0 : Option Nat} {x1 : Int} {r : List XV} : popN (mArg 122) (vI x1 :: vR x0 :: r) = some ([vR x0, vI x1], r) := popN_of (q := [vI x1, vR x0]) (show mArg 122 = 2 by decide +kernel) rfl rfl
theorem le122 {x0 : Option Nat} {x1 : Int} : (entL [vR x0, vI x1]).length ≤ mLoc 122 := Nat.le_of_ble_eq_true rfl
theorem en122 {x0 : Option Nat} {x1 : Int} : ent 122 [vR x0, vI x1] = [some (vR x0), some (vI x1)] := rfl
theorem cl123 : cls 123 = 11 := by decide +kernel
theorem rt123 : mRet 123 = 2 := by decide +kernel
theorem kd123 : mKnd 123 = 1 := by decide +kernel
theorem tg123 : mTag 123 = 11 := by decide +kernel
theorem po123 {x0 : Option Nat} {r : List XV} : popN (mArg 123) (vR x0 :: r) = some ([vR x0], r) := popN_of (q := [vR x0]) (show mArg 123 = 1 by decide +kernel) rfl rfl
theorem le123 {x0 : Option Nat} : (entL [vR x0]).length ≤ mLoc 123 := Nat.le_of_ble_eq_true rfl
theorem en123 {x0 : Option Nat} : ent 123 [vR x0] = [some (vR x0), none, none, none] := rfl
theorem cl124 : cls 124 = 11 := by decide +kernel
theorem rt124 : mRet 124 = 2 := by decide +kernel
theorem kd124 : mKnd 124 = 0 := by decide +kernel
theorem po124 {x0 : Int} {x1 : Int} {r : List XV} : popN (mArg 124) (vL x1 :: vL x0 :: r) = some ([vL x0, vL x1], r) := popN_of (q := [vL x1, vL x0]) (show mArg 124 = 2 by decide +kernel) rfl rfl
theorem le124 {x0 : Int} {x1 : Int} : (entL [vL x0, vL x1]).length ≤ mLoc 124 := Nat.le_of_ble_eq_true rfl
theorem en124 {x0 : Int} {x1 : Int} : ent 124 [vL x0, vL x1] = [some (vL x0), none, some (vL x1), none] := rfl
theorem cl125 : cls 125 = 11 := by decide +kernel
theorem rt125 : mRet 125 = 2 := by decide +kernel
theorem kd125 : mKnd 125 = 1 := by decide +kernel
theorem tg125 : mTag 125 = 11 := by decide +kernel
theorem po125 {x0 : Option Nat} {x1 : Int} {r : List XV} : popN (mArg 125) (vL x1 :: vR x0 :: r) = some ([vR x0, vL x1], r) := popN_of (q := [vL x1, vR x0]) (show mArg 125 = 2 by decide +kernel) rfl rfl
theorem le125 {x0 : Option Nat} {x1 : Int} : (entL [vR x0, vL x1]).length ≤ mLoc 125 := Nat.le_of_ble_eq_true rfl
theorem en125 {x0 : Option Nat} {x1 : Int} : ent 125 [vR x0, vL x1] = [some (vR x0), some (vL x1), none, none, none, none] := rfl
theorem cl126 : cls 126 = 11 := by decide +kernel
theorem rt126 : mRet 126 = 2 := by decide +kernel
theorem kd126 : mKnd 126 = 1 := by decide +kernel
theorem tg126 : mTag 126 = 11 := by decide +kernel
theorem po126 {x0 : Option Nat} {x1 : Int} {r : List XV} : popN (mArg 126) (vL x1 :: vR x0 :: r) = some ([vR x0, vL x1], r) := popN_of (q := [vL x1, vR x0]) (show mArg 126 = 2 by decide +kernel) rfl rfl
theorem le126 {x0 : Option Nat} {x1 : Int} : (entL [vR x0, vL x1]).length ≤ mLoc 126 := Nat.le_of_ble_eq_true rfl
theorem en126 {x0 : Option Nat} {x1 : Int} : ent 126 [vR x0, vL x1] = [some (vR x0), some (vL x1), none, none, none, none, none] := rfl
theorem cl127 : cls 127 = 11 := by decide +kernel
theorem rt127 : mRet 127 = 0 := by decide +kernel
theorem kd127 : mKnd 127 = 1 := by decide +kernel
theorem tg127 : mTag 127 = 11 := by decide +kernel
theorem po127 {x0 : Option Nat} {x1 : Int} {x2 : Int} {r : List XV} : popN (mArg 127) (vI x2 :: vI x1 :: vR x0 :: r) = some ([vR x0, vI x1, vI x2], r) := popN_of (q := [vI x2, vI x1, vR x0]) (show mArg 127 = 3 by decide +kernel) rfl rfl
theorem le127 {x0 : Option Nat} {x1 : Int} {x2 : Int} : (entL [vR x0, vI x1, vI x2]).length ≤ mLoc 127 := Nat.le_of_ble_eq_true rfl
theorem en127 {x0 : Option Nat} {x1 : Int} {x2 : Int} : ent 127 [vR x0, vI x1, vI x2] = [some (vR x0), some (vI x1), some (vI x2), none] := rfl
theorem cl128 : cls 128 = 11 := by decide +kernel
theorem rt128 : mRet 128 = 2 := by decide +kernel
theorem kd128 : mKnd 128 = 1 := by decide +kernel
theorem tg128 : mTag 128 = 11 := by decide +kernel
theorem po128 {x0 : Option Nat} {x1 : Int} {r : List XV} : popN (mArg 128) (vL x1 :: vR x0 :: r) = some ([vR x0, vL x1], r) := popN_of (q := [vL x1, vR x0]) (show mArg 128 = 2 by decide +kernel) rfl rfl
theorem le128 {x0 : Option Nat} {x1 : Int} : (entL [vR x0, vL x1]).length ≤ mLoc 128 := Nat.le_of_ble_eq_true rfl
theorem en128 {x0 : Option Nat} {x1 : Int} : ent 128 [vR x0, vL x1] = [some (vR x0), some (vL x1), none, none, none, none, none] := rfl
theorem cl129 : cls 129 = 11 := by decide +kernel
theorem rt129 : mRet 129 = 0 := by decide +kernel
theorem kd129 : mKnd 129 = 1 := by decide +kernel
theorem tg129 : mTag 129 = 11 := by decide +kernel
theorem po129 {x0 : Option Nat} {x1 : Int} {x2 : Int} {r : List XV} : popN (mArg 129) (vI x2 :: vI x1 :: vR x0 :: r) = some ([vR x0, vI x1, vI x2], r) := popN_of (q := [vI x2, vI x1, vR x0]) (show mArg 129 = 3 by decide +kernel) rfl rfl
theorem le129 {x0 : Option Nat} {x1 : Int} {x2 : Int} : (entL [vR x0, vI x1, vI x2]).length ≤ mLoc 129 := Nat.le_of_ble_eq_true rfl
theorem en129 {x0 : Option Nat} {x1 : Int} {x2 : Int} : ent 129 [vR x0, vI x1, vI x2] = [some (vR x0), some (vI x1), some (vI x2), none] := rfl
theorem cl130 : cls 130 = 11 := by decide +kernel
theorem rt130 : mRet 130 = 0 := by decide +kernel
theorem kd130 : mKnd 130 = 1 := by decide +kernel
theorem tg130 : mTag 130 = 11 := by decide +kernel
theorem po130 {x0 : Option Nat} {x1 : Option Nat} {r : List XV} : popN (mArg 130) (vR x1 :: vR x0 :: r) = some ([vR x0, vR x1], r) := popN_of (q := [vR x1, vR x0]) (show mArg 130 = 2 by decide +kernel) rfl rfl
theorem le130 {x0 : Option Nat} {x1 : Option Nat} : (entL [vR x0, vR x1]).length ≤ mLoc 130 := Nat.le_of_ble_eq_true rfl
theorem en130 {x0 : Option Nat} {x1 : Option Nat} : ent 130 [vR x0, vR x1] = [some (vR x0), some (vR x1), none] := rfl
theorem cl131 : cls 131 = 11 := by decide +kernel
theorem rt131 : mRet 131 = 0 := by decide +kernel
theorem kd131 : mKnd 131 = 1 := by decide +kernel
theorem tg131 : mTag 131 = 11 := by decide +kernel
theorem po131 {x0 : Option Nat} {x1 : Option Nat} {r : List XV} : popN (mArg 131) (vR x1 :: vR x0 :: r) = some ([vR x0, vR x1], r) := popN_of (q := [vR x1, vR x0]) (show mArg 131 = 2 by decide +kernel) rfl rfl
theorem le131 {x0 : Option Nat} {x1 : Option Nat} : (entL [vR x0, vR x1]).length ≤ mLoc 131 := Nat.le_of_ble_eq_true rfl
theorem en131 {x0 : Option Nat} {x1 : Option Nat} : ent 131 [vR x0, vR x1] = [some (vR x0), some (vR x1), none, none] := rfl
theorem cl132 : cls 132 = 11 := by decide +kernel
theorem rt132 : mRet 132 = 1 := by decide +kernel
theorem kd132 : mKnd 132 = 0 := by decide +kernel
theorem po132 {x0 : Option Nat} {x1 : Option Nat} {r : List XV} : popN (mArg 132) (vR x1 :: vR x0 :: r) = some ([vR x0, vR x1], r) := popN_of (q := [vR x1, vR x0]) (show mArg 132 = 2 by decide +kernel) rfl rfl
theorem le132 {x0 : Option Nat} {x1 : Option Nat} : (entL [vR x0, vR x1]).length ≤ mLoc 132 := Nat.le_of_ble_eq_true rfl
theorem en132 {x0 : Option Nat} {x1 : Option Nat} : ent 132 [vR x0, vR x1] = [some (vR x0), some (vR x1)] := rfl
theorem cl133 : cls 133 = 11 := by decide +kernel
theorem rt133 : mRet 133 = 0 := by decide +kernel
theorem kd133 : mKnd 133 = 1 := by decide +kernel
theorem tg133 : mTag 133 = 11 := by decide +kernel
theorem po133 {x0 : Option Nat} {x1 : Int} {r : List XV} : popN (mArg 133) (vI x1 :: vR x0 :: r) = some ([vR x0, vI x1], r) := popN_of (q := [vI x1, vR x0]) (show mArg 133 = 2 by decide +kernel) rfl rfl
theorem le133 {x0 : Option Nat} {x1 : Int} : (entL [vR x0, vI x1]).length ≤ mLoc 133 := Nat.le_of_ble_eq_true rfl
theorem en133 {x0 : Option Nat} {x1 : Int} : ent 133 [vR x0, vI x1] = [some (vR x0), some (vI x1)] := rfl
theorem cl134 : cls 134 = 11 := by decide +kernel
theorem rt134 : mRet 134 = 0 := by decide +kernel
theorem kd134 : mKnd 134 = 1 := by decide +kernel
theorem tg134 : mTag 134 = 11 := by decide +kernel
theorem po134 {x0 : Option Nat} {x1 : Int} {r : List XV} : popN (mArg 134) (vI x1 :: vR x0 :: r) = some ([vR x0, vI x1], r) := popN_of (q := [vI x1, vR x0]) (show mArg 134 = 2 by decide +kernel) rfl rfl
theorem le134 {x0 : Option Nat} {x1 : Int} : (entL [vR x0, vI x1]).length ≤ mLoc 134 := Nat.le_of_ble_eq_true rfl
theorem en134 {x0 : Option Nat} {x1 : Int} : ent 134 [vR x0, vI x1] = [some (vR x0), some (vI x1)] := rfl
theorem cl135 : cls 135 = 11 := by decide +kernel
theorem rt135 : mRet 135 = 0 := by decide +kernel
theorem kd135 : mKnd 135 = 1 := by decide +kernel
theorem tg135 : mTag 135 = 11 := by decide +kernel
theorem po135 {x0 : Option Nat} {x1 : Int} {x2 : Int} {r : List XV} : popN (mArg 135) (vI x2 :: vI x1 :: vR x0 :: r) = some ([vR x0, vI x1, vI x2], r) := popN_of (q := [vI x2, vI x1, vR x0]) (show mArg 135 = 3 by decide +kernel) rfl rfl
theorem le135 {x0 : Option Nat} {x1 : Int} {x2 : Int} : (entL [vR x0, vI x1, vI x2]).length ≤ mLoc 135 := Nat.le_of_ble_eq_true rfl
theorem en135 {x0 : Option Nat} {x1 : Int} {x2 : Int} : ent 135 [vR x0, vI x1, vI x2] = [some (vR x0), some (vI x1), some (vI x2)] := rfl
theorem cl136 : cls 136 = 11 := by decide +kernel
theorem rt136 : mRet 136 = 0 := by decide +kernel
theorem kd136 : mKnd 136 = 1 := by decide +kernel
theorem tg136 : mTag 136 = 11 := by decide +kernel
theorem po136 {x0 : Option Nat} {x1 : Int} {x2 : Int} {r : List XV} : popN (mArg 136) (vI x2 :: vI x1 :: vR x0 :: r) = some ([vR x0, vI x1, vI x2], r) := popN_of (q := [vI x2, vI x1, vR x0]) (show mArg 136 = 3 by decide +kernel) rfl rfl
theorem le136 {x0 : Option Nat} {x1 : Int} {x2 : Int} : (entL [vR x0, vI x1, vI x2]).length ≤ mLoc 136 := Nat.le_of_ble_eq_true rfl
theorem en136 {x0 : Option Nat} {x1 : Int} {x2 : Int} : ent 136 [vR x0, vI x1, vI x2] = [some (vR x0), some (vI x1), some (vI x2), none, none] := rfl
theorem cl137 : cls 137 = 11 := by decide +kernel
theorem rt137 : mRet 137 = 1 := by decide +kernel
theorem kd137 : mKnd 137 = 1 := by decide +kernel
theorem tg137 : mTag 137 = 11 := by decide +kernel
theorem po137 {x0 : Option Nat} {x1 : Option Nat} {r : List XV} : popN (mArg 137) (vR x1 :: vR x0 :: r) = some ([vR x0, vR x1], r) := popN_of (q := [vR x1, vR x0]) (show mArg 137 = 2 by decide +kernel) rfl rfl
theorem le137 {x0 : Option Nat} {x1 : Option Nat} : (entL [vR x0, vR x1]).length ≤ mLoc 137 := Nat.le_of_ble_eq_true rfl
theorem en137 {x0 : Option Nat} {x1 : Option Nat} : ent 137 [vR x0, vR x1] = [some (vR x0), some (vR x1), none, none] := rfl
theorem cl138 : cls 138 = 11 := by decide +kernel
theorem rt138 : mRet 138 = 0 := by decide +kernel
theorem kd138 : mKnd 138 = 1 := by decide +kernel
theorem tg138 : mTag 138 = 11 := by decide +kernel
theorem po138 {x0 : Option Nat} {x1 : Int} {r : List XV} : popN (mArg 138) (vI x1 :: vR x0 :: r) = some ([vR x0, vI x1], r) := popN_of (q := [vI x1, vR x0]) (show mArg 138 = 2 by decide +kernel) rfl rfl
theorem le138 {x0 : Option Nat} {x1 : Int} : (entL [vR x0, vI x1]).length ≤ mLoc 138 := Nat.le_of_ble_eq_true rfl
theorem en138 {x0 : Option Nat} {x1 : Int} : ent 138 [vR x0, vI x1] = [some (vR x0), some (vI x1)] := rfl
theorem cl139 : cls 139 = 11 := by decide +kernel
theorem rt139 : mRet 139 = 0 := by decide +kernel
theorem kd139 : mKnd 139 = 1 := by decide +kernel
theorem tg139 : mTag 139 = 11 := by decide +kernel
theorem po139 {x0 : Option Nat} {x1 : Option Nat} {r : List XV} : popN (mArg 139) (vR x1 :: vR x0 :: r) = some ([vR x0, vR x1], r) := popN_of (q := [vR x1, vR x0]) (show mArg 139 = 2 by decide +kernel) rfl rfl
theorem le139 {x0 : Option Nat} {x1 : Option Nat} : (entL [vR x0, vR x1]).length ≤ mLoc 139 := Nat.le_of_ble_eq_true rfl
theorem en139 {x0 : Option Nat} {x1 : Option Nat} : ent 139 [vR x0, vR x1] = [some (vR x0), some (vR x1), none] := rfl
theorem cl140 : cls 140 = 11 := by decide +kernel
theorem rt140 : mRet 140 = 1 := by decide +kernel
theorem kd140 : mKnd 140 = 1 := by decide +kernel
theorem tg140 : mTag 140 = 11 := by decide +kernel
theorem po140 {x0 : Option Nat} {x1 : Int} {r : List XV} : popN (mArg 140) (vI x1 :: vR x0 :: r) = some ([vR x0, vI x1], r) := popN_of (q := [vI x1, vR x0]) (show mArg 140 = 2 by decide +kernel) rfl rfl
theorem le140 {x0 : Option Nat} {x1 : Int} : (entL [vR x0, vI x1]).length ≤ mLoc 140 := Nat.le_of_ble_eq_true rfl
theorem en140 {x0 : Option Nat} {x1 : Int} : ent 140 [vR x0, vI x1] = [some (vR x0), some (vI x1)] := rfl
theorem cl141 : cls 141 = 11 := by decide +kernel
theorem rt141 : mRet 141 = 2 := by decide +kernel
theorem kd141 : mKnd 141 = 1 := by decide +kernel
theorem tg141 : mTag 141 = 11 := by decide +kernel
theorem po141 {x0 : Option Nat} {x1 : Int} {r : List XV} : popN (mArg 141) (vL x1 :: vR x0 :: r) = some ([vR x0, vL x1], r) := popN_of (q := [vL x1, vR x0]) (show mArg 141 = 2 by decide +kernel) rfl rfl
theorem le141 {x0 : Option Nat} {x1 : Int} : (entL [vR x0, vL x1]).length ≤ mLoc 141 := Nat.le_of_ble_eq_true rfl
theorem en141 {x0 : Option Nat} {x1 : Int} : ent 141 [vR x0, vL x1] = [some (vR x0), some (vL x1), none, none, none, none, none] := rfl
theorem cl142 : cls 142 = 11 := by decide +kernel
theorem rt142 : mRet 142 = 0 := by decide +kernel
theorem kd142 : mKnd 142 = 1 := by decide +kernel
theorem tg142 : mTag 142 = 11 := by decide +kernel
theorem po142 {x0 : Option Nat} {x1 : Int} {x2 : Int} {r : List XV} : popN (mArg 142) (vI x2 :: vI x1 :: vR x0 :: r) = some ([vR x0, vI x1, vI x2], r) := popN_of (q := [vI x2, vI x1, vR x0]) (show mArg 142 = 3 by decide +kernel) rfl rfl
theorem le142 {x0 : Option Nat} {x1 : Int} {x2 : Int} : (entL [vR x0, vI x1, vI x2]).length ≤ mLoc 142 := Nat.le_of_ble_eq_true rfl
theorem en142 {x0 : Option Nat} {x1 : Int} {x2 : Int} : ent 142 [vR x0, vI x1, vI x2] = [some (vR x0), some (vI x1), some (vI x2), none] := rfl
theorem cl143 : cls 143 = 11 := by decide +kernel
theorem rt143 : mRet 143 = 0 := by decide +kernel
theorem kd143 : mKnd 143 = 1 := by decide +kernel
theorem tg143 : mTag 143 = 11 := by decide +kernel
theorem po143 {x0 : Option Nat} {x1 : Option Nat} {r : List XV} : popN (mArg 143) (vR x1 :: vR x0 :: r) = some ([vR x0, vR x1], r) := popN_of (q := [vR x1, vR x0]) (show mArg 143 = 2 by decide +kernel) rfl rfl
theorem le143 {x0 : Option Nat} {x1 : Option Nat} : (entL [vR x0, vR x1]).length ≤ mLoc 143 := Nat.le_of_ble_eq_true rfl
theorem en143 {x0 : Option Nat} {x1 : Option Nat} : ent 143 [vR x0, vR x1] = [some (vR x0), some (vR x1)] := rfl
theorem cl144 : cls 144 = 11 := by decide +kernel
theorem rt144 : mRet 144 = 0 := by decide +kernel
theorem kd144 : mKnd 144 = 1 := by decide +kernel
theorem tg144 : mTag 144 = 11 := by decide +kernel
theorem po144 {x0 : Option Nat} {x1 : Option Nat} {r : List XV} : popN (mArg 144) (vR x1 :: vR x0 :: r) = some ([vR x0, vR x1], r) := popN_of (q := [vR x1, vR x0]) (show mArg 144 = 2 by decide +kernel) rfl rfl
theorem le144 {x0 : Option Nat} {x1 : Option Nat} : (entL [vR x0, vR x1]).length ≤ mLoc 144 := Nat.le_of_ble_eq_true rfl
theorem en144 {x0 : Option Nat} {x1 : Option Nat} : ent 144 [vR x0, vR x1] = [some (vR x0), some (vR x1), none, none] := rfl
theorem cl145 : cls 145 = 11 := by decide +kernel
theorem rt145 : mRet 145 = 0 := by decide +kernel
theorem kd145 : mKnd 145 = 1 := by decide +kernel
theorem tg145 : mTag 145 = 11 := by decide +kernel
theorem po145 {x0 : Option Nat} {x1 : Option Nat} {r : List XV} : popN (mArg 145) (vR x1 :: vR x0 :: r) = some ([vR x0, vR x1], r) := popN_of (q := [vR x1, vR x0]) (show mArg 145 = 2 by decide +kernel) rfl rfl
theorem le145 {x0 : Option Nat} {x1 : Option Nat} : (entL [vR x0, vR x1]).length ≤ mLoc 145 := Nat.le_of_ble_eq_true rfl
theorem en145 {x0 : Option Nat} {x1 : Option Nat} : ent 145 [vR x0, vR x1] = [some (vR x0), some (vR x1), none, none] := rfl
theorem cl146 : cls 146 = 11 := by decide +kernel
theorem rt146 : mRet 146 = 0 := by decide +kernel
theorem kd146 : mKnd 146 = 1 := by decide +kernel
theorem tg146 : mTag 146 = 11 := by decide +kernel
theorem po146 {x0 : Option Nat} {x1 : Option Nat} {r : List XV} : popN (mArg 146) (vR x1 :: vR x0 :: r) = some ([vR x0, vR x1], r) := popN_of (q := [vR x1, vR x0]) (show mArg 146 = 2 by decide +kernel) rfl rfl
theorem le146 {x0 : Option Nat} {x1 : Option Nat} : (entL [vR x0, vR x1]).length ≤ mLoc 146 := Nat.le_of_ble_eq_true rfl
theorem en146 {x0 : Option Nat} {x1 : Option Nat} : ent 146 [vR x0, vR x1] = [some (vR x0), some (vR x1), none] := rfl
theorem cl147 : cls 147 = 11 := by decide +kernel
theorem rt147 : mRet 147 = 0 := by decide +kernel
theorem kd147 : mKnd 147 = 1 := by decide +kernel
theorem tg147 : mTag 147 = 11 := by decide +kernel
theorem po147 {x0 : Option Nat} {x1 : Option Nat} {r : List XV} : popN (mArg 147) (vR x1 :: vR x0 :: r) = some ([vR x0, vR x1], r) := popN_of (q := [vR x1, vR x0]) (show mArg 147 = 2 by decide +kernel) rfl rfl
theorem le147 {x0 : Option Nat} {x1 : Option Nat} : (entL [vR x0, vR x1]).length ≤ mLoc 147 := Nat.le_of_ble_eq_true rfl
theorem en147 {x0 : Option Nat} {x1 : Option Nat} : ent 147 [vR x0, vR x1] = [some (vR x0), some (vR x1)] := rfl
theorem cl148 : cls 148 = 11 := by decide +kernel
theorem rt148 : mRet 148 = 0 := by decide +kernel
theorem kd148 : mKnd 148 = 0 := by decide +kernel
theorem po148 {x0 : Int} {x1 : Int} {x2 : Int} {r : List XV} : popN (mArg 148) (vI x2 :: vI x1 :: vI x0 :: r) = some ([vI x0, vI x1, vI x2], r) := popN_of (q := [vI x2, vI x1, vI x0]) (show mArg 148 = 3 by decide +kernel) rfl rfl
theorem le148 {x0 : Int} {x1 : Int} {x2 : Int} : (entL [vI x0, vI x1, vI x2]).length ≤ mLoc 148 := Nat.le_of_ble_eq_true rfl
theorem en148 {x0 : Int} {x1 : Int} {x2 : Int} : ent 148 [vI x0, vI x1, vI x2] = [some (vI x0), some (vI x1), some (vI x2)] := rfl
theorem cl149 : cls 149 = 11 := by decide +kernel
theorem rt149 : mRet 149 = 1 := by decide +kernel
theorem kd149 : mKnd 149 = 1 := by decide +kernel
theorem tg149 : mTag 149 = 11 := by decide +kernel
theorem po149 {x0 : Option Nat} {x1 : Option Nat} {r : List XV} : popN (mArg 149) (vR x1 :: vR x0 :: r) = some ([vR x0, vR x1], r) := popN_of (q := [vR x1, vR x0]) (show mArg 149 = 2 by decide +kernel) rfl rfl
theorem le149 {x0 : Option Nat} {x1 : Option Nat} : (entL [vR x0, vR x1]).length ≤ mLoc 149 := Nat.le_of_ble_eq_true rfl
theorem en149 {x0 : Option Nat} {x1 : Option Nat} : ent 149 [vR x0, vR x1] = [some (vR x0), some (vR x1)] := rfl
theorem cl150 : cls 150 = 11 := by decide +kernel
theorem rt150 : mRet 150 = 0 := by decide +kernel
theorem kd150 : mKnd 150 = 1 := by decide +kernel
theorem tg150 : mTag 150 = 11 := by decide +kernel
theorem po150 {x0 : Option Nat} {x1 : Int} {r : List XV} : popN (mArg 150) (vI x1 :: vR x0 :: r) = some ([vR x0, vI x1], r) := popN_of (q := [vI x1, vR x0]) (show mArg 150 = 2 by decide +kernel) rfl rfl
theorem le150 {x0 : Option Nat} {x1 : Int} : (entL [vR x0, vI x1]).length ≤ mLoc 150 := Nat.le_of_ble_eq_true rfl
theorem en150 {x0 : Option Nat} {x1 : Int} : ent 150 [vR x0, vI x1] = [some (vR x0), some (vI x1), none, none, none] := rfl
theorem cl151 : cls 151 = 11 := by decide +kernel
theorem rt151 : mRet 151 = 0 := by decide +kernel
theorem kd151 : mKnd 151 = 1 := by decide +kernel
theorem tg151 : mTag 151 = 11 := by decide +kernel
theorem po151 {x0 : Option Nat} {x1 : Int} {r : List XV} : popN (mArg 151) (vI x1 :: vR x0 :: r) = some ([vR x0, vI x1], r) := popN_of (q := [vI x1, vR x0]) (show mArg 151 = 2 by decide +kernel) rfl rfl
theorem le151 {x0 : Option Nat} {x1 : Int} : (entL [vR x0, vI x1]).length ≤ mLoc 151 := Nat.le_of_ble_eq_true rfl
theorem en151 {x0 : Option Nat} {x1 : Int} : ent 151 [vR x0, vI x1] = [some (vR x0), some (vI x1), none, none, none] := rfl
theorem cl152 : cls 152 = 11 := by decide +kernel
theorem rt152 : mRet 152 = 0 := by decide +kernel
theorem kd152 : mKnd 152 = 1 := by decide +kernel
theorem tg152 : mTag 152 = 11 := by decide +kernel
theorem po152 {x0 : Option Nat} {x1 : Int} {x2 : Int} {r : List XV} : popN (mArg 152) (vI x2 :: vI x1 :: vR x0 :: r) = some ([vR x0, vI x1, vI x2], r) := popN_of (q := [vI x2, vI x1, vR x0]) (show mArg 152 = 3 by decide +kernel) rfl rfl
theorem le152 {x0 : Option Nat} {x1 : Int} {x2 : Int} : (entL [vR x0, vI x1, vI x2]).length ≤ mLoc 152 := Nat.le_of_ble_eq_true rfl
theorem en152 {x0 : Option Nat} {x1 : Int} {x2 : Int} : ent 152 [vR x0, vI x1, vI x2] = [some (vR x0), some (vI x1), some (vI x2), none, none, none] := rfl
theorem cl153 : cls 153 = 11 := by decide +kernel
theorem rt153 : mRet 153 = 2 := by decide +kernel
theorem kd153 : mKnd 153 = 1 := by decide +kernel
theorem tg153 : mTag 153 = 11 := by decide +kernel
theorem po153 {x0 : Option Nat} {x1 : Int} {r : List XV} : popN (mArg 153) (vL x1 :: vR x0 :: r) = some ([vR x0, vL x1], r) := popN_of (q := [vL x1, vR x0]) (show mArg 153 = 2 by decide +kernel) rfl rfl
theorem le153 {x0 : Option Nat} {x1 : Int} : (entL [vR x0, vL x1]).length ≤ mLoc 153 := Nat.le_of_ble_eq_true rfl
theorem en153 {x0 : Option Nat} {x1 : Int} : ent 153 [vR x0, vL x1] = [some (vR x0), some (vL x1), none, none, none, none] := rfl
theorem cl154 : cls 154 = 11 := by decide +kernel
theorem rt154 : mRet 154 = 0 := by decide +kernel
theorem kd154 : mKnd 154 = 1 := by decide +kernel
theorem tg154 : mTag 154 = 11 := by decide +kernel
theorem po154 {x0 : Option Nat} {x1 : Int} {x2 : Int} {r : List XV} : popN (mArg 154) (vI x2 :: vI x1 :: vR x0 :: r) = some ([vR x0, vI x1, vI x2], r) := popN_of (q := [vI x2, vI x1, vR x0]) (show mArg 154 = 3 by decide +kernel) rfl rfl
theorem le154 {x0 : Option Nat} {x1 : Int} {x2 : Int} : (entL [vR x0, vI x1, vI x2]).length ≤ mLoc 154 := Nat.le_of_ble_eq_true rfl
theorem en154 {x0 : Option Nat} {x1 : Int} {x2 : Int} : ent 154 [vR x0, vI x1, vI x2] = [some (vR x0), some (vI x1), some (vI x2), none, none] := rfl
theorem cl155 : cls 155 = 11 := by decide +kernel
theorem rt155 : mRet 155 = 0 := by decide +kernel
theorem kd155 : mKnd 155 = 1 := by decide +kernel
theorem tg155 : mTag 155 = 11 := by decide +kernel
theorem po155 {x0 : Option Nat} {x1 : Int} {r : List XV} : popN (mArg 155) (vI x1 :: vR x0 :: r) = some ([vR x0, vI x1], r) := popN_of (q := [vI x1, vR x0]) (show mArg 155 = 2 by decide +kernel) rfl rfl
theorem le155 {x0 : Option Nat} {x1 : Int} : (entL [vR x0, vI x1]).length ≤ mLoc 155 := Nat.le_of_ble_eq_true rfl
theorem en155 {x0 : Option Nat} {x1 : Int} : ent 155 [vR x0, vI x1] = [some (vR x0), some (vI x1), none, none, none, none] := rfl
theorem cl156 : cls 156 = 11 := by decide +kernel
theorem rt156 : mRet 156 = 2 := by decide +kernel
theorem kd156 : mKnd 156 = 1 := by decide +kernel
theorem tg156 : mTag 156 = 11 := by decide +kernel
theorem po156 {x0 : Option Nat} {x1 : Int} {r : List XV} : popN (mArg 156) (vL x1 :: vR x0 :: r) = some ([vR x0, vL x1], r) := popN_of (q := [vL x1, vR x0]) (show mArg 156 = 2 by decide +kernel) rfl rfl
theorem le156 {x0 : Option Nat} {x1 : Int} : (entL [vR x0, vL x1]).length ≤ mLoc 156 := Nat.le_of_ble_eq_true rfl
theorem en156 {x0 : Option Nat} {x1 : Int} : ent 156 [vR x0, vL x1] = [some (vR x0), some (vL x1), none, none, none, none] := rfl
theorem cl157 : cls 157 = 11 := by decide +kernel
theorem rt157 : mRet 157 = 0 := by decide +kernel
theorem kd157 : mKnd 157 = 1 := by decide +kernel
theorem tg157 : mTag 157 = 11 := by decide +kernel
theorem po157 {x0 : Option Nat} {x1 : Int} {r : List XV} : popN (mArg 157) (vI x1 :: vR x0 :: r) = some ([vR x0, vI x1], r) := popN_of (q := [vI x1, vR x0]) (show mArg 157 = 2 by decide +kernel) rfl rfl
theorem le157 {x0 : Option Nat} {x1 : Int} : (entL [vR x0, vI x1]).length ≤ mLoc 157 := Nat.le_of_ble_eq_true rfl
theorem en157 {x0 : Option Nat} {x1 : Int} : ent 157 [vR x0, vI x1] = [some (vR x0), some (vI x1)] := rfl
theorem cl158 : cls 158 = 11 := by decide +kernel
theorem rt158 : mRet 158 = 0 := by decide +kernel
theorem kd158 : mKnd 158 = 1 := by decide +kernel
theorem tg158 : mTag 158 = 11 := by decide +kernel
theorem po158 {x0 : Option Nat} {r : List XV} : popN (mArg 158) (vR x0 :: r) = some ([vR x0], r) := popN_of (q := [vR x0]) (show mArg 158 = 1 by decide +kernel) rfl rfl
theorem le158 {x0 : Option Nat} : (entL [vR x0]).length ≤ mLoc 158 := Nat.le_of_ble_eq_true rfl
theorem en158 {x0 : Option Nat} : ent 158 [vR x0] = [some (vR x0), none, none, none] := rfl
theorem cl159 : cls 159 = 11 := by decide +kernel
theorem rt159 : mRet 159 = 0 := by decide +kernel
theorem kd159 : mKnd 159 = 1 := by decide +kernel
theorem tg159 : mTag 159 = 11 := by decide +kernel
theorem po159 {x0 : Option Nat} {x1 : Int} {x2 : Int} {r : List XV} : popN (mArg 159) (vI x2 :: vI x1 :: vR x0 :: r) = some ([vR x0, vI x1, vI x2], r) := popN_of (q := [vI x2, vI x1, vR x0]) (show mArg 159 = 3 by decide +kernel) rfl rfl
theorem le159 {x0 : Option Nat} {x1 : Int} {x2 : Int} : (entL [vR x0, vI x1, vI x2]).length ≤ mLoc 159 := Nat.le_of_ble_eq_true rfl
theorem en159 {x0 : Option Nat} {x1 : Int} {x2 : Int} : ent 159 [vR x0, vI x1, vI x2] = [some (vR x0), some (vI x1), some (vI x2)] := rfl
theorem cl160 : cls 160 = 11 := by decide +kernel
theorem rt160 : mRet 160 = 0 := by decide +kernel
theorem kd160 : mKnd 160 = 1 := by decide +kernel
theorem tg160 : mTag 160 = 11 := by decide +kernel
theorem po160 {x0 : Option Nat} {x1 : Int} {x2 : Int} {r : List XV} : popN (mArg 160) (vI x2 :: vI x1 :: vR x0 :: r) = some ([vR x0, vI x1, vI x2], r) := popN_of (q := [vI x2, vI x1, vR x0]) (show mArg 160 = 3 by decide +kernel) rfl rfl
theorem le160 {x0 : Option Nat} {x1 : Int} {x2 : Int} : (entL [vR x0, vI x1, vI x2]).length ≤ mLoc 160 := Nat.le_of_ble_eq_true rfl
theorem en160 {x0 : Option Nat} {x1 : Int} {x2 : Int} : ent 160 [vR x0, vI x1, vI x2] = [some (vR x0), some (vI x1), some (vI x2), none] := rfl
theorem cl161 : cls 161 = 11 := by decide +kernel
theorem rt161 : mRet 161 = 0 := by decide +kernel
theorem kd161 : mKnd 161 = 1 := by decide +kernel
theorem tg161 : mTag 161 = 11 := by decide +kernel
theorem po161 {x0 : Option Nat} {x1 : Int} {r : List XV} : popN (mArg 161) (vI x1 :: vR x0 :: r) = some ([vR x0, vI x1], r) := popN_of (q := [vI x1, vR x0]) (show mArg 161 = 2 by decide +kernel) rfl rfl
theorem le161 {x0 : Option Nat} {x1 : Int} : (entL [vR x0, vI x1]).length ≤ mLoc 161 := Nat.le_of_ble_eq_true rfl
theorem en161 {x0 : Option Nat} {x1 : Int} : ent 161 [vR x0, vI x1] = [some (vR x0), some (vI x1), none, none, none, none, none, none, none, none] := rfl
theorem cl162 : cls 162 = 11 := by decide +kernel
theorem rt162 : mRet 162 = 1 := by decide +kernel
theorem kd162 : mKnd 162 = 1 := by decide +kernel
theorem tg162 : mTag 162 = 11 := by decide +kernel
theorem po162 {x0 : Option Nat} {r : List XV} : popN (mArg 162) (vR x0 :: r) = some ([vR x0], r) := popN_of (q := [vR x0]) (show mArg 162 = 1 by decide +kernel) rfl rfl
theorem le162 {x0 : Option Nat} : (entL [vR x0]).length ≤ mLoc 162 := Nat.le_of_ble_eq_true rfl
theorem en162 {x0 : Option Nat} : ent 162 [vR x0] = [some (vR x0)] := rfl
theorem cl163 : cls 163 = 11 := by decide +kernel
theorem rt163 : mRet 163 = 1 := by decide +kernel
theorem kd163 : mKnd 163 = 1 := by decide +kernel
theorem tg163 : mTag 163 = 11 := by decide +kernel
theorem po163 {x0 : Option Nat} {r : List XV} : popN (mArg 163) (vR x0 :: r) = some ([vR x0], r) := popN_of (q := [vR x0]) (show mArg 163 = 1 by decide +kernel) rfl rfl
theorem le163 {x0 : Option Nat} : (entL [vR x0]).length ≤ mLoc 163 := Nat.le_of_ble_eq_true rfl
theorem en163 {x0 : Option Nat} : ent 163 [vR x0] = [some (vR x0), none, none, none] := rfl
theorem cl164 : cls 164 = 11 := by decide +kernel
theorem rt164 : mRet 164 = 1 := by decide +kernel
theorem kd164 : mKnd 164 = 1 := by decide +kernel
theorem tg164 : mTag 164 = 11 := by decide +kernel
theorem po164 {x0 : Option Nat} {r : List XV} : popN (mArg 164) (vR x0 :: r) = some ([vR x0], r) := popN_of (q := [vR x0]) (show mArg 164 = 1 by decide +kernel) rfl rfl
theorem le164 {x0 : Option Nat} : (entL [vR x0]).length ≤ mLoc 164 := Nat.le_of_ble_eq_true rfl
theorem en164 {x0 : Option Nat} : ent 164 [vR x0] = [some (vR x0), none, none, none] := rfl
theorem cl165 : cls 165 = 12 := by decide +kernel
theorem rt165 : mRet 165 = 4 := by decide +kernel
theorem kd165 : mKnd 165 = 2 := by decide +kernel
theorem po165 {x0 : Option Nat} {r : List XV} : popN (mArg 165) (vR x0 :: r) = some ([vR x0], r) := popN_of (q := [vR x0]) (show mArg 165 = 1 by decide +kernel) rfl rfl
theorem le165 {x0 : Option Nat} : (entL [vR x0]).length ≤ mLoc 165 := Nat.le_of_ble_eq_true rfl
theorem en165 {x0 : Option Nat} : ent 165 [vR x0] = [some (vR x0)] := rfl
theorem cl166 : cls 166 = 12 := by decide +kernel
theorem rt166 : mRet 166 = 4 := by decide +kernel
theorem kd166 : mKnd 166 = 1 := by decide +kernel
theorem tg166 : mTag 166 = 12 := by decide +kernel
theorem po166 {x0 : Option Nat} {r : List XV} : popN (mArg 166) (vR x0 :: r) = some ([vR x0], r) := popN_of (q := [vR x0]) (show mArg 166 = 1 by decide +kernel) rfl rfl
theorem le166 {x0 : Option Nat} : (entL [vR x0]).length ≤ mLoc 166 := Nat.le_of_ble_eq_true rfl
theorem en166 {x0 : Option Nat} : ent 166 [vR x0] = [some (vR x0), none, none, none] := rfl
theorem cl167 : cls 167 = 12 := by decide +kernel
theorem rt167 : mRet 167 = 1 := by decide +kernel
theorem kd167 : mKnd 167 = 1 := by decide +kernel
theorem tg167 : mTag 167 = 12 := by decide +kernel
theorem po167 {x0 : Option Nat} {r : List XV} : popN (mArg 167) (vR x0 :: r) = some ([vR x0], r) := popN_of (q := [vR x0]) (show mArg 167 = 1 by decide +kernel) rfl rfl
theorem le167 {x0 : Option Nat} : (entL [vR x0]).length ≤ mLoc 167 := Nat.le_of_ble_eq_true rfl
theorem en167 {x0 : Option Nat} : ent 167 [vR x0] = [some (vR x0)] := rfl
theorem cl168 : cls 168 = 12 := by decide +kernel
theorem rt168 : mRet 168 = 0 := by decide +kernel
theorem kd168 : mKnd 168 = 1 := by decide +kernel
theorem tg168 : mTag 168 = 12 := by decide +kernel
theorem po168 {x0 : Option Nat} {r : List XV} : popN (mArg 168) (vR x0 :: r) = some ([vR x0], r) := popN_of (q := [vR x0]) (show mArg 168 = 1 by decide +kernel) rfl rfl
theorem le168 {x0 : Option Nat} : (entL [vR x0]).length ≤ mLoc 168 := Nat.le_of_ble_eq_true rfl
theorem en168 {x0 : Option Nat} : ent 168 [vR x0] = [some (vR x0)] := rfl
theorem cl169 : cls 169 = 12 := by decide +kernel
theorem rt169 : mRet 169 = 1 := by decide +kernel
theorem kd169 : mKnd 169 = 1 := by decide +kernel
theorem tg169 : mTag 169 = 12 := by decide +kernel
theorem po169 {x0 : Option Nat} {x1 : Option Nat} {r : List XV} : popN (mArg 169) (vR x1 :: vR x0 :: r) = some ([vR x0, vR x1], r) := popN_of (q := [vR x1, vR x0]) (show mArg 169 = 2 by decide +kernel) rfl rfl
theorem le169 {x0 : Option Nat} {x1 : Option Nat} : (entL [vR x0, vR x1]).length ≤ mLoc 169 := Nat.le_of_ble_eq_true rfl
theorem en169 {x0 : Option Nat} {x1 : Option Nat} : ent 169 [vR x0, vR x1] = [some (vR x0), some (vR x1)] := rfl
theorem cl170 : cls 170 = 12 := by decide +kernel
theorem rt170 : mRet 170 = 4 := by decide +kernel
theorem kd170 : mKnd 170 = 1 := by decide +kernel
theorem tg170 : mTag 170 = 12 := by decide +kernel
theorem po170 {x0 : Option Nat} {x1 : Option Nat} {x2 : Option Nat} {x3 : Int} {r : List XV} : popN (mArg 170) (vI x3 :: vR x2 :: vR x1 :: vR x0 :: r) = some ([vR x0, vR x1, vR x2, vI x3], r) := popN_of (q := [vI x3, vR x2, vR x1, vR x0]) (show mArg 170 = 4 by decide +kernel) rfl rfl
theorem le170 {x0 : Option Nat} {x1 : Option Nat} {x2 : Option Nat} {x3 : Int} : (entL [vR x0, vR x1, vR x2, vI x3]).length ≤ mLoc 170 := Nat.le_of_ble_eq_true rfl
theorem en170 {x0 : Option Nat} {x1 : Option Nat} {x2 : Option Nat} {x3 : Int} : ent 170 [vR x0, vR x1, vR x2, vI x3] = [some (vR x0), some (vR x1), some (vR x2), some (vI x3)] := rfl
theorem cl171 : cls 171 = 12 := by decide +kernel
theorem rt171 : mRet 171 = 3 := by decide +kernel
theorem kd171 : mKnd 171 = 1 := by decide +kernel
theorem tg171 : mTag 171 = 12 := by decide +kernel
theorem po171 {x0 : Option Nat} {r : List XV} : popN (mArg 171) (vR x0 :: r) = some ([vR x0], r) := popN_of (q := [vR x0]) (show mArg 171 = 1 by decide +kernel) rfl rfl
theorem le171 {x0 : Option Nat} : (entL [vR x0]).length ≤ mLoc 171 := Nat.le_of_ble_eq_true rfl
theorem en171 {x0 : Option Nat} : ent 171 [vR x0] = [some (vR x0)] := rfl
theorem cl172 : cls 172 = 12 := by decide +kernel
theorem rt172 : mRet 172 = 3 := by decide +kernel
theorem kd172 : mKnd 172 = 1 := by decide +kernel
theorem tg172 : mTag 172 = 12 := by decide +kernel
theorem po172 {x0 : Option Nat} {x1 : Int} {r : List XV} : popN (mArg 172) (vI x1 :: vR x0 :: r) = some ([vR x0, vI x1], r) := popN_of (q := [vI x1, vR x0]) (show mArg 172 = 2 by decide +kernel) rfl rfl
theorem le172 {x0 : Option Nat} {x1 : Int} : (entL [vR x0, vI x1]).length ≤ mLoc 172 := Nat.le_of_ble_eq_true rfl
theorem en172 {x0 : Option Nat} {x1 : Int} : ent 172 [vR x0, vI x1] = [some (vR x0), some (vI x1), none, none] := rfl
theorem cl173 : cls 173 = 12 := by decide +kernel
theorem rt173 : mRet 173 = 3 := by decide +kernel
theorem kd173 : mKnd 173 = 1 := by decide +kernel
theorem tg173 : mTag 173 = 12 := by decide +kernel
theorem po173 {x0 : Option Nat} {x1 : Int} {r : List XV} : popN (mArg 173) (vI x1 :: vR x0 :: r) = some ([vR x0, vI x1], r) := popN_of (q := [vI x1, vR x0]) (show mArg 173 = 2 by decide +kernel) rfl rfl
theorem le173 {x0 : Option Nat} {x1 : Int} : (entL [vR x0, vI x1]).length ≤ mLoc 173 := Nat.le_of_ble_eq_true rfl
theorem en173 {x0 : Option Nat} {x1 : Int} : ent 173 [vR x0, vI x1] = [some (vR x0), some (vI x1)] := rfl
theorem cl174 : cls 174 = 12 := by decide +kernel
theorem rt174 : mRet 174 = 3 := by decide +kernel
theorem kd174 : mKnd 174 = 1 := by decide +kernel
theorem tg174 : mTag 174 = 12 := by decide +kernel
theorem po174 {x0 : Option Nat} {x1 : Int} {r : List XV} : popN (mArg 174) (vI x1 :: vR x0 :: r) = some ([vR x0, vI x1], r) := popN_of (q := [vI x1, vR x0]) (show mArg 174 = 2 by decide +kernel) rfl rfl
theorem le174 {x0 : Option Nat} {x1 : Int} : (entL [vR x0, vI x1]).length ≤ mLoc 174 := Nat.le_of_ble_eq_true rfl
theorem en174 {x0 : Option Nat} {x1 : Int} : ent 174 [vR x0, vI x1] = [some (vR x0), some (vI x1)] := rfl
theorem cl175 : cls 175 = 13 := by decide +kernel
theorem rt175 : mRet 175 = 0 := by decide +kernel
theorem kd175 : mKnd 175 = 0 := by decide +kernel
theorem po175 {x0 : Int} {x1 : Int} {r : List XV} : popN (mArg 175) (vI x1 :: vI x0 :: r) = some ([vI x0, vI x1], r) := popN_of (q := [vI x1, vI x0]) (show mArg 175 = 2 by decide +kernel) rfl rfl
theorem le175 {x0 : Int} {x1 : Int} : (entL [vI x0, vI x1]).length ≤ mLoc 175 := Nat.le_of_ble_eq_true rfl
theorem en175 {x0 : Int} {x1 : Int} : ent 175 [vI x0, vI x1] = [some (vI x0), some (vI x1)] := rfl
theorem cl176 : cls 176 = 13 := by decide +kernel
theorem rt176 : mRet 176 = 0 := by decide +kernel
theorem kd176 : mKnd 176 = 0 := by decide +kernel
theorem po176 {x0 : Option Nat} {x1 : Int} {r : List XV} : popN (mArg 176) (vI x1 :: vR x0 :: r) = some ([vR x0, vI x1], r) := popN_of (q := [vI x1, vR x0]) (show mArg 176 = 2 by decide +kernel) rfl rfl
theorem le176 {x0 : Option Nat} {x1 : Int} : (entL [vR x0, vI x1]).length ≤ mLoc 176 := Nat.le_of_ble_eq_true rfl
theorem en176 {x0 : Option Nat} {x1 : Int} : ent 176 [vR x0, vI x1] = [some (vR x0), some (vI x1)] := rfl
theorem cl177 : cls 177 = 13 := by decide +kernel
theorem rt177 : mRet 177 = 4 := by decide +kernel
theorem kd177 : mKnd 177 = 0 := by decide +kernel
theorem po177 {x0 : Option Nat} {x1 : Int} {x2 : Int} {r : List XV} : popN (mArg 177) (vI x2 :: vI x1 :: vR x0 :: r) = some ([vR x0, vI x1, vI x2], r) := popN_of (q := [vI x2, vI x1, vR x0]) (show mArg 177 = 3 by decide +kernel) rfl rfl
theorem le177 {x0 : Option Nat} {x1 : Int} {x2 : Int} : (entL [vR x0, vI x1, vI x2]).length ≤ mLoc 177 := Nat.le_of_ble_eq_true rfl
theorem en177 {x0 : Option Nat} {x1 : Int} {x2 : Int} : ent 177 [vR x0, vI x1, vI x2] = [some (vR x0), some (vI x1), some (vI x2), none, none, none, none] := rfl
theorem cl178 : cls 178 = 13 := by decide +kernel
theorem rt178 : mRet 178 = 1 := by decide +kernel
theorem kd178 : mKnd 178 = 0 := by decide +kernel
theorem po178 {x0 : Option Nat} {r : List XV} : popN (mArg 178) (vR x0 :: r) = some ([vR x0], r) := popN_of (q := [vR x0]) (show mArg 178 = 1 by decide +kernel) rfl rfl
theorem le178 {x0 : Option Nat} : (entL [vR x0]).length ≤ mLoc 178 := Nat.le_of_ble_eq_true rfl
theorem en178 {x0 : Option Nat} : ent 178 [vR x0] = [some (vR x0), none, none, none, none, none, none, none, none, none] := rfl
theorem cl179 : cls 179 = 14 := by decide +kernel
theorem rt179 : mRet 179 = 4 := by decide +kernel
theorem kd179 : mKnd 179 = 2 := by decide +kernel
theorem po179 {x0 : Option Nat} {r : List XV} : popN (mArg 179) (vR x0 :: r) = some ([vR x0], r) := popN_of (q := [vR x0]) (show mArg 179 = 1 by decide +kernel) rfl rfl
theorem le179 {x0 : Option Nat} : (entL [vR x0]).length ≤ mLoc 179 := Nat.le_of_ble_eq_true rfl
theorem en179 {x0 : Option Nat} : ent 179 [vR x0] = [some (vR x0)] := rfl
theorem cl180 : cls 180 = 15 := by decide +kernel
theorem rt180 : mRet 180 = 4 := by decide +kernel
theorem kd180 : mKnd 180 = 2 := by decide +kernel
theorem po180 {x0 : Option Nat} {r : List XV} : popN (mArg 180) (vR x0 :: r) = some ([vR x0], r) := popN_of (q := [vR x0]) (show mArg 180 = 1 by decide +kernel) rfl rfl
theorem le180 {x0 : Option Nat} : (entL [vR x0]).length ≤ mLoc 180 := Nat.le_of_ble_eq_true rfl
theorem en180 {x0 : Option Nat} : ent 180 [vR x0] = [some (vR x0)] := rfl
theorem cl181 : cls 181 = 16 := by decide +kernel
theorem rt181 : mRet 181 = 4 := by decide +kernel
theorem kd181 : mKnd 181 = 0 := by decide +kernel
theorem po181 {x0 : Option Nat} {x1 : Int} {r : List XV} : popN (mArg 181) (vI x1 :: vR x0 :: r) = some ([vR x0, vI x1], r) := popN_of (q := [vI x1, vR x0]) (show mArg 181 = 2 by decide +kernel) rfl rfl
theorem le181 {x0 : Option Nat} {x1 : Int} : (entL [vR x0, vI x1]).length ≤ mLoc 181 := Nat.le_of_ble_eq_true rfl
theorem en181 {x0 : Option Nat} {x1 : Int} : ent 181 [vR x0, vI x1] = [some (vR x0), some (vI x1), none, none] := rfl
theorem cl182 : cls 182 = 16 := by decide +kernel
theorem rt182 : mRet 182 = 3 := by decide +kernel
theorem kd182 : mKnd 182 = 0 := by decide +kernel
theorem po182 {x0 : Option Nat} {x1 : Int} {r : List XV} : popN (mArg 182) (vI x1 :: vR x0 :: r) = some ([vR x0, vI x1], r) := popN_of (q := [vI x1, vR x0]) (show mArg 182 = 2 by decide +kernel) rfl rfl
theorem le182 {x0 : Option Nat} {x1 : Int} : (entL [vR x0, vI x1]).length ≤ mLoc 182 := Nat.le_of_ble_eq_true rfl
theorem en182 {x0 : Option Nat} {x1 : Int} : ent 182 [vR x0, vI x1] = [some (vR x0), some (vI x1)] := rfl
theorem cl183 : cls 183 = 16 := by decide +kernel
theorem rt183 : mRet 183 = 4 := by decide +kernel
theorem kd183 : mKnd 183 = 0 := by decide +kernel
theorem po183 {x0 : Option Nat} {x1 : Int} {r : List XV} : popN (mArg 183) (vL x1 :: vR x0 :: r) = some ([vR x0, vL x1], r) := popN_of (q := [vL x1, vR x0]) (show mArg 183 = 2 by decide +kernel) rfl rfl
theorem le183 {x0 : Option Nat} {x1 : Int} : (entL [vR x0, vL x1]).length ≤ mLoc 183 := Nat.le_of_ble_eq_true rfl
theorem en183 {x0 : Option Nat} {x1 : Int} : ent 183 [vR x0, vL x1] = [some (vR x0), some (vL x1), none, none, none] := rfl
theorem cl184 : cls 184 = 17 := by decide +kernel
theorem rt184 : mRet 184 = 0 := by decide +kernel
theorem kd184 : mKnd 184 = 0 := by decide +kernel
theorem po184 {x0 : Int} {x1 : Int} {r : List XV} : popN (mArg 184) (vI x1 :: vI x0 :: r) = some ([vI x0, vI x1], r) := popN_of (q := [vI x1, vI x0]) (show mArg 184 = 2 by decide +kernel) rfl rfl
theorem le184 {x0 : Int} {x1 : Int} : (entL [vI x0, vI x1]).length ≤ mLoc 184 := Nat.le_of_ble_eq_true rfl
theorem en184 {x0 : Int} {x1 : Int} : ent 184 [vI x0, vI x1] = [some (vI x0), some (vI x1)] := rfl
theorem cl185 : cls 185 = 18 := by decide +kernel
theorem rt185 : mRet 185 = 0 := by decide +kernel
theorem kd185 : mKnd 185 = 0 := by decide +kernel
theorem po185 {x0 : Int} {x1 : Int} {x2 : Option Nat} {r : List XV} : popN (mArg 185) (vR x2 :: vI x1 :: vI x0 :: r) = some ([vI x0, vI x1, vR x2], r) := popN_of (q := [vR x2, vI x1, vI x0]) (show mArg 185 = 3 by decide +kernel) rfl rfl
theorem le185 {x0 : Int} {x1 : Int} {x2 : Option Nat} : (entL [vI x0, vI x1, vR x2]).length ≤ mLoc 185 := Nat.le_of_ble_eq_true rfl
theorem en185 {x0 : Int} {x1 : Int} {x2 : Option Nat} : ent 185 [vI x0, vI x1, vR x2] = [some (vI x0), some (vI x1), some (vR x2)] := rfl
theorem cl186 : cls 186 = 19 := by decide +kernel
theorem rt186 : mRet 186 = 0 := by decide +kernel
theorem kd186 : mKnd 186 = 0 := by decide +kernel
theorem po186 {x0 : Int} {r : List XV} : popN (mArg 186) (vI x0 :: r) = some ([vI x0], r) := popN_of (q := [vI x0]) (show mArg 186 = 1 by decide +kernel) rfl rfl
theorem le186 {x0 : Int} : (entL [vI x0]).length ≤ mLoc 186 := Nat.le_of_ble_eq_true rfl
theorem en186 {x0 : Int} : ent 186 [vI x0] = [some (vI x0)] := rfl
theorem cl187 : cls 187 = 20 := by decide +kernel
theorem rt187 : mRet 187 = 0 := by decide +kernel
theorem kd187 : mKnd 187 = 0 := by decide +kernel
theorem po187 {x0 : Int} {r : List XV} : popN (mArg 187) (vL x0 :: r) = some ([vL x0], r) := popN_of (q := [vL x0]) (show mArg 187 = 1 by decide +kernel) rfl rfl
theorem le187 {x0 : Int} : (entL [vL x0]).length ≤ mLoc 187 := Nat.le_of_ble_eq_true rfl
theorem en187 {x0 : Int} : ent 187 [vL x0] = [some (vL x0), none] := rfl
theorem cl188 : cls 188 = 21 := by decide +kernel
theorem rt188 : mRet 188 = 0 := by decide +kernel
theorem kd188 : mKnd 188 = 0 := by decide +kernel
theorem po188 {x0 : Int} {x1 : Int} {r : List XV} : popN (mArg 188) (vI x1 :: vI x0 :: r) = some ([vI x0, vI x1], r) := popN_of (q := [vI x1, vI x0]) (show mArg 188 = 2 by decide +kernel) rfl rfl
theorem le188 {x0 : Int} {x1 : Int} : (entL [vI x0, vI x1]).length ≤ mLoc 188 := Nat.le_of_ble_eq_true rfl
theorem en188 {x0 : Int} {x1 : Int} : ent 188 [vI x0, vI x1] = [some (vI x0), some (vI x1)] := rfl
theorem cl189 : cls 189 = 21 := by decide +kernel
theorem rt189 : mRet 189 = 0 := by decide +kernel
theorem kd189 : mKnd 189 = 0 := by decide +kernel
theorem po189 {x0 : Int} {x1 : Int} {r : List XV} : popN (mArg 189) (vI x1 :: vI x0 :: r) = some ([vI x0, vI x1], r) := popN_of (q := [vI x1, vI x0]) (show mArg 189 = 2 by decide +kernel) rfl rfl
theorem le189 {x0 : Int} {x1 : Int} : (entL [vI x0, vI x1]).length ≤ mLoc 189 := Nat.le_of_ble_eq_true rfl
theorem en189 {x0 : Int} {x1 : Int} : ent 189 [vI x0, vI x1] = [some (vI x0), some (vI x1)] := rfl
theorem cl190 : cls 190 = 21 := by decide +kernel
theorem rt190 : mRet 190 = 0 := by decide +kernel
theorem kd190 : mKnd 190 = 0 := by decide +kernel
theorem po190 {x0 : Int} {r : List XV} : popN (mArg 190) (vI x0 :: r) = some ([vI x0], r) := popN_of (q := [vI x0]) (show mArg 190 = 1 by decide +kernel) rfl rfl
theorem le190 {x0 : Int} : (entL [vI x0]).length ≤ mLoc 190 := Nat.le_of_ble_eq_true rfl
theorem en190 {x0 : Int} : ent 190 [vI x0] = [some (vI x0)] := rfl
theorem cl191 : cls 191 = 22 := by decide +kernel
theorem rt191 : mRet 191 = 0 := by decide +kernel
theorem kd191 : mKnd 191 = 0 := by decide +kernel
theorem po191 {x0 : Int} {x1 : Int} {x2 : Int} {r : List XV} : popN (mArg 191) (vI x2 :: vI x1 :: vI x0 :: r) = some ([vI x0, vI x1, vI x2], r) := popN_of (q := [vI x2, vI x1, vI x0]) (show mArg 191 = 3 by decide +kernel) rfl rfl
theorem le191 {x0 : Int} {x1 : Int} {x2 : Int} : (entL [vI x0, vI x1, vI x2]).length ≤ mLoc 191 := Nat.le_of_ble_eq_true rfl
theorem en191 {x0 : Int} {x1 : Int} {x2 : Int} : ent 191 [vI x0, vI x1, vI x2] = [some (vI x0), some (vI x1), some (vI x2), none] := rfl
theorem cl192 : cls 192 = 22 := by decide +kernel
theorem rt192 : mRet 192 = 0 := by decide +kernel
theorem kd192 : mKnd 192 = 0 := by decide +kernel
theorem po192 {x0 : Int} {x1 : Int} {r : List XV} : popN (mArg 192) (vI x1 :: vI x0 :: r) = some ([vI x0, vI x1], r) := popN_of (q := [vI x1, vI x0]) (show mArg 192 = 2 by decide +kernel) rfl rfl
theorem le192 {x0 : Int} {x1 : Int} : (entL [vI x0, vI x1]).length ≤ mLoc 192 := Nat.le_of_ble_eq_true rfl
theorem en192 {x0 : Int} {x1 : Int} : ent 192 [vI x0, vI x1] = [some (vI x0), some (vI x1), none] := rfl
theorem cl193 : cls 193 = 13 := by decide +kernel
theorem rt193 : mRet 193 = 1 := by decide +kernel
theorem kd193 : mKnd 193 = 0 := by decide +kernel
theorem po193 {x0 : Option Nat} {r : List XV} : popN (mArg 193) (vR x0 :: r) = some ([vR x0], r) := popN_of (q := [vR x0]) (show mArg 193 = 1 by decide +kernel) rfl rfl
theorem le193 {x0 : Option Nat} : (entL [vR x0]).length ≤ mLoc 193 := Nat.le_of_ble_eq_true rfl
theorem en193 {x0 : Option Nat} : ent 193 [vR x0] = [some (vR x0), none, none, none] := rfl
theorem f5_15 : lkp fldL 5 15 = some (5, 0, 0, false) := by decide +kernel
theorem f4_58 : lkp fldL 4 58 = some (5, 0, 0, false) := by decide +kernel
theorem f5_19 : lkp fldL 5 19 = some (5, 1, 0, false) := by decide +kernel
theorem f5_22 : lkp fldL 5 22 = some (5, 2, 0, false) := by decide +kernel
theorem f11_118 : lkp fldL 11 118 = some (5, 2, 0, false) := by decide +kernel
theorem f5_9 : lkp fldL 5 9 = some (5, 3, 3, true) := by decide +kernel
theorem f12_9 : lkp fldL 12 9 = some (12, 1, 3, false) := by decide +kernel
theorem f12_48 : lkp fldL 12 48 = some (12, 2, 0, false) := by decide +kernel
theorem f14_7 : lkp fldL 14 7 = some (12, 0, 0, false) := by decide +kernel
theorem f12_63 : lkp fldL 12 63 = some (12, 0, 0, false) := by decide +kernel
theorem f8_11 : lkp fldL 8 11 = some (8, 0, 3, true) := by decide +kernel
theorem f8_34 : lkp fldL 8 34 = some (8, 1, 0, false) := by decide +kernel
theorem f11_218 : lkp fldL 11 218 = some (8, 1, 0, false) := by decide +kernel
theorem f8_17 : lkp fldL 8 17 = some (8, 2, 0, false) := by decide +kernel
theorem f11_206 : lkp fldL 11 206 = some (8, 2, 0, false) := by decide +kernel
theorem f8_21 : lkp fldL 8 21 = some (8, 3, 0, false) := by decide +kernel
theorem f11_209 : lkp fldL 11 209 = some (8, 3, 0, false) := by decide +kernel
theorem f8_49 : lkp fldL 8 49 = some (8, 4, 0, false) := by decide +kernel
theorem f11_215 : lkp fldL 11 215 = some (8, 4, 0, false) := by decide +kernel
theorem f8_24 : lkp fldL 8 24 = some (8, 5, 3, true) := by decide +kernel
theorem f8_28 : lkp fldL 8 28 = some (8, 6, 3, true) := by decide +kernel
theorem f8_31 : lkp fldL 8 31 = some (8, 7, 3, true) := by decide +kernel
theorem f6_9 : lkp fldL 6 9 = some (6, 0, 3, true) := by decide +kernel
theorem f6_15 : lkp fldL 6 15 = some (6, 1, 3, true) := by decide +kernel
theorem f6_46 : lkp fldL 6 46 = some (6, 2, 0, false) := by decide +kernel
theorem f11_279 : lkp fldL 11 279 = some (6, 2, 0, false) := by decide +kernel
theorem f6_18 : lkp fldL 6 18 = some (6, 3, 3, true) := by decide +kernel
theorem f6_21 : lkp fldL 6 21 = some (6, 4, 3, true) := by decide +kernel
theorem f6_24 : lkp fldL 6 24 = some (6, 5, 3, true) := by decide +kernel
theorem f6_27 : lkp fldL 6 27 = some (6, 6, 3, true) := by decide +kernel
theorem f3_15 : lkp fldL 3 15 = some (3, 0, 0, false) := by decide +kernel
theorem f11_350 : lkp fldL 11 350 = some (3, 0, 0, false) := by decide +kernel
theorem f3_9 : lkp fldL 3 9 = some (3, 1, 3, true) := by decide +kernel
theorem f2_9 : lkp fldL 2 9 = some (2, 0, 3, true) := by decide +kernel
theorem f11_389 : lkp fldL 11 389 = some (2, 0, 3, true) := by decide +kernel
theorem f2_34 : lkp fldL 2 34 = some (2, 1, 0, false) := by decide +kernel
theorem f11_369 : lkp fldL 11 369 = some (2, 1, 0, false) := by decide +kernel
theorem f2_15 : lkp fldL 2 15 = some (2, 2, 3, true) := by decide +kernel
theorem f2_18 : lkp fldL 2 18 = some (2, 3, 3, true) := by decide +kernel
theorem f2_21 : lkp fldL 2 21 = some (2, 4, 3, true) := by decide +kernel
theorem f2_24 : lkp fldL 2 24 = some (2, 5, 3, true) := by decide +kernel
theorem f7_39 : lkp fldL 7 39 = some (7, 0, 0, false) := by decide +kernel
theorem f11_392 : lkp fldL 11 392 = some (7, 0, 0, false) := by decide +kernel
theorem f7_9 : lkp fldL 7 9 = some (7, 1, 3, true) := by decide +kernel
theorem f11_595 : lkp fldL 11 595 = some (7, 1, 3, true) := by decide +kernel
theorem f7_15 : lkp fldL 7 15 = some (7, 2, 3, true) := by decide +kernel
theorem f11_593 : lkp fldL 11 593 = some (7, 2, 3, true) := by decide +kernel
theorem f7_19 : lkp fldL 7 19 = some (7, 3, 3, true) := by decide +kernel
theorem f7_25 : lkp fldL 7 25 = some (7, 4, 3, true) := by decide +kernel
theorem f11_406 : lkp fldL 11 406 = some (7, 4, 3, true) := by decide +kernel
theorem f7_63 : lkp fldL 7 63 = some (7, 5, 0, false) := by decide +kernel
theorem f7_46 : lkp fldL 7 46 = some (7, 6, 1, false) := by decide +kernel
theorem f7_75 : lkp fldL 7 75 = some (7, 7, 2, false) := by decide +kernel
theorem f7_29 : lkp fldL 7 29 = some (7, 8, 3, true) := by decide +kernel
theorem f7_32 : lkp fldL 7 32 = some (7, 9, 3, true) := by decide +kernel
theorem f7_35 : lkp fldL 7 35 = some (7, 10, 3, true) := by decide +kernel
theorem f9_19 : lkp fldL 9 19 = some (9, 0, 0, false) := by decide +kernel
theorem f11_447 : lkp fldL 11 447 = some (9, 0, 0, false) := by decide +kernel
theorem f9_9 : lkp fldL 9 9 = some (9, 1, 3, true) := by decide +kernel
theorem f9_15 : lkp fldL 9 15 = some (9, 2, 3, true) := by decide +kernel
theorem f11_10 : lkp fldL 11 10 = some (11, 0, 3, true) := by decide +kernel
theorem f11_19 : lkp fldL 11 19 = some (11, 1, 3, true) := by decide +kernel
theorem f11_25 : lkp fldL 11 25 = some (11, 2, 3, true) := by decide +kernel
theorem f11_33 : lkp fldL 11 33 = some (11, 3, 3, true) := by decide +kernel
theorem f11_37 : lkp fldL 11 37 = some (11, 4, 3, true) := by decide +kernel
theorem f11_40 : lkp fldL 11 40 = some (11, 5, 3, true) := by decide +kernel
theorem f11_43 : lkp fldL 11 43 = some (11, 6, 3, true) := by decide +kernel
theorem f11_49 : lkp fldL 11 49 = some (11, 7, 3, true) := by decide +kernel
theorem f11_56 : lkp fldL 11 56 = some (11, 8, 3, true) := by decide +kernel
theorem f11_63 : lkp fldL 11 63 = some (11, 9, 3, true) := by decide +kernel
theorem f11_70 : lkp fldL 11 70 = some (11, 10, 3, true) := by decide +kernel
theorem f11_372 : lkp fldL 11 372 = some (11, 11, 0, false) := by decide +kernel
theorem f11_74 : lkp fldL 11 74 = some (11, 12, 3, true) := by decide +kernel
theorem f11_78 : lkp fldL 11 78 = some (11, 13, 3, true) := by decide +kernel
theorem f11_81 : lkp fldL 11 81 = some (11, 14, 3, true) := by decide +kernel
theorem f10_7 : lkp fldL 10 7 = some (10, 0, 0, true) := by decide +kernel
theorem f11_556 : lkp fldL 11 556 = some (10, 0, 0, true) := by decide +kernel
theorem f10_13 : lkp fldL 10 13 = some (10, 1, 0, true) := by decide +kernel
theorem f11_586 : lkp fldL 11 586 = some (10, 1, 0, true) := by decide +kernel
theorem f10_16 : lkp fldL 10 16 = some (10, 2, 0, true) := by decide +kernel
theorem f11_587 : lkp fldL 11 587 = some (10, 2, 0, true) := by decide +kernel
theorem f4_31 : lkp fldL 4 31 = some (4, 0, 0, true) := by decide +kernel
theorem f11_170 : lkp fldL 11 170 = some (4, 0, 0, true) := by decide +kernel
theorem f4_35 : lkp fldL 4 35 = some (4, 1, 0, true) := by decide +kernel
theorem f4_38 : lkp fldL 4 38 = some (4, 2, 0, true) := by decide +kernel
theorem f4_41 : lkp fldL 4 41 = some (4, 3, 0, true) := by decide +kernel
theorem f11_186 : lkp fldL 11 186 = some (4, 3, 0, true) := by decide +kernel
theorem f4_44 : lkp fldL 4 44 = some (4, 4, 1, true) := by decide +kernel
theorem f8_40 : lkp fldL 8 40 = some (4, 5, 0, false) := by decide +kernel
theorem f4_9 : lkp fldL 4 9 = some (4, 6, 3, true) := by decide +kernel
theorem f11_179 : lkp fldL 11 179 = some (4, 6, 3, true) := by decide +kernel
theorem f4_15 : lkp fldL 4 15 = some (4, 7, 3, true) := by decide +kernel
theorem f11_182 : lkp fldL 11 182 = some (4, 7, 3, true) := by decide +kernel
theorem f4_19 : lkp fldL 4 19 = some (4, 8, 3, true) := by decide +kernel
theorem f8_56 : lkp fldL 8 56 = some (4, 8, 3, true) := by decide +kernel
theorem f4_65 : lkp fldL 4 65 = some (4, 9, 0, false) := by decide +kernel
theorem f4_22 : lkp fldL 4 22 = some (4, 10, 3, true) := by decide +kernel
theorem f11_260 : lkp fldL 11 260 = some (4, 10, 3, true) := by decide +kernel
theorem f4_25 : lkp fldL 4 25 = some (4, 11, 3, true) := by decide +kernel
theorem f3_19 : lkp fldL 3 19 = some (4, 11, 3, true) := by decide +kernel
theorem f11_356 : lkp fldL 11 356 = some (4, 11, 3, true) := by decide +kernel
theorem f11_382 : lkp fldL 11 382 = some (4, 12, 1, false) := by decide +kernel
theorem f9_23 : lkp fldL 9 23 = some (4, 13, 1, false) := by decide +kernel
theorem f11_448 : lkp fldL 11 448 = some (4, 13, 1, false) := by decide +kernel
theorem f4_28 : lkp fldL 4 28 = some (4, 14, 3, true) := by decide +kernel
theorem f9_36 : lkp fldL 9 36 = some (4, 14, 3, true) := by decide +kernel
theorem f11_451 : lkp fldL 11 451 = some (4, 14, 3, true) := by decide +kernel
theorem f9_33 : lkp fldL 9 33 = some (4, 15, 0, false) := by decide +kernel
theorem f11_454 : lkp fldL 11 454 = some (4, 15, 0, false) := by decide +kernel
theorem f1_15 : lkp fldL 1 15 = some (1, 0, 0, true) := by decide +kernel
theorem f11_559 : lkp fldL 11 559 = some (1, 0, 0, true) := by decide +kernel
theorem f1_19 : lkp fldL 1 19 = some (1, 1, 0, true) := by decide +kernel
theorem f11_562 : lkp fldL 11 562 = some (1, 1, 0, true) := by decide +kernel
theorem f1_22 : lkp fldL 1 22 = some (1, 2, 0, true) := by decide +kernel
theorem f11_568 : lkp fldL 11 568 = some (1, 2, 0, true) := by decide +kernel
theorem f1_25 : lkp fldL 1 25 = some (1, 3, 0, true) := by decide +kernel
theorem f11_338 : lkp fldL 11 338 = some (1, 3, 0, true) := by decide +kernel
theorem f1_28 : lkp fldL 1 28 = some (1, 4, 0, true) := by decide +kernel
theorem f11_328 : lkp fldL 11 328 = some (1, 4, 0, true) := by decide +kernel
theorem f11_303 : lkp fldL 11 303 = some (1, 5, 0, false) := by decide +kernel
theorem f11_318 : lkp fldL 11 318 = some (1, 6, 1, false) := by decide +kernel
theorem f1_9 : lkp fldL 1 9 = some (1, 7, 3, true) := by decide +kernel
theorem f11_312 : lkp fldL 11 312 = some (1, 7, 3, true) := by decide +kernel
theorem f0_7 : lkp fldL 0 7 = some (0, 0, 0, true) := by decide +kernel
theorem f7_119 : lkp fldL 7 119 = some (0, 0, 0, true) := by decide +kernel
theorem f0_13 : lkp fldL 0 13 = some (0, 1, 0, true) := by decide +kernel
theorem f7_94 : lkp fldL 7 94 = some (0, 1, 0, true) := by decide +kernel
theorem f0_16 : lkp fldL 0 16 = some (0, 2, 0, true) := by decide +kernel
theorem f7_95 : lkp fldL 7 95 = some (0, 2, 0, true) := by decide +kernel
theorem m13_11 : lkp mthL 13 11 = some 81 := by decide +kernel
theorem m11_1 : lkp mthL 11 1 = some 901 := by decide +kernel
theorem m11_9 : lkp mthL 11 9 = some 28 := by decide +kernel
theorem m5_3 : lkp mthL 5 3 = some 901 := by decide +kernel
theorem m11_18 : lkp mthL 11 18 = some 165 := by decide +kernel
theorem m12_1 : lkp mthL 12 1 = some 179 := by decide +kernel
theorem m14_1 : lkp mthL 14 1 = some 180 := by decide +kernel
theorem m15_1 : lkp mthL 15 1 = some 901 := by decide +kernel
theorem m11_29 : lkp mthL 11 29 = some 67 := by decide +kernel
theorem m8_3 : lkp mthL 8 3 = some 901 := by decide +kernel
theorem m11_32 : lkp mthL 11 32 = some 37 := by decide +kernel
theorem m6_3 : lkp mthL 6 3 = some 901 := by decide +kernel
theorem m6_30 : lkp mthL 6 30 = some 181 := by decide +kernel
theorem m11_48 : lkp mthL 11 48 = some 10 := by decide +kernel
theorem m3_3 : lkp mthL 3 3 = some 901 := by decide +kernel
theorem m11_55 : lkp mthL 11 55 = some 3 := by decide +kernel
theorem m2_3 : lkp mthL 2 3 = some 901 := by decide +kernel
theorem m2_28 : lkp mthL 2 28 = some 181 := by decide +kernel
theorem m11_62 : lkp mthL 11 62 = some 45 := by decide +kernel
theorem m7_3 : lkp mthL 7 3 = some 901 := by decide +kernel
theorem m7_24 : lkp mthL 7 24 = some 165 := by decide +kernel
theorem m11_69 : lkp mthL 11 69 = some 75 := by decide +kernel
theorem m9_3 : lkp mthL 9 3 = some 901 := by decide +kernel
theorem m13_22 : lkp mthL 13 22 = some 82 := by decide +kernel
theorem m11_84 : lkp mthL 11 84 = some 83 := by decide +kernel
theorem m11_88 : lkp mthL 11 88 = some 84 := by decide +kernel
theorem m11_92 : lkp mthL 11 92 = some 29 := by decide +kernel
theorem m5_25 : lkp mthL 5 25 = some 181 := by decide +kernel
theorem m11_96 : lkp mthL 11 96 = some 166 := by decide +kernel
theorem m11_99 : lkp mthL 11 99 = some 68 := by decide +kernel
theorem m8_37 : lkp mthL 8 37 = some 69 := by decide +kernel
theorem m8_43 : lkp mthL 8 43 = some 181 := by decide +kernel
theorem m8_52 : lkp mthL 8 52 = some 70 := by decide +kernel
theorem m8_59 : lkp mthL 8 59 = some 14 := by decide +kernel
theorem m8_63 : lkp mthL 8 63 = some 71 := by decide +kernel
theorem m8_73 : lkp mthL 8 73 = some 85 := by decide +kernel
theorem m11_203 : lkp mthL 11 203 = some 86 := by decide +kernel
theorem m8_76 : lkp mthL 8 76 = some 900 := by decide +kernel
theorem m8_82 : lkp mthL 8 82 = some 186 := by decide +kernel
theorem m8_87 : lkp mthL 8 87 = some 15 := by decide +kernel
theorem m4_85 : lkp mthL 4 85 = some 86 := by decide +kernel
theorem m4_89 : lkp mthL 4 89 = some 16 := by decide +kernel
theorem m8_67 : lkp mthL 8 67 = some 86 := by decide +kernel
theorem m8_70 : lkp mthL 8 70 = some 16 := by decide +kernel
theorem m11_100 : lkp mthL 11 100 = some 4 := by decide +kernel
theorem m11_103 : lkp mthL 11 103 = some 46 := by decide +kernel
theorem m7_43 : lkp mthL 7 43 = some 166 := by decide +kernel
theorem m11_104 : lkp mthL 11 104 = some 30 := by decide +kernel
theorem m13_25 : lkp mthL 13 25 = some 87 := by decide +kernel
theorem m11_145 : lkp mthL 11 145 = some 167 := by decide +kernel
theorem m11_122 : lkp mthL 11 122 = some 88 := by decide +kernel
theorem m11_149 : lkp mthL 11 149 = some 31 := by decide +kernel
theorem m5_31 : lkp mthL 5 31 = some 30 := by decide +kernel
theorem m5_43 : lkp mthL 5 43 = some 32 := by decide +kernel
theorem m5_47 : lkp mthL 5 47 = some 903 := by decide +kernel
theorem m5_53 : lkp mthL 5 53 = some 33 := by decide +kernel
theorem m13_29 : lkp mthL 13 29 = some 89 := by decide +kernel
theorem m11_276 : lkp mthL 11 276 = some 90 := by decide +kernel
theorem m11_282 : lkp mthL 11 282 = some 38 := by decide +kernel
theorem m13_37 : lkp mthL 13 37 = some 91 := by decide +kernel
theorem m11_129 : lkp mthL 11 129 = some 168 := by decide +kernel
theorem m11_292 : lkp mthL 11 292 = some 79 := by decide +kernel
theorem m10_1 : lkp mthL 10 1 = some 901 := by decide +kernel
theorem m11_294 : lkp mthL 11 294 = some 169 := by decide +kernel
theorem m12_131 : lkp mthL 12 131 = some 170 := by decide +kernel
theorem m12_129 : lkp mthL 12 129 = some 171 := by decide +kernel
theorem m12_69 : lkp mthL 12 69 = some 172 := by decide +kernel
theorem m12_73 : lkp mthL 12 73 = some 191 := by decide +kernel
theorem m22_194 : lkp mthL 22 194 = some 904 := by decide +kernel
theorem m22_201 : lkp mthL 22 201 = some 192 := by decide +kernel
theorem m12_66 : lkp mthL 12 66 = some 902 := by decide +kernel
theorem m16_304 : lkp mthL 16 304 = some 903 := by decide +kernel
theorem m16_150 : lkp mthL 16 150 = some 900 := by decide +kernel
theorem m12_79 : lkp mthL 12 79 = some 904 := by decide +kernel
theorem m13_33 : lkp mthL 13 33 = some 92 := by decide +kernel
theorem m11_266 : lkp mthL 11 266 = some 93 := by decide +kernel
theorem m11_112 : lkp mthL 11 112 = some 94 := by decide +kernel
theorem m13_18 : lkp mthL 13 18 = some 175 := by decide +kernel
theorem m13_12 : lkp mthL 13 12 = some 176 := by decide +kernel
theorem m13_40 : lkp mthL 13 40 = some 177 := by decide +kernel
theorem m13_48 : lkp mthL 13 48 = some 95 := by decide +kernel
theorem m11_153 : lkp mthL 11 153 = some 96 := by decide +kernel
theorem m11_157 : lkp mthL 11 157 = some 97 := by decide +kernel
theorem m11_160 : lkp mthL 11 160 = some 98 := by decide +kernel
theorem m11_163 : lkp mthL 11 163 = some 17 := by decide +kernel
theorem m4_3 : lkp mthL 4 3 = some 901 := by decide +kernel
theorem m4_48 : lkp mthL 4 48 = some 181 := by decide +kernel
theorem m11_166 : lkp mthL 11 166 = some 99 := by decide +kernel
theorem m11_138 : lkp mthL 11 138 = some 18 := by decide +kernel
theorem m4_68 : lkp mthL 4 68 = some 30 := by decide +kernel
theorem m4_71 : lkp mthL 4 71 = some 19 := by decide +kernel
theorem m4_75 : lkp mthL 4 75 = some 34 := by decide +kernel
theorem m5_39 : lkp mthL 5 39 = some 35 := by decide +kernel
theorem m5_35 : lkp mthL 5 35 = some 83 := by decide +kernel
theorem m4_54 : lkp mthL 4 54 = some 20 := by decide +kernel
theorem m4_61 : lkp mthL 4 61 = some 36 := by decide +kernel
theorem m11_535 : lkp mthL 11 535 = some 72 := by decide +kernel
theorem m11_142 : lkp mthL 11 142 = some 69 := by decide +kernel
theorem m13_52 : lkp mthL 13 52 = some 100 := by decide +kernel
theorem m11_108 : lkp mthL 11 108 = some 35 := by decide +kernel
theorem m11_189 : lkp mthL 11 189 = some 34 := by decide +kernel
theorem m11_115 : lkp mthL 11 115 = some 101 := by decide +kernel
theorem m11_192 : lkp mthL 11 192 = some 21 := by decide +kernel
theorem m13_56 : lkp mthL 13 56 = some 102 := by decide +kernel
theorem m11_173 : lkp mthL 11 173 = some 103 := by decide +kernel
theorem m11_132 : lkp mthL 11 132 = some 173 := by decide +kernel
theorem m12_118 : lkp mthL 12 118 = some 184 := by decide +kernel
theorem m17_105 : lkp mthL 17 105 = some 185 := by decide +kernel
theorem m12_123 : lkp mthL 12 123 = some 174 := by decide +kernel
theorem m11_176 : lkp mthL 11 176 = some 20 := by decide +kernel
theorem m13_59 : lkp mthL 13 59 = some 104 := by decide +kernel
theorem m13_62 : lkp mthL 13 62 = some 105 := by decide +kernel
theorem m11_269 : lkp mthL 11 269 = some 39 := by decide +kernel
theorem m6_36 : lkp mthL 6 36 = some 40 := by decide +kernel
theorem m6_40 : lkp mthL 6 40 = some 903 := by decide +kernel
theorem m11_273 : lkp mthL 11 273 = some 41 := by decide +kernel
theorem m13_65 : lkp mthL 13 65 = some 106 := by decide +kernel
theorem m11_300 : lkp mthL 11 300 = some 1 := by decide +kernel
theorem m1_3 : lkp mthL 1 3 = some 901 := by decide +kernel
theorem m13_68 : lkp mthL 13 68 = some 107 := by decide +kernel
theorem m11_306 : lkp mthL 11 306 = some 108 := by decide +kernel
theorem m11_309 : lkp mthL 11 309 = some 109 := by decide +kernel
theorem m11_314 : lkp mthL 11 314 = some 110 := by decide +kernel
theorem m13_71 : lkp mthL 13 71 = some 111 := by decide +kernel
theorem m13_75 : lkp mthL 13 75 = some 112 := by decide +kernel
theorem m11_353 : lkp mthL 11 353 = some 11 := by decide +kernel
theorem m13_78 : lkp mthL 13 78 = some 113 := by decide +kernel
theorem m13_81 : lkp mthL 13 81 = some 114 := by decide +kernel
theorem m11_366 : lkp mthL 11 366 = some 115 := by decide +kernel
theorem m11_375 : lkp mthL 11 375 = some 5 := by decide +kernel
theorem m13_84 : lkp mthL 13 84 = some 116 := by decide +kernel
theorem m11_385 : lkp mthL 11 385 = some 6 := by decide +kernel
theorem m2_38 : lkp mthL 2 38 = some 7 := by decide +kernel
theorem m2_42 : lkp mthL 2 42 = some 903 := by decide +kernel
theorem m2_48 : lkp mthL 2 48 = some 904 := by decide +kernel
theorem m13_88 : lkp mthL 13 88 = some 117 := by decide +kernel
theorem m11_395 : lkp mthL 11 395 = some 47 := by decide +kernel
theorem m11_399 : lkp mthL 11 399 = some 48 := by decide +kernel
theorem m13_92 : lkp mthL 13 92 = some 118 := by decide +kernel
theorem m11_403 : lkp mthL 11 403 = some 49 := by decide +kernel
theorem m11_409 : lkp mthL 11 409 = some 50 := by decide +kernel
theorem m7_52 : lkp mthL 7 52 = some 0 := by decide +kernel
theorem m0_1 : lkp mthL 0 1 = some 901 := by decide +kernel
theorem m7_55 : lkp mthL 7 55 = some 169 := by decide +kernel
theorem m7_59 : lkp mthL 7 59 = some 168 := by decide +kernel
theorem m13_95 : lkp mthL 13 95 = some 119 := by decide +kernel
theorem m11_442 : lkp mthL 11 442 = some 120 := by decide +kernel
theorem m11_445 : lkp mthL 11 445 = some 76 := by decide +kernel
theorem m13_98 : lkp mthL 13 98 = some 121 := by decide +kernel
theorem m11_457 : lkp mthL 11 457 = some 77 := by decide +kernel
theorem m9_29 : lkp mthL 9 29 = some 78 := by decide +kernel
theorem m9_39 : lkp mthL 9 39 = some 905 := by decide +kernel
theorem m13_101 : lkp mthL 13 101 = some 122 := by decide +kernel
theorem m13_44 : lkp mthL 13 44 = some 178 := by decide +kernel
theorem m13_110 : lkp mthL 13 110 = some 123 := by decide +kernel
theorem m11_488 : lkp mthL 11 488 = some 124 := by decide +kernel
theorem m11_492 : lkp mthL 11 492 = some 125 := by decide +kernel
theorem m11_196 : lkp mthL 11 196 = some 36 := by decide +kernel
theorem m11_496 : lkp mthL 11 496 = some 126 := by decide +kernel
theorem m11_600 : lkp mthL 11 600 = some 127 := by decide +kernel
theorem m11_212 : lkp mthL 11 212 = some 73 := by decide +kernel
theorem m11_499 : lkp mthL 11 499 = some 128 := by decide +kernel
theorem m11_603 : lkp mthL 11 603 = some 129 := by decide +kernel
theorem m11_220 : lkp mthL 11 220 = some 22 := by decide +kernel
theorem m4_79 : lkp mthL 4 79 = some 186 := by decide +kernel
theorem m11_223 : lkp mthL 11 223 = some 74 := by decide +kernel
theorem m11_227 : lkp mthL 11 227 = some 186 := by decide +kernel
theorem m11_233 : lkp mthL 11 233 = some 130 := by decide +kernel
theorem m11_537 : lkp mthL 11 537 = some 85 := by decide +kernel
theorem m11_236 : lkp mthL 11 236 = some 131 := by decide +kernel
theorem m11_540 : lkp mthL 11 540 = some 132 := by decide +kernel
theorem m11_544 : lkp mthL 11 544 = some 23 := by decide +kernel
theorem m11_606 : lkp mthL 11 606 = some 133 := by decide +kernel
theorem m11_263 : lkp mthL 11 263 = some 24 := by decide +kernel
theorem m4_92 : lkp mthL 4 92 = some 25 := by decide +kernel
theorem m4_101 : lkp mthL 4 101 = some 26 := by decide +kernel
theorem m4_96 : lkp mthL 4 96 = some 905 := by decide +kernel
theorem m11_609 : lkp mthL 11 609 = some 134 := by decide +kernel
theorem m11_363 : lkp mthL 11 363 = some 12 := by decide +kernel
theorem m3_24 : lkp mthL 3 24 = some 13 := by decide +kernel
theorem m11_612 : lkp mthL 11 612 = some 135 := by decide +kernel
theorem m11_379 : lkp mthL 11 379 = some 8 := by decide +kernel
theorem m11_615 : lkp mthL 11 615 = some 136 := by decide +kernel
theorem m11_460 : lkp mthL 11 460 = some 137 := by decide +kernel
theorem m11_464 : lkp mthL 11 464 = some 78 := by decide +kernel
theorem m11_618 : lkp mthL 11 618 = some 138 := by decide +kernel
theorem m11_468 : lkp mthL 11 468 = some 139 := by decide +kernel
theorem m11_547 : lkp mthL 11 547 = some 140 := by decide +kernel
theorem m11_550 : lkp mthL 11 550 = some 27 := by decide +kernel
theorem m11_553 : lkp mthL 11 553 = some 26 := by decide +kernel
theorem m11_502 : lkp mthL 11 502 = some 141 := by decide +kernel
theorem m11_621 : lkp mthL 11 621 = some 142 := by decide +kernel
theorem m11_322 : lkp mthL 11 322 = some 143 := by decide +kernel
theorem m11_571 : lkp mthL 11 571 = some 144 := by decide +kernel
theorem m11_583 : lkp mthL 11 583 = some 80 := by decide +kernel
theorem m11_574 : lkp mthL 11 574 = some 145 := by decide +kernel
theorem m11_577 : lkp mthL 11 577 = some 146 := by decide +kernel
theorem m11_325 : lkp mthL 11 325 = some 147 := by decide +kernel
theorem m11_565 : lkp mthL 11 565 = some 42 := by decide +kernel
theorem m11_286 : lkp mthL 11 286 = some 43 := by decide +kernel
theorem m6_50 : lkp mthL 6 50 = some 44 := by decide +kernel
theorem m11_580 : lkp mthL 11 580 = some 148 := by decide +kernel
theorem m11_331 : lkp mthL 11 331 = some 2 := by decide +kernel
theorem m11_334 : lkp mthL 11 334 = some 149 := by decide +kernel
theorem m11_341 : lkp mthL 11 341 = some 150 := by decide +kernel
theorem m11_624 : lkp mthL 11 624 = some 151 := by decide +kernel
theorem m11_344 : lkp mthL 11 344 = some 152 := by decide +kernel
theorem m11_588 : lkp mthL 11 588 = some 903 := by decide +kernel
theorem m11_505 : lkp mthL 11 505 = some 153 := by decide +kernel
theorem m11_627 : lkp mthL 11 627 = some 154 := by decide +kernel
theorem m11_347 : lkp mthL 11 347 = some 155 := by decide +kernel
theorem m11_508 : lkp mthL 11 508 = some 156 := by decide +kernel
theorem m11_630 : lkp mthL 11 630 = some 157 := by decide +kernel
theorem m11_412 : lkp mthL 11 412 = some 158 := by decide +kernel
theorem m11_415 : lkp mthL 11 415 = some 51 := by decide +kernel
theorem m7_66 : lkp mthL 7 66 = some 181 := by decide +kernel
theorem m7_72 : lkp mthL 7 72 = some 183 := by decide +kernel
theorem m7_79 : lkp mthL 7 79 = some 173 := by decide +kernel
theorem m7_83 : lkp mthL 7 83 = some 52 := by decide +kernel
theorem m7_98 : lkp mthL 7 98 = some 86 := by decide +kernel
theorem m7_87 : lkp mthL 7 87 = some 53 := by decide +kernel
theorem m7_91 : lkp mthL 7 91 = some 49 := by decide +kernel
theorem m11_418 : lkp mthL 11 418 = some 54 := by decide +kernel
theorem m11_421 : lkp mthL 11 421 = some 55 := by decide +kernel
theorem m11_424 : lkp mthL 11 424 = some 56 := by decide +kernel
theorem m7_102 : lkp mthL 7 102 = some 57 := by decide +kernel
theorem m11_427 : lkp mthL 11 427 = some 58 := by decide +kernel
theorem m11_430 : lkp mthL 11 430 = some 59 := by decide +kernel
theorem m7_112 : lkp mthL 7 112 = some 60 := by decide +kernel
theorem m7_125 : lkp mthL 7 125 = some 61 := by decide +kernel
theorem m7_122 : lkp mthL 7 122 = some 62 := by decide +kernel
theorem m7_129 : lkp mthL 7 129 = some 904 := by decide +kernel
theorem m7_134 : lkp mthL 7 134 = some 63 := by decide +kernel
theorem m7_137 : lkp mthL 7 137 = some 903 := by decide +kernel
theorem m7_116 : lkp mthL 7 116 = some 54 := by decide +kernel
theorem m11_433 : lkp mthL 11 433 = some 64 := by decide +kernel
theorem m7_106 : lkp mthL 7 106 = some 187 := by decide +kernel
theorem m11_633 : lkp mthL 11 633 = some 159 := by decide +kernel
theorem m11_436 : lkp mthL 11 436 = some 65 := by decide +kernel
theorem m11_439 : lkp mthL 11 439 = some 60 := by decide +kernel
theorem m11_511 : lkp mthL 11 511 = some 160 := by decide +kernel
theorem m11_471 : lkp mthL 11 471 = some 161 := by decide +kernel
theorem m11_515 : lkp mthL 11 515 = some 162 := by decide +kernel
theorem m11_474 : lkp mthL 11 474 = some 163 := by decide +kernel
theorem m11_477 : lkp mthL 11 477 = some 164 := by decide +kernel
theorem m11_480 : lkp mthL 11 480 = some 66 := by decide +kernel
theorem m11_483 : lkp mthL 11 483 = some 9 := by decide +kernel
theorem m2_51 : lkp mthL 2 51 = some 83 := by decide +kernel
theorem m13_114 : lkp mthL 13 114 = some 162 := by decide +kernel
theorem m13_118 : lkp mthL 13 118 = some 157 := by decide +kernel
theorem m13_121 : lkp mthL 13 121 = some 127 := by decide +kernel
theorem m13_124 : lkp mthL 13 124 = some 160 := by decide +kernel
theorem m13_127 : lkp mthL 13 127 = some 129 := by decide +kernel
theorem m13_130 : lkp mthL 13 130 = some 138 := by decide +kernel
theorem m13_133 : lkp mthL 13 133 = some 136 := by decide +kernel
theorem m13_136 : lkp mthL 13 136 = some 135 := by decide +kernel
theorem nw13_9 : lkp newL 13 9 = some (11, 15) := by decide +kernel
theorem nw11_7 : lkp newL 11 7 = some (5, 4) := by decide +kernel
theorem nw11_16 : lkp newL 11 16 = some (12, 3) := by decide +kernel
theorem nw11_23 : lkp newL 11 23 = some (8, 8) := by decide +kernel
theorem nw8_9 : lkp newL 8 9 = some (4, 16) := by decide +kernel
theorem nw11_30 : lkp newL 11 30 = some (6, 7) := by decide +kernel
theorem nw11_46 : lkp newL 11 46 = some (3, 2) := by decide +kernel
theorem nw11_53 : lkp newL 11 53 = some (2, 6) := by decide +kernel
theorem nw11_60 : lkp newL 11 60 = some (7, 11) := by decide +kernel
theorem nw7_22 : lkp newL 7 22 = some (12, 3) := by decide +kernel
theorem nw11_67 : lkp newL 11 67 = some (9, 3) := by decide +kernel
theorem nw11_290 : lkp newL 11 290 = some (10, 3) := by decide +kernel
theorem nw11_136 : lkp newL 11 136 = some (4, 16) := by decide +kernel
theorem nw11_298 : lkp newL 11 298 = some (1, 8) := by decide +kernel
theorem nw7_50 : lkp newL 7 50 = some (0, 3) := by decide +kernel
theorem ct13_9 : lkp cstT 13 9 = some 11 := by decide +kernel
theorem ct11_7 : lkp cstT 11 7 = some 5 := by decide +kernel
theorem ct11_16 : lkp cstT 11 16 = some 12 := by decide +kernel
theorem ct11_23 : lkp cstT 11 23 = some 8 := by decide +kernel
theorem ct8_9 : lkp cstT 8 9 = some 4 := by decide +kernel
theorem ct11_30 : lkp cstT 11 30 = some 6 := by decide +kernel
theorem ct11_46 : lkp cstT 11 46 = some 3 := by decide +kernel
theorem ct11_53 : lkp cstT 11 53 = some 2 := by decide +kernel
theorem ct11_60 : lkp cstT 11 60 = some 7 := by decide +kernel
theorem ct7_22 : lkp cstT 7 22 = some 12 := by decide +kernel
theorem ct11_67 : lkp cstT 11 67 = some 9 := by decide +kernel
theorem ct11_290 : lkp cstT 11 290 = some 10 := by decide +kernel
theorem ct11_136 : lkp cstT 11 136 = some 4 := by decide +kernel
theorem ct11_298 : lkp cstT 11 298 = some 1 := by decide +kernel
theorem ct7_50 : lkp cstT 7 50 = some 0 := by decide +kernel
theorem an11_23 : lkp anwL 11 23 = some 104 := by decide +kernel
theorem an8_9 : lkp anwL 8 9 = some 105 := by decide +kernel
theorem an16_2 : lkp anwL 16 2 = some 103 := by decide +kernel
theorem an12_7 : lkp anwL 12 7 = some 103 := by decide +kernel
theorem an11_136 : lkp anwL 11 136 = some 105 := by decide +kernel
theorem ci19_265 : lkp cstL 19 265 = some 1431655765 := by decide +kernel
theorem ci19_266 : lkp cstL 19 266 = some 858993459 := by decide +kernel
theorem ci19_267 : lkp cstL 19 267 = some 252645135 := by decide +kernel
theorem ci22_200 : lkp cstL 22 200 = some 2147483639 := by decide +kernel
theorem ci13_7 : lkp cstL 13 7 = some 2147483647 := by decide +kernel
theorem ci13_8 : lkp cstL 13 8 = some 790386105 := by decide +kernel
theorem cj11_486 : lkp cstJ 11 486 = some 58267 := by decide +kernel
theorem cj11_598 : lkp cstJ 11 598 = some 31 := by decide +kernel
theorem cj20_314 : lkp cstJ 20 314 = some 6148914691236517205 := by decide +kernel
theorem cj20_316 : lkp cstJ 20 316 = some 3689348814741910323 := by decide +kernel
theorem cj20_318 : lkp cstJ 20 318 = some 1085102592571150095 := by decide +kernel
