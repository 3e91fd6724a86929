/-! OUR MACHINE: whole numbers that are cut to 32 or 64 bits where they are used, references as numbers of cells, calls nested. -/
abbrev XV : Type := Int ⊕ (Int ⊕ Option Nat)
abbrev vI (z : Int) : XV := Sum.inl z
abbrev vL (z : Int) : XV := Sum.inr (Sum.inl z)
abbrev vR (r : Option Nat) : XV := Sum.inr (Sum.inr r)
abbrev XL : Type := List (Option XV)
/-- cells; cells and slots made; tags; lengths; numbers; references -/
abbrev Hp : Type := Nat × Nat × Nat × (Nat → Nat) × (Nat → Nat) × (Nat → Nat → Int) × (Nat → Nat → Option Nat)
abbrev XO : Type := Option XV ⊕ Nat
def hN (h : Hp) : Nat := h.1
def hC (h : Hp) : Nat := h.2.1
def hS (h : Hp) : Nat := h.2.2.1
def hT (h : Hp) : Nat → Nat := h.2.2.2.1
def hL (h : Hp) : Nat → Nat := h.2.2.2.2.1
def hI (h : Hp) : Nat → Nat → Int := h.2.2.2.2.2.1
def hR (h : Hp) : Nat → Nat → Option Nat := h.2.2.2.2.2.2
def u1 {α : Type} (f : Nat → α) (a : Nat) (v : α) : Nat → α := fun b => if b = a then v else f b
def u2 {α : Type} (f : Nat → Nat → α) (a k : Nat) (v : α) : Nat → Nat → α := fun b j => if b = a ∧ j = k then v else f b j
/-- a whole row -/
def ur {α : Type} (f : Nat → Nat → α) (a : Nat) (g : Nat → α) : Nat → Nat → α := fun b j => if b = a then g j else f b j
def sI (h : Hp) (a k : Nat) (v : Int) : Hp := (hN h, hC h, hS h, hT h, hL h, u2 (hI h) a k v, hR h)
def sR (h : Hp) (a k : Nat) (v : Option Nat) : Hp := (hN h, hC h, hS h, hT h, hL h, hI h, u2 (hR h) a k v)
def sIr (h : Hp) (a : Nat) (g : Nat → Int) : Hp := (hN h, hC h, hS h, hT h, hL h, ur (hI h) a g, hR h)
def sRr (h : Hp) (a : Nat) (g : Nat → Option Nat) : Hp := (hN h, hC h, hS h, hT h, hL h, hI h, ur (hR h) a g)
/-- a new cell: tag, length (of a row), slots that it costs -/
def alc (h : Hp) (t len sl : Nat) : Hp := (hN h + 1, hC h + 1, hS h + sl, u1 (hT h) (hN h) t, u1 (hL h) (hN h) len, ur (hI h) (hN h) (fun _ => 0), ur (hR h) (hN h) (fun _ => none))
/-- cells that we don't number -/
def tck (h : Hp) (c s : Nat) : Hp := (hN h, hC h + c, hS h + s, hT h, hL h, hI h, hR h)
def r32 (z : Int) : Bool := decide (-2147483648 ≤ z) && decide (z < 2147483648)
def w32 (z : Int) : Int := (Int32.ofInt z).toInt
def w64 (z : Int) : Int := (Int64.ofInt z).toInt
def o32 (f : Int32 → Int32 → Int32) (x y : Int) : Int := (f (Int32.ofInt x) (Int32.ofInt y)).toInt
def o64 (f : Int64 → Int64 → Int64) (x y : Int) : Int := (f (Int64.ofInt x) (Int64.ofInt y)).toInt
abbrev fand (x y : Int32) : Int32 := x &&& y
abbrev fior (x y : Int32) : Int32 := x ||| y
abbrev fxor (x y : Int32) : Int32 := x ^^^ y
abbrev fshl (x y : Int32) : Int32 := x <<< (y &&& 31)
abbrev fshr (x y : Int32) : Int32 := x >>> (y &&& 31)
abbrev fush (x y : Int32) : Int32 := (x.toUInt32 >>> (y.toUInt32 &&& Int32.toUInt32 31)).toInt32
abbrev gand (x y : Int64) : Int64 := x &&& y
abbrev gior (x y : Int64) : Int64 := x ||| y
def lshlZ (x s : Int) : Int := (Int64.ofInt x <<< ((Int32.ofInt s).toInt64 &&& 63)).toInt
def lshrZ (x s : Int) : Int := (Int64.ofInt x >>> ((Int32.ofInt s).toInt64 &&& 63)).toInt
def lushZ (x s : Int) : Int := ((Int64.ofInt x).toUInt64 >>> ((Int32.ofInt s).toInt64.toUInt64 &&& Int64.toUInt64 63)).toInt64.toInt
def cmpZ (x y : Int) : Int := if w64 y < w64 x then 1 else if w64 x = w64 y then 0 else -1
def cnd (c : ClassFile.Cond) (x y : Int) : Bool := match c with
  | .eq => decide (x = y)
  | .ne => decide (x ≠ y)
  | .lt => decide (x < y)
  | .ge => decide (y ≤ x)
  | .gt => decide (y < x)
  | .le => decide (x ≤ y)
def ln {α : Type} : List α → Nat → Option α
  | [], _ => none
  | a :: _, 0 => some a
  | _ :: l, n + 1 => ln l n
def isL (v : XV) : Bool := match v with
  | .inr (.inl _) => true
  | _ => false
def clr (a : Option XV) : Option XV := match a with
  | some (.inr (.inl _)) => none
  | a => a
/-- storing a value of one slot; of two -/
def st1 : XL → Nat → XV → Option XL
  | [], _, _ => none
  | _ :: l, 0, v => some (some v :: l)
  | a :: l, n + 1, v => match n with
    | 0 => (st1 l 0 v).map (fun l' => clr a :: l')
    | k + 1 => (st1 l (k + 1) v).map (fun l' => a :: l')
def st2 : XL → Nat → XV → Option XL
  | [], _, _ => none
  | a :: l, n, v => match n with
    | 0 => match l with
      | [] => none
      | _ :: l' => some (some v :: none :: l')
    | m + 1 => match m with
      | 0 => (st2 l 0 v).map (fun l' => clr a :: l')
      | k + 1 => (st2 l (k + 1) v).map (fun l' => a :: l')
def entL : List XV → XL
  | [] => []
  | v :: vs => if isL v then some v :: none :: entL vs else some v :: entL vs
def padL (l : XL) (n : Nat) : XL := l ++ List.replicate (n - l.length) none
def ent (z : Nat) (as : List XV) : XL := padL (entL as) (mLoc z)
def tgt (pc : Nat) (off : Int) : Option Nat := if 0 ≤ (pc : Int) + off then some ((pc : Int) + off).toNat else none
/-- instructions that touch the stack of operands alone -/
def sop (c : Nat) (i : Instr) (st : List XV) : Option (List XV) := match i with
  | .iconst n => some (vI n :: st)
  | .bipush n => if -128 ≤ n ∧ n < 128 then some (vI n :: st) else none
  | .sipush n => if -32768 ≤ n ∧ n < 32768 then some (vI n :: st) else none
  | .lconst n => some (vL (n : Nat) :: st)
  | .aconst_null => some (vR none :: st)
  | .ldc k => match lkp cstL c k with | some z => some (vI z :: st) | none => none
  | .ldc_w k => match lkp cstL c k with | some z => some (vI z :: st) | none => none
  | .ldc2_w k => match lkp cstJ c k with | some z => some (vL z :: st) | none => none
  | .iadd => match st with | .inl y :: .inl x :: r => some (vI (x + y) :: r) | _ => none
  | .isub => match st with | .inl y :: .inl x :: r => some (vI (x - y) :: r) | _ => none
  | .imul => match st with | .inl y :: .inl x :: r => some (vI (x * y) :: r) | _ => none
  | .ineg => match st with | .inl x :: r => some (vI (-x) :: r) | _ => none
  | .idiv => match st with | .inl y :: .inl x :: r => if r32 x && r32 y && decide (y ≠ 0) then some (vI (x.tdiv y) :: r) else none | _ => none
  | .irem => match st with | .inl y :: .inl x :: r => if r32 x && r32 y && decide (y ≠ 0) then some (vI (x.tmod y) :: r) else none | _ => none
  | .iand => match st with | .inl y :: .inl x :: r => some (vI (o32 fand x y) :: r) | _ => none
  | .ior => match st with | .inl y :: .inl x :: r => some (vI (o32 fior x y) :: r) | _ => none
  | .ixor => match st with | .inl y :: .inl x :: r => some (vI (o32 fxor x y) :: r) | _ => none
  | .ishl => match st with | .inl y :: .inl x :: r => some (vI (o32 fshl x y) :: r) | _ => none
  | .ishr => match st with | .inl y :: .inl x :: r => some (vI (o32 fshr x y) :: r) | _ => none
  | .iushr => match st with | .inl y :: .inl x :: r => some (vI (o32 fush x y) :: r) | _ => none
  | .ladd => match st with | .inr (.inl y) :: .inr (.inl x) :: r => some (vL (x + y) :: r) | _ => none
  | .lsub => match st with | .inr (.inl y) :: .inr (.inl x) :: r => some (vL (x - y) :: r) | _ => none
  | .lmul => match st with | .inr (.inl y) :: .inr (.inl x) :: r => some (vL (x * y) :: r) | _ => none
  | .land => match st with | .inr (.inl y) :: .inr (.inl x) :: r => some (vL (o64 gand x y) :: r) | _ => none
  | .lor => match st with | .inr (.inl y) :: .inr (.inl x) :: r => some (vL (o64 gior x y) :: r) | _ => none
  | .lshl => match st with | .inl y :: .inr (.inl x) :: r => some (vL (lshlZ x y) :: r) | _ => none
  | .lshr => match st with | .inl y :: .inr (.inl x) :: r => some (vL (lshrZ x y) :: r) | _ => none
  | .lushr => match st with | .inl y :: .inr (.inl x) :: r => some (vL (lushZ x y) :: r) | _ => none
  | .lcmp => match st with | .inr (.inl y) :: .inr (.inl x) :: r => some (vI (cmpZ x y) :: r) | _ => none
  | .i2l => match st with | .inl x :: r => some (vL (w32 x) :: r) | _ => none
  | .l2i => match st with | .inr (.inl x) :: r => some (vI x :: r) | _ => none
  | .dup => match st with | a :: r => if isL a then none else some (a :: a :: r) | _ => none
  | .dup_x1 => match st with | a :: b :: r => if isL a || isL b then none else some (a :: b :: a :: r) | _ => none
  | .dup2 => match st with | a :: b :: r => if isL a || isL b then none else some (a :: b :: a :: b :: r) | _ => none
  | .pop => match st with | a :: r => if isL a then none else some r | _ => none
  | _ => none
/-- loads and stores of locals -/
def lop (i : Instr) (ls : XL) (st : List XV) : Option (XL × List XV) :=
  let ldi (k : Nat) : Option (XL × List XV) := match ln ls k with | some (some (.inl x)) => some (ls, vI x :: st) | _ => none
  let ldl (k : Nat) : Option (XL × List XV) := match ln ls k with | some (some (.inr (.inl x))) => some (ls, vL x :: st) | _ => none
  let lda (k : Nat) : Option (XL × List XV) := match ln ls k with | some (some (.inr (.inr x))) => some (ls, vR x :: st) | _ => none
  let sti (k : Nat) : Option (XL × List XV) := match st with | .inl x :: r => (st1 ls k (vI x)).map (fun l => (l, r)) | _ => none
  let sta (k : Nat) : Option (XL × List XV) := match st with | .inr (.inr x) :: r => (st1 ls k (vR x)).map (fun l => (l, r)) | _ => none
  let stl (k : Nat) : Option (XL × List XV) := match st with | .inr (.inl x) :: r => (st2 ls k (vL x)).map (fun l => (l, r)) | _ => none
  match i with
  | .iload k => ldi k
  | .iload_n k => ldi k
  | .lload k => ldl k
  | .lload_n k => ldl k
  | .aload k => lda k
  | .aload_n k => lda k
  | .istore k => sti k
  | .istore_n k => sti k
  | .astore k => sta k
  | .astore_n k => sta k
  | .lstore k => stl k
  | .lstore_n k => stl k
  | .iinc k n => match ln ls k with | some (some (.inl x)) => (st1 ls k (vI (x + n))).map (fun l => (l, st)) | _ => none
  | _ => none
/-- jumps -/
def jop (pc nx : Nat) (i : Instr) (st : List XV) : Option (Nat × List XV) := match i with
  | .goto o => match tgt pc o with | some t => some (t, st) | none => none
  | .ifCond c o => match st, tgt pc o with
    | .inl x :: r, some t => if r32 x then some (if cnd c x 0 then t else nx, r) else none
    | _, _ => none
  | .if_icmp c o => match st, tgt pc o with
    | .inl y :: .inl x :: r, some t => if r32 x && r32 y then some (if cnd c x y then t else nx, r) else none
    | _, _ => none
  | .if_acmp c o => match st, tgt pc o with
    | .inr (.inr y) :: .inr (.inr x) :: r, some t => some (if (match c with | .eq => decide (x = y) | .ne => decide (x ≠ y)) then t else nx, r)
    | _, _ => none
  | .tableswitch df lo hi os => match st with
    | .inl x :: r => if r32 x then (if lo ≤ x ∧ x ≤ hi then (match os[(x - lo).toNat]? with | some o => (match tgt pc o with | some t => some (t, r) | none => none) | none => none) else (match tgt pc df with | some t => some (t, r) | none => none)) else none
    | _ => none
  | _ => none
def nwTag (a : ArrayType) : Nat := match a with
  | .int => 100
  | .boolean => 101
  | .long => 102
  | _ => 0
/-- cells -/
def hop (D : Nat → Nat → Bool) (y c : Nat) (i : Instr) (st : List XV) (h : Hp) : Option (List XV × Hp) := match i with
  | .getfield k => match lkp fldL c k with
    | some (t, j, kd, _) => (match st with
      | .inr (.inr (some a)) :: r => if a < hN h ∧ hT h a = t ∧ D a j = true then
          some ((if kd = 3 then vR (hR h a j) else if kd = 2 then vL (hI h a j) else vI (hI h a j)) :: r, h) else none
      | _ => none)
    | none => none
  | .putfield k => match lkp fldL c k with
    | some (t, j, kd, fin) => (match st with
      | .inr (.inr q) :: .inr (.inr (some a)) :: r => if a < hN h ∧ hT h a = t ∧ D a j = true ∧ (fin = true → isIni y = true ∧ c = t) ∧ kd = 3 then some (r, sR h a j q) else none
      | .inr (.inl x) :: .inr (.inr (some a)) :: r => if a < hN h ∧ hT h a = t ∧ D a j = true ∧ (fin = true → isIni y = true ∧ c = t) ∧ kd = 2 then some (r, sI h a j x) else none
      | .inl x :: .inr (.inr (some a)) :: r => if a < hN h ∧ hT h a = t ∧ D a j = true ∧ (fin = true → isIni y = true ∧ c = t) ∧ (kd = 0 ∨ (kd = 1 ∧ (x = 0 ∨ x = 1))) then some (r, sI h a j x) else none
      | _ => none)
    | none => none
  | .getstatic k => if c = 12 ∧ k = 39 then some (vR (some 0) :: st, h) else none
  | .iaload => match st with
    | .inl x :: .inr (.inr (some a)) :: r => if a < hN h ∧ hT h a = 100 ∧ 0 ≤ x ∧ x < hL h a ∧ D a x.toNat = true then some (vI (hI h a x.toNat) :: r, h) else none
    | _ => none
  | .baload => match st with
    | .inl x :: .inr (.inr (some a)) :: r => if a < hN h ∧ hT h a = 101 ∧ 0 ≤ x ∧ x < hL h a ∧ D a x.toNat = true then some (vI (hI h a x.toNat) :: r, h) else none
    | _ => none
  | .laload => match st with
    | .inl x :: .inr (.inr (some a)) :: r => if a < hN h ∧ hT h a = 102 ∧ 0 ≤ x ∧ x < hL h a ∧ D a x.toNat = true then some (vL (hI h a x.toNat) :: r, h) else none
    | _ => none
  | .aaload => match st with
    | .inl x :: .inr (.inr (some a)) :: r => if a < hN h ∧ 103 ≤ hT h a ∧ hT h a ≤ 105 ∧ 0 ≤ x ∧ x < hL h a ∧ D a x.toNat = true then some (vR (hR h a x.toNat) :: r, h) else none
    | _ => none
  | .iastore => match st with
    | .inl v :: .inl x :: .inr (.inr (some a)) :: r => if 2 ≤ a ∧ a < hN h ∧ hT h a = 100 ∧ 0 ≤ x ∧ x < hL h a ∧ D a x.toNat = true then some (r, sI h a x.toNat v) else none
    | _ => none
  | .bastore => match st with
    | .inl v :: .inl x :: .inr (.inr (some a)) :: r => if 2 ≤ a ∧ a < hN h ∧ hT h a = 101 ∧ 0 ≤ x ∧ x < hL h a ∧ D a x.toNat = true ∧ (v = 0 ∨ v = 1) then some (r, sI h a x.toNat v) else none
    | _ => none
  | .lastore => match st with
    | .inr (.inl v) :: .inl x :: .inr (.inr (some a)) :: r => if 2 ≤ a ∧ a < hN h ∧ hT h a = 102 ∧ 0 ≤ x ∧ x < hL h a ∧ D a x.toNat = true then some (r, sI h a x.toNat v) else none
    | _ => none
  | .aastore => match st with
    | .inr (.inr none) :: .inl x :: .inr (.inr (some a)) :: r => if 2 ≤ a ∧ a < hN h ∧ 103 ≤ hT h a ∧ hT h a ≤ 105 ∧ 0 ≤ x ∧ x < hL h a ∧ D a x.toNat = true then some (r, sR h a x.toNat none) else none
    | .inr (.inr (some b)) :: .inl x :: .inr (.inr (some a)) :: r => if 2 ≤ a ∧ a < hN h ∧ 0 ≤ x ∧ x < hL h a ∧ D a x.toNat = true ∧ b < hN h ∧ ((hT h a = 103 ∧ hT h b < 13) ∨ (hT h a = 104 ∧ hT h b = 8) ∨ (hT h a = 105 ∧ hT h b = 4)) then some (r, sR h a x.toNat (some b)) else none
    | _ => none
  | .arraylength => match st with
    | .inr (.inr (some a)) :: r => if a < hN h ∧ 100 ≤ hT h a ∧ hT h a ≤ 105 then some (vI (hL h a) :: r, h) else none
    | _ => none
  | .new k => match lkp newL c k with
    | some (t, n) => some (vR (some (hN h)) :: st, alc h t 0 n)
    | none => none
  | .newarray t => match st with
    | .inl x :: r => if nwTag t ≠ 0 ∧ 0 ≤ x ∧ x < 60000 then some (vR (some (hN h)) :: r, alc h (nwTag t) x.toNat x.toNat) else none
    | _ => none
  | .anewarray k => match lkp anwL c k with
    | some g => (match st with
      | .inl x :: r => if 0 ≤ x ∧ x < 60000 then some (vR (some (hN h)) :: r, alc h g x.toNat x.toNat) else none
      | _ => none)
    | none => none
  | .checkcast k => match lkp cstT c k with
    | some t => (match st with
      | .inr (.inr (some a)) :: r => if a < hN h ∧ hT h a = t then some (vR (some a) :: r, h) else none
      | _ => none)
    | none => none
  | _ => none
def popN (n : Nat) (st : List XV) : Option (List XV × List XV) := if n ≤ st.length then some ((st.take n).reverse, st.drop n) else none
/-- the members of the machine's own that we take as one step: a copy of a row, of a list's row -/
def cpyI (h : Hp) (a b n : Nat) : Hp := sIr h b (fun j => if j < n then hI h a j else hI h b j)
def cpyR (h : Hp) (a n : Nat) : Hp := sRr (alc h 103 n n) (hN h) (fun j => if j < hL h a then hR h a j else none)
def elB (h : Hp) (a j : Nat) : Bool := match hR h a j with
  | none => true
  | some b => decide (hT h b < 13)
def nat (D : Nat → Nat → Bool) (z : Nat) (as : List XV) (h : Hp) : Option (Option XV × Hp) := match z, as with
  | 900, [.inr (.inr (some a)), .inl 0, .inr (.inr (some b)), .inl 0, .inl n] =>
    if 2 ≤ a ∧ a < hN h ∧ 2 ≤ b ∧ b < hN h ∧ hT h a = 100 ∧ hT h b = 100 ∧ 0 ≤ n ∧ n ≤ hL h a ∧ n ≤ hL h b ∧ (∀ j, j < n.toNat → D a j = true ∧ D b j = true) then some (none, cpyI h a b n.toNat) else none
  | 902, [.inr (.inr (some a)), .inl n] =>
    if 2 ≤ a ∧ a < hN h ∧ hT h a = 103 ∧ 0 ≤ n ∧ n < 60000 ∧ (hL h a : Int) ≤ n ∧ (∀ j, j < hL h a → D a j = true ∧ elB h a j = true) then some (some (vR (some (hN h))), cpyR h a n.toNat) else none
  | 903, [.inl x, .inl y] => if r32 x = true ∧ r32 y = true then some (some (vI (if y < x then y else x)), h) else none
  | 904, [.inl x, .inl y] => if r32 x = true ∧ r32 y = true then some (some (vI (if x < y then y else x)), h) else none
  | 905, [.inl x] => if r32 x = true then some (some (vI (if 0 ≤ x then x else 0 - x)), h) else none
  | _, _ => none
/-- words that operands take -/
def szS (st : List XV) : Nat := (st.map (fun v => if isL v then 2 else 1)).sum
abbrev Out : Type := (Nat × XL × List XV × Hp) ⊕ ((XO × Hp) ⊕ (Nat × List XV × List XV))
def oSt (nx : Nat) (ls : XL) (h : Hp) (o : Option (List XV)) : Option Out := match o with
  | some st => some (.inl (nx, ls, st, h))
  | none => none
/-- where an exception of ours is made and thrown: its kind -/
def exq (y pc : Nat) : Option Nat := if y = 94 ∧ pc = 4 then some 0 else if y = 84 ∧ pc = 4 then some 1 else if y = 88 ∧ pc = 4 then some 2 else none
/-- the whole of one instruction -/
def stp (D : Nat → Nat → Bool) (y pc nx : Nat) (i : Instr) (ls : XL) (st : List XV) (h : Hp) : Option Out :=
  match sop (cls y) i st with
  | some st' => some (.inl (nx, ls, st', h))
  | none => match lop i ls st with
    | some (ls', st') => some (.inl (nx, ls', st', h))
    | none => match jop pc nx i st with
      | some (t, st') => some (.inl (t, ls, st', h))
      | none => match hop D y (cls y) i st h with
        | some (st', h') => some (.inl (nx, ls, st', h'))
        | none => match i with
          | .return_ => match st with
            | [] => if mRet y = 4 then some (.inr (.inl (.inl none, h))) else none
            | _ => none
          | .ireturn => match st with
            | [.inl x] => if mRet y = 0 ∨ (mRet y = 1 ∧ (x = 0 ∨ x = 1)) then some (.inr (.inl (.inl (some (vI x)), h))) else none
            | _ => none
          | .lreturn => match st with
            | [.inr (.inl x)] => if mRet y = 2 then some (.inr (.inl (.inl (some (vL x)), h))) else none
            | _ => none
          | .areturn => match st with
            | [.inr (.inr x)] => if mRet y = 3 then some (.inr (.inl (.inl (some (vR x)), h))) else none
            | _ => none
          | .new _ => match exq y pc with
            | some e => if szS st ≤ 8 then some (.inr (.inl (.inr e, tck h 1 6))) else none
            | none => none
          | .invokestatic k => match lkp mthL (cls y) k with
            | some z => match popN (mArg z) st with
              | some (as, r) => if 8 < szS r then none else if 900 ≤ z then (match nat D z as h with
                  | some (v, h') => some (.inl (nx, ls, v.toList ++ r, h'))
                  | none => none) else (if mKnd z = 0 then some (.inr (.inr (z, as, r))) else none)
              | none => none
            | none => none
          | .invokevirtual k => match lkp mthL (cls y) k with
            | some z => match popN (mArg z) st with
              | some (.inr (.inr (some a)) :: as, r) => if mKnd z = 1 ∧ a < hN h ∧ 2 ≤ a ∧ hT h a = mTag z ∧ szS r ≤ 8 then some (.inr (.inr (z, vR (some a) :: as, r))) else none
              | _ => none
            | none => none
          | .invokespecial k => match lkp mthL (cls y) k with
            | some z => match popN (mArg z) st with
              | some (.inr (.inr (some a)) :: as, r) => if 8 < szS r then none else if z = 901 then (if as = [] then some (.inl (nx, ls, r, h)) else none) else if mKnd z = 2 ∧ a < hN h ∧ 2 ≤ a then some (.inr (.inr (z, vR (some a) :: as, r))) else none
              | _ => none
            | none => none
          | _ => none
/-- fuel n, depth d -/
def exec (D : Nat → Nat → Bool) : Nat → Nat → Nat → Nat → XL → List XV → Hp → Option (XO × Hp)
  | 0, _, _, _, _, _, _ => none
  | n + 1, d, y, pc, ls, st, h => match cod y pc with
    | none => none
    | some (i, nx) => match stp D y pc nx i ls st h with
      | none => none
      | some (.inl (pc', ls', st', h')) => exec D n d y pc' ls' st' h'
      | some (.inr (.inl r)) => some r
      | some (.inr (.inr (z, as, r))) => match d with
        | 0 => none
        | d' + 1 => if (entL as).length ≤ mLoc z then (match exec D n d' z 0 (ent z as) [] h with
          | none => none
          | some (.inl v, h1) => exec D n (d' + 1) y nx ls (v.toList ++ r) h1
          | some (.inr e, h1) => if hnd y pc e then some (.inl none, h1) else some (.inr e, h1)) else none
theorem exec_mono {D : Nat → Nat → Bool} : ∀ {n d y pc : Nat} {ls : XL} {st : List XV} {h : Hp} {r : XO × Hp}, exec D n d y pc ls st h = some r → exec D (n + 1) d y pc ls st h = some r := by
  intro n
  induction n with
  | zero => intro d y pc ls st h r e; simp [exec] at e
  | succ n ih =>
    intro d y pc ls st h r e
    rw [exec] at e ⊢
    split at e
    · cases e
    · split at e
      · cases e
      · exact ih e
      · exact e
      · split at e
        · cases e
        · split at e
          · rename_i hc9
            rw [if_pos hc9]
            split at e
            · cases e
            · rename_i q; rw [ih q]; exact ih e
            · rename_i q; rw [ih q]; exact e
          · cases e
theorem exec_le {D : Nat → Nat → Bool} {n m d y pc : Nat} {ls : XL} {st : List XV} {h : Hp} {r : XO × Hp} (hm : n ≤ m) (e : exec D n d y pc ls st h = some r) : exec D m d y pc ls st h = some r := by
  induction m with
  | zero =>
    have : n = 0 := by omega
    subst this; exact e
  | succ m ih =>
    rcases Nat.lt_or_ge m n with q | q
    · have : n = m + 1 := by omega
      subst this; exact e
    · exact exec_mono (ih q)
def wp (D : Nat → Nat → Bool) (d y pc : Nat) (ls : XL) (st : List XV) (h : Hp) (Q : XO × Hp → Prop) : Prop := ∃ (n : Nat) (r : XO × Hp), exec D n d y pc ls st h = some r ∧ Q r
theorem wp_mono {D : Nat → Nat → Bool} {d y pc : Nat} {ls : XL} {st : List XV} {h : Hp} {Q Q' : XO × Hp → Prop} (k : wp D d y pc ls st h Q) (i : ∀ r, Q r → Q' r) : wp D d y pc ls st h Q' := by
  obtain ⟨n, r, e, q⟩ := k
  exact ⟨n, r, e, i r q⟩
section RULES
variable {D : Nat → Nat → Bool} {d y pc nx : Nat} {ls : XL} {st : List XV} {h : Hp} {Q : XO × Hp → Prop}
theorem wp_loc {i : Instr} {pc' : Nat} {ls' : XL} {st' : List XV} {h' : Hp} (hd : cod y pc = some (i, nx)) (hs : stp D y pc nx i ls st h = some (.inl (pc', ls', st', h'))) (k : wp D d y pc' ls' st' h' Q) : wp D d y pc ls st h Q := by
  obtain ⟨n, r, e, q⟩ := k
  refine ⟨n + 1, r, ?_, q⟩
  rw [exec, hd]; dsimp only; rw [hs]; exact e
theorem wp_fin {i : Instr} {r : XO × Hp} (hd : cod y pc = some (i, nx)) (hs : stp D y pc nx i ls st h = some (.inr (.inl r))) (k : Q r) : wp D d y pc ls st h Q := by
  refine ⟨1, r, ?_, k⟩
  rw [exec, hd]; dsimp only; rw [hs]
theorem wp_cal {i : Instr} {z : Nat} {as r : List XV} {Q1 : XO × Hp → Prop} (hd : cod y pc = some (i, nx)) (hs : stp D y pc nx i ls st h = some (.inr (.inr (z, as, r)))) (hen : (entL as).length ≤ mLoc z) (c : wp D d z 0 (ent z as) [] h Q1)
    (k : ∀ (v : Option XV) (h1 : Hp), Q1 (.inl v, h1) → wp D (d + 1) y nx ls (v.toList ++ r) h1 Q) (kx : ∀ (e : Nat) (h1 : Hp), Q1 (.inr e, h1) → Q (if hnd y pc e then (.inl none, h1) else (.inr e, h1))) : wp D (d + 1) y pc ls st h Q := by
  obtain ⟨n, ⟨o, h1⟩, e, q⟩ := c
  cases o with
  | inl v =>
    obtain ⟨n2, r2, e2, q2⟩ := k v h1 q
    refine ⟨n + n2 + 1, r2, ?_, q2⟩
    rw [exec, hd]; dsimp only; rw [hs]; dsimp only
    rw [if_pos hen, exec_le (show n ≤ n + n2 by omega) e]
    exact exec_le (show n2 ≤ n + n2 by omega) e2
  | inr x =>
    refine ⟨n + 1, _, ?_, kx x h1 q⟩
    rw [exec, hd]; dsimp only; rw [hs]; dsimp only
    rw [if_pos hen, e]
    dsimp only
    split <;> rfl
end RULES
