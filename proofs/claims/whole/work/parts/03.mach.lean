/-! A SMALL MACHINE of its own: heaps as functions, instructions whose operands are resolved. It is proved sound against the kit's W and Met in the parts behind it. -/
/-- a heap: kinds of cells (below 100 a class, from 100 on an array), lengths, ints, longs, references, how many cells, how many slots -/
abbrev mh_H : Type := (Nat → Nat) × (Nat → Nat) × (Nat → Nat → Int32) × (Nat → Nat → Int64) × (Nat → Nat → Option Nat) × Nat × Nat
def mh_k (h : mh_H) : Nat → Nat := h.1
def mh_l (h : mh_H) : Nat → Nat := h.2.1
def mh_i (h : mh_H) : Nat → Nat → Int32 := h.2.2.1
def mh_j (h : mh_H) : Nat → Nat → Int64 := h.2.2.2.1
def mh_r (h : mh_H) : Nat → Nat → Option Nat := h.2.2.2.2.1
def mh_n (h : mh_H) : Nat := h.2.2.2.2.2.1
def mh_s (h : mh_H) : Nat := h.2.2.2.2.2.2
def mh_u {α : Type} (f : Nat → Nat → α) (a k : Nat) (v : α) : Nat → Nat → α := fun b j => if b = a ∧ j = k then v else f b j
def mh_w {α : Type} (f : Nat → α) (a : Nat) (v : α) : Nat → α := fun b => if b = a then v else f b
def mh_si (h : mh_H) (a k : Nat) (v : Int32) : mh_H := (mh_k h, mh_l h, mh_u (mh_i h) a k v, mh_j h, mh_r h, mh_n h, mh_s h)
def mh_sj (h : mh_H) (a k : Nat) (v : Int64) : mh_H := (mh_k h, mh_l h, mh_i h, mh_u (mh_j h) a k v, mh_r h, mh_n h, mh_s h)
def mh_sr (h : mh_H) (a k : Nat) (v : Option Nat) : mh_H := (mh_k h, mh_l h, mh_i h, mh_j h, mh_u (mh_r h) a k v, mh_n h, mh_s h)
/-- a new cell: its address is the number of cells so far; all its places hold 0 or null -/
def mh_new (h : mh_H) (kind len : Nat) : mh_H := (mh_w (mh_k h) (mh_n h) kind, mh_w (mh_l h) (mh_n h) len, mh_w (mh_i h) (mh_n h) (fun _ => 0), mh_w (mh_j h) (mh_n h) (fun _ => 0), mh_w (mh_r h) (mh_n h) (fun _ => none), mh_n h + 1, mh_s h + len)
/-- what a place holds, by the cell's kind: 0 an int, 1 a long, 2 a reference, 3 a boolean -/
def mt_tc (kind k : Nat) : Nat := if kind < 100 then (mt_tcs.getD kind []).getD k 2 else if kind = 101 then 1 else if kind < 104 then 0 else if kind = 107 then 4 else 2
def mt_nf (ci : Nat) : Nat := (mt_tcs.getD ci []).length

abbrev me_E : Type := Instr × Nat × Nat × Nat × Int
abbrev me_P : Type := Nat → Nat → Option me_E
abbrev me_L : Type := List (Option Value)
/-- a step: on within the method; a call (whom, the arguments, the stack below them); a return -/
abbrev me_R : Type := (Nat × me_L × List Value × mh_H) ⊕ ((Nat × List Value × List Value) ⊕ Option Value)
def me_go (pc : Nat) (ls : me_L) (st : List Value) (h : mh_H) : Option me_R := some (.inl (pc, ls, st, h))
def me_ld (ls : me_L) (i : Nat) : Option Value := match ls[i]? with
  | some (some v) => some v
  | _ => none
/-- a long that stands just below the place goes -/
def me_c2 (ls : me_L) (i : Nat) : me_L := match i with
  | 0 => ls
  | j + 1 => match ls[j]? with
    | some (some v) => if v.category = 2 then ls.set j none else ls
    | _ => ls
def me_s1 (ls : me_L) (i : Nat) (v : Value) : me_L := (me_c2 ls i).set i (some v)
def me_s2 (ls : me_L) (i : Nat) (v : Value) : me_L := ((me_c2 ls i).set i (some v)).set (i + 1) none
def me_jp (pc : Nat) (off : Int) (ls : me_L) (st : List Value) (h : mh_H) : Option me_R := if 0 ≤ (pc : Int) + off then me_go ((pc : Int) + off).toNat ls st h else none
def me_cz (c : ClassFile.Cond) (x : Int32) : Bool := match c with
  | .eq => decide (x = 0)
  | .ne => decide (¬ x = 0)
  | .lt => decide (x < 0)
  | .ge => decide (0 ≤ x)
  | .gt => decide (0 < x)
  | .le => decide (x ≤ 0)
def me_cc (c : ClassFile.Cond) (x y : Int32) : Bool := match c with
  | .eq => decide (x = y)
  | .ne => decide (¬ x = y)
  | .lt => decide (x < y)
  | .ge => decide (y ≤ x)
  | .gt => decide (y < x)
  | .le => decide (x ≤ y)
def me_1 (r : Option me_R) (b : Bool) : Option me_R := match b with
  | true => r
  | false => none
def me_br (b : Bool) (pc : Nat) (off : Int) (ls : me_L) (st : List Value) (h : mh_H) : Option me_R := match b with
  | true => me_jp pc off ls st h
  | false => me_1 (me_go (pc + 3) ls st h) (decide (0 ≤ (pc : Int) + off))
/-- an array of that kind, and a place that it has -/
def me_ix (h : mh_H) (a : Nat) (i : Int32) : Bool := decide (a < mh_n h) && (decide (100 ≤ mh_k h a) && (decide (0 ≤ i) && decide (i.toNatClampNeg < mh_l h a)))
def me_ob (h : mh_H) (a ci k : Nat) : Bool := decide (a < mh_n h) && (decide (mh_k h a = ci) && (decide (ci < 100) && decide (k < mt_nf ci)))
/-- a String in an array of Strings: 0 is null, else the number by which the machine knows it -/
def me_xr (i : Int32) : Value := if i = 0 then .null else .retAddr i.toNatClampNeg
/-- reads a field or a place -/
def me_rd (h : mh_H) (a k : Nat) : Value := match mt_tc (mh_k h a) k with
  | 1 => .long (mh_j h a k)
  | 2 => va_rf (mh_r h a k)
  | 4 => me_xr (mh_i h a k)
  | _ => .int (mh_i h a k)
/-- arithmetic on ints: the instruction decides -/
def me_i2 (ins : Instr) (x y : Int32) : Option Int32 := match ins with
  | .iadd => some (x + y)
  | .isub => some (x - y)
  | .imul => some (x * y)
  | .iand => some (x &&& y)
  | .ior => some (x ||| y)
  | .ixor => some (x ^^^ y)
  | .ishl => some (x <<< (y &&& 31))
  | .ishr => some (x >>> (y &&& 31))
  | .iushr => some (x.toUInt32 >>> (y.toUInt32 &&& Int32.toUInt32 31)).toInt32
  | .idiv => if y = 0 then none else some (x / y)
  | .irem => if y = 0 then none else some (x - x / y * y)
  | _ => none
def me_l2 (ins : Instr) (x y : Int64) : Option Int64 := match ins with
  | .ladd => some (x + y)
  | .lsub => some (x - y)
  | .lmul => some (x * y)
  | .land => some (x &&& y)
  | .lor => some (x ||| y)
  | .lxor => some (x ^^^ y)
  | .ldiv => if y = 0 then none else some (x / y)
  | .lrem => if y = 0 then none else some (x - x / y * y)
  | _ => none
def me_pi (r : Option Int32) (pc : Nat) (ls : me_L) (st : List Value) (h : mh_H) : Option me_R := match r with
  | some x => me_go (pc + 1) ls (.int x :: st) h
  | none => none
def me_pl (r : Option Int64) (pc : Nat) (ls : me_L) (st : List Value) (h : mh_H) : Option me_R := match r with
  | some x => me_go (pc + 1) ls (.long x :: st) h
  | none => none
def me_pv (r : Option Value) (pc : Nat) (ls : me_L) (st : List Value) (h : mh_H) : Option me_R := match r with
  | some x => me_go pc ls (x :: st) h
  | none => none
/-- a call's arguments: n of them, the receiver too -/
def me_cl (y n : Nat) (st : List Value) : Option me_R := me_1 (some (.inr (.inl (y, (st.take n).reverse, st.drop n)))) (decide (n ≤ st.length) && decide (((st.drop n).map fun v => v.category).sum ≤ 8))
def me_oi (o : Option Value) : Option Value := match o with
  | some (.int x) => some (.int x)
  | _ => none
def me_ol (o : Option Value) : Option Value := match o with
  | some (.long x) => some (.long x)
  | _ => none
def me_oa (o : Option Value) : Option Value := match o with
  | some (.ref x) => some (.ref x)
  | some .null => some .null
  | some (.retAddr x) => some (.retAddr x)
  | _ => none
/-- a value goes into a field -/
def me_wr (h : mh_H) (o ci k : Nat) (x : Value) : Option mh_H := match x with
  | .int v => if mt_tc ci k = 0 ∨ (mt_tc ci k = 3 ∧ (v = 0 ∨ v = 1)) then some (mh_si h o k v) else none
  | .long v => if mt_tc ci k = 1 then some (mh_sj h o k v) else none
  | .ref a => if mt_tc ci k = 2 then some (mh_sr h o k (some a)) else none
  | .null => if mt_tc ci k = 2 then some (mh_sr h o k none) else none
  | _ => none
def me_ph (r : Option mh_H) (pc : Nat) (ls : me_L) (st : List Value) : Option me_R := match r with
  | some h => me_go pc ls st h
  | none => none
/-- the class whose objects an array of references holds -/
def me_ac (kind : Nat) : Nat := if kind = 104 then 8 else if kind = 105 then 9 else if kind = 106 then 13 else 99
def me_rc (h : mh_H) (v : Option Value) (ci : Nat) : Bool := match v with
  | some (.ref r) => decide (r < mh_n h) && (decide (mh_k h r = ci) && decide (ci < 100))
  | _ => false
def me_isr (v : Option Value) : Bool := match v with
  | some (.ref _) => true
  | _ => false
def me_sw (r : Option Int) (pc : Nat) (ls : me_L) (st : List Value) (h : mh_H) : Option me_R := match r with
  | some off => me_jp pc off ls st h
  | none => none
/-- a store into a local -/
def me_st (pc : Nat) (ls : me_L) (i : Nat) (v : Value) (st : List Value) (h : mh_H) : Option me_R := me_1 (me_go pc (me_s1 ls i v) st h) (decide (i < ls.length))
def me_sl (pc : Nat) (ls : me_L) (i : Nat) (v : Value) (st : List Value) (h : mh_H) : Option me_R := me_1 (me_go pc (me_s2 ls i v) st h) (decide (i + 1 < ls.length))
/-- the Strings of the start, their bytes; what their fields hold -/
def me_xs (x : Nat) : Bool := decide (x % 3 = 0) && (decide (3 ≤ x) && decide (x / 3 ≤ mx_len.length))
def me_xb (x : Nat) : Bool := decide (x % 3 = 1) && (decide (3 ≤ x) && decide (x / 3 ≤ mx_len.length))
def me_xf (b x : Nat) : Value := match b with
  | 0 => .int 0
  | _ => .retAddr (x + 1)
def me_xc (v : Option Value) : Bool := match v with
  | some (.retAddr x) => me_xs x
  | _ => false
/-- all that a row of bytes or booleans holds are such (rows of ints and longs in any case) -/
def me_bf (h : mh_H) (o : Nat) : Bool := decide (mh_k h o < 102) || (List.range (mh_l h o)).all fun i => fits (if mh_k h o = 102 then .byte else .boolean) (.int (mh_i h o i))
/-- a row's clone -/
def mh_cl (h : mh_H) (o : Nat) : mh_H := (mh_w (mh_k h) (mh_n h) (mh_k h o), mh_w (mh_l h) (mh_n h) (mh_l h o), mh_w (mh_i h) (mh_n h) (mh_i h o), mh_w (mh_j h) (mh_n h) (mh_j h o), mh_w (mh_r h) (mh_n h) (mh_r h o), mh_n h + 1, mh_s h + mh_l h o)
/-- a stretch of a row goes into another one -/
def mh_cp (h : mh_H) (o sp d dp n : Nat) : mh_H := (mh_k h, mh_l h, (fun b j => if b = d ∧ dp ≤ j ∧ j < dp + n then mh_i h o (sp + (j - dp)) else mh_i h b j), (fun b j => if b = d ∧ dp ≤ j ∧ j < dp + n then mh_j h o (sp + (j - dp)) else mh_j h b j), mh_r h, mh_n h, mh_s h)
/-- two rows of the same kind, and places that both have -/
def me_cpok (h : mh_H) (o d : Nat) (sp dp n : Int32) : Bool := decide (o < mh_n h ∧ d < mh_n h ∧ mh_k h o = mh_k h d ∧ 100 ≤ mh_k h d ∧ mh_k h d < 104) && (decide (0 ≤ sp ∧ 0 ≤ dp ∧ 0 ≤ n ∧ sp.toNatClampNeg + n.toNatClampNeg ≤ mh_l h o ∧ dp.toNatClampNeg + n.toNatClampNeg ≤ mh_l h d) && me_bf h o)
/-- what Math.floorDiv gives -/
def fd_v (a b : Int64) : Int64 := if a ^^^ b < 0 then (if a / b * b = a then a / b else a / b - 1) else a / b
/-- one instruction. Of the operands: a, b, v are what its index means -/
def mm_ins (ins : Instr) (a b : Nat) (v : Int) (pc : Nat) (ls : me_L) (st : List Value) (h : mh_H) : Option me_R := match ins with
  | .iconst n => me_go (pc + 1) ls (.int (Int32.ofInt n) :: st) h
  | .bipush n => me_go (pc + 2) ls (.int (Int8.ofInt n).toInt32 :: st) h
  | .sipush n => me_go (pc + 3) ls (.int (Int16.ofInt n).toInt32 :: st) h
  | .lconst n => me_go (pc + 1) ls (.long (Int64.ofNat n) :: st) h
  | .aconst_null => me_go (pc + 1) ls (.null :: st) h
  | .ldc _ => match b with
    | 0 => me_go (pc + 2) ls (.int (Int32.ofInt v) :: st) h
    | 1 => me_go (pc + 2) ls (.retAddr a :: st) h
    | _ => none
  | .ldc_w _ => match b with
    | 1 => me_go (pc + 3) ls (.retAddr a :: st) h
    | _ => none
  | .getstatic _ => match b with
    | 0 => me_go (pc + 3) ls (.retAddr a :: st) h
    | 1 => me_go (pc + 3) ls (.int (Int32.ofInt v) :: st) h
    | _ => none
  | .ldc2_w _ => me_go (pc + 3) ls (.long (Int64.ofInt v) :: st) h
  | .iload i => me_pv (me_oi (me_ld ls i)) (pc + 2) ls st h
  | .lload i => me_pv (me_ol (me_ld ls i)) (pc + 2) ls st h
  | .aload i => me_pv (me_oa (me_ld ls i)) (pc + 2) ls st h
  | .iload_n i => me_pv (me_oi (me_ld ls i)) (pc + 1) ls st h
  | .lload_n i => me_pv (me_ol (me_ld ls i)) (pc + 1) ls st h
  | .aload_n i => me_pv (me_oa (me_ld ls i)) (pc + 1) ls st h
  | .istore i => match st with
    | .int x :: r => me_st (pc + 2) ls i (.int x) r h
    | _ => none
  | .istore_n i => match st with
    | .int x :: r => me_st (pc + 1) ls i (.int x) r h
    | _ => none
  | .lstore i => match st with
    | .long x :: r => me_sl (pc + 2) ls i (.long x) r h
    | _ => none
  | .lstore_n i => match st with
    | .long x :: r => me_sl (pc + 1) ls i (.long x) r h
    | _ => none
  | .astore i => match st with
    | .ref x :: r => me_st (pc + 2) ls i (.ref x) r h
    | .null :: r => me_st (pc + 2) ls i .null r h
    | .retAddr x :: r => me_st (pc + 2) ls i (.retAddr x) r h
    | _ => none
  | .astore_n i => match st with
    | .ref x :: r => me_st (pc + 1) ls i (.ref x) r h
    | .null :: r => me_st (pc + 1) ls i .null r h
    | .retAddr x :: r => me_st (pc + 1) ls i (.retAddr x) r h
    | _ => none
  | .iinc i n => match me_ld ls i with
    | some (.int x) => me_st (pc + 3) ls i (.int (x + Int32.ofInt n)) st h
    | _ => none
  | .getfield _ => match st with
    | .ref o :: r => me_1 (me_go (pc + 3) ls (me_rd h o b :: r) h) (me_ob h o a b)
    | .retAddr x :: r => me_1 (me_go (pc + 3) ls (me_xf b x :: r) h) (me_xs x && (decide (a = 90) && decide (b < 2)))
    | _ => none
  | .putfield _ => match st with
    | x :: .ref o :: r => me_1 (me_ph (me_wr h o a b x) (pc + 3) ls r) (me_ob h o a b)
    | _ => none
  | .iaload => match st with
    | .int i :: .ref o :: r => me_1 (me_go (pc + 1) ls (.int (mh_i h o i.toNatClampNeg) :: r) h) (me_ix h o i && decide (mh_k h o = 100))
    | .int i :: .retAddr x :: r => me_1 (me_go (pc + 1) ls (.int (mx_row.getD i.toNatClampNeg 0) :: r) h) (decide (x = 2) && (decide (0 ≤ i) && decide (i.toNatClampNeg < 24)))
    | _ => none
  | .laload => match st with
    | .int i :: .ref o :: r => me_1 (me_go (pc + 1) ls (.long (mh_j h o i.toNatClampNeg) :: r) h) (me_ix h o i && decide (mh_k h o = 101))
    | _ => none
  | .baload => match st with
    | .int i :: .ref o :: r => me_1 (me_go (pc + 1) ls (.int (mh_i h o i.toNatClampNeg) :: r) h) (me_ix h o i && (decide (mh_k h o = 102) || decide (mh_k h o = 103)))
    | .int i :: .retAddr x :: r => me_1 (me_go (pc + 1) ls (.int ((mx_byt.getD (x / 3 - 1) []).getD i.toNatClampNeg 0) :: r) h) (me_xb x && (decide (0 ≤ i) && decide (i.toNatClampNeg < mx_len.getD (x / 3 - 1) 0)))
    | _ => none
  | .aaload => match st with
    | .int i :: .ref o :: r => me_1 (me_go (pc + 1) ls (me_rd h o i.toNatClampNeg :: r) h) (me_ix h o i && (decide (104 ≤ mh_k h o) && decide (mh_k h o < 108)))
    | _ => none
  | .iastore => match st with
    | .int x :: .int i :: .ref o :: r => me_1 (me_go (pc + 1) ls r (mh_si h o i.toNatClampNeg x)) (me_ix h o i && decide (mh_k h o = 100))
    | _ => none
  | .lastore => match st with
    | .long x :: .int i :: .ref o :: r => me_1 (me_go (pc + 1) ls r (mh_sj h o i.toNatClampNeg x)) (me_ix h o i && decide (mh_k h o = 101))
    | _ => none
  | .bastore => match st with
    | .int x :: .int i :: .ref o :: r => match decide (mh_k h o = 102) with
      | true => me_1 (me_go (pc + 1) ls r (mh_si h o i.toNatClampNeg (vp_nar .byte x))) (me_ix h o i)
      | false => me_1 (me_go (pc + 1) ls r (mh_si h o i.toNatClampNeg (vp_nar .boolean x))) (me_ix h o i && decide (mh_k h o = 103))
    | _ => none
  | .aastore => match st with
    | .ref w :: .int i :: .ref o :: r => me_1 (me_go (pc + 1) ls r (mh_sr h o i.toNatClampNeg (some w))) (me_ix h o i && (decide (104 ≤ mh_k h o) && (decide (mh_k h o < 107) && me_rc h (some (.ref w)) (me_ac (mh_k h o)))))
    | .null :: .int i :: .ref o :: r => me_1 (me_go (pc + 1) ls r (mh_sr h o i.toNatClampNeg none)) (me_ix h o i && (decide (104 ≤ mh_k h o) && decide (mh_k h o < 107)))
    | .retAddr x :: .int i :: .ref o :: r => me_1 (me_go (pc + 1) ls r (mh_si h o i.toNatClampNeg (Int32.ofNat x))) (me_ix h o i && (decide (mh_k h o = 107) && me_xs x))
    | _ => none
  | .arraylength => match st with
    | .ref o :: r => me_1 (me_go (pc + 1) ls (.int (Int32.ofNat (mh_l h o)) :: r) h) (decide (o < mh_n h) && (decide (100 ≤ mh_k h o) && decide (mh_k h o < 108)))
    | .retAddr x :: r => me_1 (me_go (pc + 1) ls (.int (Int32.ofNat (mx_len.getD (x / 3 - 1) 0)) :: r) h) (me_xb x)
    | _ => none
  | .checkcast _ => match st with
    | .ref o :: r => me_1 (me_go (pc + 3) ls (.ref o :: r) h) (decide (o < mh_n h) && (decide (mh_k h o = 102) && decide (a = 102)))
    | _ => none
  | .newarray _ => match st with
    | .int n :: r => me_1 (me_go (pc + 2) ls (.ref (mh_n h) :: r) (mh_new h a n.toNatClampNeg)) (decide (0 ≤ n) && (decide (n.toNatClampNeg ≤ 10000000) && (decide (100 ≤ a) && decide (a < 104))))
    | _ => none
  | .anewarray _ => match st with
    | .int n :: r => me_1 (me_go (pc + 3) ls (.ref (mh_n h) :: r) (mh_new h a n.toNatClampNeg)) (decide (0 ≤ n) && (decide (n.toNatClampNeg ≤ 10000000) && (decide (104 ≤ a) && decide (a < 108))))
    | _ => none
  | .new _ => me_1 (me_go (pc + 3) ls (.ref (mh_n h) :: st) (mh_new h a (mt_nf a))) (decide (a < 15))
  | .iadd | .isub | .imul | .iand | .ior | .ixor | .ishl | .ishr | .iushr | .idiv | .irem => match st with
    | .int y :: .int x :: r => me_pi (me_i2 ins x y) pc ls r h
    | _ => none
  | .ladd | .lsub | .lmul | .land | .lor | .lxor | .ldiv | .lrem => match st with
    | .long y :: .long x :: r => me_pl (me_l2 ins x y) pc ls r h
    | _ => none
  | .lshl => match st with
    | .int y :: .long x :: r => me_go (pc + 1) ls (.long (x <<< (y.toInt64 &&& 63)) :: r) h
    | _ => none
  | .ineg => match st with
    | .int x :: r => me_go (pc + 1) ls (.int (-x) :: r) h
    | _ => none
  | .lneg => match st with
    | .long x :: r => me_go (pc + 1) ls (.long (-x) :: r) h
    | _ => none
  | .lcmp => match st with
    | .long y :: .long x :: r => me_go (pc + 1) ls (.int (lg_cmp x y) :: r) h
    | _ => none
  | .i2l => match st with
    | .int x :: r => me_go (pc + 1) ls (.long x.toInt64 :: r) h
    | _ => none
  | .l2i => match st with
    | .long x :: r => me_go (pc + 1) ls (.int x.toInt32 :: r) h
    | _ => none
  | .i2b => match st with
    | .int x :: r => me_go (pc + 1) ls (.int x.toInt8.toInt32 :: r) h
    | _ => none
  | .i2c => match st with
    | .int x :: r => me_go (pc + 1) ls (.int (x.toUInt32 % 65536).toInt32 :: r) h
    | _ => none
  | .dup => match st with
    | x :: r => me_1 (me_go (pc + 1) ls (x :: x :: r) h) (decide (x.category = 1))
    | _ => none
  | .dup2 => match st with
    | x :: y :: r => match decide (x.category = 2) with
      | true => me_go (pc + 1) ls (x :: x :: y :: r) h
      | false => me_1 (me_go (pc + 1) ls (x :: y :: x :: y :: r) h) (decide (x.category = 1) && decide (y.category = 1))
    | _ => none
  | .dup_x1 => match st with
    | x :: y :: r => me_1 (me_go (pc + 1) ls (x :: y :: x :: r) h) (decide (x.category = 1) && decide (y.category = 1))
    | _ => none
  | .pop => match st with
    | x :: r => me_1 (me_go (pc + 1) ls r h) (decide (x.category = 1))
    | _ => none
  | .pop2 => match st with
    | x :: r => me_1 (me_go (pc + 1) ls r h) (decide (x.category = 2))
    | _ => none
  | .goto off => me_jp pc off ls st h
  | .ifCond c off => match st with
    | .int x :: r => me_br (me_cz c x) pc off ls r h
    | _ => none
  | .if_icmp c off => match st with
    | .int y :: .int x :: r => me_br (me_cc c x y) pc off ls r h
    | _ => none
  | .ifnull off => match st with
    | .null :: r => me_jp pc off ls r h
    | .ref _ :: r => me_go (pc + 3) ls r h
    | _ => none
  | .ifnonnull off => match st with
    | .null :: r => me_go (pc + 3) ls r h
    | .ref _ :: r => me_jp pc off ls r h
    | _ => none
  | .tableswitch dflt lo hi offs => match st with
    | .int x :: r => match decide (x.toInt < lo ∨ hi < x.toInt) with
      | true => me_jp pc dflt ls r h
      | false => me_sw (offs[(x.toInt - lo).toNat]?) pc ls r h
    | _ => none
  | .lookupswitch dflt ps => match st with
    | .int x :: r => me_1 (me_jp pc (Op.lookupswitch.offset ps.toList dflt x.toInt) ls r h) ((ps.toList.zip (ps.toList.drop 1)).all (fun (a, next) => a.1 < next.1))
    | _ => none
  | .ireturn => match st with
    | [.int x] => me_1 (some (.inr (.inr (some (.int x))))) (decide (b = 0) || ((decide (b = 3) && (decide (x = 0) || decide (x = 1))) || ((decide (b = 4) && decide (narrow .char (.int x) = .int x)) || (decide (b = 5) && decide (narrow .byte (.int x) = .int x)))))
    | _ => none
  | .lreturn => match st with
    | [.long x] => some (.inr (.inr (some (.long x))))
    | _ => none
  | .areturn => match st with
    | [.ref x] => some (.inr (.inr (some (.ref x))))
    | [.null] => some (.inr (.inr (some .null)))
    | _ => none
  | .return_ => match st with
    | [] => some (.inr (.inr none))
    | _ => none
  | .invokevirtual _ => match b with
    | 90 => me_1 (me_cl a v.toNat st) (me_xc (st[v.toNat - 1]?) && decide (1 ≤ v.toNat))
    | 91 => match st with
      | .ref o :: r => me_1 (me_go (pc + 3) ls (.ref (mh_n h) :: r) (mh_cl h o)) (decide (o < mh_n h) && (decide (mh_k h o = 102) && (me_bf h o && decide ((r.map fun v => v.category).sum ≤ 8))))
      | _ => none
    | _ => me_1 (me_cl a v.toNat st) (me_rc h (st[v.toNat - 1]?) b && decide (1 ≤ v.toNat))
  | .invokestatic _ => match b with
    | 0 => me_cl a v.toNat st
    | 20 => match st with
      | .int y :: .int x :: r => me_1 (me_go (pc + 3) ls (.int (if y < x then y else x) :: r) h) (decide ((r.map fun v => v.category).sum ≤ 8))
      | _ => none
    | 21 => match st with
      | .int y :: .int x :: r => me_1 (me_go (pc + 3) ls (.int (if x < y then y else x) :: r) h) (decide ((r.map fun v => v.category).sum ≤ 8))
      | _ => none
    | 22 => match st with
      | .long y :: .long x :: r => me_1 (me_go (pc + 3) ls (.long (if y < x then y else x) :: r) h) (decide ((r.map fun v => v.category).sum ≤ 8))
      | _ => none
    | 23 => match st with
      | .long y :: .long x :: r => me_1 (me_go (pc + 3) ls (.long (if y < x then x else y) :: r) h) (decide ((r.map fun v => v.category).sum ≤ 8))
      | _ => none
    | 30 => match st with
      | .int n :: .int dp :: .ref d :: .int sp :: .ref o :: r => me_1 (me_go (pc + 3) ls r (mh_cp h o sp.toNatClampNeg d dp.toNatClampNeg n.toNatClampNeg)) (me_cpok h o d sp dp n && decide ((r.map fun v => v.category).sum ≤ 8))
      | _ => none
    | 24 => match st with
      | .long x :: r => me_1 (me_go (pc + 3) ls (.long (if 0 < x then x else -x) :: r) h) (decide ((r.map fun v => v.category).sum ≤ 8))
      | _ => none
    | 25 => match st with
      | .long y :: .long x :: r => me_1 (me_go (pc + 3) ls (.long (fd_v x y) :: r) h) (decide (¬ y = 0) && decide ((r.map fun v => v.category).sum ≤ 8))
      | _ => none
    | _ => none
  | .invokespecial _ => match b with
    | 1 => match st with
      | .ref _ :: r => me_1 (me_go (pc + 3) ls r h) (decide ((r.map fun v => v.category).sum ≤ 8))
      | _ => none
    | _ => me_1 (me_cl a v.toNat st) (me_isr (st[v.toNat - 1]?) && decide (1 ≤ v.toNat))
  | _ => none
def mm_step (P : me_P) (y pc : Nat) (ls : me_L) (st : List Value) (h : mh_H) : Option me_R := match P y pc with
  | some (ins, _, a, b, v) => mm_ins ins a b v pc ls st h
  | none => none
/-- the locals with which a method begins -/
def me_en (nL : Nat) (args : List Value) : me_L := (args.flatMap fun v => if v.category = 2 then [some v, none] else [some v]) ++ List.replicate (nL - (args.map fun v => v.category).sum) none
/-- the machine: n bounds its steps, d how deep calls may go; nl: how many locals a method has -/
def mm_run (P : me_P) (nl : Nat → Nat) : Nat → Nat → Nat → Nat → me_L → List Value → mh_H → Option (Option Value × mh_H)
  | 0, _, _, _, _, _, _ => none
  | n + 1, d, y, pc, ls, st, h => match mm_step P y pc ls st h with
    | some (.inl (pc', ls', st', h')) => mm_run P nl n d y pc' ls' st' h'
    | some (.inr (.inr r)) => some (r, h)
    | some (.inr (.inl (y', args, rest))) => match d, decide ((args.map fun v => v.category).sum ≤ nl y') with
      | d' + 1, true => match mm_run P nl n d' y' 0 (me_en (nl y') args) [] h with
        | some (r, h') => mm_run P nl n (d' + 1) y (pc + 3) ls (r.toList ++ rest) h'
        | none => none
      | _, _ => none
    | none => none
