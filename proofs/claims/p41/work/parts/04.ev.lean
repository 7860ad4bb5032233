/-! An evaluator of bytecode over an abstract heap: cells by their places, references are places; beyond ev_ext stand objects that were there before. -/
abbrev ev_C : Type := (Nat × vp_A) ⊕ (Nat × List Value)
abbrev ev_H : Type := List ev_C × Nat × Nat
abbrev ev_L : Type := List (Option Value)
abbrev ev_I : Type := Instr × Nat × Nat × Nat × Nat

abbrev ev_V : Type := Nat × (Nat → Int32)
def ev_ext : Nat := 1048576
def ev_ldv (ls : ev_L) (i : Nat) : Option Value := match ls[i]? with
  | some (some v) => some v
  | _ => none
/-- a value of two slots below place i is gone -/
def ev_clr (ls : ev_L) (i : Nat) : ev_L := match i with
  | 0 => ls
  | j + 1 => match ls[j]? with
    | some (some v) => if v.category = 2 then ls.set j none else ls
    | _ => ls
def ev_st1 (ls : ev_L) (i : Nat) (v : Value) : Option ev_L := if i < ls.length then some ((ev_clr ls i).set i (some v)) else none
def ev_st2 (ls : ev_L) (i : Nat) (v : Value) : Option ev_L := if i + 1 < ls.length then some (((ev_clr ls i).set i (some v)).set (i + 1) none) else none
def ev_ii (f : Int32 → Int32 → Int32) (st : List Value) : Option (List Value) := match st with
  | .int y :: .int x :: r => some (.int (f x y) :: r)
  | _ => none
def ev_ll (f : Int64 → Int64 → Int64) (st : List Value) : Option (List Value) := match st with
  | .long y :: .long x :: r => some (.long (f x y) :: r)
  | _ => none
def ev_li (f : Int64 → Int32 → Int64) (st : List Value) : Option (List Value) := match st with
  | .int y :: .long x :: r => some (.long (f x y) :: r)
  | _ => none
def ev_cb (c : ClassFile.Cond) (x y : Int32) : Bool := match c with
  | .eq => decide (x = y)
  | .ne => decide (¬ x = y)
  | .lt => decide (x < y)
  | .ge => decide (y ≤ x)
  | .gt => decide (y < x)
  | .le => decide (x ≤ y)
def ev_ix (i : Int32) (n : Nat) : Bool := decide (¬ i < 0) && decide (i.toNatClampNeg < n)
def ev_push (h : ev_H) (c : ev_C) (n : Nat) : ev_H := (h.1 ++ [c], h.2.1 + 1, h.2.2 + n)
def ev_set (h : ev_H) (a : Nat) (c : ev_C) : ev_H := (h.1.set a c, h.2)
def ev_okf (t : Nat) (v : Value) : Bool := match t, v with
  | 0, .int _ => true
  | 1, .long _ => true
  | 2, .ref _ => true
  | _, _ => false
/-- the class of a cell is one of those that an array of references holds -/
def ev_isC (ci : Nat) (c : Option ev_C) : Bool := match c with
  | some (.inr (cj, _)) => cj == ci
  | _ => false
def ev_aldi (V : ev_V) (t : Nat) (st : List Value) (h : ev_H) : Option (List Value) := match st with
  | .int i :: .ref a :: r => if a = ev_ext ∧ t = 0 then (if ev_ix i V.1 then some (.int (V.2 i.toNatClampNeg) :: r) else none) else match h.1[a]? with
    | some (.inl (t', n, .inl f)) => if t' = t then (if ev_ix i n then some (.int (f i.toNatClampNeg) :: r) else none) else none
    | _ => none
  | _ => none
def ev_aldl (st : List Value) (h : ev_H) : Option (List Value) := match st with
  | .int i :: .ref a :: r => match h.1[a]? with
    | some (.inl (t', n, .inr (.inl f))) => if t' = 1 then (if ev_ix i n then some (.long (f i.toNatClampNeg) :: r) else none) else none
    | _ => none
  | _ => none
def ev_aldq (t : Nat) (st : List Value) (h : ev_H) : Option (List Value) := match st with
  | .int i :: .ref a :: r => match h.1[a]? with
    | some (.inl (t', n, .inr (.inr (.inr (.inr f))))) => if t' = t then (if ev_ix i n then (match f i.toNatClampNeg with
      | some q => some (.ref q :: r)
      | none => none) else none) else none
    | _ => none
  | _ => none
def ev_asti (t : Nat) (st : List Value) (h : ev_H) : Option (List Value × ev_H) := match st with
  | .int x :: .int i :: .ref a :: r => match h.1[a]? with
    | some (.inl (t', n, .inl f)) => if t' = t then (if ev_ix i n then (if t = 0 ∨ x = 0 ∨ x = 1 then some (r, ev_set h a (.inl (t, n, .inl (upd f i.toNatClampNeg x)))) else none) else none) else none
    | _ => none
  | _ => none
def ev_astl (st : List Value) (h : ev_H) : Option (List Value × ev_H) := match st with
  | .long x :: .int i :: .ref a :: r => match h.1[a]? with
    | some (.inl (t', n, .inr (.inl f))) => if t' = 1 then (if ev_ix i n then some (r, ev_set h a (.inl (1, n, .inr (.inl (vp_updL f i.toNatClampNeg x))))) else none) else none
    | _ => none
  | _ => none
def ev_astq (t ci : Nat) (st : List Value) (h : ev_H) : Option (List Value × ev_H) := match st with
  | .ref q :: .int i :: .ref a :: r => match h.1[a]? with
    | some (.inl (t', n, .inr (.inr (.inr (.inr f))))) => if t' = t then (if ev_ix i n then (if ev_isC ci h.1[q]? then some (r, ev_set h a (.inl (t, n, .inr (.inr (.inr (.inr (va_up f i.toNatClampNeg (some q)))))))) else none) else none) else none
    | _ => none
  | _ => none
def ev_sw (lo hi dflt : Int) (offs : Array Int) (x : Int) : Option Int := if x < lo ∨ hi < x then some dflt else offs[(x - lo).toNat]?
def ev_jmp (pc : Nat) (off : Int) : Option Nat := if 0 ≤ (pc : Int) + off then some ((pc : Int) + off).toNat else none
def ev_ac (c : ClassFile.ACond) (b : Bool) : Bool := match c with
  | .eq => b
  | .ne => !b
abbrev ev_R : Type := Nat × ev_L × List Value × ev_H
/-- the instructions that neither call nor end -/
def ev_s (V : ev_V) (dft : Nat → List Value) (I : ev_I) (pc : Nat) (ls : ev_L) (st : List Value) (h : ev_H) : Option ev_R := match I with
  | (.iload_n k, _) => match ev_ldv ls k.val with
    | some (.int v) => some (pc + 1, ls, .int v :: st, h)
    | _ => none
  | (.iload k, _) => match ev_ldv ls k with
    | some (.int v) => some (pc + 2, ls, .int v :: st, h)
    | _ => none
  | (.lload_n k, _) => match ev_ldv ls k.val with
    | some (.long v) => some (pc + 1, ls, .long v :: st, h)
    | _ => none
  | (.lload k, _) => match ev_ldv ls k with
    | some (.long v) => some (pc + 2, ls, .long v :: st, h)
    | _ => none
  | (.aload_n k, _) => match ev_ldv ls k.val with
    | some (.ref v) => some (pc + 1, ls, .ref v :: st, h)
    | _ => none
  | (.aload k, _) => match ev_ldv ls k with
    | some (.ref v) => some (pc + 2, ls, .ref v :: st, h)
    | _ => none
  | (.istore_n k, _) => match st with
    | .int v :: r => (ev_st1 ls k.val (.int v)).map (fun l => (pc + 1, l, r, h))
    | _ => none
  | (.istore k, _) => match st with
    | .int v :: r => (ev_st1 ls k (.int v)).map (fun l => (pc + 2, l, r, h))
    | _ => none
  | (.astore_n k, _) => match st with
    | .ref v :: r => (ev_st1 ls k.val (.ref v)).map (fun l => (pc + 1, l, r, h))
    | _ => none
  | (.astore k, _) => match st with
    | .ref v :: r => (ev_st1 ls k (.ref v)).map (fun l => (pc + 2, l, r, h))
    | _ => none
  | (.lstore_n k, _) => match st with
    | .long v :: r => (ev_st2 ls k.val (.long v)).map (fun l => (pc + 1, l, r, h))
    | _ => none
  | (.lstore k, _) => match st with
    | .long v :: r => (ev_st2 ls k (.long v)).map (fun l => (pc + 2, l, r, h))
    | _ => none
  | (.iinc k n, _) => match ev_ldv ls k with
    | some (.int v) => (ev_st1 ls k (.int (v + Int32.ofInt n))).map (fun l => (pc + 3, l, st, h))
    | _ => none
  | (.iconst n, _) => some (pc + 1, ls, .int (Int32.ofInt n) :: st, h)
  | (.bipush n, _) => some (pc + 2, ls, .int (Int8.ofInt n).toInt32 :: st, h)
  | (.sipush n, _) => some (pc + 3, ls, .int (Int16.ofInt n).toInt32 :: st, h)
  | (.lconst n, _) => some (pc + 1, ls, .long (Int64.ofNat n.val) :: st, h)
  | (.iadd, _) => (ev_ii (· + ·) st).map (fun r => (pc + 1, ls, r, h))
  | (.isub, _) => (ev_ii (· - ·) st).map (fun r => (pc + 1, ls, r, h))
  | (.imul, _) => (ev_ii (· * ·) st).map (fun r => (pc + 1, ls, r, h))
  | (.iand, _) => (ev_ii (· &&& ·) st).map (fun r => (pc + 1, ls, r, h))
  | (.ior, _) => (ev_ii (· ||| ·) st).map (fun r => (pc + 1, ls, r, h))
  | (.ishl, _) => (ev_ii (fun x y => x <<< (y &&& 31)) st).map (fun r => (pc + 1, ls, r, h))
  | (.ishr, _) => (ev_ii (fun x y => x >>> (y &&& 31)) st).map (fun r => (pc + 1, ls, r, h))
  | (.idiv, _) => match st with
    | .int y :: .int x :: r => if y = 0 then none else some (pc + 1, ls, .int (x / y) :: r, h)
    | _ => none
  | (.irem, _) => match st with
    | .int y :: .int x :: r => if y = 0 then none else some (pc + 1, ls, .int (x - x / y * y) :: r, h)
    | _ => none
  | (.aconst_null, _) => some (pc + 1, ls, .null :: st, h)
  | (.getstatic _, _, x, _) => if x = 1 then some (pc + 3, ls, .ref (ev_ext + 1) :: st, h) else none
  | (.if_acmp c off, _) => match st with
    | .ref j :: .ref i :: r => if i = j ∨ i < ev_ext ∨ j < ev_ext then (ev_jmp pc off).map (fun t => (if ev_ac c (decide (i = j)) then t else pc + 3, ls, r, h)) else none
    | _ => none
  | (.dup_x1, _) => match st with
    | v :: w :: r => if v.category = 1 ∧ w.category = 1 then some (pc + 1, ls, v :: w :: v :: r, h) else none
    | _ => none
  | (.lushr, _) => (ev_li (fun x y => (x.toUInt64 >>> (y.toInt64.toUInt64 &&& Int64.toUInt64 63)).toInt64) st).map (fun r => (pc + 1, ls, r, h))
  | (.l2i, _) => match st with
    | .long x :: r => some (pc + 1, ls, .int x.toInt32 :: r, h)
    | _ => none
  | (.lookupswitch dflt ps, _) => match st with
    | .int x :: r => if (ps.toList.zip (ps.toList.drop 1)).all (fun (a, next) => a.1 < next.1) = true then (ev_jmp pc (Op.lookupswitch.offset ps.toList dflt x.toInt)).map (fun t => (t, ls, r, h)) else none
    | _ => none
  | (.ineg, _) => match st with
    | .int x :: r => some (pc + 1, ls, .int (-x) :: r, h)
    | _ => none
  | (.ladd, _) => (ev_ll (· + ·) st).map (fun r => (pc + 1, ls, r, h))
  | (.lsub, _) => (ev_ll (· - ·) st).map (fun r => (pc + 1, ls, r, h))
  | (.lmul, _) => (ev_ll (· * ·) st).map (fun r => (pc + 1, ls, r, h))
  | (.land, _) => (ev_ll (· &&& ·) st).map (fun r => (pc + 1, ls, r, h))
  | (.lor, _) => (ev_ll (· ||| ·) st).map (fun r => (pc + 1, ls, r, h))
  | (.lxor, _) => (ev_ll (· ^^^ ·) st).map (fun r => (pc + 1, ls, r, h))
  | (.lshl, _) => (ev_li (fun x y => x <<< (y.toInt64 &&& 63)) st).map (fun r => (pc + 1, ls, r, h))
  | (.lshr, _) => (ev_li (fun x y => x >>> (y.toInt64 &&& 63)) st).map (fun r => (pc + 1, ls, r, h))
  | (.lcmp, _) => match st with
    | .long y :: .long x :: r => some (pc + 1, ls, .int (lg_cmp x y) :: r, h)
    | _ => none
  | (.i2l, _) => match st with
    | .int x :: r => some (pc + 1, ls, .long x.toInt64 :: r, h)
    | _ => none
  | (.i2c, _) => match st with
    | .int x :: r => some (pc + 1, ls, .int (x.toUInt32 % 65536).toInt32 :: r, h)
    | _ => none
  | (.goto off, _) => (ev_jmp pc off).map (fun t => (t, ls, st, h))
  | (.ifCond c off, _) => match st with
    | .int x :: r => (ev_jmp pc off).map (fun t => (if ev_cb c x 0 then t else pc + 3, ls, r, h))
    | _ => none
  | (.if_icmp c off, _) => match st with
    | .int y :: .int x :: r => (ev_jmp pc off).map (fun t => (if ev_cb c x y then t else pc + 3, ls, r, h))
    | _ => none
  | (.tableswitch dflt lo hi offs, _) => match st with
    | .int x :: r => (ev_sw lo hi dflt offs x.toInt).bind (fun o => (ev_jmp pc o).map (fun t => (t, ls, r, h)))
    | _ => none
  | (.dup, _) => match st with
    | v :: r => if v.category = 1 then some (pc + 1, ls, v :: v :: r, h) else none
    | _ => none
  | (.dup2, _) => match st with
    | v :: w :: r => if v.category = 1 ∧ w.category = 1 then some (pc + 1, ls, v :: w :: v :: w :: r, h) else none
    | _ => none
  | (.pop, _) => match st with
    | v :: r => if v.category = 1 then some (pc + 1, ls, r, h) else none
    | _ => none
  | (.iaload, _) => (ev_aldi V 0 st h).map (fun r => (pc + 1, ls, r, h))
  | (.laload, _) => (ev_aldl st h).map (fun r => (pc + 1, ls, r, h))
  | (.baload, _) => (ev_aldi V 2 st h).map (fun r => (pc + 1, ls, r, h))
  | (.iastore, _) => (ev_asti 0 st h).map (fun r => (pc + 1, ls, r.1, r.2))
  | (.lastore, _) => (ev_astl st h).map (fun r => (pc + 1, ls, r.1, r.2))
  | (.bastore, _) => (ev_asti 2 st h).map (fun r => (pc + 1, ls, r.1, r.2))
  | (.aaload, _, x, _) => (ev_aldq x st h).map (fun r => (pc + 1, ls, r, h))
  | (.aastore, _, x, y, _) => (ev_astq x y st h).map (fun r => (pc + 1, ls, r.1, r.2))
  | (.arraylength, _) => match st with
    | .ref a :: r => if a = ev_ext then some (pc + 1, ls, .int (Int32.ofNat V.1) :: r, h) else if a = ev_ext + 1 then some (pc + 1, ls, .int 0 :: r, h) else match h.1[a]? with
      | some (.inl (t, n, _)) => if t < 5 then some (pc + 1, ls, .int (Int32.ofNat n) :: r, h) else none
      | _ => none
    | _ => none
  | (.newarray ty, _) => match st with
    | .int n :: r => if n < 0 then none else if 1000000 < n.toNatClampNeg then none else match ty with
      | .int => some (pc + 2, ls, .ref h.2.1 :: r, ev_push h (.inl (0, n.toNatClampNeg, .inl (fun _ => 0))) n.toNatClampNeg)
      | .long => some (pc + 2, ls, .ref h.2.1 :: r, ev_push h (.inl (1, n.toNatClampNeg, .inr (.inl (fun _ => 0)))) n.toNatClampNeg)
      | .boolean => some (pc + 2, ls, .ref h.2.1 :: r, ev_push h (.inl (2, n.toNatClampNeg, .inl (fun _ => 0))) n.toNatClampNeg)
      | _ => none
    | _ => none
  | (.anewarray _, _, x, _) => match st with
    | .int n :: r => if n < 0 then none else if 1000000 < n.toNatClampNeg then none else some (pc + 3, ls, .ref h.2.1 :: r, ev_push h (.inl (x, n.toNatClampNeg, .inr (.inr (.inr (.inr (fun _ => none)))))) n.toNatClampNeg)
    | _ => none
  | (.getfield _, _, x, y, _) => match st with
    | .ref a :: r => match h.1[a]? with
      | some (.inr (ci, fs)) => if ci = x then (match fs[y]? with
        | some v => some (pc + 3, ls, v :: r, h)
        | none => none) else none
      | _ => none
    | _ => none
  | (.putfield _, _, x, y, z) => match st with
    | v :: .ref a :: r => match h.1[a]? with
      | some (.inr (ci, fs)) => if ci = x then (if ev_okf (z % 4) v = true ∧ y < fs.length then some (pc + 3, ls, r, ev_set h a (.inr (ci, fs.set y v))) else none) else none
      | _ => none
    | _ => none
  | (.new _, _, x, _) => some (pc + 3, ls, .ref h.2.1 :: st, ev_push h (.inr (x, dft x)) (dft x).length)
  | (.ldc _, _, x, y, _) => if y = 1 then some (pc + 2, ls, .ref (ev_ext + 2) :: st, h) else some (pc + 2, ls, .int (Int32.ofNat x) :: st, h)
  | (.ldc_w _, _, x, _) => some (pc + 3, ls, .int (Int32.ofNat x) :: st, h)
  | (.ldc2_w _, _, x, _) => some (pc + 3, ls, .long (Int64.ofNat x) :: st, h)
  | (.checkcast _, _, x, _) => match st with
    | .ref a :: r => if ev_isC x h.1[a]? then some (pc + 3, ls, .ref a :: r, h) else none
    | _ => none
  | _ => none
