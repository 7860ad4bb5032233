/-! The evaluator of methods: calls, ends, throws and catches. -/
abbrev ev_M : Type := List (Nat × ev_I)
/-- a method: name, bytes, number of locals, what it returns, its table of handlers, the class of each handler, instructions -/
abbrev ev_Q : Type := MethodName × ByteArray × Nat × Option FieldType × List (Nat × Nat × Nat × Nat) × List Nat × ev_M
def ev_find (c : ev_M) (pc : Nat) : Option ev_I := match c with
  | [] => none
  | (k, i) :: r => if k = pc then some i else ev_find r pc
def ev_nar (ret : Option FieldType) (v : Int32) : Bool := match ret with
  | some .int => true
  | some .boolean => v == 0 || v == 1
  | some .char => decide (0 ≤ v) && decide (v ≤ 65535)
  | _ => false
def ev_isr (ret : Option FieldType) : Bool := match ret with
  | some (.object _) => true
  | some (.array _) => true
  | _ => false
def ev_cats (st : List Value) : Nat := (st.map fun v => v.category).sum
def ev_sl (vs : List Value) : ev_L := vs.flatMap fun v => if v.category = 2 then [some v, none] else [some v]
/-- the locals with which a method begins -/
def ev_in (n : Nat) (vs : List Value) : ev_L := ev_sl vs ++ List.replicate (n - (ev_sl vs).length) none
def ev_hd (hh : List (Nat × Nat × Nat × Nat)) (ks : List Nat) (pc k : Nat) : Option Nat := match hh, ks with
  | (a, b, t, _) :: r, c :: cs => if a ≤ pc ∧ pc < b ∧ c = k then some t else ev_hd r cs pc k
  | _, _ => none
def ev_st0 (ls : ev_L) (i : Nat) : Option ev_L := if i < ls.length then some ((ev_clr ls i).set i none) else none
/-- behind a caught exception: it goes into a local that is not looked at -/
def ev_caught (I : Option ev_I) (pc : Nat) (ls : ev_L) : Option (Nat × ev_L) := match I with
  | some (.astore_n k, _) => (ev_st0 ls k.val).map (fun l => (pc + 1, l))
  | some (.astore k, _) => (ev_st0 ls k).map (fun l => (pc + 2, l))
  | _ => none
def ev_01 (f : Nat → Int32) (a n : Nat) : Bool := (List.range n).all (fun i => f (a + i) == 0 || f (a + i) == 1)
/-- System.arraycopy of ints or booleans -/
def ev_cpy (st : List Value) (h : ev_H) : Option (List Value × ev_H) := match st with
  | .int n :: .int dp :: .ref a :: .int sp :: .ref b :: r => match h.1[b]?, h.1[a]? with
    | some (.inl (t, n0, .inl f)), some (.inl (t', n1, .inl g)) => if t' = t ∧ (t = 0 ∨ t = 2) ∧ ¬ sp < 0 ∧ ¬ dp < 0 ∧ ¬ n < 0 ∧ sp.toNatClampNeg + n.toNatClampNeg ≤ n0 ∧ dp.toNatClampNeg + n.toNatClampNeg ≤ n1 then (if t = 0 ∨ ev_01 f sp.toNatClampNeg n.toNatClampNeg = true then some (r, ev_set h a (.inl (t, n1, .inl (va_cpy f g sp.toNatClampNeg dp.toNatClampNeg n.toNatClampNeg)))) else none) else none
    | _, _ => none
  | _ => none
abbrev ev_O : Type := Option Value ⊕ Nat
abbrev ev_F : Type := Nat → Nat → Nat → ev_L → List Value → ev_H → Option (ev_O × ev_H)
def ev_kd (i : Instr) : Nat := match i with
  | .ireturn | .lreturn | .areturn | .return_ => 1
  | .invokevirtual _ => 2
  | .invokestatic _ => 3
  | .invokespecial _ => 4
  | .new _ => 5
  | _ => 0
def ev_ret (i : Instr) (ret : Option FieldType) (st : List Value) : Option (Option Value) := match i with
  | .ireturn => match st with
    | [.int v] => if ev_nar ret v then some (some (.int v)) else none
    | _ => none
  | .lreturn => match st with
    | [.long v] => if ret = some .long then some (some (.long v)) else none
    | _ => none
  | .areturn => match st with
    | [.ref a] => if ev_isr ret then some (some (.ref a)) else none
    | _ => none
  | .return_ => match st with
    | [] => if ret = none then some none else none
    | _ => none
  | _ => none
/-- a receiver: none is asked for (0), an object of a class (1), any object (2) -/
def ev_rc (sp ci : Nat) (as : List Value) (h : ev_H) : Bool := match sp with
  | 0 => true
  | 1 => match as with
    | .ref a :: _ => ev_isC ci h.1[a]?
    | _ => false
  | _ => match as with
    | .ref _ :: _ => true
    | _ => false
/-- the text of Script; String.length (0) and charAt (1) of it -/
def es_T : String × Nat × String := ("Threewayleaf$Script", 63, "+*#@?!~-")
def es_by : List Int32 := [43, 42, 35, 64, 63, 33, 126, 45]
def es_ch (i : Nat) : Int32 := es_by.getD i 0
def ev_sb (x : Nat) (st : List Value) : Option (List Value) := match x with
  | 0 => match st with
    | .ref a :: r => if a = ev_ext + 2 then some (.int 8 :: r) else none
    | _ => none
  | _ => match st with
    | .int i :: .ref a :: r => if a = ev_ext + 2 ∧ ev_ix i 8 = true then some (.int (es_ch i.toNatClampNeg) :: r) else none
    | _ => none
/-- behind a call -/
def ev_back (f : ev_F) (hh : List (Nat × Nat × Nat × Nat)) (ks : List Nat) (code : ev_M) (d mi pc : Nat) (ls : ev_L) (rest : List Value) (o : ev_O) (h1 : ev_H) : Option (ev_O × ev_H) := match o with
  | .inl v => f d mi (pc + 3) ls (v.toList ++ rest) h1
  | .inr k => match ev_hd hh ks pc k with
    | none => if hh.isEmpty then some (.inr k, h1) else none
    | some t => match ev_caught (ev_find code t) t ls with
      | none => none
      | some q => f d mi q.1 q.2 [] h1
/-- a call: of the method x, with z arguments; sp: of what kind its receiver is -/
def ev_call (f : ev_F) (mt : List ev_Q) (hh : List (Nat × Nat × Nat × Nat)) (ks : List Nat) (code : ev_M) (sp d mi pc x y z : Nat) (ls : ev_L) (st : List Value) (h : ev_H) : Option (ev_O × ev_H) := match mt[x]? with
  | none => none
  | some q => if z ≤ st.length ∧ ev_cats (st.drop z) ≤ 8 ∧ (ev_sl (st.take z).reverse).length ≤ q.2.2.1 ∧ ev_rc sp (y / 16) (st.take z).reverse h = true then (match d with
    | 0 => none
    | d + 1 => match f d x 0 (ev_in q.2.2.1 (st.take z).reverse) [] h with
      | some r => ev_back f hh ks code (d + 1) mi pc ls (st.drop z) r.1 r.2
      | none => none) else none
def ev_step (f : ev_F) (V : ev_V) (dft : Nat → List Value) (I : ev_I) (d mi pc : Nat) (ls : ev_L) (st : List Value) (h : ev_H) : Option (ev_O × ev_H) := match ev_s V dft I pc ls st h with
  | some r => f d mi r.1 r.2.1 r.2.2.1 r.2.2.2
  | none => none
def ev_one (f : ev_F) (mt : List ev_Q) (V : ev_V) (dft : Nat → List Value) (ret : Option FieldType) (hh : List (Nat × Nat × Nat × Nat)) (ks : List Nat) (code : ev_M) (I : ev_I) (d mi pc : Nat) (ls : ev_L) (st : List Value) (h : ev_H) : Option (ev_O × ev_H) := match ev_kd I.1 with
  | 1 => (ev_ret I.1 ret st).map (fun v => (.inl v, h))
  | 2 => if I.2.2.2.1 = 7 then (match ev_sb I.2.2.1 st with
    | some q => if ev_cats q ≤ 8 then f d mi (pc + 3) ls q h else none
    | none => none) else ev_call f mt hh ks code 1 d mi pc I.2.2.1 I.2.2.2.1 I.2.2.2.2 ls st h
  | 3 => if I.2.2.2.1 = 8 then (match ev_cpy st h with
    | some q => if ev_cats q.1 ≤ 8 then f d mi (pc + 3) ls q.1 q.2 else none
    | none => none) else ev_call f mt hh ks code 0 d mi pc I.2.2.1 I.2.2.2.1 I.2.2.2.2 ls st h
  | 4 => if I.2.2.2.1 = 9 then (match st with
    | .ref _ :: r => if ev_cats r ≤ 8 then f d mi (pc + 3) ls r h else none
    | _ => none) else ev_call f mt hh ks code 2 d mi pc I.2.2.1 I.2.2.2.1 I.2.2.2.2 ls st h
  | 5 => if I.2.2.2.2 = 1 then (if hh.isEmpty ∧ ev_cats st ≤ 8 then some (.inr I.2.2.1, ev_push h (.inr (I.2.2.1, [])) 6) else none) else ev_step f V dft I d mi pc ls st h
  | _ => ev_step f V dft I d mi pc ls st h
def ev (mt : List ev_Q) (V : ev_V) (dft : Nat → List Value) (n : Nat) : ev_F := match n with
  | 0 => fun _ _ _ _ _ _ => none
  | n + 1 => fun d mi pc ls st h => match mt[mi]? with
    | none => none
    | some q => match ev_find q.2.2.2.2.2.2 pc with
      | none => none
      | some I => ev_one (ev mt V dft n) mt V dft q.2.2.2.1 q.2.2.2.2.1 q.2.2.2.2.2.1 q.2.2.2.2.2.2 I d mi pc ls st h
