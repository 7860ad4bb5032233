/-! The executor: ints are numbers, or unknowns with ranges; arrays are trees; all goes on in passing. -/
noncomputable def fx_fr (n : Nat) (k : Nat → Bool) : Bool := Nat.rec (motive := fun _ => Bool) (k 0) (fun m _ => k (Nat.succ m)) n
noncomputable def fx_if (b x y : Bool) : Bool := Bool.rec (motive := fun _ => Bool) y x b
noncomputable def fx_nt (b : Bool) : Bool := Bool.rec (motive := fun _ => Bool) true false b
noncomputable def fx_un2 {A B : Type} (q : A × B) (k : A → B → Bool) : Bool := Prod.rec (motive := fun _ => Bool) k q
/-- lists -/
noncomputable def fx_li (l : List fx_V) : Nat → fx_V := List.rec (motive := fun _ => Nat → fx_V) (fun _ => (9, 0)) (fun x _ ih i => Nat.rec (motive := fun _ => fx_V) x (fun j _ => ih j) i) l
noncomputable def fx_ls (l : List fx_V) : Nat → fx_V → (List fx_V → Bool) → Bool := List.rec (motive := fun _ => Nat → fx_V → (List fx_V → Bool) → Bool) (fun _ _ _ => false) (fun x t ih i v k => Nat.rec (motive := fun _ => Bool) (k (v :: t)) (fun j _ => ih j v (fun t' => k (x :: t'))) i) l
/-- trees of numbers -/
noncomputable def fx_sl (t : fx_A) : fx_A := Std.Format.rec (motive := fun _ => fx_A) .nil .nil (fun _ => .nil) (fun _ => .nil) (fun _ _ _ => .nil) (fun l _ _ _ => l) (fun _ _ _ => .nil) (fun _ _ _ => .nil) t
noncomputable def fx_sr (t : fx_A) : fx_A := Std.Format.rec (motive := fun _ => fx_A) .nil .nil (fun _ => .nil) (fun _ => .nil) (fun _ _ _ => .nil) (fun _ r _ _ => r) (fun _ _ _ => .nil) (fun _ _ _ => .nil) t
noncomputable def fx_sv (t : fx_A) : Nat := Std.Format.rec (motive := fun _ => Nat) 0 0 (fun _ => 0) (fun _ => 0) (fun _ _ _ => 0) (fun _ _ _ _ => 0) (fun _ _ _ => 0) (fun n _ _ => n) t
noncomputable def fx_nd (t : fx_A) : (fx_A → fx_A → Bool) → Bool := Std.Format.rec (motive := fun _ => (fx_A → fx_A → Bool) → Bool) (fun k => k .nil .nil) (fun k => k .nil .nil) (fun _ k => k .nil .nil) (fun _ k => k .nil .nil) (fun _ _ _ k => k .nil .nil) (fun l r _ _ k => k l r) (fun _ _ _ k => k .nil .nil) (fun _ _ _ k => k .nil .nil) t
noncomputable def fx_gt (d : Nat) : fx_A → Nat → Nat := Nat.rec (motive := fun _ => fx_A → Nat → Nat) (fun t i => Nat.rec (motive := fun _ => Nat) (fx_sv t) (fun _ _ => 0) i) (fun _ ih t i => ih (Nat.rec (motive := fun _ => fx_A → fx_A) fx_sl (fun _ _ => fx_sr) (Nat.mod i 2) t) (Nat.div i 2)) d
abbrev fx_I : Type := fx_A → Nat → Nat → (fx_A → Bool) → Bool
noncomputable def fx_a0 (ih : fx_I) (t : fx_A) (i v : Nat) (k : fx_A → Bool) : Bool := fx_nd t (fun l r => ih l i v (fun l => k (.append l r)))
noncomputable def fx_a1 (ih : fx_I) (t : fx_A) (i v : Nat) (k : fx_A → Bool) : Bool := fx_nd t (fun l r => ih r i v (fun r => k (.append l r)))
noncomputable def fx_as (d : Nat) : fx_I := Nat.rec (motive := fun _ => fx_I) (fun _ i v k => Nat.rec (motive := fun _ => Bool) (k (.tag v .nil)) (fun _ _ => false) i) (fun _ ih t i v k => Nat.rec (motive := fun _ => fx_I → fx_I) fx_a0 (fun _ _ => fx_a1) (Nat.mod i 2) ih t (Nat.div i 2) v k) d
/-- all numbers of a tree are 0 or 1 -/
noncomputable def fx_01 (t : fx_A) : Bool := Std.Format.rec (motive := fun _ => Bool) true true (fun _ => true) (fun _ => true) (fun _ _ _ => true) (fun _ _ a b => fx_if a b false) (fun _ _ _ => true) (fun n _ _ => Nat.ble n 1) t
/-- the tree of the cells -/
def fx_c0 : fx_C := (99, 0, 0, .nil, [])
noncomputable def fx_hv (d : Nat) : fx_T d → Nat → fx_C := Nat.rec (motive := fun d => fx_T d → Nat → fx_C) (fun c i => Nat.rec (motive := fun _ => fx_C) c (fun _ _ => fx_c0) i) (fun d ih t i => ih (Nat.rec (motive := fun _ => fx_T d) (@Prod.fst (fx_T d) (fx_T d) t) (fun _ _ => @Prod.snd (fx_T d) (fx_T d) t) (Nat.mod i 2)) (Nat.div i 2)) d
noncomputable def fx_hs (d : Nat) : fx_T d → Nat → fx_C → (fx_T d → Bool) → Bool := Nat.rec (motive := fun d => fx_T d → Nat → fx_C → (fx_T d → Bool) → Bool) (fun _ i c k => Nat.rec (motive := fun _ => Bool) (k c) (fun _ _ => false) i) (fun d ih t i c k => @Prod.rec (fx_T d) (fx_T d) (fun _ => Bool) (fun l r => Nat.rec (motive := fun _ => Bool) (ih l (Nat.div i 2) c (fun l => k (@Prod.mk (fx_T d) (fx_T d) l r))) (fun _ _ => ih r (Nat.div i 2) c (fun r => k (@Prod.mk (fx_T d) (fx_T d) l r))) (Nat.mod i 2)) t) d
noncomputable def fx_t0 (d : Nat) : fx_T d := Nat.rec (motive := fun d => fx_T d) fx_c0 (fun d t => @Prod.mk (fx_T d) (fx_T d) t t) d
/-- a cell taken apart, by its place -/
noncomputable def fx_ce (h : fx_H) (a : Nat) (k : Nat → Nat → Nat → fx_A → List fx_V → Bool) : Bool := fx_if (Nat.blt a h.2.1) (Prod.rec (motive := fun _ => Bool) (fun a q => Prod.rec (motive := fun _ => Bool) (fun b q => Prod.rec (motive := fun _ => Bool) (fun e q => Prod.rec (motive := fun _ => Bool) (fun t f => k a b e t f) q) q) q) (fx_hv 7 h.1 a)) false
noncomputable def fx_cs (h : fx_H) (a : Nat) (c : fx_C) (k : fx_H → Bool) : Bool := Prod.rec (motive := fun _ => Bool) (fun t q => fx_hs 7 t a c (fun t => k (t, q))) h
/-- a new cell, with m slots -/
noncomputable def fx_nw (h : fx_H) (c : fx_C) (m : Nat) (k : Nat → fx_H → Bool) : Bool := Prod.rec (motive := fun _ => Bool) (fun t q => Prod.rec (motive := fun _ => Bool) (fun n q => Prod.rec (motive := fun _ => Bool) (fun s r => fx_hs 7 t n c (fun t => fx_fr (Nat.add s m) (fun s => fx_fr (Nat.succ n) (fun n' => k n (t, n', s, r))))) q) q) h
/-- unknowns: 2^32 and its number, or 2^33 and its number for -1 less it; ranges are of what is 2^31 more -/
noncomputable def fx_ri (r : fx_R) : Nat → Nat × Nat := List.rec (motive := fun _ => Nat → Nat × Nat) (fun _ => (0, 4294967295)) (fun x _ ih i => Nat.rec (motive := fun _ => Nat × Nat) x (fun j _ => ih j) i) r
noncomputable def fx_rs (r : fx_R) : Nat → Nat × Nat → (fx_R → Bool) → Bool := List.rec (motive := fun _ => Nat → Nat × Nat → (fx_R → Bool) → Bool) (fun _ _ _ => false) (fun x t ih i v k => Nat.rec (motive := fun _ => Bool) (k (v :: t)) (fun j _ => ih j v (fun t' => k (x :: t'))) i) r
noncomputable def fx_hr (h : fx_H) (i lo hi : Nat) (k : fx_H → Bool) : Bool := Prod.rec (motive := fun _ => Bool) (fun t q => Prod.rec (motive := fun _ => Bool) (fun n q => Prod.rec (motive := fun _ => Bool) (fun s r => fx_rs r i (lo, hi) (fun r => k (t, n, s, r))) q) q) h
/-- whether the unknown j is less than u -/
noncomputable def fx_cut (j u : Nat) (h : fx_H) (k : Bool → fx_H → Bool) : Bool := fx_un2 (fx_ri h.2.2.2 j) (fun lo hi => fx_if (Nat.blt hi u) (k true h) (fx_if (Nat.ble u lo) (k false h) (fx_if (fx_fr (Nat.pred u) (fun v => fx_hr h j lo v (k true))) (fx_hr h j u hi (k false)) false)))
noncomputable def fx_cu (x u : Nat) (h : fx_H) (k : Bool → fx_H → Bool) : Bool := fx_if (Nat.blt x 8589934592) (fx_fr (Nat.sub x 4294967296) (fun j => fx_cut j u h k)) (fx_fr (Nat.sub x 8589934592) (fun j => fx_fr (Nat.sub 4294967296 u) (fun u => fx_cut j u h (fun b h => k (fx_nt b) h))))
noncomputable def fx_bi (x : Nat) (k : Nat → Bool) : Bool := fx_fr (Nat.mod (Nat.add x 2147483648) 4294967296) k
noncomputable def fx_lts (x y : Nat) (h : fx_H) (k : Bool → fx_H → Bool) : Bool := fx_if (Nat.blt x 4294967296)
  (fx_if (Nat.blt y 4294967296) (fx_bi x (fun x => fx_bi y (fun y => k (Nat.blt x y) h))) (fx_bi x (fun x => fx_cu y (Nat.succ x) h (fun b h => k (fx_nt b) h))))
  (fx_if (Nat.blt y 4294967296) (fx_bi y (fun y => fx_cu x y h k)) false)
noncomputable def fx_lt (x y : Nat) (h : fx_H) (k : Bool → fx_H → Bool) : Bool := fx_if (Nat.blt (Nat.lor x y) 2147483648) (k (Nat.blt x y) h) (fx_lts x y h k)
noncomputable def fx_eq1 (x y : Nat) (h : fx_H) (k : Bool → fx_H → Bool) : Bool := fx_bi y (fun y => fx_cu x y h (fun b h => fx_if b (k false h) (fx_cu x (Nat.succ y) h k)))
noncomputable def fx_eqs (x y : Nat) (h : fx_H) (k : Bool → fx_H → Bool) : Bool := fx_if (Nat.blt x 4294967296) (fx_eq1 y x h k) (fx_if (Nat.blt y 4294967296) (fx_eq1 x y h k) false)
noncomputable def fx_eq (x y : Nat) (h : fx_H) (k : Bool → fx_H → Bool) : Bool := fx_if (Nat.blt (Nat.lor x y) 4294967296) (k (Nat.beq x y) h) (fx_eqs x y h k)
noncomputable def fx_ne (x y : Nat) (h : fx_H) (k : Bool → fx_H → Bool) : Bool := fx_eq x y h (fun b h => k (fx_nt b) h)
noncomputable def fx_ge (x y : Nat) (h : fx_H) (k : Bool → fx_H → Bool) : Bool := fx_lt x y h (fun b h => k (fx_nt b) h)
noncomputable def fx_gr (x y : Nat) (h : fx_H) (k : Bool → fx_H → Bool) : Bool := fx_lt y x h k
noncomputable def fx_le (x y : Nat) (h : fx_H) (k : Bool → fx_H → Bool) : Bool := fx_lt y x h (fun b h => k (fx_nt b) h)
noncomputable def fx_cb (c : ClassFile.Cond) : Nat → Nat → fx_H → (Bool → fx_H → Bool) → Bool := ClassFile.Cond.rec (motive := fun _ => Nat → Nat → fx_H → (Bool → fx_H → Bool) → Bool) fx_eq fx_ne fx_lt fx_ge fx_gr fx_le c
/-- an int that is known: one way for each that it may be -/
noncomputable def fx_all (n : Nat) (lo j : Nat) (h : fx_H) (k : Nat → fx_H → Bool) : Bool := Nat.rec (motive := fun _ => Bool) (fx_hr h j lo lo (k lo)) (fun m ih => fx_if ih (fx_fr (Nat.add lo (Nat.succ m)) (fun u => fx_hr h j u u (k u))) false) n
noncomputable def fx_rz (j : Nat) (h : fx_H) (k : Nat → fx_H → Bool) : Bool := fx_un2 (fx_ri h.2.2.2 j) (fun lo hi => fx_if (Nat.ble lo hi) (fx_fr (Nat.sub hi lo) (fun n => fx_if (Nat.ble n 64) (fx_all n lo j h k) false)) false)
noncomputable def fx_kns (x : Nat) (h : fx_H) (k : Nat → fx_H → Bool) : Bool := fx_if (Nat.blt x 8589934592)
  (fx_fr (Nat.sub x 4294967296) (fun j => fx_rz j h (fun u h => fx_bi u (fun u => k u h))))
  (fx_fr (Nat.sub x 8589934592) (fun j => fx_rz j h (fun u h => fx_bi (Nat.sub 4294967295 u) (fun u => k u h))))
noncomputable def fx_kn (x : Nat) (h : fx_H) (k : Nat → fx_H → Bool) : Bool := fx_if (Nat.blt x 4294967296) (k x h) (fx_kns x h k)
/-- what lies on the stack -/
noncomputable def fx_p (st : List fx_V) (k : Nat → Nat → List fx_V → Bool) : Bool := List.rec (motive := fun _ => Bool) false (fun v r _ => Prod.rec (motive := fun _ => Bool) (fun t x => k t x r) v) st
noncomputable def fx_pt (t : Nat) (st : List fx_V) (k : Nat → List fx_V → Bool) : Bool := List.rec (motive := fun _ => Bool) false (fun v r _ => Prod.rec (motive := fun _ => Bool) (fun t' x => fx_if (Nat.beq t' t) (k x r) false) v) st
noncomputable def fx_pi (st : List fx_V) (k : Nat → List fx_V → Bool) : Bool := fx_pt 0 st k
/-- where code goes on -/
noncomputable def fx_nth (l : List ev_M) : Nat → ev_M := List.rec (motive := fun _ => Nat → ev_M) (fun _ => []) (fun x _ ih i => Nat.rec (motive := fun _ => ev_M) x (fun j _ => ih j) i) l
noncomputable def fx_wk (l : ev_M) : Nat → ev_M := List.rec (motive := fun _ => Nat → ev_M) (fun _ => []) (fun x r ih t => Bool.rec (motive := fun _ => ev_M) (ih t) (x :: r) (Nat.beq (Prod.fst x) t)) l
noncomputable def fx_to (X : fx_X) (t : Nat) : ev_M := fx_wk (fx_nth X.2.2.1.2 (Nat.div t 16)) t
noncomputable def fx_jt (pc : Nat) (off : Int) : (Nat → Bool) → Bool := Int.rec (motive := fun _ => (Nat → Bool) → Bool) (fun n k => fx_fr (Nat.add pc n) k) (fun m k => fx_if (Nat.blt m pc) (fx_fr (Nat.sub pc (Nat.succ m)) k) false) off
/-- a jump -/
noncomputable def fx_go (F : fx_F) (X : fx_X) (pc : Nat) (off : Int) (ls st : List fx_V) (h : fx_H) : Bool := fx_jt pc off (fun t => F X t (fx_to X t) ls st h)
/-- locals: a long below goes when its second place is taken -/
noncomputable def fx_cl (ls : List fx_V) (i : Nat) (k : List fx_V → Bool) : Bool := Nat.rec (motive := fun _ => Bool) (k ls) (fun j _ => fx_if (Nat.beq (Prod.fst (fx_li ls j)) 1) (fx_ls ls j (4, 0) k) (k ls)) i
noncomputable def fx_s1 (ls : List fx_V) (i : Nat) (v : fx_V) (k : List fx_V → Bool) : Bool := fx_cl ls i (fun ls => fx_ls ls i v k)
noncomputable def fx_s2 (ls : List fx_V) (i : Nat) (v : fx_V) (k : List fx_V → Bool) : Bool := fx_cl ls i (fun ls => fx_ls ls i v (fun ls => fx_ls ls (Nat.succ i) (4, 0) k))
/-! instructions -/
noncomputable def fx_no : fx_W := fun _ _ _ _ _ _ _ _ => false
noncomputable def fx_ld (t i n : Nat) : fx_W := fun F X pc tl _ ls st h => Prod.rec (motive := fun _ => Bool) (fun t' x => fx_if (Nat.beq t' t) (F X (Nat.add pc n) tl ls ((t', x) :: st) h) false) (fx_li ls i)
noncomputable def fx_sto (t i n : Nat) : fx_W := fun F X pc tl _ ls st h => fx_pt t st (fun x st => fx_s1 ls i (t, x) (fun ls => F X (Nat.add pc n) tl ls st h))
noncomputable def fx_stl (i n : Nat) : fx_W := fun F X pc tl _ ls st h => fx_pt 1 st (fun x st => fx_s2 ls i (1, x) (fun ls => F X (Nat.add pc n) tl ls st h))
noncomputable def fx_in (n : Int) : Nat := Nat.mod (Int.rec (motive := fun _ => Nat) (fun m => m) (fun m => Nat.sub 4294967296 (Nat.mod (Nat.succ m) 4294967296)) n) 4294967296
noncomputable def fx_iinc (i : Nat) (n : Int) : fx_W := fun F X pc tl _ ls st h => Prod.rec (motive := fun _ => Bool) (fun t x => fx_if (Nat.beq t 0) (fx_kn x h (fun x h => fx_fr (Nat.mod (Nat.add x (fx_in n)) 4294967296) (fun z => fx_s1 ls i (0, z) (fun ls => F X (Nat.add pc 3) tl ls st h)))) false) (fx_li ls i)
noncomputable def fx_ic (n : Int) (m : Nat) : fx_W := fun F X pc tl _ ls st h => fx_fr (fx_in n) (fun z => F X (Nat.add pc m) tl ls ((0, z) :: st) h)
noncomputable def fx_ib (a b : Nat) (n : Int) (m : Nat) : fx_W := fun F X pc tl _ ls st h => fx_fr (fx_in n) (fun z => fx_if (Nat.blt (Nat.mod (Nat.add z a) 4294967296) b) (F X (Nat.add pc m) tl ls ((0, z) :: st) h) false)
noncomputable def fx_ct (t z n : Nat) : fx_W := fun F X pc tl _ ls st h => F X (Nat.add pc n) tl ls ((t, z) :: st) h
noncomputable def fx_i2 (f : Nat → Nat → Nat) : fx_W := fun F X pc tl _ ls st h => fx_pi st (fun y st => fx_pi st (fun x st => fx_kn x h (fun x h => fx_kn y h (fun y h => fx_fr (f x y) (fun z => F X (Nat.add pc 1) tl ls ((0, z) :: st) h)))))
noncomputable def fx_fadd (x y : Nat) : Nat := Nat.mod (Nat.add x y) 4294967296
noncomputable def fx_fsub (x y : Nat) : Nat := Nat.mod (Nat.add x (Nat.sub 4294967296 y)) 4294967296
noncomputable def fx_fmul (x y : Nat) : Nat := Nat.mod (Nat.mul x y) 4294967296
noncomputable def fx_isus : fx_W := fun F X pc tl w ls st h => fx_pi st (fun y st' => fx_pi st' (fun x st' => fx_if (fx_if (Nat.beq x 4294967295) (fx_if (Nat.ble 4294967296 y) (Nat.blt y 12884901888) false) false) (fx_if (Nat.blt y 8589934592) (fx_fr (Nat.add y 4294967296) (fun z => F X (Nat.add pc 1) tl ls ((0, z) :: st') h)) (fx_fr (Nat.sub y 4294967296) (fun z => F X (Nat.add pc 1) tl ls ((0, z) :: st') h)))
  (fx_i2 fx_fsub F X pc tl w ls st h)))
noncomputable def fx_isub : fx_W := fun F X pc tl w ls st h => fx_pi st (fun y st' => fx_if (Nat.blt y 4294967296) (fx_i2 fx_fsub F X pc tl w ls st h) (fx_isus F X pc tl w ls st h))
noncomputable def fx_iand : fx_W := fun F X pc tl w ls st h => fx_pi st (fun y st' => fx_pi st' (fun x st' => fx_if (Nat.beq x 4294967296)
  (fx_if (Nat.beq y 63) (F X (Nat.add pc 1) tl ls ((0, 4294967312) :: st') h) false)
  (fx_i2 Nat.land F X pc tl w ls st h)))
noncomputable def fx_ineg : fx_W := fun F X pc tl _ ls st h => fx_pi st (fun x st => fx_kn x h (fun x h => fx_fr (Nat.mod (Nat.sub 4294967296 x) 4294967296) (fun z => F X (Nat.add pc 1) tl ls ((0, z) :: st) h)))
noncomputable def fx_gadd (x y : Nat) : Nat := Nat.mod (Nat.add x y) 18446744073709551616
noncomputable def fx_gsub (x y : Nat) : Nat := Nat.mod (Nat.add x (Nat.sub 18446744073709551616 (Nat.mod y 18446744073709551616))) 18446744073709551616
noncomputable def fx_gmul (x y : Nat) : Nat := Nat.mod (Nat.mul x y) 18446744073709551616
noncomputable def fx_gshl (x y : Nat) : Nat := Nat.mod (Nat.shiftLeft x (Nat.mod y 64)) 18446744073709551616
noncomputable def fx_gush (x y : Nat) : Nat := Nat.shiftRight (Nat.mod x 18446744073709551616) (Nat.mod y 64)
noncomputable def fx_gshr (x y : Nat) : Nat := Bool.rec (motive := fun _ => Nat) (Nat.sub 18446744073709551615 (Nat.shiftRight (Nat.sub 18446744073709551615 (Nat.mod x 18446744073709551616)) (Nat.mod y 64))) (Nat.shiftRight (Nat.mod x 18446744073709551616) (Nat.mod y 64)) (Nat.blt (Nat.mod x 18446744073709551616) 9223372036854775808)
noncomputable def fx_l2 (f : Nat → Nat → Nat) : fx_W := fun F X pc tl _ ls st h => fx_pt 1 st (fun y st => fx_pt 1 st (fun x st => fx_fr (f x y) (fun z => F X (Nat.add pc 1) tl ls ((1, z) :: st) h)))
noncomputable def fx_lsh (f : Nat → Nat → Nat) : fx_W := fun F X pc tl _ ls st h => fx_pi st (fun y st => fx_pt 1 st (fun x st => fx_kn y h (fun y h => fx_fr (f x y) (fun z => F X (Nat.add pc 1) tl ls ((1, z) :: st) h))))
noncomputable def fx_lcm (x y : Nat) : Nat := Bool.rec (motive := fun _ => Nat) (Bool.rec (motive := fun _ => Nat) 4294967295 0 (Nat.beq x y)) 1 (Nat.blt y x)
noncomputable def fx_lcmp : fx_W := fun F X pc tl _ ls st h => fx_pt 1 st (fun y st => fx_pt 1 st (fun x st => fx_fr (fx_lcm (Nat.mod (Nat.add x 9223372036854775808) 18446744073709551616) (Nat.mod (Nat.add y 9223372036854775808) 18446744073709551616)) (fun z => F X (Nat.add pc 1) tl ls ((0, z) :: st) h)))
noncomputable def fx_ext (x : Nat) : Nat := Bool.rec (motive := fun _ => Nat) (Nat.add x 18446744069414584320) x (Nat.blt x 2147483648)
noncomputable def fx_i2l : fx_W := fun F X pc tl _ ls st h => fx_pi st (fun x st => fx_kn x h (fun x h => fx_fr (fx_ext x) (fun z => F X (Nat.add pc 1) tl ls ((1, z) :: st) h)))
noncomputable def fx_l2i : fx_W := fun F X pc tl _ ls st h => fx_pt 1 st (fun x st => fx_fr (Nat.mod x 4294967296) (fun z => F X (Nat.add pc 1) tl ls ((0, z) :: st) h))
noncomputable def fx_goto (off : Int) : fx_W := fun F X pc _ _ ls st h => fx_go F X pc off ls st h
noncomputable def fx_br (b : Bool) : fx_F → fx_X → Nat → ev_M → Int → List fx_V → List fx_V → fx_H → Bool := Bool.rec (motive := fun _ => fx_F → fx_X → Nat → ev_M → Int → List fx_V → List fx_V → fx_H → Bool) (fun F X pc tl _ ls st h => F X (Nat.add pc 3) tl ls st h) (fun F X pc _ off ls st h => fx_go F X pc off ls st h) b
noncomputable def fx_if1 (c : ClassFile.Cond) (off : Int) : fx_W := fun F X pc tl _ ls st h => fx_pi st (fun x st => fx_cb c x 0 h (fun b h => fx_br b F X pc tl off ls st h))
noncomputable def fx_if2 (c : ClassFile.Cond) (off : Int) : fx_W := fun F X pc tl _ ls st h => fx_pi st (fun y st => fx_pi st (fun x st => fx_cb c x y h (fun b h => fx_br b F X pc tl off ls st h)))
noncomputable def fx_ac (c : ClassFile.ACond) (b : Bool) : Bool := ClassFile.ACond.rec (motive := fun _ => Bool) b (fx_nt b) c
noncomputable def fx_acm (c : ClassFile.ACond) (off : Int) : fx_W := fun F X pc tl _ ls st h => fx_pt 2 st (fun y st => fx_pt 2 st (fun x st => fx_if (fx_if (Nat.blt x 1048576) true (fx_if (Nat.blt y 1048576) true (Nat.beq x y))) (fx_br (fx_ac c (Nat.beq x y)) F X pc tl off ls st h) false))
noncomputable def fx_ti (x : Nat) : Int := Bool.rec (motive := fun _ => Int) (Int.negSucc (Nat.sub 4294967295 x)) (Int.ofNat x) (Nat.blt x 2147483648)
noncomputable def fx_tsw (dflt lo hi : Int) (offs : Array Int) : fx_W := fun F X pc _ _ ls st h => fx_pi st (fun x st => fx_kn x h (fun x h => Option.rec (motive := fun _ => Bool) false (fun o => fx_go F X pc o ls st h) (ev_sw lo hi dflt offs (fx_ti x))))
noncomputable def fx_lsw (dflt : Int) (ps : Array (Int × Int)) : fx_W := fun F X pc _ _ ls st h => fx_pi st (fun x st => fx_kn x h (fun x h => fx_if ((ps.toList.zip (ps.toList.drop 1)).all (fun (a, next) => a.1 < next.1)) (fx_go F X pc (Op.lookupswitch.offset ps.toList dflt (fx_ti x)) ls st h) false))
noncomputable def fx_dup : fx_W := fun F X pc tl _ ls st h => fx_p st (fun t x st => fx_if (Nat.beq t 1) false (F X (Nat.add pc 1) tl ls ((t, x) :: (t, x) :: st) h))
noncomputable def fx_dup2 : fx_W := fun F X pc tl _ ls st h => fx_p st (fun t x st => fx_p st (fun t' x' st => fx_if (Nat.beq t 1) false (fx_if (Nat.beq t' 1) false (F X (Nat.add pc 1) tl ls ((t, x) :: (t', x') :: (t, x) :: (t', x') :: st) h))))
noncomputable def fx_dux : fx_W := fun F X pc tl _ ls st h => fx_p st (fun t x st => fx_p st (fun t' x' st => fx_if (Nat.beq t 1) false (fx_if (Nat.beq t' 1) false (F X (Nat.add pc 1) tl ls ((t, x) :: (t', x') :: (t, x) :: st) h))))
noncomputable def fx_pop : fx_W := fun F X pc tl _ ls st h => fx_p st (fun t _ st => fx_if (Nat.beq t 1) false (F X (Nat.add pc 1) tl ls st h))
/-- an array's number: its index is in the row -/
noncomputable def fx_ar (t : Nat) (h : fx_H) (a i : Nat) (k : Nat → Nat → fx_A → List fx_V → Bool) : Bool := fx_ce h a (fun t' n e x f => fx_if (Nat.beq t' t) (fx_if (Nat.blt i n) (fx_if (Nat.blt i 2147483648) (k n e x f) false) false) false)
noncomputable def fx_scr (t i : Nat) : fx_W := fun F X pc tl _ ls st h => fx_if (Nat.beq t 0) (fx_kn 4294967313 h (fun L h => fx_if (Nat.blt i L) (fx_if (Nat.blt L 16) (fx_fr (Nat.add 4294967296 i) (fun z => F X (Nat.add pc 1) tl ls ((0, z) :: st) h)) false) false)) false
noncomputable def fx_ial (t : Nat) : fx_W := fun F X pc tl w ls st h => fx_pi st (fun i st => fx_pt 2 st (fun a st => fx_kn i h (fun i h => fx_if (Nat.beq a 1048576)
  (fx_scr t i F X pc tl w ls st h)
  (fx_ar t h a i (fun _ e x _ => fx_fr (fx_gt e x i) (fun z => F X (Nat.add pc 1) tl ls ((0, z) :: st) h))))))
noncomputable def fx_lal : fx_W := fun F X pc tl _ ls st h => fx_pi st (fun i st => fx_pt 2 st (fun a st => fx_kn i h (fun i h => fx_ar 1 h a i (fun _ e x _ => fx_fr (fx_gt e x i) (fun z => F X (Nat.add pc 1) tl ls ((1, z) :: st) h)))))
noncomputable def fx_aal : fx_W := fun F X pc tl w ls st h => fx_pi st (fun i st => fx_pt 2 st (fun a st => fx_kn i h (fun i h => fx_if (fx_if (Nat.beq w.2.1 3) true (Nat.beq w.2.1 4)) (fx_ar w.2.1 h a i (fun _ e x _ => Nat.rec (motive := fun _ => Bool) false (fun q _ => F X (Nat.add pc 1) tl ls ((2, q) :: st) h) (fx_gt e x i))) false)))
noncomputable def fx_ias (t : Nat) : fx_W := fun F X pc tl _ ls st h => fx_pi st (fun v st => fx_pi st (fun i st => fx_pt 2 st (fun a st => fx_kn i h (fun i h => fx_fr v (fun v => fx_if (fx_if (Nat.beq t 0) true (Nat.ble v 1))
  (fx_ar t h a i (fun n e x f => fx_as e x i v (fun x => fx_cs h a (t, n, e, x, f) (fun h => F X (Nat.add pc 1) tl ls st h)))) false)))))
noncomputable def fx_las : fx_W := fun F X pc tl _ ls st h => fx_pt 1 st (fun v st => fx_pi st (fun i st => fx_pt 2 st (fun a st => fx_kn i h (fun i h => fx_fr v (fun v =>
  fx_ar 1 h a i (fun n e x f => fx_as e x i v (fun x => fx_cs h a (1, n, e, x, f) (fun h => F X (Nat.add pc 1) tl ls st h))))))))
/-- an object of a kind -/
noncomputable def fx_ob (h : fx_H) (a ci : Nat) (k : List fx_V → Bool) : Bool := fx_ce h a (fun t n _ _ f => fx_if (Nat.beq t 9) (fx_if (Nat.beq n ci) (k f) false) false)
noncomputable def fx_aas : fx_W := fun F X pc tl w ls st h => fx_pt 2 st (fun q st => fx_pi st (fun i st => fx_pt 2 st (fun a st => fx_kn i h (fun i h => fx_fr q (fun q => fx_if (fx_if (Nat.beq w.2.1 3) true (Nat.beq w.2.1 4))
  (fx_ob h q w.2.2.1 (fun _ => fx_ar w.2.1 h a i (fun n e x f => fx_as e x i (Nat.succ q) (fun x => fx_cs h a (w.2.1, n, e, x, f) (fun h => F X (Nat.add pc 1) tl ls st h))))) false)))))
noncomputable def fx_aln : fx_W := fun F X pc tl _ ls st h => fx_pt 2 st (fun a st => fx_if (Nat.beq a 1048576) (F X (Nat.add pc 1) tl ls ((0, 4294967313) :: st) h) (fx_if (Nat.beq a 1048577) (F X (Nat.add pc 1) tl ls ((0, 0) :: st) h)
  (fx_ce h a (fun t n _ _ _ => fx_if (Nat.blt t 5) (fx_if (Nat.blt n 4294967296) (F X (Nat.add pc 1) tl ls ((0, n) :: st) h) false) false))))
/-- how deep a tree for n numbers is -/
noncomputable def fx_dp (n : Nat) : Nat := Bool.rec (motive := fun _ => Nat) (Bool.rec (motive := fun _ => Nat) 15 10 (Nat.ble n 1024)) 7 (Nat.ble n 128)
noncomputable def fx_nwa (t m : Nat) : fx_W := fun F X pc tl _ ls st h => fx_pi st (fun n st => fx_kn n h (fun n h => fx_if (Nat.ble n 1000000) (fx_fr (fx_dp n) (fun e => fx_nw h (t, n, e, .nil, []) n (fun a h => F X (Nat.add pc m) tl ls ((2, a) :: st) h))) false))
noncomputable def fx_nwt (a : ClassFile.ArrayType) : fx_W := ClassFile.ArrayType.rec (motive := fun _ => fx_W) (fx_nwa 2 2) fx_no fx_no fx_no fx_no fx_no (fx_nwa 0 2) (fx_nwa 1 2) a
noncomputable def fx_nwr : fx_W := fun F X pc tl w ls st h => fx_if (fx_if (Nat.beq w.2.1 3) true (Nat.beq w.2.1 4)) (fx_nwa w.2.1 3 F X pc tl w ls st h) false
noncomputable def fx_new : fx_W := fun F X pc tl w ls st h => fx_nw h (9, w.2.1, 0, .nil, fx_D w.2.1) (List.length (fx_D w.2.1)) (fun a h => F X (Nat.add pc 3) tl ls ((2, a) :: st) h)
noncomputable def fx_get : fx_W := fun F X pc tl w ls st h => fx_pt 2 st (fun a st => fx_ob h a w.2.1 (fun f => Prod.rec (motive := fun _ => Bool) (fun t x => fx_if (Nat.blt t 4) (F X (Nat.add pc 3) tl ls ((t, x) :: st) h) false) (fx_li f w.2.2.1)))
noncomputable def fx_put : fx_W := fun F X pc tl w ls st h => fx_p st (fun t v st => fx_pt 2 st (fun a st => fx_if (Nat.beq (Nat.mod w.2.2.2 4) t) (fx_if (Nat.blt t 3) (fx_fr v (fun v => fx_ob h a w.2.1 (fun f => fx_ls f w.2.2.1 (t, v) (fun f => fx_cs h a (9, w.2.1, 0, .nil, f) (fun h => F X (Nat.add pc 3) tl ls st h))))) false) false))
noncomputable def fx_cst (t n : Nat) : fx_W := fun F X pc tl w ls st h => fx_if (Nat.blt w.2.1 4294967296) (F X (Nat.add pc n) tl ls ((t, w.2.1) :: st) h) false
noncomputable def fx_cs2 : fx_W := fun F X pc tl w ls st h => F X (Nat.add pc 3) tl ls ((1, w.2.1) :: st) h
noncomputable def fx_cas : fx_W := fun F X pc tl w ls st h => fx_pt 2 st (fun a st => fx_ob h a w.2.1 (fun _ => F X (Nat.add pc 3) tl ls ((2, a) :: st) h))
noncomputable def fx_gst : fx_W := fun F X pc tl w ls st h => fx_if (Nat.beq w.2.1 1) (F X (Nat.add pc 3) tl ls ((2, 1048577) :: st) h) false
/-! calls and ends -/
/-- one slot or two -/
noncomputable def fx_cg (v : fx_V) : Nat := Prod.rec (motive := fun _ => Nat) (fun t _ => Bool.rec (motive := fun _ => Nat) 1 2 (Nat.beq t 1)) v
noncomputable def fx_cc (st : List fx_V) : Nat := List.rec (motive := fun _ => Nat) 0 (fun v _ n => Nat.add (fx_cg v) n) st
noncomputable def fx_pd (n : Nat) : List fx_V := Nat.rec (motive := fun _ => List fx_V) [] (fun _ l => (4, 0) :: l) n
/-- how many slots the z things on top take -/
noncomputable def fx_cz (z : Nat) : List fx_V → Nat := Nat.rec (motive := fun _ => List fx_V → Nat) (fun _ => 0) (fun _ ih st => List.rec (motive := fun _ => Nat) 0 (fun v r _ => Nat.add (fx_cg v) (ih r)) st) z
noncomputable def fx_tk (z : Nat) : List fx_V → List fx_V → (List fx_V → List fx_V → Bool) → Bool := Nat.rec (motive := fun _ => List fx_V → List fx_V → (List fx_V → List fx_V → Bool) → Bool) (fun st acc k => k acc st) (fun _ ih st acc k => List.rec (motive := fun _ => Bool) false (fun v r _ => Prod.rec (motive := fun _ => Bool) (fun t x => fx_if (Nat.blt t 4) (fx_if (Nat.beq t 1) (ih r ((t, x) :: (4, 0) :: acc) k) (ih r ((t, x) :: acc) k)) false) v) st) z
/-- the receiver -/
noncomputable def fx_rc (sp ci : Nat) (h : fx_H) (as : List fx_V) (k : Bool) : Bool := Nat.rec (motive := fun _ => Bool) k (fun s _ => fx_pt 2 as (fun a _ => Nat.rec (motive := fun _ => Bool) (fx_ob h a ci (fun _ => k)) (fun _ _ => k) s)) sp
def fx_q0 : fx_Q := ((⟨"", "", ""⟩, ⟨#[]⟩, 0, none, [], [], []), [])
noncomputable def fx_mq (l : List fx_Q) : Nat → fx_Q := List.rec (motive := fun _ => Nat → fx_Q) (fun _ => fx_q0) (fun x _ ih i => Nat.rec (motive := fun _ => fx_Q) x (fun j _ => ih j) i) l
/-- the handler of a place: its place and one more, or 0 -/
noncomputable def fx_hn (hh : List (Nat × Nat × Nat × Nat)) : List Nat → Nat → Nat → Nat := List.rec (motive := fun _ => List Nat → Nat → Nat → Nat) (fun _ _ _ => 0) (fun x _ ih ks pc c => List.rec (motive := fun _ => Nat) 0 (fun b cs _ => Bool.rec (motive := fun _ => Nat) (ih cs pc c) (Nat.succ x.2.2.1) (fx_if (Nat.ble x.1 pc) (fx_if (Nat.blt pc x.2.1) (Nat.beq b c) false) false)) ks) hh
/-- behind a caught exception -/
noncomputable def fx_ca (r : ev_M) (F : fx_F) (X : fx_X) (t : Nat) (ls : List fx_V) (h : fx_H) : Bool := match r with
  | [] => false
  | x :: tl => fx_if (Nat.beq (Prod.fst x) t) (match x.2.1 with
    | .astore_n i => fx_s1 ls i.val (4, 0) (fun ls => F X (Nat.add t 1) tl ls [] h)
    | .astore i => fx_s1 ls i (4, 0) (fun ls => F X (Nat.add t 2) tl ls [] h)
    | _ => false) false
noncomputable def fx_thr (F : fx_F) (X : fx_X) (pc : Nat) (ls : List fx_V) (v : fx_V) (h : fx_H) : Bool := Nat.rec (motive := fun _ => Bool) (fx_if (List.isEmpty X.2.2.1.1.2.2.2.2.1) (X.2.2.2 (2, v) h) false) (fun t _ => fx_ca (fx_to X t) F X t ls h) (fx_hn X.2.2.1.1.2.2.2.2.1 X.2.2.1.1.2.2.2.2.2.1 pc v.2)
noncomputable def fx_bk (F : fx_F) (X : fx_X) (pc : Nat) (tl : ev_M) (ls rest : List fx_V) : fx_K := fun o h => Prod.rec (motive := fun _ => Bool) (fun n v => Nat.rec (motive := fun _ => Bool) (F X (Nat.add pc 3) tl ls rest h) (fun n _ => Nat.rec (motive := fun _ => Bool) (F X (Nat.add pc 3) tl ls (v :: rest) h) (fun _ _ => fx_thr F X pc ls v h) n) n) o
noncomputable def fx_inv (sp x y z : Nat) (Q : fx_Q) : fx_W := fun F X pc tl _ ls st h => fx_fr (fx_cz z st) (fun s => fx_if (Nat.ble s Q.1.2.2.1) (fx_tk z st (fx_pd (Nat.sub Q.1.2.2.1 s)) (fun as rest => fx_if (Nat.ble (fx_cc rest) 8)
  (fx_rc sp (Nat.div y 16) h as (Nat.rec (motive := fun _ => Bool) false (fun d _ => F (d, x, Q, fx_bk F X pc tl ls rest) 0 Q.1.2.2.2.2.2.2 as [] h) X.1)) false)) false)
noncomputable def fx_iv (sp : Nat) : fx_W := fun F X pc tl w ls st h => Prod.rec (motive := fun _ => Bool) (fun _ q => Prod.rec (motive := fun _ => Bool) (fun x q => Prod.rec (motive := fun _ => Bool) (fun y z => fx_if (Nat.blt x 286) (fx_inv sp x y z (fx_mq fx_fm x) F X pc tl w ls st h) false) q) q) w
/-- whole rows are copied -/
noncomputable def fx_cp2 (n a b : Nat) : fx_W := fun F X pc tl _ ls st h => fx_ce h b (fun t n0 e x _ => fx_ce h a (fun t' n1 e' _ f => fx_if (fx_if (Nat.beq t' t) (fx_if (Nat.beq n0 n) (fx_if (Nat.beq n1 n) (fx_if (Nat.beq e e') (fx_if (Nat.ble (fx_cc st) 8) (fx_if (Nat.beq t 0) true (fx_if (Nat.beq t 2) (fx_01 x) false)) false) false) false) false) false)
    (fx_cs h a (t, n, e, x, f) (fun h => F X (Nat.add pc 3) tl ls st h)) false))
noncomputable def fx_cpy : fx_W := fun F X pc tl w ls st h => fx_pi st (fun n st => fx_pi st (fun dp st => fx_pt 2 st (fun a st => fx_pi st (fun sp st => fx_pt 2 st (fun b st => fx_if (Nat.beq sp 0) (fx_if (Nat.beq dp 0) (fx_if (Nat.blt n 2147483648)
  (fx_cp2 n a b F X pc tl w ls st h) false) false) false)))))
noncomputable def fx_ist : fx_W := fun F X pc tl w ls st h => fx_if (Nat.beq w.2.2.1 8) (fx_cpy F X pc tl w ls st h) (fx_iv 0 F X pc tl w ls st h)
noncomputable def fx_isp : fx_W := fun F X pc tl w ls st h => fx_if (Nat.beq w.2.2.1 9) (fx_pt 2 st (fun _ st => fx_if (Nat.ble (fx_cc st) 8) (F X (Nat.add pc 3) tl ls st h) false)) (fx_iv 2 F X pc tl w ls st h)
noncomputable def fx_nex : fx_W := fun F X pc tl w ls st h => fx_if (Nat.beq w.2.2.2 1) (fx_if (List.isEmpty X.2.2.1.1.2.2.2.2.1) (fx_if (Nat.ble (fx_cc st) 8) (fx_nw h (9, w.2.1, 0, .nil, []) 6 (fun _ h => X.2.2.2 (2, (0, w.2.1)) h)) false) false) (fx_new F X pc tl w ls st h)
noncomputable def fx_nr (r : Option FieldType) (x : Nat) : Bool := match r with
  | some .int => true
  | some .boolean => Nat.ble x 1
  | some .char => Nat.ble x 65535
  | _ => false
noncomputable def fx_e1 (st : List fx_V) (k : Bool) : Bool := List.rec (motive := fun _ => Bool) k (fun _ _ _ => false) st
noncomputable def fx_ire : fx_W := fun _ X _ _ _ _ st h => fx_pi st (fun x st => fx_fr x (fun x => fx_if (fx_nr X.2.2.1.1.2.2.2.1 x) (fx_e1 st (X.2.2.2 (1, (0, x)) h)) false))
noncomputable def fx_lre : fx_W := fun _ X _ _ _ _ st h => fx_pt 1 st (fun x st => fx_fr x (fun x => fx_if (decide (X.2.2.1.1.2.2.2.1 = some .long)) (fx_e1 st (X.2.2.2 (1, (1, x)) h)) false))
noncomputable def fx_are : fx_W := fun _ X _ _ _ _ st h => fx_pt 2 st (fun x st => fx_fr x (fun x => fx_if (ev_isr X.2.2.1.1.2.2.2.1) (fx_e1 st (X.2.2.2 (1, (2, x)) h)) false))
noncomputable def fx_vre : fx_W := fun _ X _ _ _ _ st h => fx_if (Option.isNone X.2.2.1.1.2.2.2.1) (fx_e1 st (X.2.2.2 (0, (0, 0)) h)) false
noncomputable def fx_do (i : Instr) : fx_W := ClassFile.Instr.rec (motive := fun _ => fx_W) fx_aal fx_aas (fx_ct 3 0 1) (fun j => fx_ld 2 j 2) (fun j => fx_ld 2 (Fin.val j) 1) (fun _ => fx_nwr) fx_are fx_aln (fun j => fx_sto 2 j 2) (fun j => fx_sto 2 (Fin.val j) 1) fx_no (fx_ial 2) (fx_ias 2) (fun n => fx_ib 128 256 n 2) fx_no fx_no (fun _ => fx_cas) fx_no fx_no fx_no fx_no fx_no fx_no (fun _ => fx_no) (fun _ => fx_no) fx_no (fun _ => fx_no) (fun _ => fx_no) fx_no fx_no fx_no fx_no (fun _ => fx_no) (fun _ => fx_no) fx_no fx_dup fx_dux fx_no fx_dup2 fx_no fx_no fx_no fx_no fx_no fx_no fx_no fx_no (fun _ => fx_no) (fun _ => fx_no) fx_no (fun _ => fx_no) (fun _ => fx_no) fx_no fx_no fx_no fx_no (fun _ => fx_no) (fun _ => fx_no) fx_no (fun _ => fx_get) (fun _ => fx_gst) (fun o => fx_goto o) (fun _ => fx_no) fx_no fx_no fx_no fx_no fx_i2l fx_no (fx_i2 fx_fadd) (fx_ial 0) fx_iand (fx_ias 0) (fun n => fx_ic n 1) fx_no (fun c o => fx_acm c o) (fun c o => fx_if2 c o) (fun c o => fx_if1 c o) (fun _ => fx_no) (fun _ => fx_no) (fun j n => fx_iinc j n) (fun j => fx_ld 0 j 2) (fun j => fx_ld 0 (Fin.val j) 1) (fx_i2 fx_fmul) fx_ineg (fun _ => fx_no) (fun _ => fx_no) (fun _ _ => fx_no) (fun _ => fx_isp) (fun _ => fx_ist) (fun _ => fx_iv 1) fx_no fx_no fx_ire fx_no fx_no (fun j => fx_sto 0 j 2) (fun j => fx_sto 0 (Fin.val j) 1) fx_isub fx_no fx_no (fun _ => fx_no) (fun _ => fx_no) fx_no fx_no fx_l2i (fx_l2 fx_gadd) fx_lal (fx_l2 Nat.land) fx_las fx_lcmp (fun n => fx_ct 1 (Fin.val n) 1) (fun _ => fx_cst 0 2) (fun _ => fx_cst 0 3) (fun _ => fx_cs2) fx_no (fun j => fx_ld 1 j 2) (fun j => fx_ld 1 (Fin.val j) 1) (fx_l2 fx_gmul) fx_no (fun a b => fx_lsw a b) (fx_l2 Nat.lor) fx_no fx_lre (fx_lsh fx_gshl) (fx_lsh fx_gshr) (fun j => fx_stl j 2) (fun j => fx_stl (Fin.val j) 1) (fx_l2 fx_gsub) (fx_lsh fx_gush) (fx_l2 Nat.xor) fx_no fx_no (fun _ _ => fx_no) (fun _ => fx_nex) (fun a => fx_nwt a) fx_no fx_pop fx_no (fun _ => fx_put) (fun _ => fx_no) (fun _ => fx_no) fx_vre fx_no fx_no (fun n => fx_ib 32768 65536 n 3) fx_no (fun a b c e => fx_tsw a b c e) i
noncomputable def fx_st (F : fx_F) : fx_F := fun X pc rest ls st h => List.rec (motive := fun _ => Bool) false (fun x tl _ => Prod.rec (motive := fun _ => Bool) (fun p I => fx_if (Nat.beq pc p) (Prod.rec (motive := fun _ => Bool) (fun i w => fx_do i F X p tl w ls st h) I) false) x) rest
noncomputable def fx (n : Nat) : fx_F := Nat.rec (motive := fun _ => fx_F) (fun _ _ _ _ _ _ => false) (fun _ F => fx_st F) n
