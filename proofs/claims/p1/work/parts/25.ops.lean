/-! Numbers and the machine's ints and longs. -/
theorem of_mod (n : Nat) : Int32.ofNat (n % 4294967296) = Int32.ofNat n := by
  apply Int32.toBitVec_inj.mp
  apply BitVec.eq_of_toNat_eq
  show (BitVec.ofNat 32 (n % 4294967296)).toNat = (BitVec.ofNat 32 n).toNat
  simp
theorem ol_mod (n : Nat) : Int64.ofNat (n % 18446744073709551616) = Int64.ofNat n := by
  apply Int64.toBitVec_inj.mp
  apply BitVec.eq_of_toNat_eq
  show (BitVec.ofNat 64 (n % 18446744073709551616)).toNat = (BitVec.ofNat 64 n).toNat
  simp
theorem fo_add (x y : Nat) : Int32.ofNat (fx_fadd x y) = Int32.ofNat x + Int32.ofNat y := by
  show Int32.ofNat ((x + y) % 4294967296) = _
  rw [of_mod, Int32.ofNat_add]
theorem fo_mul (x y : Nat) : Int32.ofNat (fx_fmul x y) = Int32.ofNat x * Int32.ofNat y := by
  show Int32.ofNat ((x * y) % 4294967296) = _
  rw [of_mod, Int32.ofNat_mul]
theorem of_M : Int32.ofNat 4294967296 = 0 := by decide
theorem ol_M : Int64.ofNat 18446744073709551616 = 0 := by decide
theorem fo_sub {x y : Nat} (hy : y < 4294967296) : Int32.ofNat (fx_fsub x y) = Int32.ofNat x - Int32.ofNat y := by
  show Int32.ofNat ((x + (4294967296 - y)) % 4294967296) = _
  rw [of_mod, Int32.ofNat_add, Int32.ofNat_sub _ _ (by omega), of_M, Int32.zero_sub, ← Int32.sub_eq_add_neg]
theorem fo_neg {x : Nat} (hx : x < 4294967296) : Int32.ofNat ((4294967296 - x) % 4294967296) = -Int32.ofNat x := by
  rw [of_mod, Int32.ofNat_sub _ _ (by omega), of_M, Int32.zero_sub]
theorem fo_and (x y : Nat) : Int32.ofNat (Nat.land x y) = Int32.ofNat x &&& Int32.ofNat y := by
  apply Int32.toBitVec_inj.mp
  show BitVec.ofNat 32 (x &&& y) = BitVec.ofNat 32 x &&& BitVec.ofNat 32 y
  exact BitVec.ofNat_and
theorem in_lt (n : Int) : fx_in n < 4294967296 := Nat.mod_lt _ (by decide)
theorem in_val (n : Int) : ((fx_in n : Nat) : Int) = n % 4294967296 := by
  cases n with
  | ofNat m => rfl
  | negSucc m =>
    show (((4294967296 - (m + 1) % 4294967296) % 4294967296 : Nat) : Int) = _
    rw [Int.negSucc_eq]
    omega
theorem fo_in (n : Int) : Int32.ofNat (fx_in n) = Int32.ofInt n := by
  apply Int32.toInt_inj.mp
  rw [Int32.toInt_ofNat', Int32.toInt_ofInt, in_val]
  simp only [Int.bmod, Int32.size]
  split <;> split <;> omega
theorem go_add (x y : Nat) : Int64.ofNat (fx_gadd x y) = Int64.ofNat x + Int64.ofNat y := by
  show Int64.ofNat ((x + y) % 18446744073709551616) = _
  rw [ol_mod, Int64.ofNat_add]
theorem go_mul (x y : Nat) : Int64.ofNat (fx_gmul x y) = Int64.ofNat x * Int64.ofNat y := by
  show Int64.ofNat ((x * y) % 18446744073709551616) = _
  rw [ol_mod, Int64.ofNat_mul]
theorem go_sub (x y : Nat) : Int64.ofNat (fx_gsub x y) = Int64.ofNat x - Int64.ofNat y := by
  have hm := Nat.mod_lt y (show 0 < 18446744073709551616 by decide)
  show Int64.ofNat ((x + (18446744073709551616 - y % 18446744073709551616)) % 18446744073709551616) = _
  rw [ol_mod, Int64.ofNat_add, Int64.ofNat_sub _ _ (by omega), ol_M, Int64.zero_sub, ol_mod, ← Int64.sub_eq_add_neg]
theorem go_and (x y : Nat) : Int64.ofNat (Nat.land x y) = Int64.ofNat x &&& Int64.ofNat y := by
  apply Int64.toBitVec_inj.mp
  show BitVec.ofNat 64 (x &&& y) = BitVec.ofNat 64 x &&& BitVec.ofNat 64 y
  exact BitVec.ofNat_and
theorem go_or (x y : Nat) : Int64.ofNat (Nat.lor x y) = Int64.ofNat x ||| Int64.ofNat y := by
  apply Int64.toBitVec_inj.mp
  show BitVec.ofNat 64 (x ||| y) = BitVec.ofNat 64 x ||| BitVec.ofNat 64 y
  exact BitVec.ofNat_or
theorem go_xor (x y : Nat) : Int64.ofNat (Nat.xor x y) = Int64.ofNat x ^^^ Int64.ofNat y := by
  apply Int64.toBitVec_inj.mp
  show BitVec.ofNat 64 (x ^^^ y) = BitVec.ofNat 64 x ^^^ BitVec.ofNat 64 y
  exact BitVec.ofNat_xor
theorem bmod64 (n : Nat) : ((n : Int).bmod Int64.size + 9223372036854775808).toNat = (n + 9223372036854775808) % 18446744073709551616 := by
  simp only [Int.bmod, Int64.size]
  split <;> omega
theorem go_lt (x y : Nat) : Int64.ofNat x < Int64.ofNat y ↔ (x + 9223372036854775808) % 18446744073709551616 < (y + 9223372036854775808) % 18446744073709551616 := by
  have h1 := Int64.le_toInt (Int64.ofNat x)
  have h2 := Int64.le_toInt (Int64.ofNat y)
  rw [Int64.lt_iff_toInt_lt, ← bmod64, ← bmod64, ← Int64.toInt_ofNat', ← Int64.toInt_ofNat']
  omega
theorem go_eq (x y : Nat) : Int64.ofNat x = Int64.ofNat y ↔ (x + 9223372036854775808) % 18446744073709551616 = (y + 9223372036854775808) % 18446744073709551616 := by
  have h1 := Int64.le_toInt (Int64.ofNat x)
  have h2 := Int64.le_toInt (Int64.ofNat y)
  rw [← Int64.toInt_inj, ← bmod64, ← bmod64, ← Int64.toInt_ofNat', ← Int64.toInt_ofNat']
  omega
theorem lcm_gt {a b : Nat} (h : Nat.blt b a = true) : fx_lcm a b = 1 := by unfold fx_lcm; rw [h]
theorem lcm_eq {a b : Nat} (h : Nat.blt b a = false) (h2 : Nat.beq a b = true) : fx_lcm a b = 0 := by unfold fx_lcm; rw [h, h2]
theorem lcm_le {a b : Nat} (h : Nat.blt b a = false) (h2 : Nat.beq a b = false) : fx_lcm a b = 4294967295 := by unfold fx_lcm; rw [h, h2]
theorem lcm_lt (x y : Nat) : fx_lcm x y < 4294967296 := by
  rcases Bool.eq_false_or_eq_true (Nat.blt y x) with h | h
  · rw [lcm_gt h]; decide
  · rcases Bool.eq_false_or_eq_true (Nat.beq x y) with h2 | h2
    · rw [lcm_eq h h2]; decide
    · rw [lcm_le h h2]; decide
theorem of_m1 : Int32.ofNat 4294967295 = -1 := by decide
theorem go_cmp (x y : Nat) : Int32.ofNat (fx_lcm ((x + 9223372036854775808) % 18446744073709551616) ((y + 9223372036854775808) % 18446744073709551616)) = lg_cmp (Int64.ofNat x) (Int64.ofNat y) := by
  have g1 := go_lt y x
  have g2 := go_eq x y
  generalize hX : (x + 9223372036854775808) % 18446744073709551616 = X at g1 g2 ⊢
  generalize hY : (y + 9223372036854775808) % 18446744073709551616 = Y at g1 g2 ⊢
  unfold lg_cmp
  by_cases h1 : Int64.ofNat x > Int64.ofNat y
  · rw [if_pos h1, lcm_gt (blt_iff.mpr (g1.mp h1))]
    decide
  · rw [if_neg h1]
    have h2 := blt_no.mpr (fun z => h1 (g1.mpr z))
    by_cases h3 : Int64.ofNat x = Int64.ofNat y
    · rw [if_pos h3, lcm_eq h2 (beq_iff.mpr (g2.mp h3))]
      decide
    · rw [if_neg h3, lcm_le h2 (beq_no.mpr (fun z => h3 (g2.mpr z)))]
      exact of_m1
theorem go_i2l {x : Nat} (hx : x < 4294967296) : Int64.ofNat (fx_ext x) = (Int32.ofNat x).toInt64 := by
  apply Int64.toInt_inj.mp
  rw [Int32.toInt_toInt64, Int64.toInt_ofNat', Int32.toInt_ofNat']
  unfold fx_ext
  by_cases h : x < 2147483648
  · rw [blt_iff.mpr h]
    show ((x : Int)).bmod Int64.size = _
    simp only [Int.bmod, Int64.size, Int32.size]
    split <;> split <;> omega
  · rw [blt_no.mpr h]
    show ((x + 18446744069414584320 : Nat) : Int).bmod Int64.size = _
    simp only [Int.bmod, Int64.size, Int32.size]
    split <;> split <;> omega
theorem go_l2i (x : Nat) : Int32.ofNat (x % 4294967296) = (Int64.ofNat x).toInt32 := by
  rw [of_mod, Int64.toInt32_ofNat']
theorem sh_and (y : Nat) : (Int32.ofNat y).toInt64 &&& 63 = Int64.ofNat (y % 64) := by
  apply Int64.toBitVec_inj.mp
  show (BitVec.signExtend 64 (BitVec.ofNat 32 y)) &&& 63#64 = BitVec.ofNat 64 (y % 64)
  apply BitVec.eq_of_getLsbD_eq
  intro i hi
  rw [BitVec.getLsbD_and, BitVec.getLsbD_signExtend, BitVec.getLsbD_ofNat, BitVec.getLsbD_ofNat, BitVec.getLsbD_ofNat]
  have e63 : (63 : Nat) = 2 ^ 6 - 1 := rfl
  have e64 : (64 : Nat) = 2 ^ 6 := rfl
  rw [e63, Nat.testBit_two_pow_sub_one, show y % 64 = y % 2 ^ 6 from rfl, Nat.testBit_mod_two_pow]
  by_cases h6 : i < 6
  · simp [h6, hi, show i < 32 by omega]
  · simp [h6]
theorem sh_smod : ∀ m : Fin 64, (BitVec.ofNat 64 m.val).smod 64#64 = BitVec.ofNat 64 m.val := by decide +kernel
theorem go_shl (x y : Nat) : Int64.ofNat (fx_gshl x y) = Int64.ofNat x <<< ((Int32.ofNat y).toInt64 &&& 63) := by
  show Int64.ofNat ((Nat.shiftLeft x (y % 64)) % 18446744073709551616) = _
  rw [ol_mod, sh_and]
  have hm := Nat.mod_lt y (show 0 < 64 by decide)
  apply Int64.toBitVec_inj.mp
  show BitVec.ofNat 64 (x <<< (y % 64)) = BitVec.ofNat 64 x <<< ((BitVec.ofNat 64 (y % 64)).smod 64#64)
  rw [sh_smod ⟨y % 64, hm⟩]
  apply BitVec.eq_of_toNat_eq
  simp only [BitVec.toNat_ofNat, BitVec.shiftLeft_eq', BitVec.toNat_shiftLeft]
  rw [Nat.mod_eq_of_lt (show y % 64 < 2 ^ 64 by omega), Nat.shiftLeft_eq, Nat.shiftLeft_eq, Nat.mod_mul_mod]
theorem ol_val (x : Nat) : (BitVec.ofNat 64 x).toNat = x % 18446744073709551616 := by simp
theorem go_ush (x y : Nat) : Int64.ofNat (fx_gush x y) = ((Int64.ofNat x).toUInt64 >>> ((Int32.ofNat y).toInt64.toUInt64 &&& Int64.toUInt64 63)).toInt64 := by
  have e : (Int32.ofNat y).toInt64.toUInt64 &&& Int64.toUInt64 63 = UInt64.ofNat (y % 64) := by
    have := congrArg Int64.toUInt64 (sh_and y)
    exact this
  rw [e]
  have hm := Nat.mod_lt y (show 0 < 64 by decide)
  apply Int64.toBitVec_inj.mp
  show BitVec.ofNat 64 (Nat.shiftRight (x % 18446744073709551616) (y % 64)) = BitVec.ofNat 64 x >>> (UInt64.mod (UInt64.ofNat (y % 64)) 64).toBitVec
  apply BitVec.eq_of_toNat_eq
  rw [BitVec.ushiftRight_eq', BitVec.toNat_ushiftRight, ol_val]
  have e2 : (UInt64.mod (UInt64.ofNat (y % 64)) 64).toBitVec.toNat = y % 64 := by
    show (UInt64.ofNat (y % 64) % 64).toNat = _
    rw [UInt64.toNat_mod, UInt64.toNat_ofNat']
    show y % 64 % 18446744073709551616 % 64 = _
    omega
  rw [e2, ol_val]
  show ((x % 18446744073709551616) >>> (y % 64)) % 18446744073709551616 = _
  rw [Nat.shiftRight_eq_div_pow]
  exact Nat.mod_eq_of_lt (Nat.lt_of_le_of_lt (Nat.div_le_self _ _) (Nat.mod_lt _ (by decide)))
theorem gshr_lo {x y : Nat} (h : Nat.blt (x % 18446744073709551616) 9223372036854775808 = true) : fx_gshr x y = (x % 18446744073709551616) >>> (y % 64) := by
  have e : Nat.blt (Nat.mod x 18446744073709551616) 9223372036854775808 = _ := h
  unfold fx_gshr
  rw [e]
  rfl
theorem gshr_hi {x y : Nat} (h : Nat.blt (x % 18446744073709551616) 9223372036854775808 = false) : fx_gshr x y = 18446744073709551615 - (18446744073709551615 - x % 18446744073709551616) >>> (y % 64) := by
  have e : Nat.blt (Nat.mod x 18446744073709551616) 9223372036854775808 = _ := h
  unfold fx_gshr
  rw [e]
  rfl
theorem go_shr (x y : Nat) : Int64.ofNat (fx_gshr x y) = Int64.ofNat x >>> ((Int32.ofNat y).toInt64 &&& 63) := by
  rw [sh_and]
  have hm := Nat.mod_lt y (show 0 < 64 by decide)
  have hx := Nat.mod_lt x (show 0 < 18446744073709551616 by decide)
  apply Int64.toBitVec_inj.mp
  show BitVec.ofNat 64 (fx_gshr x y) = BitVec.sshiftRight' (BitVec.ofNat 64 x) ((BitVec.ofNat 64 (y % 64)).smod 64#64)
  rw [sh_smod ⟨y % 64, hm⟩]
  apply BitVec.eq_of_toNat_eq
  have hmm : (BitVec.ofNat 64 (y % 64)).toNat = y % 64 := by rw [ol_val]; exact Nat.mod_eq_of_lt (by omega)
  have hmsb : (BitVec.ofNat 64 x).msb = decide (9223372036854775808 ≤ x % 18446744073709551616) := by
    rw [BitVec.msb_eq_decide, ol_val]
  have hsh : ∀ z : Nat, z < 18446744073709551616 → z >>> (y % 64) < 18446744073709551616 := fun z hz => by
    rw [Nat.shiftRight_eq_div_pow]
    exact Nat.lt_of_le_of_lt (Nat.div_le_self _ _) hz
  show _ = (BitVec.sshiftRight' (BitVec.ofNat 64 x) (BitVec.ofNat 64 (y % 64))).toNat
  by_cases h : x % 18446744073709551616 < 9223372036854775808
  · rw [BitVec.toNat_sshiftRight'_of_msb_false (by rw [hmsb]; exact decide_eq_false (by omega)), hmm, ol_val, ol_val, gshr_lo (blt_iff.mpr h)]
    exact Nat.mod_eq_of_lt (hsh _ hx)
  · rw [BitVec.toNat_sshiftRight'_of_msb_true (by rw [hmsb]; exact decide_eq_true (by omega)), hmm, ol_val, ol_val, gshr_hi (blt_no.mpr h)]
    exact Nat.mod_eq_of_lt (Nat.lt_of_le_of_lt (Nat.sub_le _ _) (by decide))
theorem fo_ti {x : Nat} (hx : x < 4294967296) : fx_ti x = (Int32.ofNat x).toInt := by
  rw [Int32.toInt_ofNat']
  unfold fx_ti
  simp only [Int.bmod, Int32.size]
  by_cases h : x < 2147483648
  · rw [blt_iff.mpr h]
    show (x : Int) = _
    split <;> omega
  · rw [blt_no.mpr h]
    show Int.negSucc (4294967295 - x) = _
    rw [Int.negSucc_eq]
    split <;> omega
/-- an index -/
theorem fo_ix {v n : Nat} (h1 : v < n) (h2 : v < 2147483648) : ev_ix (Int32.ofNat v) n = true ∧ (Int32.ofNat v).toNatClampNeg = v := by
  have e : (Int32.ofNat v).toNatClampNeg = v := Int32.toNatClampNeg_ofNat_of_lt h2
  refine ⟨?_, e⟩
  unfold ev_ix
  rw [e]
  have h0 : ¬ Int32.ofNat v < 0 := by
    rw [Int32.lt_iff_toInt_lt, Int32.toInt_ofNat_of_lt h2]
    simp
  simp [h0, h1]
theorem fo_int {n : Int} (h : (fx_in n + 128) % 4294967296 < 256) : Int32.ofNat (fx_in n) = (Int8.ofInt n).toInt32 := by
  have e := in_val n
  apply Int32.toInt_inj.mp
  rw [Int8.toInt_toInt32, Int8.toInt_ofInt, Int32.toInt_ofNat']
  simp only [Int.bmod, Int8.size, Int32.size]
  split <;> split <;> omega
theorem fo_ins {n : Int} (h : (fx_in n + 32768) % 4294967296 < 65536) : Int32.ofNat (fx_in n) = (Int16.ofInt n).toInt32 := by
  have e := in_val n
  apply Int32.toInt_inj.mp
  rw [Int16.toInt_toInt32, Int16.toInt_ofInt, Int32.toInt_ofNat']
  simp only [Int.bmod, Int16.size, Int32.size]
  split <;> split <;> omega
