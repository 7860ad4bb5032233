/-! What the executor's numbers say. -/
def fd_i (ρ : Nat → Int32) (x : Nat) : Int32 := if x < 4294967296 then Int32.ofNat x else if x < 8589934592 then ρ (x - 4294967296) else -1 - ρ (x - 8589934592)
def fd_v (ρ : Nat → Int32) (v : fx_V) : Value := if v.1 = 0 then .int (fd_i ρ v.2) else if v.1 = 1 then .long (Int64.ofNat v.2) else if v.1 = 2 then .ref v.2 else .null
def fd_s (ρ : Nat → Int32) (st : List fx_V) : List Value := st.map (fd_v ρ)
def fd_lo (ρ : Nat → Int32) (v : fx_V) : Option Value := if v.1 < 4 then some (fd_v ρ v) else none
def fd_l (ρ : Nat → Int32) (ls : List fx_V) : ev_L := ls.map (fd_lo ρ)
def fd_q (n : Nat) : Option Nat := match n with
  | 0 => none
  | q + 1 => some q
noncomputable def fd_fi (ρ : Nat → Int32) (n e : Nat) (t : fx_A) : Nat → Int32 := fun j => if j < n then fd_i ρ (fx_gt e t j) else 0
noncomputable def fd_fl (n e : Nat) (t : fx_A) : Nat → Int64 := fun j => if j < n then Int64.ofNat (fx_gt e t j) else 0
noncomputable def fd_fq (n e : Nat) (t : fx_A) : Nat → Option Nat := fun j => if j < n then fd_q (fx_gt e t j) else none
noncomputable def fd_c (ρ : Nat → Int32) (c : fx_C) : ev_C := if c.1 = 0 ∨ c.1 = 2 then .inl (c.1, c.2.1, .inl (fd_fi ρ c.2.1 c.2.2.1 c.2.2.2.1)) else if c.1 = 1 then .inl (1, c.2.1, .inr (.inl (fd_fl c.2.1 c.2.2.1 c.2.2.2.1))) else if c.1 = 3 ∨ c.1 = 4 then .inl (c.1, c.2.1, .inr (.inr (.inr (.inr (fd_fq c.2.1 c.2.2.1 c.2.2.2.1))))) else .inr (c.2.1, fd_s ρ c.2.2.2.2)
noncomputable def fd_h (ρ : Nat → Int32) (h : fx_H) : ev_H := ((List.range h.2.1).map (fun a => fd_c ρ (fx_hv 7 h.1 a)), h.2.1, h.2.2.1)
def fd_o (ρ : Nat → Int32) (o : fx_O) : ev_O := match o.1 with
  | 0 => .inl none
  | 1 => .inl (some (fd_v ρ o.2))
  | _ => .inr o.2.2
def fd_b (x : Int32) : Nat := (x.toInt + 2147483648).toNat
def fd_k (ρ : Nat → Int32) (r : fx_R) : Prop := ∀ j : Nat, (fx_ri r j).1 ≤ fd_b (ρ j) ∧ fd_b (ρ j) ≤ (fx_ri r j).2
def fd_w (h : fx_H) (r : fx_R) : fx_H := (h.1, h.2.1, h.2.2.1, r)
theorem fd_wh (ρ : Nat → Int32) (h : fx_H) (r : fx_R) : fd_h ρ (fd_w h r) = fd_h ρ h := rfl
/-! ints -/
theorem fd_b_lt (x : Int32) : fd_b x < 4294967296 := by
  have h1 := Int32.toInt_lt x
  have h2 := Int32.le_toInt x
  unfold fd_b
  omega
theorem fd_b_ord (x y : Int32) : fd_b x < fd_b y ↔ x < y := by
  have h1 := Int32.le_toInt x
  have h2 := Int32.le_toInt y
  rw [Int32.lt_iff_toInt_lt]
  unfold fd_b
  omega
theorem fd_b_eq {x y : Int32} (h : fd_b x = fd_b y) : x = y := by
  have h1 := Int32.le_toInt x
  have h2 := Int32.le_toInt y
  apply Int32.toInt_inj.mp
  unfold fd_b at h
  omega
theorem fd_b_of {x : Nat} (h : x < 4294967296) : fd_b (Int32.ofNat x) = (x + 2147483648) % 4294967296 := by
  unfold fd_b
  rw [Int32.toInt_ofNat']
  simp only [Int.bmod, Int32.size]
  split <;> omega
theorem fd_b_neg (x : Int32) : fd_b (-1 - x) = 4294967295 - fd_b x := by
  have h1 := Int32.toInt_lt x
  have h2 := Int32.le_toInt x
  unfold fd_b
  rw [Int32.toInt_sub]
  have e : (-1 : Int32).toInt = -1 := by decide
  rw [e]
  simp only [Int.bmod]
  split <;> omega
theorem fd_b_un {u : Nat} {y : Int32} (h : fd_b y = u) : Int32.ofNat ((u + 2147483648) % 4294967296) = y := by
  have h1 := Int32.toInt_lt y
  have h2 := Int32.le_toInt y
  apply Int32.toInt_inj.mp
  rw [Int32.toInt_ofNat']
  unfold fd_b at h
  simp only [Int.bmod, Int32.size]
  split <;> omega
theorem fd_i_lt (ρ : Nat → Int32) {x : Nat} (h : x < 4294967296) : fd_i ρ x = Int32.ofNat x := by simp [fd_i, h]
theorem fd_of_inj {x y : Nat} (hx : x < 4294967296) (hy : y < 4294967296) (h : Int32.ofNat x = Int32.ofNat y) : x = y := by
  have h1 := fd_b_of hx
  have h2 := fd_b_of hy
  rw [h, h2] at h1
  omega
/-! passing on -/
theorem fr_eq (n : Nat) (k : Nat → Bool) : fx_fr n k = k n := by cases n <;> rfl
theorem if_t {b x : Bool} (h : fx_if b x false = true) : b = true ∧ x = true := by cases b with
  | true => exact ⟨rfl, h⟩
  | false => cases h
theorem if_or {b x y : Bool} (h : fx_if b x y = true) : (b = true ∧ x = true) ∨ (b = false ∧ y = true) := by cases b with
  | true => exact Or.inl ⟨rfl, h⟩
  | false => exact Or.inr ⟨rfl, h⟩
theorem nt_eq (b : Bool) : fx_nt b = !b := by cases b <;> rfl
theorem blt_iff {a b : Nat} : Nat.blt a b = true ↔ a < b := by simp [Nat.blt_eq]
theorem bno {b : Bool} : b = false ↔ ¬ b = true := by cases b <;> decide
theorem blt_no {a b : Nat} : Nat.blt a b = false ↔ ¬ a < b := bno.trans (not_congr blt_iff)
theorem ble_iff {a b : Nat} : Nat.ble a b = true ↔ a ≤ b := Iff.of_eq Nat.ble_eq
theorem ble_no {a b : Nat} : Nat.ble a b = false ↔ ¬ a ≤ b := bno.trans (not_congr ble_iff)
theorem beq_iff {a b : Nat} : Nat.beq a b = true ↔ a = b := Iff.of_eq Nat.beq_eq
theorem beq_no {a b : Nat} : Nat.beq a b = false ↔ ¬ a = b := bno.trans (not_congr beq_iff)
theorem li_eq (l : List fx_V) : ∀ i, fx_li l i = l.getD i (9, 0) := by
  induction l with
  | nil => intro i; rfl
  | cons x t ih => intro i; cases i with
    | zero => rfl
    | succ j => exact ih j
theorem ls_ok : ∀ {l : List fx_V} {i : Nat} {v : fx_V} {k : List fx_V → Bool}, fx_ls l i v k = true → i < l.length ∧ k (l.set i v) = true := by
  intro l
  induction l with
  | nil => intro i v k h; cases h
  | cons x t ih =>
    intro i v k h
    cases i with
    | zero => exact ⟨Nat.succ_pos _, h⟩
    | succ j =>
      obtain ⟨h1, h2⟩ := ih (k := fun t' => k (x :: t')) h
      exact ⟨Nat.succ_lt_succ h1, h2⟩
theorem rs_ok : ∀ {l : fx_R} {i : Nat} {v : Nat × Nat} {k : fx_R → Bool}, fx_rs l i v k = true → ∃ l', k l' = true ∧ ∀ j, fx_ri l' j = if j = i then v else fx_ri l j := by
  intro l
  induction l with
  | nil => intro i v k h; cases h
  | cons x t ih =>
    intro i v k h
    cases i with
    | zero => exact ⟨v :: t, h, fun j => by cases j with
      | zero => rfl
      | succ j => rfl⟩
    | succ i =>
      obtain ⟨l', h1, h2⟩ := ih (k := fun t' => k (x :: t')) h
      refine ⟨x :: l', h1, fun j => ?_⟩
      cases j with
      | zero => rfl
      | succ j =>
        show fx_ri l' j = _
        rw [h2]
        by_cases hj : j = i
        · simp [hj]
        · rw [if_neg hj, if_neg (by omega)]; rfl
theorem hr_ok {ρ : Nat → Int32} {h : fx_H} {i lo hi : Nat} {k : fx_H → Bool} (he : fx_hr h i lo hi k = true) (hk : fd_k ρ h.2.2.2) (h1 : lo ≤ fd_b (ρ i)) (h2 : fd_b (ρ i) ≤ hi) : ∃ r, fd_k ρ r ∧ k (fd_w h r) = true := by
  obtain ⟨r, a1, a2⟩ := rs_ok (l := h.2.2.2) (k := fun r => k (fd_w h r)) he
  refine ⟨r, fun j => ?_, a1⟩
  rw [a2]
  by_cases hj : j = i
  · rw [if_pos hj, hj]; exact ⟨h1, h2⟩
  · rw [if_neg hj]; exact hk j
theorem cut_ok {ρ : Nat → Int32} {j u : Nat} {h : fx_H} {k : Bool → fx_H → Bool} (he : fx_cut j u h k = true) (hk : fd_k ρ h.2.2.2) : ∃ r, fd_k ρ r ∧ k (decide (fd_b (ρ j) < u)) (fd_w h r) = true := by
  obtain ⟨g1, g2⟩ := hk j
  have he : fx_if (Nat.blt (fx_ri h.2.2.2 j).2 u) (k true h) (fx_if (Nat.ble u (fx_ri h.2.2.2 j).1) (k false h) (fx_if (fx_fr (Nat.pred u) (fun v => fx_hr h j (fx_ri h.2.2.2 j).1 v (k true))) (fx_hr h j u (fx_ri h.2.2.2 j).2 (k false)) false)) = true := he
  rcases if_or he with ⟨a, b⟩ | ⟨a, b⟩
  · rw [blt_iff] at a
    exact ⟨h.2.2.2, hk, by rw [decide_eq_true (by omega)]; exact b⟩
  · rw [blt_no] at a
    rcases if_or b with ⟨a2, b2⟩ | ⟨a2, b2⟩
    · rw [ble_iff] at a2
      exact ⟨h.2.2.2, hk, by rw [decide_eq_false (by omega)]; exact b2⟩
    · rw [ble_no] at a2
      obtain ⟨c1, c2⟩ := if_t b2
      rw [fr_eq] at c1
      by_cases hu : fd_b (ρ j) < u
      · rw [decide_eq_true hu]
        exact hr_ok c1 hk g1 (by show _ ≤ u - 1; omega)
      · rw [decide_eq_false hu]
        exact hr_ok c2 hk (by omega) g2
theorem cu_ok {ρ : Nat → Int32} {x u : Nat} {h : fx_H} {k : Bool → fx_H → Bool} (hx : ¬ x < 4294967296) (hu : u ≤ 4294967296) (he : fx_cu x u h k = true) (hk : fd_k ρ h.2.2.2) : ∃ r, fd_k ρ r ∧ k (decide (fd_b (fd_i ρ x) < u)) (fd_w h r) = true := by
  unfold fx_cu at he
  rcases if_or he with ⟨a, b⟩ | ⟨a, b⟩
  · rw [blt_iff] at a
    rw [fr_eq] at b
    have e : fd_i ρ x = ρ (x - 4294967296) := by simp [fd_i, hx, a]
    rw [e]
    exact cut_ok b hk
  · rw [blt_no] at a
    rw [fr_eq, fr_eq] at b
    have e : fd_i ρ x = -1 - ρ (x - 8589934592) := by simp [fd_i, hx, a]
    obtain ⟨r, c1, c2⟩ := cut_ok b hk
    refine ⟨r, c1, ?_⟩
    rw [e, fd_b_neg]
    rw [nt_eq, ← decide_not] at c2
    have hb := fd_b_lt (ρ (x - 8589934592))
    have q : (decide (¬ fd_b (ρ (Nat.sub x 8589934592)) < Nat.sub 4294967296 u)) = decide (4294967295 - fd_b (ρ (x - 8589934592)) < u) := by
      apply decide_eq_decide.mpr
      show ¬ fd_b (ρ (x - 8589934592)) < 4294967296 - u ↔ _
      omega
    rw [q] at c2
    exact c2
theorem bi_eq (x : Nat) (k : Nat → Bool) : fx_bi x k = k ((x + 2147483648) % 4294967296) := fr_eq _ _
theorem lts_ok {ρ : Nat → Int32} {x y : Nat} {h : fx_H} {k : Bool → fx_H → Bool} (he : fx_lts x y h k = true) (hk : fd_k ρ h.2.2.2) : ∃ r, fd_k ρ r ∧ k (decide (fd_i ρ x < fd_i ρ y)) (fd_w h r) = true := by
  unfold fx_lts at he
  rcases if_or he with ⟨a, b⟩ | ⟨a, b⟩
  · rw [blt_iff] at a
    have ex := fd_i_lt ρ a
    have bx := fd_b_of a
    rcases if_or b with ⟨a2, b2⟩ | ⟨a2, b2⟩
    · rw [blt_iff] at a2
      rw [bi_eq, bi_eq] at b2
      refine ⟨h.2.2.2, hk, ?_⟩
      have q : Nat.blt ((x + 2147483648) % 4294967296) ((y + 2147483648) % 4294967296) = decide (fd_i ρ x < fd_i ρ y) := by
        rw [Bool.eq_iff_iff, blt_iff, decide_eq_true_iff, ← fd_b_ord, ex, fd_i_lt ρ a2, bx, fd_b_of a2]
      rw [q] at b2
      exact b2
    · rw [blt_no] at a2
      rw [bi_eq] at b2
      obtain ⟨r, c1, c2⟩ := cu_ok (ρ := ρ) a2 (by have := Nat.mod_lt (x + 2147483648) (show 0 < 4294967296 by decide); omega) b2 hk
      refine ⟨r, c1, ?_⟩
      rw [nt_eq, ← decide_not] at c2
      have q : decide (¬ fd_b (fd_i ρ y) < Nat.succ ((x + 2147483648) % 4294967296)) = decide (fd_i ρ x < fd_i ρ y) := by
        apply decide_eq_decide.mpr
        rw [← fd_b_ord, ex, bx]
        omega
      rw [q] at c2
      exact c2
  · rw [blt_no] at a
    obtain ⟨a2, b2⟩ := if_t b
    rw [blt_iff] at a2
    rw [bi_eq] at b2
    obtain ⟨r, c1, c2⟩ := cu_ok (ρ := ρ) a (by have := Nat.mod_lt (y + 2147483648) (show 0 < 4294967296 by decide); omega) b2 hk
    refine ⟨r, c1, ?_⟩
    have q : decide (fd_b (fd_i ρ x) < (y + 2147483648) % 4294967296) = decide (fd_i ρ x < fd_i ρ y) := by
      apply decide_eq_decide.mpr
      rw [← fd_b_ord, fd_i_lt ρ a2, fd_b_of a2]
    rw [q] at c2
    exact c2
theorem lor_lt {x y n : Nat} (h : Nat.lor x y < 2 ^ n) : x < 2 ^ n ∧ y < 2 ^ n := by
  have h1 : x ≤ x ||| y := Nat.left_le_or
  have h2 : y ≤ x ||| y := Nat.right_le_or
  have h3 : x ||| y < 2 ^ n := h
  omega
theorem lt_ok {ρ : Nat → Int32} {x y : Nat} {h : fx_H} {k : Bool → fx_H → Bool} (he : fx_lt x y h k = true) (hk : fd_k ρ h.2.2.2) : ∃ r, fd_k ρ r ∧ k (decide (fd_i ρ x < fd_i ρ y)) (fd_w h r) = true := by
  unfold fx_lt at he
  rcases if_or he with ⟨a, b⟩ | ⟨a, b⟩
  · rw [blt_iff] at a
    obtain ⟨a1, a2⟩ := lor_lt (n := 31) a
    have h1 : x < 4294967296 := by omega
    have h2 : y < 4294967296 := by omega
    refine ⟨h.2.2.2, hk, ?_⟩
    have q : Nat.blt x y = decide (fd_i ρ x < fd_i ρ y) := by
      rw [Bool.eq_iff_iff, blt_iff, decide_eq_true_iff, ← fd_b_ord, fd_i_lt ρ h1, fd_i_lt ρ h2, fd_b_of h1, fd_b_of h2]
      omega
    rw [q] at b
    exact b
  · exact lts_ok b hk
theorem eq1_ok {ρ : Nat → Int32} {x y : Nat} {h : fx_H} {k : Bool → fx_H → Bool} (hx : ¬ x < 4294967296) (hy : y < 4294967296) (he : fx_eq1 x y h k = true) (hk : fd_k ρ h.2.2.2) : ∃ r, fd_k ρ r ∧ k (decide (fd_i ρ x = fd_i ρ y)) (fd_w h r) = true := by
  unfold fx_eq1 at he
  rw [bi_eq] at he
  have hm := Nat.mod_lt (y + 2147483648) (show 0 < 4294967296 by decide)
  have by' := fd_b_of hy
  obtain ⟨r, c1, c2⟩ := cu_ok (ρ := ρ) hx (by omega) he hk
  rcases if_or c2 with ⟨a, b⟩ | ⟨a, b⟩
  · have a := of_decide_eq_true a
    refine ⟨r, c1, ?_⟩
    rw [decide_eq_false (fun e => by rw [e, fd_i_lt ρ hy, by'] at a; omega)]
    exact b
  · have a := of_decide_eq_false a
    obtain ⟨r2, d1, d2⟩ := cu_ok (ρ := ρ) hx (by omega) b c1
    refine ⟨r2, d1, ?_⟩
    have q : decide (fd_b (fd_i ρ x) < Nat.succ ((y + 2147483648) % 4294967296)) = decide (fd_i ρ x = fd_i ρ y) := by
      apply decide_eq_decide.mpr
      constructor
      · intro z
        apply fd_b_eq
        rw [fd_i_lt ρ hy, by']
        omega
      · intro z
        rw [z, fd_i_lt ρ hy, by']
        omega
    rw [q] at d2
    exact d2
theorem eq_ok {ρ : Nat → Int32} {x y : Nat} {h : fx_H} {k : Bool → fx_H → Bool} (he : fx_eq x y h k = true) (hk : fd_k ρ h.2.2.2) : ∃ r, fd_k ρ r ∧ k (decide (fd_i ρ x = fd_i ρ y)) (fd_w h r) = true := by
  unfold fx_eq at he
  rcases if_or he with ⟨a, b⟩ | ⟨a, b⟩
  · rw [blt_iff] at a
    obtain ⟨a1, a2⟩ := lor_lt (n := 32) a
    refine ⟨h.2.2.2, hk, ?_⟩
    have q : Nat.beq x y = decide (fd_i ρ x = fd_i ρ y) := by
      rw [Bool.eq_iff_iff, beq_iff, decide_eq_true_iff, fd_i_lt ρ a1, fd_i_lt ρ a2]
      exact ⟨fun e => by rw [e], fd_of_inj a1 a2⟩
    rw [q] at b
    exact b
  · unfold fx_eqs at b
    rw [blt_no] at a
    rcases if_or b with ⟨a2, b2⟩ | ⟨a2, b2⟩
    · rw [blt_iff] at a2
      have hy : ¬ y < 4294967296 := fun hy => a (Nat.or_lt_two_pow (n := 32) a2 hy)
      obtain ⟨r, c1, c2⟩ := eq1_ok (ρ := ρ) hy a2 b2 hk
      refine ⟨r, c1, ?_⟩
      rw [show decide (fd_i ρ x = fd_i ρ y) = decide (fd_i ρ y = fd_i ρ x) from decide_eq_decide.mpr ⟨Eq.symm, Eq.symm⟩]
      exact c2
    · rw [blt_no] at a2
      obtain ⟨a3, b3⟩ := if_t b2
      rw [blt_iff] at a3
      exact eq1_ok a2 a3 b3 hk
theorem cb_ok {ρ : Nat → Int32} {c : ClassFile.Cond} {x y : Nat} {h : fx_H} {k : Bool → fx_H → Bool} (he : fx_cb c x y h k = true) (hk : fd_k ρ h.2.2.2) : ∃ r, fd_k ρ r ∧ k (ev_cb c (fd_i ρ x) (fd_i ρ y)) (fd_w h r) = true := by
  cases c with
  | eq => exact eq_ok (k := k) he hk
  | ne =>
    obtain ⟨r, c1, c2⟩ := eq_ok (ρ := ρ) (k := fun b h => k (fx_nt b) h) he hk
    refine ⟨r, c1, ?_⟩
    rw [nt_eq, ← decide_not] at c2
    exact c2
  | lt => exact lt_ok (k := k) he hk
  | ge =>
    obtain ⟨r, c1, c2⟩ := lt_ok (ρ := ρ) (k := fun b h => k (fx_nt b) h) he hk
    refine ⟨r, c1, ?_⟩
    rw [nt_eq, ← decide_not] at c2
    rw [show ev_cb .ge (fd_i ρ x) (fd_i ρ y) = decide (¬ fd_i ρ x < fd_i ρ y) from decide_eq_decide.mpr (by rw [← fd_b_ord]; rw [Int32.le_iff_toInt_le, Int32.le_iff_toInt_le.symm, ← Int32.not_lt, ← fd_b_ord])]
    exact c2
  | gt => exact lt_ok (k := k) he hk
  | le =>
    obtain ⟨r, c1, c2⟩ := lt_ok (ρ := ρ) (k := fun b h => k (fx_nt b) h) he hk
    refine ⟨r, c1, ?_⟩
    rw [nt_eq, ← decide_not] at c2
    rw [show ev_cb .le (fd_i ρ x) (fd_i ρ y) = decide (¬ fd_i ρ y < fd_i ρ x) from decide_eq_decide.mpr (by rw [← Int32.not_lt])]
    exact c2
theorem rz_ok {ρ : Nat → Int32} {j : Nat} {h : fx_H} {k : Nat → fx_H → Bool} (he : fx_rz j h k = true) (hk : fd_k ρ h.2.2.2) : ∃ r, fd_k ρ r ∧ k (fd_b (ρ j)) (fd_w h r) = true := by
  obtain ⟨g1, g2⟩ := hk j
  have he : fx_if (Nat.ble (fx_ri h.2.2.2 j).1 (fx_ri h.2.2.2 j).2) (fx_fr (Nat.sub (fx_ri h.2.2.2 j).2 (fx_ri h.2.2.2 j).1) (fun n => fx_if (Nat.ble n 64) (fx_all n (fx_ri h.2.2.2 j).1 j h k) false)) false = true := he
  obtain ⟨a, b⟩ := if_t he
  rw [fr_eq] at b
  obtain ⟨-, c⟩ := if_t b
  have key : ∀ (n lo : Nat), fx_all n lo j h k = true → lo ≤ fd_b (ρ j) → fd_b (ρ j) ≤ lo + n → ∃ r, fd_k ρ r ∧ k (fd_b (ρ j)) (fd_w h r) = true := by
    intro n lo
    induction n with
    | zero =>
      intro z h1 h2
      have e : fd_b (ρ j) = lo := by omega
      have z : fx_hr h j lo lo (k lo) = true := z
      rw [← e] at z
      exact hr_ok z hk (Nat.le_refl _) (Nat.le_refl _)
    | succ m ih =>
      intro z h1 h2
      have z : fx_if (fx_all m lo j h k) (fx_fr (Nat.add lo (Nat.succ m)) (fun u => fx_hr h j u u (k u))) false = true := z
      obtain ⟨z1, z2⟩ := if_t z
      rw [fr_eq] at z2
      by_cases hm : fd_b (ρ j) ≤ lo + m
      · exact ih z1 h1 hm
      · have e : fd_b (ρ j) = Nat.add lo (Nat.succ m) := by show _ = lo + (m + 1); omega
        rw [← e] at z2
        exact hr_ok z2 hk (Nat.le_refl _) (Nat.le_refl _)
  exact key _ _ c g1 (by rw [ble_iff] at a; show _ ≤ _ + ((fx_ri h.2.2.2 j).2 - (fx_ri h.2.2.2 j).1); omega)
theorem kn_ok {ρ : Nat → Int32} {x : Nat} {h : fx_H} {k : Nat → fx_H → Bool} (he : fx_kn x h k = true) (hk : fd_k ρ h.2.2.2) : ∃ v r, v < 4294967296 ∧ fd_i ρ x = Int32.ofNat v ∧ fd_k ρ r ∧ k v (fd_w h r) = true := by
  unfold fx_kn at he
  rcases if_or he with ⟨a, b⟩ | ⟨a, b⟩
  · rw [blt_iff] at a
    exact ⟨x, h.2.2.2, a, fd_i_lt ρ a, hk, b⟩
  · rw [blt_no] at a
    unfold fx_kns at b
    have hm : ∀ z : Nat, z % 4294967296 < 4294967296 := fun z => Nat.mod_lt _ (by decide)
    rcases if_or b with ⟨a2, b2⟩ | ⟨a2, b2⟩
    · rw [blt_iff] at a2
      rw [fr_eq] at b2
      obtain ⟨r, c1, c2⟩ := rz_ok (ρ := ρ) b2 hk
      rw [bi_eq] at c2
      refine ⟨_, r, hm _, ?_, c1, c2⟩
      rw [show fd_i ρ x = ρ (x - 4294967296) by simp [fd_i, a, a2]]
      exact (fd_b_un rfl).symm
    · rw [blt_no] at a2
      rw [fr_eq] at b2
      obtain ⟨r, c1, c2⟩ := rz_ok (ρ := ρ) b2 hk
      rw [bi_eq] at c2
      refine ⟨_, r, hm _, ?_, c1, c2⟩
      rw [show fd_i ρ x = -1 - ρ (x - 8589934592) by simp [fd_i, a, a2]]
      exact (fd_b_un (fd_b_neg _)).symm
