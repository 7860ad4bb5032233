/-! Versions in a tree: lines, last common ones. -/
def rP (H : dH) (p : Int → Int) : Prop := (hF H 0 = -1 ∧ hO H 0 = 0) ∧ (∀ v, 0 ≤ v → v < hN H → hG H v = -1) ∧ ∀ v, 1 ≤ v → v < hN H → hF H v = p v ∧ (0 ≤ p v ∧ p v < v) ∧ hO H v = hO H (p v) ||| 2 ^ (p v).toNat
section RH
variable {H : dH} {p : Int → Int} {v o i : Int}
theorem ln_e (hv : 0 ≤ v ∧ v < hN H) : lin H v = hO H v ||| 2 ^ v.toNat := if_pos hv
theorem ln_p (hP : rP H p) (hv : 1 ≤ v ∧ v < hN H) : hO H v = lin H (p v) := by
  have h1 := hP.2.2 v hv.1 hv.2
  rw [ln_e ⟨h1.2.1.1, by omega⟩]
  exact h1.2.2
theorem ln_b (hv : 0 ≤ v ∧ v < hN H) (j : Nat) : (lin H v).testBit j = ((hO H v).testBit j || decide (v.toNat = j)) := by
  rw [ln_e hv, Nat.testBit_or, Nat.testBit_two_pow]
theorem ln_le (hP : rP H p) : ∀ (n : Nat) (v : Int), v < n → 0 ≤ v → v < hN H → ∀ j : Nat, (lin H v).testBit j = true → (j : Int) ≤ v := by
  intro n
  induction n with
  | zero => intro v h1 h2; omega
  | succ n ih =>
    intro v h1 h2 h3 j hj
    rw [ln_b ⟨h2, h3⟩, Bool.or_eq_true, decide_eq_true_eq] at hj
    rcases hj with hj | hj
    · by_cases z : v = 0
      · rw [z, hP.1.2, Nat.zero_testBit] at hj
        cases hj
      · have h4 := hP.2.2 v (by omega) h3
        rw [ln_p hP ⟨by omega, h3⟩] at hj
        have := ih (p v) (by omega) h4.2.1.1 (by omega) j hj
        omega
    · omega
theorem ho_lt (hP : rP H p) (hv : 0 ≤ v ∧ v < hN H) (j : Nat) (hj : (hO H v).testBit j = true) : (j : Int) < v := by
  by_cases z : v = 0
  · rw [z, hP.1.2, Nat.zero_testBit] at hj
    cases hj
  · have h4 := hP.2.2 v (by omega) hv.2
    rw [ln_p hP ⟨by omega, hv.2⟩] at hj
    have := ln_le hP (p v + 1).toNat (p v) (by omega) h4.2.1.1 (by omega) j hj
    omega
/-- what is common is a line -/
theorem ln_m (hP : rP H p) : ∀ (n : Nat) (v o : Int), v + o < n → 0 ≤ v → v < hN H → 0 ≤ o → o < hN H → ∃ m, (0 ≤ m ∧ m < hN H) ∧ lin H v &&& lin H o = lin H m := by
  have step : ∀ v o : Int, 0 ≤ v → v < o → o < hN H → lin H v &&& lin H o = lin H v &&& lin H (p o) := fun v o h1 h2 h3 => by
    have h4 := hP.2.2 o (by omega) h3
    apply Nat.eq_of_testBit_eq
    intro j
    rw [Nat.testBit_and, Nat.testBit_and, ln_b ⟨by omega, h3⟩, ln_p hP ⟨by omega, h3⟩]
    cases e : (lin H v).testBit j with
    | true =>
      have := ln_le hP (v + 1).toNat v (by omega) h1 (by omega) j e
      rw [decide_eq_false (by omega), Bool.or_false]
    | false => rfl
  intro n
  induction n with
  | zero => intro v o h1 h2 _ h3; omega
  | succ n ih =>
    intro v o h1 h2 h3 h4 h5
    by_cases e : v = o
    · exact ⟨v, ⟨h2, h3⟩, by rw [e, Nat.and_self]⟩
    · by_cases e2 : v < o
      · have h6 := hP.2.2 o (by omega) h5
        obtain ⟨m, m1, m2⟩ := ih v (p o) (by omega) h2 h3 h6.2.1.1 (by omega)
        exact ⟨m, m1, by rw [step v o h2 e2 h5]; exact m2⟩
      · have h6 := hP.2.2 v (by omega) h3
        obtain ⟨m, m1, m2⟩ := ih (p v) o (by omega) h6.2.1.1 (by omega) h4 h5
        refine ⟨m, m1, ?_⟩
        rw [Nat.and_comm, step o v h4 (by omega) h3, Nat.and_comm]
        exact m2
/-- what comes from another has its line -/
theorem ln_s (hP : rP H p) : ∀ (n : Nat) (v o : Int), o < n → 0 ≤ v → v < hN H → 0 ≤ o → o < hN H → (v = o ∨ (hO H o).testBit v.toNat = true) → lin H v &&& lin H o = lin H v := by
  intro n
  induction n with
  | zero => intro v o h1 _ _ h3; omega
  | succ n ih =>
    intro v o h1 h2 h3 h4 h5 h
    by_cases e : v = o
    · rw [e, Nat.and_self]
    · have h' : (hO H o).testBit v.toNat = true := by
        rcases h with h | h
        · exact absurd h e
        · exact h
      have h0 := ho_lt hP ⟨h4, h5⟩ _ h'
      have h6 := hP.2.2 o (by omega) h5
      rw [ln_p hP ⟨by omega, h5⟩, ln_b ⟨h6.2.1.1, by omega⟩, Bool.or_eq_true, decide_eq_true_eq] at h'
      have h7 := ih v (p o) (by omega) h2 h3 h6.2.1.1 (by omega) (by
        rcases h' with h' | h'
        · exact Or.inr h'
        · exact Or.inl (by omega))
      apply Nat.eq_of_testBit_eq
      intro j
      have h8 : ((lin H v).testBit j && (lin H (p o)).testBit j) = (lin H v).testBit j := by rw [← Nat.testBit_and, h7]
      rw [Nat.testBit_and, ln_b ⟨h4, h5⟩, ln_p hP ⟨by omega, h5⟩]
      revert h8
      cases (lin H v).testBit j <;> cases (lin H (p o)).testBit j <;> cases decide (o.toNat = j) <;> decide
theorem lc_b {c : Nat} (i j : Nat) : (lcF H c i).testBit j = (c.testBit j && decide (∀ i', i' < i → c.testBit i' = true → (hO H i').testBit j = false)) := by
  induction i with
  | zero =>
    show c.testBit j = _
    rw [decide_eq_true (fun i' h => absurd h (by omega)), Bool.and_true]
  | succ i ih =>
    cases e : c.testBit i with
    | true =>
      rw [lcF_t e, Nat.testBit_xor, Nat.testBit_and, ih]
      cases e2 : (hO H i).testBit j with
      | true =>
        rw [decide_eq_false (p := ∀ i', i' < i + 1 → c.testBit i' = true → (hO H i').testBit j = false) (fun q => by have := q i (by omega) e; rw [e2] at this; cases this)]
        cases (c.testBit j && decide (∀ i', i' < i → c.testBit i' = true → (hO H i').testBit j = false)) <;> cases c.testBit j <;> decide
      | false =>
        rw [decide_eq_decide.mpr (show (∀ i', i' < i + 1 → c.testBit i' = true → (hO H i').testBit j = false) ↔ (∀ i', i' < i → c.testBit i' = true → (hO H i').testBit j = false) from ⟨fun q i' a b => q i' (by omega) b, fun q i' a b => by
          by_cases z : i' = i
          · rw [z]; exact e2
          · exact q i' (by omega) b⟩)]
        cases (c.testBit j && decide (∀ i', i' < i → c.testBit i' = true → (hO H i').testBit j = false)) <;> decide
    | false =>
      rw [lcF_f e, ih, decide_eq_decide.mpr (show (∀ i', i' < i + 1 → c.testBit i' = true → (hO H i').testBit j = false) ↔ (∀ i', i' < i → c.testBit i' = true → (hO H i').testBit j = false) from ⟨fun q i' a b => q i' (by omega) b, fun q i' a b => by
          by_cases z : i' = i
          · rw [z, e] at b; cases b
          · exact q i' (by omega) b⟩)]
/-- the last one of a line -/
theorem lc_l (hP : rP H p) (h6 : hN H ≤ 6) (hv : 0 ≤ v ∧ v < hN H) : lcF H (lin H v) 40 = 2 ^ v.toNat := by
  apply Nat.eq_of_testBit_eq
  intro j
  rw [lc_b, Nat.testBit_two_pow]
  by_cases e : v.toNat = j
  · rw [decide_eq_true e, ln_b hv, decide_eq_true e, Bool.or_true, Bool.true_and]
    refine decide_eq_true (fun i' a b => ?_)
    have h1 := ln_le hP (v + 1).toNat v (by omega) hv.1 hv.2 i' b
    cases e2 : (hO H i').testBit j with
    | true => have := ho_lt hP (v := (i' : Int)) ⟨by omega, by omega⟩ j e2; omega
    | false => rfl
  · rw [decide_eq_false e, ln_b hv, decide_eq_false e, Bool.or_false]
    cases e2 : (hO H v).testBit j with
    | true =>
      rw [Bool.true_and]
      refine decide_eq_false (fun q => ?_)
      have e3 : ((v.toNat : Nat) : Int) = v := by omega
      have := q v.toNat (by omega) (by rw [ln_b hv, decide_eq_true rfl, Bool.or_true])
      rw [e3, e2] at this
      cases this
    | false => rfl
theorem lc_1 (hP : rP H p) (h6 : hN H ≤ 6) (hv : 0 ≤ v ∧ v < hN H) (ho : 0 ≤ o ∧ o < hN H) : ∃ i : Nat, (i : Int) < hN H ∧ lcF H (lin H v &&& lin H o) 40 = 2 ^ i := by
  obtain ⟨m, m1, m2⟩ := ln_m hP (v + o + 1).toNat v o (by omega) hv.1 hv.2 ho.1 ho.2
  exact ⟨m.toNat, by omega, by rw [m2]; exact lc_l hP h6 m1⟩
theorem lc_o (hP : rP H p) (h6 : hN H ≤ 6) (hv : 0 ≤ v ∧ v < hN H) (ho : 0 ≤ o ∧ o < hN H) (h : v = o ∨ (hO H o).testBit v.toNat = true) : lcF H (lin H v &&& lin H o) 40 = 2 ^ v.toNat ∧ lcF H (lin H o &&& lin H v) 40 = 2 ^ v.toNat := by
  have h1 := ln_s hP (o + 1).toNat v o (by omega) hv.1 hv.2 ho.1 ho.2 h
  refine ⟨by rw [h1]; exact lc_l hP h6 hv, ?_⟩
  rw [Nat.and_comm, h1]
  exact lc_l hP h6 hv
/-- the law's way up -/
theorem up_K (hP : rP H p) (hv : 0 ≤ v) : ∀ (n : Nat) (i : Int), i < n → 0 ≤ i → i < hN H → ∃ K : Nat, (∀ j : Nat, j < K → 0 ≤ pr p (upP p j i) ∧ ¬ pr p (upP p j i) = v) ∧ (pr p (upP p K i) < 0 ∨ pr p (upP p K i) = v) ∧ decide (pr p (upP p K i) = v) = (hO H i).testBit v.toNat := by
  intro n
  induction n with
  | zero => intro i h1 h2; omega
  | succ n ih =>
    intro i h1 h2 h3
    by_cases z : i = 0
    · have e : pr p i = -1 := if_pos z
      refine ⟨0, fun j hj => absurd hj (by omega), Or.inl ?_, ?_⟩
      · show pr p i < 0
        omega
      · show decide (pr p i = v) = _
        rw [e, z, hP.1.2, Nat.zero_testBit]
        exact decide_eq_false (by omega)
    · have h4 := hP.2.2 i (by omega) h3
      have e : pr p i = p i := if_neg z
      rw [ln_p hP ⟨by omega, h3⟩, ln_b ⟨h4.2.1.1, by omega⟩]
      by_cases y : p i = v
      · refine ⟨0, fun j hj => absurd hj (by omega), Or.inr ?_, ?_⟩
        · show pr p i = v
          omega
        · show decide (pr p i = v) = _
          rw [e, decide_eq_true y, decide_eq_true (by omega), Bool.or_true]
      · obtain ⟨K, k1, k2, k3⟩ := ih (p i) (by omega) h4.2.1.1 (by omega)
        have eu : ∀ j : Nat, upP p (j + 1) i = upP p j (p i) := fun j => by
          show upP p j (pr p i) = _
          rw [e]
        refine ⟨K + 1, fun j hj => ?_, by rw [eu]; exact k2, by rw [eu, k3, decide_eq_false (p := (p i).toNat = v.toNat) (by omega), Bool.or_false]⟩
        cases j with
        | zero =>
          show 0 ≤ pr p i ∧ ¬ pr p i = v
          omega
        | succ j =>
          rw [eu]
          exact k1 j (by omega)
end RH
