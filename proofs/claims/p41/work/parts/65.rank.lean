/-! Counting; ranks of numbers in a row of numbers. -/
theorem ind0 (P : Int → Prop) (h0 : P 0) (hs : ∀ i, 0 ≤ i → P i → P (i + 1)) : ∀ i, 0 ≤ i → P i := by
  intro i hi
  have key : ∀ n : Nat, P (n : Int) := by
    intro n
    induction n with
    | zero => exact h0
    | succ n ih =>
      have := hs n (by omega) ih
      rw [show ((n + 1 : Nat) : Int) = (n : Int) + 1 by omega]
      exact this
  have := key i.toNat
  rw [show ((i.toNat : Nat) : Int) = i by omega] at this
  exact this
section RA
variable {f f' : Int → Int} {L M A B x y r s num ah i j : Int} {g g' q q' : Int → Bool}
theorem cnI_s (hi : 0 ≤ i) : cnI (i + 1) q = cnI i q + b2 (q i) := by
  cases e : q i with
  | true => rw [cnI_t hi e]; rfl
  | false => rw [cnI_f hi e]; show _ = _ + (0 : Int); omega
theorem b2_r (c : Bool) : 0 ≤ b2 c ∧ b2 c ≤ 1 := by cases c <;> decide
theorem cnI_congr (hL : 0 ≤ L) (h : ∀ i, 0 ≤ i → i < L → q i = q' i) : cnI L q = cnI L q' := by
  have key := ind0 (fun n => n ≤ L → cnI n q = cnI n q') (fun _ => rfl) (fun n hn ih h2 => by
    rw [cnI_s hn, cnI_s hn, ih (by omega), h n hn (by omega)])
  exact key L hL (Int.le_refl _)
theorem cnI_mono (hi : 0 ≤ i) (hij : i ≤ j) : cnI i q ≤ cnI j q := by
  have key := ind0 (fun n => cnI i q ≤ cnI (i + n) q) (by show cnI i q ≤ cnI (i + 0) q; rw [Int.add_zero]; exact Int.le_refl _) (fun n hn ih => by
    have := b2_r (q (i + n))
    show cnI i q ≤ cnI (i + (n + 1)) q
    rw [show i + (n + 1) = i + n + 1 by omega, cnI_s (by omega)]
    omega)
  have := key (j - i) (by omega)
  rw [show i + (j - i) = j by omega] at this
  exact this
theorem cnI_lt (hi : 0 ≤ i) (hij : i < j) (hq : q i = true) : cnI i q < cnI j q := by
  have h1 := cnI_t hi hq
  have h2 := cnI_mono (q := q) (show 0 ≤ i + 1 by omega) (show i + 1 ≤ j by omega)
  omega
/-- one that counts left out -/
theorem cnI_out (hi : 0 ≤ i ∧ i < L) (hq : q i = true) : cnI L q = cnI L (fun j => q j && !decide (j = i)) + 1 := by
  have key := ind0 (fun n => cnI n q = cnI n (fun j => q j && !decide (j = i)) + (if i < n then 1 else 0)) (by
    rw [if_neg (by omega)]
    rfl) (fun n hn ih => by
    rw [cnI_s hn, cnI_s hn, ih]
    by_cases e : n = i
    · subst e
      rw [if_neg (by omega), if_pos (by omega), hq, decide_eq_true rfl]
      show _ + 0 + 1 = _ + 0 + 1
      rfl
    · rw [decide_eq_false e]
      show _ = _ + b2 (q n && true) + _
      rw [Bool.and_true]
      by_cases e2 : i < n
      · rw [if_pos e2, if_pos (by omega)]
        omega
      · rw [if_neg e2, if_neg (by omega)]
        omega)
  have := key L (by omega)
  rw [if_pos hi.2] at this
  exact this
theorem cn_le (φ : Int → Int) : ∀ A, 0 ≤ A → ∀ q' : Int → Bool, (∀ i, 0 ≤ i → i < A → q i = true → 0 ≤ φ i ∧ φ i < B ∧ q' (φ i) = true) → (∀ i j, 0 ≤ i → i < A → 0 ≤ j → j < A → q i = true → q j = true → φ i = φ j → i = j) → cnI A q ≤ cnI B q' := by
  refine ind0 (fun A => ∀ q' : Int → Bool, (∀ i, 0 ≤ i → i < A → q i = true → 0 ≤ φ i ∧ φ i < B ∧ q' (φ i) = true) → (∀ i j, 0 ≤ i → i < A → 0 ≤ j → j < A → q i = true → q j = true → φ i = φ j → i = j) → cnI A q ≤ cnI B q') ?_ ?_
  · intro q' _ _
    by_cases hB : 0 ≤ B
    · exact (cnI_r hB).1
    · show (0 : Int) ≤ cnt B.toNat q'
      exact (cnt_r _).1
  · intro A hA ih q' h1 h2
    cases e : q A with
    | false =>
      rw [cnI_f hA e]
      exact ih q' (fun i a b c => h1 i a (by omega) c) (fun i j a b c d => h2 i j a (by omega) c (by omega))
    | true =>
      have hA2 := h1 A hA (by omega) e
      rw [cnI_t hA e, cnI_out (q := q') ⟨hA2.1, hA2.2.1⟩ hA2.2.2]
      have := ih (fun j => q' j && !decide (j = φ A)) (fun i a b c => by
        have := h1 i a (by omega) c
        refine ⟨this.1, this.2.1, ?_⟩
        have hne : ¬ φ i = φ A := fun z => by have := h2 i A a (by omega) hA (by omega) c e z; omega
        show (q' (φ i) && !decide (φ i = φ A)) = true
        rw [this.2.2, decide_eq_false hne]
        rfl) (fun i j a b c d => h2 i j a (by omega) c (by omega))
      omega
/-- a row of all numbers below L -/
def pm (f : Int → Int) (L : Int) : Prop := (∀ i, 0 ≤ i → i < L → 0 ≤ f i ∧ f i < L) ∧ (∀ i j, 0 ≤ i → i < L → 0 ≤ j → j < L → f i = f j → i = j) ∧ ∀ x, 0 ≤ x → x < L → ∃ i, 0 ≤ i ∧ i < L ∧ f i = x
/-- how many that count are ahead of x -/
def rk (f : Int → Int) (L : Int) (g : Int → Bool) (x r : Int) : Prop := ∃ j, 0 ≤ j ∧ j < L ∧ f j = x ∧ cnI j (fun i => g (f i)) = r
theorem rk_ex (hp : pm f L) (hx : 0 ≤ x ∧ x < L) : ∃ r, rk f L g x r := by
  obtain ⟨i, h1, h2, h3⟩ := hp.2.2 x hx.1 hx.2
  exact ⟨_, i, h1, h2, h3, rfl⟩
theorem rk_un (hp : pm f L) (h1 : rk f L g x r) (h2 : rk f L g x s) : r = s := by
  obtain ⟨i, a1, a2, a3, a4⟩ := h1
  obtain ⟨j, b1, b2', b3, b4⟩ := h2
  have := hp.2.1 i j a1 a2 b1 b2' (a3.trans b3.symm)
  subst this
  exact a4.symm.trans b4
theorem rk_ne (h1 : rk f L g x r) (h2 : rk f L g y r) (gx : g x = true) (gy : g y = true) : x = y := by
  obtain ⟨i, a1, a2, a3, a4⟩ := h1
  obtain ⟨j, b1, b2', b3, b4⟩ := h2
  by_cases e : i = j
  · subst e
    exact a3.symm.trans b3
  · by_cases e2 : i < j
    · have := cnI_lt (q := fun i => g (f i)) a1 e2 (by show g (f i) = true; rw [a3]; exact gx)
      omega
    · have := cnI_lt (q := fun i => g (f i)) b1 (show j < i by omega) (by show g (f j) = true; rw [b3]; exact gy)
      omega
theorem rk_lt (h1 : rk f L g x r) (gx : g x = true) : 0 ≤ r ∧ r < cnI L (fun i => g (f i)) := by
  obtain ⟨i, a1, a2, a3, a4⟩ := h1
  have := cnI_lt (q := fun i => g (f i)) a1 a2 (by show g (f i) = true; rw [a3]; exact gx)
  have := cnI_r (p := fun i => g (f i)) a1
  omega
theorem rk_r (h1 : rk f L g x r) : 0 ≤ r := by
  obtain ⟨i, a1, a2, a3, a4⟩ := h1
  have := cnI_r (p := fun i => g (f i)) a1
  omega
theorem rk_at (hp : pm f L) (hL : 0 ≤ L) (hr : 0 ≤ r ∧ r < cnI L (fun i => g (f i))) : ∃ x, (0 ≤ x ∧ x < L) ∧ g x = true ∧ rk f L g x r := by
  have e : ((L.toNat : Nat) : Int) = L := by omega
  obtain ⟨j, h1, h2, h3, h4⟩ := cnI_ex (p := fun i => g (f i)) L.toNat r hr.1 (by rw [e]; exact hr.2)
  exact ⟨f j, hp.1 j h1 (by omega), h3, j, h1, by omega, rfl, h4⟩
theorem rk_cg (hp : pm f L) (hg : ∀ y, 0 ≤ y → y < L → g y = g' y) (h : rk f L g x r) : rk f L g' x r := by
  obtain ⟨i, a1, a2, a3, a4⟩ := h
  refine ⟨i, a1, a2, a3, ?_⟩
  rw [← a4]
  exact (cnI_congr a1 (fun j h1 h2 => by
    have := hp.1 j h1 (by omega)
    exact hg _ this.1 this.2)).symm
/-- all that count, by places and by numbers -/
theorem cn_pm (hp : pm f L) (hL : 0 ≤ L) : cnI L (fun i => g (f i)) = cnI L g := by
  refine Int.le_antisymm (cn_le f L hL g (fun i a b c => ⟨(hp.1 i a b).1, (hp.1 i a b).2, c⟩) (fun i j a b c d _ _ e => hp.2.1 i j a b c d e)) ?_
  have hc : ∀ x, ∃ i, 0 ≤ x → x < L → 0 ≤ i ∧ i < L ∧ f i = x := fun x => by
    by_cases h : 0 ≤ x ∧ x < L
    · obtain ⟨i, h1⟩ := hp.2.2 x h.1 h.2
      exact ⟨i, fun _ _ => h1⟩
    · exact ⟨0, fun a b => absurd ⟨a, b⟩ h⟩
  refine cn_le (fun x => Classical.choose (hc x)) L hL _ (fun i a b c => ?_) (fun i j a b c d _ _ e => ?_)
  · have := Classical.choose_spec (hc i) a b
    exact ⟨this.1, this.2.1, by show g (f (Classical.choose (hc i))) = true; rw [this.2.2]; exact c⟩
  · have h1 := Classical.choose_spec (hc i) a b
    have h2 := Classical.choose_spec (hc j) c d
    have h3 : f (Classical.choose (hc i)) = f (Classical.choose (hc j)) := by rw [show Classical.choose (hc i) = Classical.choose (hc j) from e]
    rw [h1.2.2, h2.2.2] at h3
    exact h3
/-- a number brought in -/
theorem in_pm (hn : 0 ≤ num) (hp : pm f num) (hI : insd f num ah f') : pm f' (num + 1) := by
  obtain ⟨p, p0, p1, p2, p3, p4⟩ := hI
  refine ⟨fun i h1 h2 => ?_, fun i j h1 h2 h3 h4 e => ?_, fun x h1 h2 => ?_⟩
  · rw [p4]
    by_cases e1 : i < p
    · rw [if_pos e1]; have := hp.1 i h1 (by omega); omega
    · rw [if_neg e1]
      by_cases e2 : i = p
      · rw [if_pos e2]; omega
      · rw [if_neg e2, if_pos (by omega)]; have := hp.1 (i - 1) (by omega) (by omega); omega
  · rw [p4, p4] at e
    by_cases e1 : i < p
    · rw [if_pos e1] at e
      have r1 := hp.1 i h1 (by omega)
      by_cases f1 : j < p
      · rw [if_pos f1] at e; exact hp.2.1 i j h1 (by omega) h3 (by omega) e
      · rw [if_neg f1] at e
        by_cases f2 : j = p
        · rw [if_pos f2] at e; omega
        · rw [if_neg f2, if_pos (by omega)] at e
          have := hp.2.1 i (j - 1) h1 (by omega) (by omega) (by omega) e
          omega
    · rw [if_neg e1] at e
      by_cases e2 : i = p
      · rw [if_pos e2] at e
        by_cases f1 : j < p
        · rw [if_pos f1] at e; have := hp.1 j h3 (by omega); omega
        · rw [if_neg f1] at e
          by_cases f2 : j = p
          · omega
          · rw [if_neg f2, if_pos (by omega)] at e; have := hp.1 (j - 1) (by omega) (by omega); omega
      · rw [if_neg e2, if_pos (by omega)] at e
        have r1 := hp.1 (i - 1) (by omega) (by omega)
        by_cases f1 : j < p
        · rw [if_pos f1] at e
          have := hp.2.1 (i - 1) j (by omega) (by omega) h3 (by omega) e
          omega
        · rw [if_neg f1] at e
          by_cases f2 : j = p
          · rw [if_pos f2] at e; omega
          · rw [if_neg f2, if_pos (by omega)] at e
            have := hp.2.1 (i - 1) (j - 1) (by omega) (by omega) (by omega) (by omega) e
            omega
  · by_cases e : x = num
    · exact ⟨p, p0, by omega, by rw [p4, if_neg (by omega), if_pos rfl]; exact e.symm⟩
    · obtain ⟨i, a1, a2, a3⟩ := hp.2.2 x h1 (by omega)
      by_cases e1 : i < p
      · exact ⟨i, a1, by omega, by rw [p4, if_pos e1]; exact a3⟩
      · exact ⟨i + 1, by omega, by omega, by rw [p4, if_neg (by omega), if_neg (by omega), if_pos (by omega), show i + 1 - 1 = i by omega]; exact a3⟩
theorem in_cn {p : Int} (p0 : 0 ≤ p) (p1 : p ≤ num) (p4 : ∀ j, f' j = if j < p then f j else if j = p then num else if j ≤ num then f (j - 1) else f j) : (∀ j, 0 ≤ j → j ≤ p → cnI j (fun i => g (f' i)) = cnI j (fun i => g (f i))) ∧ ∀ j, p ≤ j → j ≤ num → cnI (j + 1) (fun i => g (f' i)) = cnI j (fun i => g (f i)) + b2 (g num) := by
  have k1 : ∀ j, 0 ≤ j → j ≤ p → cnI j (fun i => g (f' i)) = cnI j (fun i => g (f i)) := fun j h1 h2 => cnI_congr h1 (fun i a b => by rw [p4, if_pos (by omega)])
  refine ⟨k1, fun j h1 h2 => ?_⟩
  have key := ind0 (fun n => p + n ≤ num → cnI (p + n + 1) (fun i => g (f' i)) = cnI (p + n) (fun i => g (f i)) + b2 (g num)) (fun _ => by
    rw [Int.add_zero, cnI_s p0, k1 p p0 (Int.le_refl _)]
    show _ + b2 (g (f' p)) = _
    rw [p4, if_neg (by omega), if_pos rfl]) (fun n hn ih h => by
    have ih := ih (by omega)
    rw [show p + (n + 1) + 1 = p + n + 1 + 1 by omega, show p + (n + 1) = p + n + 1 by omega, cnI_s (by omega), ih, cnI_s (by omega)]
    show _ + b2 (g (f' (p + n + 1))) = _
    rw [p4, if_neg (by omega), if_neg (by omega), if_pos (by omega), show p + n + 1 - 1 = p + n by omega]
    omega)
  have := key (j - p) (by omega) (by omega)
  rw [show p + (j - p) = j by omega] at this
  exact this
theorem in_rf (hI : insd f num ah f') (hg : g num = false) (h : rk f num g x r) : rk f' (num + 1) g x r := by
  obtain ⟨p, p0, p1, p2, p3, p4⟩ := hI
  obtain ⟨j, a1, a2, a3, a4⟩ := h
  obtain ⟨k1, k2⟩ := in_cn (g := g) p0 p1 p4
  by_cases e : j < p
  · exact ⟨j, a1, by omega, by rw [p4, if_pos e]; exact a3, (k1 j a1 (by omega)).trans a4⟩
  · refine ⟨j + 1, by omega, by omega, by rw [p4, if_neg (by omega), if_neg (by omega), if_pos (by omega), show j + 1 - 1 = j by omega]; exact a3, ?_⟩
    rw [k2 j (by omega) (by omega), hg, a4]
    show r + 0 = r
    omega
theorem in_rt (hp : pm f num) (hI : insd f num ah f') (hg : g num = true) : ∃ r0, 0 ≤ r0 ∧ rk f' (num + 1) g num r0 ∧ (ah = -1 → r0 = 0) ∧ (∀ ra, g ah = true → rk f num g ah ra → r0 = ra + 1) ∧ ∀ x r, g x = true → rk f num g x r → rk f' (num + 1) g x (if r0 ≤ r then r + 1 else r) := by
  obtain ⟨p, p0, p1, p2, p3, p4⟩ := hI
  obtain ⟨k1, k2⟩ := in_cn (g := g) p0 p1 p4
  refine ⟨cnI p (fun i => g (f i)), (cnI_r p0).1, ⟨p, p0, by omega, by rw [p4, if_neg (by omega), if_pos rfl], k1 p p0 (Int.le_refl _)⟩, fun e => ?_, fun ra ga h => ?_, fun x r gx h => ?_⟩
  · rcases p2 with e2 | e2
    · rw [e2]; rfl
    · by_cases e3 : p = 0
      · rw [e3]; rfl
      · have := hp.1 (p - 1) (by omega) (by omega)
        omega
  · obtain ⟨j, a1, a2, a3, a4⟩ := h
    have hj : j < p := by
      by_cases e : j < p
      · exact e
      · exact absurd a3 (p3 j (by omega) a2)
    rcases p2 with e2 | e2
    · omega
    · have := hp.2.1 (p - 1) j (by omega) (by omega) a1 a2 (e2.trans a3.symm)
      have e3 : p = j + 1 := by omega
      rw [e3, cnI_t a1 (by show g (f j) = true; rw [a3]; exact ga), a4]
  · obtain ⟨j, a1, a2, a3, a4⟩ := h
    by_cases e : j < p
    · have := cnI_lt (q := fun i => g (f i)) a1 e (by show g (f j) = true; rw [a3]; exact gx)
      rw [if_neg (by omega)]
      exact ⟨j, a1, by omega, by rw [p4, if_pos e]; exact a3, (k1 j a1 (by omega)).trans a4⟩
    · have := cnI_mono (q := fun i => g (f i)) p0 (show p ≤ j by omega)
      rw [if_pos (by omega)]
      refine ⟨j + 1, by omega, by omega, by rw [p4, if_neg (by omega), if_neg (by omega), if_pos (by omega), show j + 1 - 1 = j by omega]; exact a3, ?_⟩
      rw [k2 j (by omega) (by omega), hg, a4]
      rfl
/-- a number that does not count any more -/
theorem rk_out (hp : pm f L) {r0 : Int} (gx : g x = true) (h0 : rk f L g x r0) (hg : ∀ y, 0 ≤ y → y < L → g' y = (g y && !decide (y = x))) (hy : g y = true) (hne : ¬ y = x) (h : rk f L g y r) : rk f L g' y (if r0 < r then r - 1 else r) := by
  obtain ⟨i, a1, a2, a3, a4⟩ := h0
  obtain ⟨j, b1, b2', b3, b4⟩ := h
  have key := ind0 (fun n => n ≤ L → cnI n (fun k => g' (f k)) = cnI n (fun k => g (f k)) - (if i < n then 1 else 0)) (fun _ => by
    rw [if_neg (by omega)]; rfl) (fun n hn ih h => by
    have ih := ih (by omega)
    have rn := hp.1 n hn (by omega)
    rw [cnI_s hn, cnI_s hn, ih]
    show _ + b2 (g' (f n)) = _
    rw [hg _ rn.1 rn.2]
    by_cases e : n = i
    · subst e
      rw [if_neg (by omega), if_pos (by omega), a3, gx, decide_eq_true rfl]
      show _ - 0 + 0 = _ + 1 - 1
      omega
    · rw [decide_eq_false (fun z => e (hp.2.1 n i hn (by omega) a1 a2 (z.trans a3.symm)))]
      show _ + b2 (g (f n) && true) = _
      rw [Bool.and_true]
      by_cases e2 : i < n
      · rw [if_pos e2, if_pos (by omega)]
        omega
      · rw [if_neg e2, if_neg (by omega)]
        omega)
  refine ⟨j, b1, b2', b3, ?_⟩
  have := key j b1 (by omega)
  rw [this, b4]
  have hij : ¬ i = j := fun e => hne (by rw [← a3, ← b3, e])
  by_cases e : i < j
  · have := cnI_lt (q := fun k => g (f k)) a1 e (by show g (f i) = true; rw [a3]; exact gx)
    rw [if_pos e, if_pos (by omega)]
  · have := cnI_lt (q := fun k => g (f k)) b1 (show j < i by omega) (by show g (f j) = true; rw [b3]; exact hy)
    rw [if_neg e, if_neg (by omega)]
    omega
end RA
