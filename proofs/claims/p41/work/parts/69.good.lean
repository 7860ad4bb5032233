/-! Good states: depths, rules, scripts, prints. -/
def gd (K : dK) (S : dS) : Prop := sI K S ∧ (∃ dp, tI K S dp) ∧ okS K S
section RG
variable {K K' : dK} {S T : dS} {D D' Z Z' E W F X Y : Int → Int} {o i p x r c j q lo s pl ah n r0 t : Int} {dp : Int → Nat}
theorem tI_c (hI : sI K S) (hT : tI K S dp) (h1 : 1 ≤ i) (h : hs S i = true) : hs S (hold K S i) = true ∧ dp i = dp (hold K S i) + 1 := by
  have hr := hs_r h
  exact ⟨(hI.2.2.1 i h1 hr.2.1 h).1, (hT.2 i h1 hr.2.1 h).1⟩
theorem tI_l (hT : tI K S dp) (h : hs S i = true) : dp i < 30 := by
  have hr := hs_r h
  by_cases z : i = 0
  · rw [z, hT.1]; decide
  · exact (hT.2 i (by omega) hr.2.1 h).2
theorem dp_F (hI : sI K S) (hT : tI K S dp) : ∀ (m : Nat) (acc i : Int), hs S i = true → dp i < m → dpF (hs S) (hold K S) m acc i = acc + dp i := by
  intro m
  induction m with
  | zero => intro acc i _ h; omega
  | succ m ih =>
    intro acc i h hm
    unfold dpF
    rw [if_pos h]
    by_cases z : i = 0
    · rw [if_pos z, z, hT.1]
      show acc = acc + 0
      omega
    · rw [if_neg z]
      have hr := hs_r h
      have h2 := tI_c hI hT (by omega) h
      rw [ih _ _ h2.1 (by omega)]
      omega
theorem dp_t (hI : sI K S) (hT : tI K S dp) (h : hs S i = true) : dep K S i = dp i := by
  have := dp_F hI hT 40 0 i h (by have := tI_l hT h; omega)
  unfold dep
  rw [this]
  omega
theorem dp_f (h : hs S i = false) : dep K S i = -1 := by
  unfold dep dpF
  rw [h]
  exact if_neg (by decide)
/-- the law's depths -/
theorem dpO_t (hK : kI K) (hI : sI K S) (hT : tI K S dp) (hR : rD K S D Z o) (h : hs S i = true) : dpO D o (dp i) i := by
  have hN := hK.2.2.1
  have key : ∀ (k : Nat) (i : Int), dp i = k → hs S i = true → dpO D o k i := by
    intro k
    induction k with
    | zero =>
      intro i hk h
      have hz : i = 0 := by
        by_cases z : i = 0
        · exact z
        · have hr := hs_r h
          have := (tI_c hI hT (by omega) h).2
          omega
      refine ⟨by decide, fun j hj => absurd hj (by omega), ?_⟩
      show lh D o i < 0
      rw [(rD_t hK hI.1 hR h).1.2.1, hz, hd_0 hI.1]
      decide
    | succ k ih =>
      intro i hk h
      have hz : ¬ i = 0 := fun z => by rw [z, hT.1] at hk; omega
      have hr := hs_r h
      have h2 := tI_c hI hT (by omega) h
      have h3 := ih (hold K S i) (by omega) h2.1
      have h4 := (rD_t hK hI.1 hR h).1.2.1
      have h5 := hs_r h2.1
      have h6 := (hI.1.1 _ h5.1 h5.2.1 h2.1).1
      have hl := tI_l hT h
      refine ⟨by omega, fun j hj => ?_, ?_⟩
      · cases j with
        | zero =>
          show 0 ≤ lh D o i ∧ lh D o i < 10
          rw [h4]
          omega
        | succ j =>
          show 0 ≤ lh D o (upF D o j (lh D o i)) ∧ lh D o (upF D o j (lh D o i)) < 10
          rw [h4]
          exact h3.2.1 j (by omega)
      · show lh D o (upF D o k (lh D o i)) < 0
        rw [h4]
        exact h3.2.2
  exact key _ i rfl h
/-- going up -/
theorem wt_le (hI : sI K S) (hT : tI K S dp) : ∀ (m : Nat) (i : Int), hs S i = true → wth (hold K S) m i n = true → dp n ≤ dp i := by
  intro m
  induction m with
  | zero => intro i _ h; cases h
  | succ m ih =>
    intro i h hw
    unfold wth at hw
    have hr := hs_r h
    rw [if_neg (by omega)] at hw
    by_cases e : i = n
    · rw [e]; exact Nat.le_refl _
    · rw [if_neg e] at hw
      by_cases z : i = 0
      · rw [z, hd_0 hI.1] at hw
        cases m with
        | zero => cases hw
        | succ m =>
          unfold wth at hw
          rw [if_pos rfl] at hw
          cases hw
      · have h2 := tI_c hI hT (by omega) h
        have := ih _ h2.1 hw
        omega
theorem gd_tidy (hI : sI K S) : tidy K S := ⟨fun w _ _ h => (hI.2.2.2 w h).2.1, hI.1.2.2.2⟩
theorem gd_roots (hK : kI K) (hI : sI K S) (hT : tI K S dp) : roots K S := fun n a b h => by
  have hh : 0 ≤ hold K S n := by
    cases e : hs S n with
    | true =>
      by_cases z : n = 0
      · rw [z, hd_0 hI.1] at h; exact absurd rfl h
      · rw [hd_t hK hI.1 (by omega) e]
        exact (hI.1.2.2.1 n (by omega) b e).2.2.1
    | false => rw [hd_f hI.1 e] at h; exact absurd rfl h
  have h1 := hd_c hK hI.1 hh rfl
  have h2 := tI_c hI hT h1.2.1.1 h1.1
  refine ⟨h2.1, ?_⟩
  cases e : wth (hold K S) 40 (hold K S n) n with
  | true => have := wt_le hI hT _ _ h2.1 e; omega
  | false => rfl
theorem gd_deep (hK : kI K) (hI : sI K S) (hT : tI K S dp) : deeper K S := fun n j a b h1 h2 h3 h4 => by
  have hn : hs S n = true := by
    cases e : hs S n with
    | true => rfl
    | false => rw [dp_f e] at h1; omega
  have hm : hold K S (met K S n j) = n := by
    by_cases k1 : kK K n = 1
    · rw [met_1 k1] at h4 ⊢
      by_cases e : hold K S j = n
      · rw [if_pos e]; exact e
      · rw [if_neg e] at h4; omega
    · have k0 : kK K n = 0 := by
        unfold swL at h3
        by_cases e : kK K n = 0
        · exact e
        · rw [if_neg e, if_neg k1] at h3; omega
      rw [sw_0 k0] at h3
      rw [met_0 k1] at h4 ⊢
      by_cases e : sOk K S n (kQ K j) = true
      · rw [if_pos e]; exact (sO_c hK hI.1 (hK.1.1 j h2 h3) a e).1
      · rw [if_neg e] at h4; omega
  have h5 := hd_c hK hI.1 a hm
  have h6 := tI_c hI hT h5.2.1.1 h5.1
  rw [dp_t hI hT hn, dp_t hI hT h5.1, h6.2, hm]
  omega
theorem gd_held (hK : kI K) (hJ : sJ K S) : held K S := fun i a b h => by
  have h1 := hd_c hK hJ h rfl
  have := (hJ.1 i a b h1.1).2.1
  omega
theorem gd_fine (hK : kI K) (hG : gd K S) : fine K S := by
  obtain ⟨hI, ⟨dp, hT⟩, hO⟩ := hG
  exact ⟨gd_tidy hI, gd_roots hK hI hT, gd_deep hK hI hT, fun i a b h => by rw [dp_t hI hT h]; omega, hO, gd_held hK hI.1⟩
theorem kx_g (hx : kx K K') (hK : kI K) (hG : gd K S) : gd K' S := by
  obtain ⟨hI, ⟨dp, hT⟩, hO⟩ := hG
  exact ⟨kx_I hx hK hI, ⟨dp, kx_T hx hK hI.1 hT⟩, kx_ok hx hK hI.1 hO⟩
theorem hs_no (hK : kI K) (hJ : sJ K S) (h : 10 ≤ i) : hs S i = false := by
  have hN := hK.2.2.1
  cases e : hs S i with
  | true =>
    have hr := hs_r e
    have := (hJ.1 i hr.1 hr.2.1 e).1
    omega
  | false => rfl
theorem sd_no (hK : kI K) (hI : sI K S) (h : kW K ≤ i) : S.2.2.2 i = false := by
  cases e : S.2.2.2 i with
  | true => have := (hI.2.2.2 i e).1; omega
  | false => rfl
theorem gd_dlo (hK : kI K) (hI : sI K S) (hI' : sI K T) : dlo S T := fun k n h => by
  have hN := hK.2.2.2.1
  have a1 := hs_no hK hI.1 h
  have a2 := hs_no hK hI'.1 h
  have a3 := sd_no hK hI (show kW K ≤ n by omega)
  have a4 := sd_no hK hI' (show kW K ≤ n by omega)
  unfold due
  rw [a1, a2, a3, a4]
  split
  · rfl
  · split
    · rfl
    · split
      · rfl
      · split
        · rfl
        · split
          · rfl
          · split
            · rfl
            · split <;> rfl
/-- the law finds a broken rule where the class does -/
theorem an_t (c : Int → Bool) (j : Nat) : an c j = true ↔ ∃ i : Int, 0 ≤ i ∧ i < (j : Int) ∧ c i = true := by
  induction j with
  | zero => exact ⟨fun q => (by cases q), fun ⟨i, h1, h2, _⟩ => absurd h2 (by omega)⟩
  | succ j ih =>
    show (an c j || c j) = true ↔ _
    rw [Bool.or_eq_true, ih]
    constructor
    · rintro (⟨i, h1, h2, h3⟩ | h)
      · exact ⟨i, h1, by omega, h3⟩
      · exact ⟨j, by omega, by omega, h⟩
    · rintro ⟨i, h1, h2, h3⟩
      by_cases e : i = (j : Int)
      · rw [e] at h3; exact Or.inr h3
      · exact Or.inl ⟨i, h1, by omega, h3⟩
theorem br_ok (hK : kI K) (hI : sI K S) (hT : tI K S dp) (hR : rD K S D Z o) (hF : rF K F) : an (brN D F o (kN K) dp) (kN K).toNat = true ↔ ¬ okS K S := by
  have hN := hK.2.2.1
  have eN : (((kN K).toNat : Nat) : Int) = kN K := by omega
  rw [an_t]
  constructor
  · rintro ⟨i, h1, h2, h3⟩ hO
    have h3 : (lt D o i && (brC D o (kN K) dp i || an (brO D F o i) i.toNat)) = true := h3
    rw [Bool.and_eq_true, Bool.or_eq_true, rD_lt hK hI.1 hR (by omega)] at h3
    obtain ⟨hi, h3⟩ := h3
    have ri := (rD_t hK hI.1 hR hi).1
    have hJi := hI.1.1 i h1 (by omega) hi
    rcases h3 with h3 | h3
    · have h3 : ((decide (0 ≤ D (o + i) / 4096 - 1) && !(lt D o (D (o + i) / 4096 - 1))) || decide (cnI (kN K) (lk D o i) > 8) || decide ((dp i : Int) > 8)) = true := h3
      rw [Bool.or_eq_true, Bool.or_eq_true] at h3
      rcases h3 with (h3 | h3) | h3
      · rw [Bool.and_eq_true, decide_eq_true_eq] at h3
        have ea : D (o + i) / 4096 - 1 = S.2.2.1 i := by omega
        rw [ea, rD_lt hK hI.1 hR (by omega), hO.2.1 i h1 (by omega) (by omega)] at h3
        cases h3.2
      · rw [decide_eq_true_eq, rD_kids hK hI.1 hR h1] at h3
        have := hO.2.2.1 i h1 (by omega)
        omega
      · rw [decide_eq_true_eq] at h3
        have := hO.2.2.2.1 i h1 (by omega)
        have e := dp_t hI hT hi
        unfold dep at e
        omega
    · rw [an_t] at h3
      obtain ⟨j, j1, j2, j3⟩ := h3
      have j3 : (decide (1 ≤ j) && lt D o j && decide (lh D o j = lh D o i) && decide (F (lh D o j) = 1) && decide (D (o + j) / 256 % 16 = D (o + i) / 256 % 16)) = true := j3
      rw [Bool.and_eq_true, Bool.and_eq_true, Bool.and_eq_true, Bool.and_eq_true, decide_eq_true_eq, decide_eq_true_eq, decide_eq_true_eq, decide_eq_true_eq, rD_lt hK hI.1 hR (by omega)] at j3
      obtain ⟨⟨⟨⟨q1, q2⟩, q3⟩, q4⟩, q5⟩ := j3
      have rj := (rD_t hK hI.1 hR q2).1
      have hj := tI_c hI hT q1 q2
      have hjr := hs_r hj.1
      have hjn := (hI.1.1 _ hjr.1 hjr.2.1 hj.1).1
      rw [rj.2.1, hF _ hjr.1 hjn] at q4
      rw [rj.2.1, ri.2.1] at q3
      exact hO.1 j i j1 (by omega) (by omega) ⟨q3, hjr.1, q4, by omega⟩
  · intro hO
    refine Classical.byContradiction fun hno => hO ?_
    have no : ∀ i, hs S i = true → brC D o (kN K) dp i = false ∧ an (brO D F o i) i.toNat = false := fun i hi => by
      have hr := hs_r hi
      have hJi := hI.1.1 i hr.1 hr.2.1 hi
      have e : ¬ (lt D o i && (brC D o (kN K) dp i || an (brO D F o i) i.toNat)) = true := fun e => hno ⟨i, hr.1, by omega, e⟩
      rw [rD_lt hK hI.1 hR (by omega), hi, Bool.true_and] at e
      revert e
      cases brC D o (kN K) dp i <;> cases an (brO D F o i) i.toNat <;> decide
    have noC : ∀ i, hs S i = true → ¬ (0 ≤ D (o + i) / 4096 - 1 ∧ lt D o (D (o + i) / 4096 - 1) = false) ∧ cnI (kN K) (lk D o i) ≤ 8 ∧ dp i ≤ 8 := fun i hi => by
      have e : ((decide (0 ≤ D (o + i) / 4096 - 1) && !(lt D o (D (o + i) / 4096 - 1))) || decide (cnI (kN K) (lk D o i) > 8) || decide ((dp i : Int) > 8)) = false := (no i hi).1
      rw [Bool.or_eq_false_iff, Bool.or_eq_false_iff, decide_eq_false_iff_not, decide_eq_false_iff_not] at e
      refine ⟨fun q => ?_, by omega, by omega⟩
      have := e.1.1
      rw [q.2, decide_eq_true q.1] at this
      cases this
    refine ⟨fun i j a b c q => ?_, fun i a b h => ?_, fun j a b => ?_, fun i a b => ?_, fun i a b h => ?_⟩
    · have h1 := hd_c hK hI.1 q.2.1 rfl
      have h2 := hd_c hK hI.1 q.2.1 q.1.symm
      have e : an (brO D F o j) j.toNat = true := by
        rw [an_t]
        refine ⟨i, a, by omega, ?_⟩
        have ri := (rD_t hK hI.1 hR h1.1).1
        have rj := (rD_t hK hI.1 hR h2.1).1
        show (decide (1 ≤ i) && lt D o i && decide (lh D o i = lh D o j) && decide (F (lh D o i) = 1) && decide (D (o + i) / 256 % 16 = D (o + j) / 256 % 16)) = true
        rw [ri.1, ri.2.1, rj.2.1, decide_eq_true h1.2.1.1, decide_eq_true q.1, hF _ q.2.1 h1.2.2.2.2.2, decide_eq_true q.2.2.1, decide_eq_true (by rw [ri.2.2.1, rj.2.2.1]; exact q.2.2.2)]
        rfl
      rw [(no j h2.1).2] at e
      cases e
    · have hi : hs S i = true := by
        cases e : hs S i with
        | true => rfl
        | false => have := hI.1.2.2.2 i a b e; omega
      have ri := (rD_t hK hI.1 hR hi).1
      have hJi := hI.1.1 i a b hi
      have ea : D (o + i) / 4096 - 1 = S.2.2.1 i := by omega
      have h1 := (noC i hi).1
      rw [ea, rD_lt hK hI.1 hR (by omega)] at h1
      cases e : hs S (S.2.2.1 i) with
      | true => rfl
      | false => exact absurd ⟨h, e⟩ h1
    · cases e : hs S j with
      | true =>
        have := (noC j e).2.1
        rw [rD_kids hK hI.1 hR a] at this
        exact this
      | false =>
        rw [cnI_cut (M := 0) (by decide) (by decide) (fun i c d => decide_eq_false (fun q => ?_))]
        · show (0 : Int) ≤ 8
          decide
        · have h1 := hd_c hK hI.1 a q
          have h2 := (hI.2.2.1 i h1.2.1.1 d h1.1).1
          rw [q, e] at h2
          cases h2
    · cases e : hs S i with
      | true =>
        have := (noC i e).2.2
        have e2 := dp_t hI hT e
        unfold dep at e2
        omega
      | false =>
        have e2 : dep K S i = -1 := dp_f e
        unfold dep at e2
        omega
    · have e2 := dp_t hI hT h
      unfold dep at e2
      omega
end RG
