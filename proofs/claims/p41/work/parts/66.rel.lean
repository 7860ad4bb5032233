/-! States of the document beside the law's rows. -/
def sOk (K : dK) (S : dS) (p s : Int) : Bool := decide (kH K s = p ∧ gS S.1 (kO K s) = s)
def kI (K : dK) : Prop := pm (kQ K) (kS K) ∧ pm (kU K) (kW K) ∧ (1 ≤ kN K ∧ kN K ≤ 10) ∧ (0 ≤ kW K ∧ kW K ≤ 10) ∧ 0 ≤ kS K ∧ kS K ≤ 120
/-- a state, of whose nodes the holders may not be there -/
def sJ (K : dK) (S : dS) : Prop := (∀ i, 0 ≤ i → i < 40 → hs S i = true → i < kN K ∧ (0 ≤ S.2.1 i ∧ S.2.1 i ≤ 9) ∧ -1 ≤ S.2.2.1 i ∧ S.2.2.1 i < kN K) ∧ S.1 0 = -1 ∧ (∀ i, 1 ≤ i → i < 40 → hs S i = true → (0 ≤ S.1 i ∧ S.1 i < kS K) ∧ kO K (S.1 i) = i ∧ 0 ≤ kH K (S.1 i) ∧ kH K (S.1 i) < kN K) ∧ ∀ i, 0 ≤ i → i < 40 → hs S i = false → S.1 i = -2 ∧ S.2.1 i = -2 ∧ S.2.2.1 i = -2
def sI (K : dK) (S : dS) : Prop := sJ K S ∧ hs S 0 = true ∧ (∀ i, 1 ≤ i → i < 40 → hs S i = true → hs S (hold K S i) = true ∧ kK K (hold K S i) ≤ 1) ∧ ∀ x, S.2.2.2 x = true → (0 ≤ x ∧ x < kW K) ∧ hs S (kL K x) = true ∧ kK K (kL K x) = 2
/-- nodes in a row of the law's; words -/
def rD (K : dK) (S : dS) (D Z : Int → Int) (o : Int) : Prop := (∀ i, 0 ≤ i → i < 10 → hs S i = false → D (o + i) = 0 ∧ Z (o + i) = 0) ∧ ∀ i, 0 ≤ i → i < 10 → hs S i = true → Z (o + i) = S.1 i + 1 ∧ ∃ r, D (o + i) = hold K S i + 2 + 16 * r + 256 * S.2.1 i + 4096 * (S.2.2.1 i + 1) ∧ (i = 0 → r = 0) ∧ (1 ≤ i → rk (kQ K) (kS K) (sOk K S (hold K S i)) (S.1 i) r)
def rE (K : dK) (S : dS) (E : Int → Int) (o : Int) : Prop := (∀ x, 0 ≤ x → x < 10 → S.2.2.2 x = false → E (o + x) = 0) ∧ ∀ x, 0 ≤ x → x < 10 → S.2.2.2 x = true → ∃ r, E (o + x) = r + 1 ∧ rk (kU K) (kW K) (wOk K S (kL K x)) x r
/-- what the law keeps of words and kinds -/
def rW (K : dK) (W : Int → Int) : Prop := ∀ x, 0 ≤ x → x < kW K → W x = kL K x + 16 * kE K x + 2048 * kR K x ∧ 0 ≤ kL K x ∧ kL K x < 10
def rF (K : dK) (F : Int → Int) : Prop := ∀ i, 0 ≤ i → i < kN K → F i = kK K i
theorem cnI_cut {L M : Int} {q : Int → Bool} (hM : 0 ≤ M) (hL : M ≤ L) (h : ∀ i, M ≤ i → i < L → q i = false) : cnI L q = cnI M q := by
  have key := ind0 (fun n => M + n ≤ L → cnI (M + n) q = cnI M q) (fun _ => by rw [Int.add_zero]) (fun n hn ih h2 => by
    rw [show M + (n + 1) = M + n + 1 by omega, cnI_f (by omega) (h _ (by omega) (by omega))]
    exact ih (by omega))
  have := key (L - M) (by omega) (by omega)
  rw [show M + (L - M) = L by omega] at this
  exact this
section RB
variable {K : dK} {S : dS} {D Z E W F : Int → Int} {o i p x r c j q lo s : Int}
theorem hs_r (h : hs S i = true) : 0 ≤ i ∧ i < 40 ∧ ¬ S.2.1 i = -2 := of_decide_eq_true h
theorem gS_t {f : Int → Int} (h : 0 ≤ i ∧ i < 40) : gS f i = f i := if_pos h
theorem gS_f {f : Int → Int} (h : ¬ (0 ≤ i ∧ i < 40)) : gS f i = -2 := if_neg h
theorem hd_f (hJ : sJ K S) (h : hs S i = false) : hold K S i = -1 := by
  unfold hold
  by_cases e : 0 ≤ i ∧ i < 40
  · rw [gS_t e, (hJ.2.2.2 i e.1 e.2 h).1]
    exact if_neg (by omega)
  · rw [gS_f e]
    exact if_neg (by omega)
theorem hd_0 (hJ : sJ K S) : hold K S 0 = -1 := by
  unfold hold
  rw [gS_t (by omega), hJ.2.1]
  exact if_neg (by omega)
theorem hd_t (hK : kI K) (hJ : sJ K S) (h1 : 1 ≤ i) (h : hs S i = true) : hold K S i = kH K (S.1 i) := by
  have hr := hs_r h
  have h2 := hJ.2.2.1 i h1 hr.2.1 h
  have h3 := hK.2.2.2.2
  unfold hold
  rw [gS_t ⟨hr.1, hr.2.1⟩]
  exact if_pos (by omega)
/-- a child -/
theorem hd_c (hK : kI K) (hJ : sJ K S) (hp : 0 ≤ p) (h : hold K S i = p) : hs S i = true ∧ (1 ≤ i ∧ i < kN K) ∧ kH K (S.1 i) = p ∧ (0 ≤ S.1 i ∧ S.1 i < kS K) ∧ kO K (S.1 i) = i ∧ p < kN K := by
  have e : hs S i = true := by
    cases e : hs S i with
    | true => rfl
    | false => have := hd_f hJ e; omega
  have hr := hs_r e
  have h1 : 1 ≤ i := by
    by_cases z : i = 0
    · rw [z, hd_0 hJ] at h; omega
    · omega
  have h2 := hJ.2.2.1 i h1 hr.2.1 e
  have h3 := hd_t hK hJ h1 e
  exact ⟨e, ⟨h1, (hJ.1 i hr.1 hr.2.1 e).1⟩, by omega, h2.1, h2.2.1, by omega⟩
theorem sO_t (hK : kI K) (hJ : sJ K S) (hp : 0 ≤ p) (h : hold K S i = p) : sOk K S p (S.1 i) = true := by
  have h1 := hd_c hK hJ hp h
  have hn := hK.2.2.1
  exact decide_eq_true ⟨h1.2.2.1, by rw [h1.2.2.2.2.1, gS_t (by omega)]⟩
theorem sO_c (hK : kI K) (hJ : sJ K S) (hs0 : 0 ≤ s ∧ s < kS K) (hp : 0 ≤ p) (h : sOk K S p s = true) : hold K S (kO K s) = p ∧ S.1 (kO K s) = s ∧ 1 ≤ kO K s ∧ kO K s < kN K := by
  obtain ⟨h1, h2⟩ : kH K s = p ∧ gS S.1 (kO K s) = s := of_decide_eq_true h
  have e : 0 ≤ kO K s ∧ kO K s < 40 := by
    by_cases e : 0 ≤ kO K s ∧ kO K s < 40
    · exact e
    · rw [gS_f e] at h2; omega
  rw [gS_t e] at h2
  have h3 : hs S (kO K s) = true := by
    cases z : hs S (kO K s) with
    | true => rfl
    | false => have := (hJ.2.2.2 _ e.1 e.2 z).1; omega
  have h4 : 1 ≤ kO K s := by
    by_cases z : kO K s = 0
    · rw [z, hJ.2.1] at h2; omega
    · omega
  exact ⟨by rw [hd_t hK hJ h4 h3, h2]; exact h1, h2, h4, (hJ.1 _ e.1 e.2 h3).1⟩
/-- children, counted by spots and by numbers -/
theorem ch_cn (hK : kI K) (hJ : sJ K S) (hp : 0 ≤ p) : cnI (kS K) (fun s => sOk K S p s && !decide (kO K s = lo)) = cnI 40 (fun i => decide (¬ i = lo ∧ hold K S i = p)) := by
  have hn := hK.2.2.1
  refine Int.le_antisymm (cn_le (kO K) _ hK.2.2.2.2.1 _ (fun s a b c => ?_) (fun s s' a b a' b' c c' e => ?_)) (cn_le S.1 _ (by decide) _ (fun i a b c => ?_) (fun i j a b a' b' c c' e => ?_))
  · rw [Bool.and_eq_true] at c
    have h := sO_c hK hJ ⟨a, b⟩ hp c.1
    refine ⟨by omega, by omega, decide_eq_true ⟨fun z => ?_, h.1⟩⟩
    have := c.2
    rw [z, decide_eq_true rfl] at this
    cases this
  · rw [Bool.and_eq_true] at c c'
    have h := (sO_c hK hJ ⟨a, b⟩ hp c.1).2.1
    have h' := (sO_c hK hJ ⟨a', b'⟩ hp c'.1).2.1
    rw [← h, ← h', e]
  · have c : ¬ i = lo ∧ hold K S i = p := of_decide_eq_true c
    have h := hd_c hK hJ hp c.2
    refine ⟨h.2.2.2.1.1, h.2.2.2.1.2, ?_⟩
    show (sOk K S p (S.1 i) && !decide (kO K (S.1 i) = lo)) = true
    rw [sO_t hK hJ hp c.2, h.2.2.2.2.1, decide_eq_false c.1]
    rfl
  · have c : ¬ i = lo ∧ hold K S i = p := of_decide_eq_true c
    have c' : ¬ j = lo ∧ hold K S j = p := of_decide_eq_true c'
    have h := (hd_c hK hJ hp c.2).2.2.2.2.1
    have h' := (hd_c hK hJ hp c'.2).2.2.2.2.1
    rw [← h, ← h', e]
theorem ch_c0 (hK : kI K) (hJ : sJ K S) (hp : 0 ≤ p) : cnI (kS K) (sOk K S p) = cnI 40 (fun i => decide (hold K S i = p)) := by
  have h := ch_cn (lo := -1) hK hJ hp
  have hn := hK.2.2.1
  have e1 : cnI (kS K) (fun s => sOk K S p s && !decide (kO K s = -1)) = cnI (kS K) (sOk K S p) := cnI_congr hK.2.2.2.2.1 (fun s a b => by
    cases e : sOk K S p s with
    | false => rfl
    | true =>
      have := (sO_c hK hJ ⟨a, b⟩ hp e).2.2.1
      rw [decide_eq_false (by omega)]
      rfl)
  have e2 : cnI 40 (fun i => decide (¬ i = -1 ∧ hold K S i = p)) = cnI 40 (fun i => decide (hold K S i = p)) := cnI_congr (by decide) (fun i a b => decide_eq_decide.mpr ⟨fun q => q.2, fun q => ⟨by omega, q⟩⟩)
  rw [← e1, ← e2]
  exact h
theorem ch_10 (hK : kI K) (hJ : sJ K S) (hp : 0 ≤ p) : cnI 40 (fun i => decide (hold K S i = p)) = cnI (kN K) (fun i => decide (hold K S i = p)) := by
  have hn := hK.2.2.1
  exact cnI_cut (by omega) (by omega) (fun i a b => decide_eq_false (fun e => by have := (hd_c hK hJ hp e).2.1; omega))
theorem ch_le (hK : kI K) (hJ : sJ K S) (hp : 0 ≤ p) : cnI 40 (fun i => decide (hold K S i = p)) ≤ 10 := by
  have hn := hK.2.2.1
  rw [ch_10 hK hJ hp]
  have := (cnI_r (i := kN K) (p := fun i => decide (hold K S i = p)) (by omega)).2
  omega
/-- what a row tells of a node that is there -/
theorem rD_t (hK : kI K) (hJ : sJ K S) (hR : rD K S D Z o) (h : hs S i = true) : (lt D o i = true ∧ lh D o i = hold K S i ∧ D (o + i) / 256 % 16 = S.2.1 i ∧ D (o + i) / 4096 = S.2.2.1 i + 1 ∧ D (o + i) / 256 = S.2.1 i + 16 * (S.2.2.1 i + 1) ∧ Z (o + i) = S.1 i + 1 ∧ (0 ≤ D (o + i) ∧ D (o + i) < 50000) ∧ (0 ≤ lrow D o i ∧ lrow D o i < 11)) ∧ (i = 0 → lrow D o i = 0) ∧ (1 ≤ i → rk (kQ K) (kS K) (sOk K S (hold K S i)) (S.1 i) (lrow D o i)) ∧ D (o + i) = hold K S i + 2 + 16 * lrow D o i + 256 * S.2.1 i + 4096 * (S.2.2.1 i + 1) := by
  have hr := hs_r h
  have h1 := hJ.1 i hr.1 hr.2.1 h
  have hn := hK.2.2.1
  obtain ⟨z1, r, z2, z3, z4⟩ := hR.2 i hr.1 (by omega) h
  have hh : -1 ≤ hold K S i ∧ hold K S i < 10 := by
    by_cases e : i = 0
    · rw [e, hd_0 hJ]; omega
    · have := hd_t hK hJ (show 1 ≤ i by omega) h
      have := (hJ.2.2.1 i (by omega) hr.2.1 h).2.2
      omega
  have hrr : 0 ≤ r ∧ r < 11 := by
    by_cases e : i = 0
    · have := z3 e; omega
    · have z5 := z4 (by omega)
      have hp : 0 ≤ hold K S i := by
        have := hd_t hK hJ (show 1 ≤ i by omega) h
        have := (hJ.2.2.1 i (by omega) hr.2.1 h).2.2
        omega
      have := rk_lt z5 (sO_t hK hJ hp rfl)
      have e2 : cnI (kS K) (fun i_1 => sOk K S (hold K S i) (kQ K i_1)) = _ := cn_pm (g := sOk K S (hold K S i)) hK.1 hK.2.2.2.2.1
      have e3 := ch_c0 hK hJ hp
      have e4 := ch_le hK hJ hp
      omega
  have er : lrow D o i = r := by unfold lrow; omega
  refine ⟨⟨decide_eq_true (by omega), by unfold lh; omega, by omega, by omega, by omega, z1, by omega, by omega⟩, fun e => by rw [er]; exact z3 e, fun e => by rw [er]; exact z4 e, by rw [er]; exact z2⟩
theorem rD_lt (hK : kI K) (hJ : sJ K S) (hR : rD K S D Z o) (hi : 0 ≤ i ∧ i < 10) : lt D o i = hs S i := by
  cases e : hs S i with
  | true => exact (rD_t hK hJ hR e).1.1
  | false =>
    have := (hR.1 i hi.1 hi.2 e).1
    exact decide_eq_false (by omega)
theorem rD_lk (hK : kI K) (hJ : sJ K S) (hR : rD K S D Z o) (hi : 0 ≤ i ∧ i < 10) (hp : 0 ≤ p) : lk D o p i = decide (hold K S i = p) := by
  unfold lk
  rw [rD_lt hK hJ hR hi]
  cases e : hs S i with
  | true =>
    rw [(rD_t hK hJ hR e).1.2.1]
    by_cases z : i = 0
    · rw [z, hd_0 hJ, decide_eq_false (p := -1 = p) (by omega), Bool.and_false]
    · rw [decide_eq_true (show 1 ≤ i by omega)]
      rfl
  | false =>
    rw [hd_f hJ e, decide_eq_false (p := -1 = p) (by omega), Bool.and_false, Bool.false_and]
theorem rD_kids (hK : kI K) (hJ : sJ K S) (hR : rD K S D Z o) (hp : 0 ≤ p) : cnI (kN K) (lk D o p) = cnI 40 (fun i => decide (hold K S i = p)) := by
  have hn := hK.2.2.1
  rw [ch_10 hK hJ hp]
  exact cnI_congr (by omega) (fun i a b => rD_lk hK hJ hR (by omega) hp)
theorem rD_cn (hK : kI K) (hJ : sJ K S) (hR : rD K S D Z o) (hi : 0 ≤ i ∧ i ≤ 10) (hp : 0 ≤ p) : cnI i (lk D o p) = cnI i (fun i => decide (hold K S i = p)) := by
  have hn := hK.2.2.1
  exact cnI_congr (by omega) (fun i a b => rD_lk hK hJ hR (by omega) hp)
/-- the law's child at a place -/
theorem kd_eq {D : Int → Int} {o p : Int} {b : Bool} {q : Int} {c : Int} (n : Nat) (hc : 0 ≤ c ∧ c < n) (h1 : lk D o p c = true ∧ (if b = true then cnI c (lk D o p) else lrow D o c) = q) (h2 : ∀ j : Nat, j < n → lk D o p j = true → (if b = true then cnI j (lk D o p) else lrow D o j) = q → (j : Int) = c) : kdF D o p b q n = c := by
  induction n with
  | zero => omega
  | succ n ih =>
    unfold kdF
    by_cases e : lk D o p n = true ∧ (if b = true then cnI n (lk D o p) else lrow D o n) = q
    · rw [if_pos e]
      exact h2 n (by omega) e.1 e.2
    · rw [if_neg e]
      have hne : ¬ c = (n : Int) := fun z => e (by rw [← z]; exact h1)
      exact ih (by omega) (fun j hj => h2 j (by omega))
theorem kd_no {D : Int → Int} {o p : Int} {b : Bool} {q : Int} (n : Nat) (h2 : ∀ j : Nat, j < n → lk D o p j = true → ¬ (if b = true then cnI j (lk D o p) else lrow D o j) = q) : kdF D o p b q n = -1 := by
  induction n with
  | zero => rfl
  | succ n ih =>
    unfold kdF
    rw [if_neg (fun e => h2 n (by omega) e.1 e.2)]
    exact ih (fun j hj => h2 j (by omega))
theorem kd_t (hK : kI K) (hJ : sJ K S) (hR : rD K S D Z o) (hp : 0 ≤ p) (hc : hold K S c = p) {b : Bool} (hq : (if b = true then cnI c (fun i => decide (hold K S i = p)) else lrow D o c) = q) : kdF D o p b q (kN K).toNat = c := by
  have hn := hK.2.2.1
  have hh := hd_c hK hJ hp hc
  have lkc : ∀ j, 0 ≤ j → j < kN K → (lk D o p j = true ↔ hold K S j = p) := fun j a b => by
    rw [rD_lk hK hJ hR (by omega) hp]
    exact decide_eq_true_iff
  refine kd_eq _ (by omega) ⟨(lkc c (by omega) (by omega)).mpr hc, ?_⟩ (fun j hj e1 e2 => ?_)
  · rw [rD_cn hK hJ hR (by omega) hp]
    exact hq
  · rw [rD_cn hK hJ hR (by omega) hp] at e2
    have e1 := (lkc j (by omega) (by omega)).mp e1
    cases b with
    | true =>
      have e2 : cnI j (fun i => decide (hold K S i = p)) = q := e2
      have hq : cnI c (fun i => decide (hold K S i = p)) = q := hq
      by_cases z : (j : Int) < c
      · have := cnI_lt (q := fun i => decide (hold K S i = p)) (show 0 ≤ (j : Int) by omega) z (decide_eq_true e1); omega
      · by_cases z2 : c < (j : Int)
        · have := cnI_lt (q := fun i => decide (hold K S i = p)) (show 0 ≤ c by omega) z2 (decide_eq_true hc); omega
        · omega
    | false =>
      have e2 : lrow D o j = q := e2
      have hq : lrow D o c = q := hq
      have h2 := hd_c hK hJ hp e1
      have r1 := (rD_t hK hJ hR h2.1).2.2.1 h2.2.1.1
      have r2 := (rD_t hK hJ hR hh.1).2.2.1 hh.2.1.1
      rw [e1, e2] at r1
      rw [hc, hq] at r2
      have := rk_ne r1 r2 (sO_t hK hJ hp e1) (sO_t hK hJ hp hc)
      rw [← h2.2.2.2.2.1, ← hh.2.2.2.2.1, this]
theorem kd_n (hK : kI K) (hJ : sJ K S) (hR : rD K S D Z o) (hp : 0 ≤ p) {b : Bool} (h : ∀ c, hold K S c = p → ¬ (if b = true then cnI c (fun i => decide (hold K S i = p)) else lrow D o c) = q) : kdF D o p b q (kN K).toNat = -1 := by
  have hn := hK.2.2.1
  refine kd_no _ (fun j hj e1 e2 => ?_)
  rw [rD_cn hK hJ hR (by omega) hp] at e2
  rw [rD_lk hK hJ hR (by omega) hp] at e1
  exact h j (of_decide_eq_true e1) e2
end RB
