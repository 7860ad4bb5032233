/-! What an edit does to the relation: a node moved, nodes removed, a tag, an aim. -/
section RK2
variable {K K' : dK} {S T : dS} {D D' Z Z' E E' W F F' : Int → Int} {o i p x r c j lo s pl ah n sm tg m t : Int} {q : Int → Int} {dp : Int → Nat}
theorem wt_neg (f : Int → Int) (n : Int) (m : Nat) : wth f m (-1) n = false := by
  cases m with
  | zero => rfl
  | succ m =>
    unfold wth
    exact if_pos rfl
theorem wt_m (hI : sI K S) (hT : tI K S dp) : ∀ (m m' : Nat) (i : Int), hs S i = true → dp i < m → dp i < m' → wth (hold K S) m i n = wth (hold K S) m' i n := by
  intro m
  induction m with
  | zero => intro m' i _ h; omega
  | succ m ih =>
    intro m' i h h1 h2
    cases m' with
    | zero => omega
    | succ m' =>
      have hr := hs_r h
      unfold wth
      rw [if_neg (show ¬ i = -1 by omega), if_neg (show ¬ i = -1 by omega)]
      by_cases e : i = n
      · rw [if_pos e, if_pos e]
      · rw [if_neg e, if_neg e]
        by_cases z : i = 0
        · rw [z, hd_0 hI.1, wt_neg, wt_neg]
        · have h3 := tI_c hI hT (by omega) h
          exact ih m' _ h3.1 (by omega) (by omega)
theorem wt_up (hI : sI K S) (hT : tI K S dp) (h : hs S i = true) (h1 : 1 ≤ i) (hn : ¬ i = n) : wth (hold K S) 40 i n = wth (hold K S) 40 (hold K S i) n := by
  have h3 := tI_c hI hT h1 h
  have h4 := tI_l hT h
  have e : wth (hold K S) 40 i n = wth (hold K S) 39 (hold K S i) n := by
    show (if i = -1 then false else if i = n then true else wth (hold K S) 39 (hold K S i) n) = _
    rw [if_neg (by omega), if_neg hn]
  rw [e]
  exact wt_m hI hT 39 40 _ h3.1 (by omega) (by omega)
theorem wt_0 (hI : sI K S) (hn : ¬ n = 0) : wth (hold K S) 40 0 n = false := by
  show (if (0 : Int) = -1 then false else if (0 : Int) = n then true else wth (hold K S) 39 (hold K S 0) n) = _
  rw [if_neg (by omega), if_neg (by omega), hd_0 hI.1, wt_neg]
theorem wt_n (hn : 0 ≤ n) : wth (hold K S) 40 n n = true := by
  show (if n = -1 then false else if n = n then true else wth (hold K S) 39 (hold K S n) n) = _
  rw [if_neg (by omega), if_pos rfl]
/-- places in a row are apart -/
theorem lr_ne (hK : kI K) (hJ : sJ K S) (hR : rD K S D Z o) (hp : 0 ≤ p) (hi : hold K S i = p) (hj : hold K S j = p) (h : lrow D o i = lrow D o j) : i = j := by
  have a := hd_c hK hJ hp hi
  have b := hd_c hK hJ hp hj
  have r1 := (rD_t hK hJ hR a.1).2.2.1 a.2.1.1
  have r2 := (rD_t hK hJ hR b.1).2.2.1 b.2.1.1
  rw [hi, h] at r1
  rw [hj] at r2
  have := rk_ne r1 r2 (sO_t hK hJ hp hi) (sO_t hK hJ hp hj)
  rw [← a.2.2.2.2.1, ← b.2.2.2.2.1, this]
theorem sh_w (hi : 0 ≤ i) : shF D o p r s m (o + i) = if 1 ≤ i ∧ i < m ∧ lk D o p i = true ∧ r ≤ lrow D o i then D (o + i) + 16 * s else D (o + i) := by
  unfold shF
  rw [show o + i - o = i by omega]
  exact ite_c ⟨fun h => ⟨by omega, by omega, h.2.2.1, h.2.2.2⟩, fun h => ⟨by omega, by omega, h.2.2.1, h.2.2.2⟩⟩ _ _
/-- a row in which some are struck and those behind one moved ahead: of nodes that stay and of those that go -/
theorem sh_out (hK : kI K) (hJ : sJ K S) (hR : rD K S D Z o) (hn : hs S n = true) (hn1 : 1 ≤ n) {D0 : Int → Int} (X : Int → Bool) (hX : X n = true) (d0 : ∀ i, 0 ≤ i → i < 10 → D0 (o + i) = if X i = true then 0 else D (o + i)) (hi : 0 ≤ i ∧ i < 10) : (hs S i = true → X i = false → shF D0 o (hold K S n) (lrow D o n) (-1) (kN K) (o + i) = D (o + i) - (if hold K S i = hold K S n ∧ lrow D o n < lrow D o i then 16 else 0)) ∧ ((hs S i && !X i) = false → shF D0 o (hold K S n) (lrow D o n) (-1) (kN K) (o + i) = 0) := by
  have hr := hs_r hn
  have hp : 0 ≤ hold K S n := by
    rw [hd_t hK hJ hn1 hn]
    exact (hJ.2.2.1 n hn1 hr.2.1 hn).2.2.1
  rw [sh_w hi.1]
  refine ⟨fun h hx => ?_, fun h => ?_⟩
  · have e0 := d0 i hi.1 hi.2
    rw [if_neg (by rw [hx]; decide)] at e0
    have el : lk D0 o (hold K S n) i = lk D o (hold K S n) i := by
      unfold lk lt lh
      rw [e0]
    have er : lrow D0 o i = lrow D o i := by
      unfold lrow
      rw [e0]
    rw [el, er, e0, rD_lk hK hJ hR hi hp]
    by_cases e : hold K S i = hold K S n ∧ lrow D o n < lrow D o i
    · have h1 := hd_c hK hJ hp e.1
      rw [if_pos e, if_pos ⟨h1.2.1.1, h1.2.1.2, decide_eq_true e.1, by omega⟩]
      omega
    · rw [if_neg e, if_neg (fun z => ?_)]
      · omega
      · have z1 := of_decide_eq_true z.2.2.1
        have : ¬ lrow D o n = lrow D o i := fun y => by
          have := lr_ne hK hJ hR hp rfl z1 y
          rw [← this, hX] at hx
          cases hx
        exact e ⟨z1, by have := z.2.2.2; omega⟩
  · have e0 := d0 i hi.1 hi.2
    have e1 : D0 (o + i) = 0 := by
      rw [e0]
      cases hx : X i with
      | true => exact if_pos rfl
      | false =>
        rw [if_neg (by decide)]
        have : hs S i = false := by
          rw [hx] at h
          revert h
          cases hs S i <;> decide
        exact (hR.1 i hi.1 hi.2 this).1
    have el : lk D0 o (hold K S n) i = false := by
      unfold lk lt
      rw [e1, decide_eq_false (p := (0 : Int) % 16 > 0) (by decide), Bool.and_false, Bool.false_and]
    rw [el, if_neg (fun z => by cases z.2.2.1)]
    exact e1
/-- a state without a node -/
def offS (S : dS) (n : Int) : dS := (uz S.1 n (-2), uz S.2.1 n (-2), uz S.2.2.1 n (-2), S.2.2.2)
theorem of_hs : hs (offS S n) i = (hs S i && !decide (i = n)) := by
  unfold hs offS
  dsimp only
  by_cases e : i = n
  · rw [decide_eq_true (p := i = n) e, Bool.not_true, Bool.and_false]
    refine decide_eq_false (fun z => z.2.2 ?_)
    rw [e, uz_same]
  · rw [decide_eq_false (p := i = n) e, Bool.not_false, Bool.and_true]
    refine decide_eq_decide.mpr ?_
    rw [uz_ne _ _ e]
theorem of_ne (e : ¬ i = n) : (offS S n).1 i = S.1 i ∧ (offS S n).2.1 i = S.2.1 i ∧ (offS S n).2.2.1 i = S.2.2.1 i := ⟨uz_ne _ _ e, uz_ne _ _ e, uz_ne _ _ e⟩
theorem of_J (hJ : sJ K S) (hn : 1 ≤ n) : sJ K (offS S n) := by
  refine ⟨fun i a b h => ?_, (of_ne (by omega)).1.trans hJ.2.1, fun i a b h => ?_, fun i a b h => ?_⟩
  · rw [of_hs, Bool.and_eq_true] at h
    have e : ¬ i = n := fun z => by rw [decide_eq_true z] at h; cases h.2
    rw [(of_ne e).2.1, (of_ne e).2.2]
    exact hJ.1 i a b h.1
  · rw [of_hs, Bool.and_eq_true] at h
    have e : ¬ i = n := fun z => by rw [decide_eq_true z] at h; cases h.2
    rw [(of_ne e).1]
    exact hJ.2.2.1 i a b h.1
  · by_cases e : i = n
    · rw [e]
      exact ⟨uz_same _ _ _, uz_same _ _ _, uz_same _ _ _⟩
    · rw [of_hs, decide_eq_false e, Bool.not_false, Bool.and_true] at h
      rw [(of_ne e).1, (of_ne e).2.1, (of_ne e).2.2]
      exact hJ.2.2.2 i a b h
/-- a node moved -/
theorem mv_kx (hK : kI K) (hS : kS K < 120) (hi : insd (kQ K) (kS K) ah q) : kx K (kpS (plS K n p) q) := by
  have hn := hK.2.2.1
  have h0 := hK.2.2.2.2.1
  have e2 : kS (kpS (plS K n p) q) = kS K + 1 := rfl
  refine ⟨⟨in_pm h0 hK.1 hi, hK.2.1, hn, hK.2.2.2.1, by rw [e2]; omega, by rw [e2]; omega⟩, ⟨Int.le_refl _, by rw [e2]; omega, Int.le_refl _⟩, fun i a b => rfl, fun s a b => ⟨?_, ?_⟩, fun x a b => ⟨rfl, rfl, rfl⟩, fun g x r hg h => ?_, fun g x r _ h => h⟩
  · exact uz_ne _ _ (show ¬ s = kS K by omega)
  · exact uz_ne _ _ (show ¬ s = kS K by omega)
  · exact in_rf hi (hg (kS K) (Int.le_refl _) (by rw [e2]; omega)) h
theorem mv_hd (hK : kI K) (hS : kS K < 120) (hn : 0 ≤ n ∧ n < 40) : hold (kpS (plS K n p) q) (movT K S n) n = p ∧ ∀ i, ¬ i = n → hold (kpS (plS K n p) q) (movT K S n) i = hold (kpS (plS K n p) q) S i := by
  have h0 := hK.2.2.2.2.1
  refine ⟨?_, fun i e => ?_⟩
  · have : gS (movT K S n).1 n = kS K := by rw [gS_t hn]; exact uz_same _ _ _
    rw [hd_S this (by omega)]
    exact uz_same _ _ _
  · unfold hold gS
    rw [show (movT K S n).1 i = S.1 i from uz_ne _ _ e]
theorem mv_I (hK : kI K) (hI : sI K S) (hS : kS K < 120) (hi : insd (kQ K) (kS K) ah q) (hn : hs S n = true) (hn1 : 1 ≤ n) (hp : hs S p = true) (hk : kK K p ≤ 1) : sI (kpS (plS K n p) q) (movT K S n) := by
  have hx := mv_kx (n := n) (p := p) hK hS hi
  have hnn := hK.2.2.1
  have h0 := hK.2.2.2.2.1
  have hpr := hs_r hp
  have hnr := hs_r hn
  have hpn := (hI.1.1 p hpr.1 hpr.2.1 hp).1
  have hI2 := kx_I hx hK hI
  obtain ⟨hd1, hd2⟩ := mv_hd (p := p) (q := q) (S := S) hK hS ⟨hnr.1, hnr.2.1⟩
  have e2 : kS (kpS (plS K n p) q) = kS K + 1 := rfl
  have e3 : kH (kpS (plS K n p) q) (kS K) = p := uz_same _ _ _
  have e4 : kO (kpS (plS K n p) q) (kS K) = n := uz_same _ _ _
  have e5 : kK (kpS (plS K n p) q) p = kK K p := rfl
  have e6 : kN (kpS (plS K n p) q) = kN K := rfl
  generalize kpS (plS K n p) q = K2 at *
  have hT1 : (movT K S n).1 n = kS K := uz_same _ _ _
  have ho : ∀ i, ¬ i = n → (movT K S n).1 i = S.1 i := fun i e => uz_ne _ _ e
  have hh : ∀ i, hs (movT K S n) i = hs S i := fun i => rfl
  refine ⟨⟨hI2.1.1, (ho 0 (by omega)).trans hI2.1.2.1, fun i a b h => ?_, fun i a b h => ?_⟩, hI2.2.1, fun i a b h => ?_, hI2.2.2.2⟩
  · by_cases e : i = n
    · rw [e, hT1, e3, e4]
      omega
    · rw [ho i e]
      exact hI2.1.2.2.1 i a b h
  · by_cases e : i = n
    · rw [e, hh, hn] at h; cases h
    · rw [ho i e]
      exact hI2.1.2.2.2 i a b h
  · rw [hh]
    by_cases e : i = n
    · rw [e, hd1, e5]
      exact ⟨hp, hk⟩
    · rw [hd2 i e]
      exact hI2.2.2.1 i a b h
theorem mv_T (hK : kI K) (hI : sI K S) (hT : tI K S dp) (hO : okS K S) (hS : kS K < 120) (hi : insd (kQ K) (kS K) ah q) (hn : hs S n = true) (hn1 : 1 ≤ n) (hp : hs S p = true) (hw : wth (hold K S) 40 p n = false) : tI (kpS (plS K n p) q) (movT K S n) (fun i => if wth (hold K S) 40 i n = true then dp i - dp n + dp p + 1 else dp i) := by
  have hx := mv_kx (n := n) (p := p) hK hS hi
  have hnr := hs_r hn
  have hdx := kx_hd hx hK hI.1
  obtain ⟨hd1, hd2⟩ := mv_hd (p := p) (q := q) (S := S) hK hS ⟨hnr.1, hnr.2.1⟩
  generalize kpS (plS K n p) q = K2 at *
  refine ⟨?_, fun i a b h => ?_⟩
  · show (if wth (hold K S) 40 0 n = true then _ else dp 0) = 0
    rw [wt_0 hI (by omega), if_neg (by decide)]
    exact hT.1
  · have h : hs S i = true := h
    show (if wth (hold K S) 40 i n = true then dp i - dp n + dp p + 1 else dp i) = (if wth (hold K S) 40 (hold K2 (movT K S n) i) n = true then dp (hold K2 (movT K S n) i) - dp n + dp p + 1 else dp (hold K2 (movT K S n) i)) + 1 ∧ (if wth (hold K S) 40 i n = true then dp i - dp n + dp p + 1 else dp i) < 30
    have g1 := gd_dp hI hT hO h
    have g2 := gd_dp hI hT hO hp
    by_cases e : i = n
    · rw [e, hd1, hw, wt_n hnr.1, if_pos rfl, if_neg (by decide)]
      omega
    · have h3 := tI_c hI hT a h
      rw [hd2 i e, hdx, ← wt_up hI hT h a e]
      cases y : wth (hold K S) 40 i n with
      | true =>
        have h4 := wt_le hI hT 40 _ h3.1 ((wt_up hI hT h a e).symm.trans y)
        rw [if_pos rfl, if_pos rfl]
        omega
      | false =>
        rw [if_neg (by decide), if_neg (by decide)]
        omega
theorem mv_D (hK : kI K) (hI : sI K S) (hR : rD K S D Z o) (hF : rF K F) (hS : kS K < 120) (hi : insd (kQ K) (kS K) ah q) (hn : hs S n = true) (hn1 : 1 ≤ n) (hp : hs S p = true) (hk : kK K p = 0 ∨ kK K p = 1) (ha : ahd K S p n pl ah) {D0 D1 D2 : Int → Int}
    (d0 : ∀ i, 0 ≤ i → i < 10 → D0 (o + i) = if decide (i = n) = true then 0 else D (o + i)) (d1 : ∀ i, 0 ≤ i → i < 10 → D1 (o + i) = shF D0 o (hold K S n) (lrow D o n) (-1) (kN K) (o + i)) (d2 : ∀ i, 0 ≤ i → i < 10 → ¬ i = n → D2 (o + i) = shF D1 o p (rpF D1 F o p pl (kN K)) 1 (kN K) (o + i)) (d3 : D2 (o + n) = D (o + n) / 256 * 256 + p + 2 + 16 * rpF D1 F o p pl (kN K)) (z1 : Z' (o + n) = kS K + 1) (z2 : ∀ i, 0 ≤ i → i < 10 → ¬ i = n → Z' (o + i) = Z (o + i)) : rD (kpS (plS K n p) q) (movT K S n) D2 Z' o ∧ rD K (offS S n) D1 (uz Z (o + n) 0) o := by
  have hx := mv_kx (n := n) (p := p) hK hS hi
  have hI2 := mv_I hK hI hS hi hn hn1 hp (by omega)
  have hnn := hK.2.2.1
  have hpr := hs_r hp
  have hnr := hs_r hn
  have hpn := (hI.1.1 p hpr.1 hpr.2.1 hp).1
  have hnN := (hI.1.1 n hnr.1 hnr.2.1 hn).1
  have hJ1 := of_J hI.1 hn1
  have xn : decide (n = n) = true := decide_eq_true rfl
  have hR1 : rD K (offS S n) D1 (uz Z (o + n) 0) o := by
    refine rD_ou hK hI.1 hJ1 hR hn hn1 (fun i => decide (i = n)) xn (fun i => of_hs) (fun i h => ?_) (fun i c _ h _ _ _ => of_decide_eq_true h) (fun i a b h => ?_) (fun i a b h => ?_)
    · rw [of_hs, Bool.and_eq_true] at h
      exact of_ne (fun z => by rw [decide_eq_true z] at h; cases h.2)
    · rw [of_hs, Bool.and_eq_true] at h
      have e : ¬ i = n := fun z => by rw [decide_eq_true z] at h; cases h.2
      rw [d1 i a b]
      exact ⟨(sh_out hK hI.1 hR hn hn1 (fun i => decide (i = n)) xn d0 ⟨a, b⟩).1 h.1 (decide_eq_false e), uz_ne _ _ (by omega)⟩
    · rw [of_hs] at h
      rw [d1 i a b]
      refine ⟨(sh_out hK hI.1 hR hn hn1 (fun i => decide (i = n)) xn d0 ⟨a, b⟩).2 h, ?_⟩
      by_cases e : i = n
      · rw [e, uz_same]
      · rw [decide_eq_false e, Bool.not_false, Bool.and_true] at h
        rw [uz_ne _ _ (by omega)]
        exact (hR.1 i a b h).2
  refine ⟨?_, hR1⟩
  have hn1f : hs (offS S n) n = false := by rw [of_hs, decide_eq_true rfl, Bool.not_true, Bool.and_false]
  have ha1 := ah_out hK hI.1 hJ1 hpr.1 hk hn1f (fun i e => (of_ne e).1) ha
  have hak := ah_kid hK hJ1 hR1 ⟨hpr.1, hpn⟩ hF hk ha1
  have rn := (rD_t hK hI.1 hR hn).1
  refine rD_in (r0 := rpF D1 F o p pl (kN K)) (n := n) (p := p) (ah := ah) hK hx.1 hJ1 hI2.1 hR1 ⟨by omega, by omega⟩ hn1f hn hpr.1 rfl hi (fun s a b => ⟨uz_ne _ _ (show ¬ s = kS K by omega), uz_ne _ _ (show ¬ s = kS K by omega)⟩) ⟨uz_same _ _ _, uz_same _ _ _⟩ (uz_same _ _ _) (fun i e => ⟨?_, ?_, ?_, ?_⟩) hak ?_ z1 (fun i a b e => ?_)
  · rw [of_hs, decide_eq_false e, Bool.not_false, Bool.and_true]
    rfl
  · rw [(of_ne e).1]
    exact uz_ne _ _ e
  · rw [(of_ne e).2.1]
    rfl
  · rw [(of_ne e).2.2]
    rfl
  · rw [d3, show (movT K S n).2.1 n = S.2.1 n from rfl, show (movT K S n).2.2.1 n = S.2.2.1 n from rfl]
    omega
  · rw [d2 i a b e, sh_v hK hJ1 hR1 hpr.1 ⟨a, b⟩, show (16 : Int) * 1 = 16 from rfl, z2 i a b e, uz_ne _ _ (by omega)]
    exact ⟨rfl, rfl⟩
/-- how many children, one left out -/
theorem ch_o1 (hn : 0 ≤ n ∧ n < 40) : cnI 40 (fun i => decide (¬ i = n ∧ hold K S i = p)) = cnI 40 (fun i => decide (hold K S i = p)) - b2 (decide (hold K S n = p)) := by
  have e0 : cnI 40 (fun i => decide (¬ i = n ∧ hold K S i = p)) = cnI 40 (fun j => decide (hold K S j = p) && !decide (j = n)) := cnI_congr (by decide) (fun i a b => by
    by_cases e : i = n
    · rw [decide_eq_false (fun z => z.1 e), decide_eq_true e, Bool.not_true, Bool.and_false]
    · rw [decide_eq_false e, Bool.not_false, Bool.and_true]
      exact decide_eq_decide.mpr ⟨fun z => z.2, fun z => ⟨e, z⟩⟩)
  rw [e0]
  by_cases e : hold K S n = p
  · have := cnI_out (L := 40) (i := n) (q := fun j => decide (hold K S j = p)) hn (decide_eq_true e)
    rw [this, decide_eq_true e]
    show _ = _ + 1 - 1
    omega
  · rw [decide_eq_false e]
    show _ = _ - (0 : Int)
    rw [Int.sub_zero]
    refine cnI_congr (by decide) (fun i a b => ?_)
    by_cases z : i = n
    · rw [z, decide_eq_false e, Bool.false_and]
    · rw [decide_eq_false z, Bool.not_false, Bool.and_true]
end RK2
