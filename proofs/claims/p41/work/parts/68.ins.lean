/-! The law's rows when a node comes in or goes out; a stock that has grown. -/
section RI
variable {K K' : dK} {S T : dS} {D D' Z Z' E W F : Int → Int} {o i p x r c j q lo s pl ah n r0 : Int}
theorem hd_S (hs1 : gS S.1 i = s) (h0 : 0 ≤ s ∧ s < 120) : hold K S i = kH K s := by
  unfold hold
  rw [hs1]
  exact if_pos h0
/-- a node comes in, behind a child or ahead of all -/
theorem rD_in (hK : kI K) (hK' : kI K') (hJ : sJ K S) (hJ' : sJ K' T) (hR : rD K S D Z o) (hn : 1 ≤ n ∧ n < 10) (hn1 : hs S n = false) (hn2 : hs T n = true) (hp : 0 ≤ p)
    (kn : kS K' = kS K + 1) (ki : insd (kQ K) (kS K) ah (kQ K')) (kh : ∀ s, 0 ≤ s → s < kS K → kH K' s = kH K s ∧ kO K' s = kO K s) (kp : kH K' (kS K) = p ∧ kO K' (kS K) = n)
    (tn : T.1 n = kS K) (ti : ∀ i, ¬ i = n → hs T i = hs S i ∧ T.1 i = S.1 i ∧ T.2.1 i = S.2.1 i ∧ T.2.2.1 i = S.2.2.1 i)
    (ha : (ah = -1 ∧ r0 = 0) ∨ ∃ c, hold K S c = p ∧ ah = S.1 c ∧ r0 = lrow D o c + 1)
    (d1 : D' (o + n) = p + 2 + 16 * r0 + 256 * T.2.1 n + 4096 * (T.2.2.1 n + 1)) (d2 : Z' (o + n) = kS K + 1)
    (d3 : ∀ i, 0 ≤ i → i < 10 → ¬ i = n → D' (o + i) = D (o + i) + (if hold K S i = p ∧ r0 ≤ lrow D o i then 16 else 0) ∧ Z' (o + i) = Z (o + i)) : rD K' T D' Z' o := by
  have hS0 := hK.2.2.2.2.1
  have hS1 := hK'.2.2.2.2.2
  have gn : gS S.1 n = -2 := by rw [gS_t (by omega)]; exact (hJ.2.2.2 n (by omega) (by omega) hn1).1
  have gtn : gS T.1 n = kS K := by rw [gS_t (by omega)]; exact tn
  have hdn : hold K' T n = p := by rw [hd_S gtn (by omega)]; exact kp.1
  have gti : ∀ i, ¬ i = n → gS T.1 i = gS S.1 i := fun i hi => by unfold gS; rw [(ti i hi).2.1]
  have hdi : ∀ i, ¬ i = n → hs S i = true → hold K' T i = hold K S i := fun i hi h => by
    have hr := hs_r h
    by_cases z : i = 0
    · rw [z, hd_0 hJ, hd_0 hJ']
    · have h2 := hJ.2.2.1 i (by omega) hr.2.1 h
      have e : gS T.1 i = S.1 i := by rw [gti i hi, gS_t ⟨hr.1, hr.2.1⟩]
      rw [hd_t hK hJ (by omega) h, hd_S e (by omega)]
      exact (kh _ h2.1.1 h2.1.2).1
  -- what counts among the spots
  have go : ∀ h s, 0 ≤ s → s < kS K → sOk K S h s = sOk K' T h s := fun h s a b => by
    unfold sOk
    rw [(kh s a b).1, (kh s a b).2]
    by_cases e : kO K s = n
    · rw [e, gn, gtn]
      exact decide_eq_decide.mpr ⟨fun q => by omega, fun q => by omega⟩
    · rw [gti _ e]
  have gw : ∀ h, sOk K' T h (kS K) = decide (p = h) := fun h => by
    unfold sOk
    rw [kp.1, kp.2, gtn]
    exact decide_eq_decide.mpr ⟨fun q => q.1, fun q => ⟨q, rfl⟩⟩
  obtain ⟨r1, b0, b1, b2', b3, b4⟩ := in_rt (g := sOk K' T p) hK.1 ki (by rw [gw]; exact decide_eq_true rfl)
  have er : r1 = r0 := by
    rcases ha with ⟨h1, h2⟩ | ⟨c, h1, h2, h3⟩
    · rw [b2' h1, h2]
    · have hh := hd_c hK hJ hp h1
      have r2 := (rD_t hK hJ hR hh.1).2.2.1 hh.2.1.1
      rw [h1] at r2
      have := b3 (lrow D o c) (by rw [h2, ← go p _ hh.2.2.2.1.1 hh.2.2.2.1.2]; exact sO_t hK hJ hp h1) (by rw [h2]; exact rk_cg hK.1 (fun y a b => go p y a b) r2)
      omega
  subst er
  rw [← kn] at b1 b4
  refine ⟨fun i a b h => ?_, fun i a b h => ?_⟩
  · by_cases e : i = n
    · rw [e, hn2] at h; cases h
    · rw [(ti i e).1] at h
      have h1 := hR.1 i a b h
      have h2 := d3 i a b e
      rw [hd_f hJ h, if_neg (by omega)] at h2
      omega
  · by_cases e : i = n
    · rw [e, hdn, tn]
      exact ⟨d2, r1, d1, fun z => by omega, fun _ => b1⟩
    · have h' := h
      rw [(ti i e).1] at h
      have h1 := rD_t hK hJ hR h
      obtain ⟨h2, h3⟩ := d3 i a b e
      rw [hdi i e h, (ti i e).2.1, (ti i e).2.2.1, (ti i e).2.2.2]
      refine ⟨by rw [h3]; exact h1.1.2.2.2.2.2.1, if hold K S i = p ∧ r1 ≤ lrow D o i then lrow D o i + 1 else lrow D o i, ?_, ?_, ?_⟩
      · have h4 := h1.2.2.2
        by_cases z : hold K S i = p ∧ r1 ≤ lrow D o i
        · rw [if_pos z] at h2 ⊢
          omega
        · rw [if_neg z] at h2 ⊢
          omega
      · intro z
        rw [z, hd_0 hJ, if_neg (by omega)]
        have := h1.2.1 z
        rw [z] at this
        exact this
      · intro z
        have r2 := h1.2.2.1 z
        by_cases y : hold K S i = p
        · rw [y] at r2 ⊢
          have hh := hd_c hK hJ hp y
          have := b4 (S.1 i) (lrow D o i) (by rw [← go p _ hh.2.2.2.1.1 hh.2.2.2.1.2]; exact sO_t hK hJ hp y) (rk_cg hK.1 (fun y a b => go p y a b) r2)
          rw [ite_c (q := p = p ∧ r1 ≤ lrow D o i) (by exact ⟨fun q => ⟨rfl, q⟩, fun q => q.2⟩)] at this
          exact this
        · rw [if_neg (fun q => y q.1), kn]
          exact in_rf ki (by rw [gw]; exact decide_eq_false (fun q => y q.symm)) (rk_cg hK.1 (fun y a b => go _ y a b) r2)
/-- nodes go out: one, and some of which none is a child of a node that stays -/
theorem rD_ou (hK : kI K) (hJ : sJ K S) (hJ' : sJ K T) (hR : rD K S D Z o) (hn : hs S n = true) (hn0 : 1 ≤ n) (X : Int → Bool) (hX : X n = true)
    (tx : ∀ i, hs T i = (hs S i && !X i)) (ti : ∀ i, hs T i = true → T.1 i = S.1 i ∧ T.2.1 i = S.2.1 i ∧ T.2.2.1 i = S.2.2.1 i)
    (tc : ∀ i c, hs T i = true → X c = true → hs S c = true → 0 ≤ hold K S i → hold K S c = hold K S i → c = n)
    (d3 : ∀ i, 0 ≤ i → i < 10 → hs T i = true → D' (o + i) = D (o + i) - (if hold K S i = hold K S n ∧ lrow D o n < lrow D o i then 16 else 0) ∧ Z' (o + i) = Z (o + i))
    (d4 : ∀ i, 0 ≤ i → i < 10 → hs T i = false → D' (o + i) = 0 ∧ Z' (o + i) = 0) : rD K T D' Z' o := by
  refine ⟨d4, fun i a b h => ?_⟩
  have hSi : hs S i = true ∧ X i = false := by
    rw [tx, Bool.and_eq_true] at h
    exact ⟨h.1, by have := h.2; revert this; cases X i <;> decide⟩
  have hg : ∀ j, hs T j = true → gS T.1 j = gS S.1 j := fun j hj => by unfold gS; rw [(ti j hj).1]
  have hf : ∀ j, hs T j = false → gS T.1 j = -2 := fun j hj => by
    by_cases e : 0 ≤ j ∧ j < 40
    · rw [gS_t e]; exact (hJ'.2.2.2 j e.1 e.2 hj).1
    · exact gS_f e
  have hdi : hold K T i = hold K S i := by unfold hold; rw [hg i h]
  have h1 := rD_t hK hJ hR hSi.1
  obtain ⟨h2, h3⟩ := d3 i a b h
  rw [hdi, (ti i h).1, (ti i h).2.1, (ti i h).2.2]
  have hin : ¬ i = n := fun e => by rw [e, hX] at hSi; cases hSi.2
  have hnr := hs_r hn
  have hN := rD_t hK hJ hR hn
  refine ⟨by rw [h3]; exact h1.1.2.2.2.2.2.1, if hold K S i = hold K S n ∧ lrow D o n < lrow D o i then lrow D o i - 1 else lrow D o i, ?_, ?_, ?_⟩
  · have h4 := h1.2.2.2
    by_cases z : hold K S i = hold K S n ∧ lrow D o n < lrow D o i
    · rw [if_pos z] at h2 ⊢
      omega
    · rw [if_neg z] at h2 ⊢
      omega
  · intro z
    have hN2 := hN.1.2.2.2.2.2.2.2.1
    have h5 := h1.2.1 z
    rw [if_neg (by omega)]
    exact h5
  · intro z
    have r2 := h1.2.2.1 z
    have rn := hN.2.2.1 hn0
    have hp : 0 ≤ hold K S i := by
      rw [hd_t hK hJ z hSi.1]
      exact (hJ.2.2.1 i z (by omega) hSi.1).2.2.1
    -- what counts among the spots
    have go : ∀ s, 0 ≤ s → s < kS K → sOk K T (hold K S i) s = (sOk K S (hold K S i) s && !decide (s = S.1 n ∧ hold K S i = hold K S n)) := fun s s1 s2 => by
      cases e : sOk K S (hold K S i) s with
      | true =>
        have hc := sO_c hK hJ ⟨s1, s2⟩ hp e
        have hcS := (hd_c hK hJ hp hc.1).1
        by_cases y : s = S.1 n ∧ hold K S i = hold K S n
        · have : kO K s = n := by rw [y.1]; exact (hJ.2.2.1 n hn0 hnr.2.1 hn).2.1
          have e2 : hs T (kO K s) = false := by rw [tx, this, hX, hn]; rfl
          rw [decide_eq_true y]
          exact decide_eq_false (fun q => by rw [hf _ e2] at q; omega)
        · rw [decide_eq_false y]
          have e2 : hs T (kO K s) = true := by
            rw [tx, hcS]
            cases e3 : X (kO K s) with
            | false => rfl
            | true =>
              have := tc i (kO K s) h e3 hcS hp hc.1
              refine absurd ⟨?_, ?_⟩ y
              · rw [← hc.2.1, this]
              · rw [← hc.1, this]
          have e' : kH K s = hold K S i ∧ gS S.1 (kO K s) = s := of_decide_eq_true e
          exact decide_eq_true ⟨e'.1, by rw [hg _ e2]; exact e'.2⟩
      | false =>
        show sOk K T (hold K S i) s = false
        cases e2 : hs T (kO K s) with
        | true =>
          rw [← e]
          unfold sOk
          rw [hg _ e2]
        | false => exact decide_eq_false (fun q => by rw [hf _ e2] at q; omega)
    by_cases y : hold K S i = hold K S n
    · have hne : ¬ S.1 i = S.1 n := fun q => by
        have a1 := (hJ.2.2.1 i z (by omega) hSi.1).2.1
        have a2 := (hJ.2.2.1 n hn0 hnr.2.1 hn).2.1
        rw [q] at a1
        omega
      rw [← y] at rn
      have := rk_out (g' := sOk K T (hold K S i)) hK.1 (by rw [y]; exact sO_t hK hJ (by omega) rfl) rn (fun s s1 s2 => by
        rw [go s s1 s2]
        congr 2
        exact decide_eq_decide.mpr ⟨fun q => q.1, fun q => ⟨q, y⟩⟩) (sO_t hK hJ hp rfl) hne r2
      rw [ite_c (q := hold K S i = hold K S n ∧ lrow D o n < lrow D o i) (by exact ⟨fun q => ⟨y, q⟩, fun q => q.2⟩)] at this
      exact this
    · rw [if_neg (fun q => y q.1)]
      refine rk_cg hK.1 (fun s s1 s2 => ?_) r2
      rw [go s s1 s2, decide_eq_false (fun q => y q.2)]
      show _ = (_ && true)
      rw [Bool.and_true]
end RI
/-- a stock that has grown -/
def kx (K K' : dK) : Prop := kI K' ∧ (kN K ≤ kN K' ∧ kS K ≤ kS K' ∧ kW K ≤ kW K') ∧ (∀ i, 0 ≤ i → i < kN K → kK K' i = kK K i) ∧ (∀ s, 0 ≤ s → s < kS K → kH K' s = kH K s ∧ kO K' s = kO K s) ∧ (∀ x, 0 ≤ x → x < kW K → kL K' x = kL K x ∧ kE K' x = kE K x ∧ kR K' x = kR K x) ∧ (∀ g x r, (∀ s, kS K ≤ s → s < kS K' → g s = false) → rk (kQ K) (kS K) g x r → rk (kQ K') (kS K') g x r) ∧ ∀ g x r, (∀ s, kW K ≤ s → s < kW K' → g s = false) → rk (kU K) (kW K) g x r → rk (kU K') (kW K') g x r
/-- a tree: how deep each node is -/
def tI (K : dK) (S : dS) (dp : Int → Nat) : Prop := dp 0 = 0 ∧ ∀ i, 1 ≤ i → i < 40 → hs S i = true → dp i = dp (hold K S i) + 1 ∧ dp i < 30
section RX
variable {K K' : dK} {S T : dS} {D D' Z Z' E W F : Int → Int} {o i p x r c j q lo s pl ah n r0 : Int}
theorem kx_hd (hx : kx K K') (hK : kI K) (hJ : sJ K S) (i : Int) : hold K' S i = hold K S i := by
  have h1 := hx.1.2.2.2.2.2
  have h2 := hx.2.1.2.1
  cases e : hs S i with
  | true =>
    have hr := hs_r e
    by_cases z : i = 0
    · rw [z]
      unfold hold
      rw [gS_t (by omega), hJ.2.1]
      exact (if_neg (by omega)).trans (if_neg (by omega)).symm
    · have h3 := hJ.2.2.1 i (by omega) hr.2.1 e
      have e2 : gS S.1 i = S.1 i := gS_t ⟨hr.1, hr.2.1⟩
      rw [hd_t hK hJ (by omega) e, hd_S e2 (by omega)]
      exact (hx.2.2.2.1 _ h3.1.1 h3.1.2).1
  | false =>
    rw [hd_f hJ e]
    unfold hold
    by_cases z : 0 ≤ i ∧ i < 40
    · rw [gS_t z, (hJ.2.2.2 i z.1 z.2 e).1]
      exact if_neg (by omega)
    · rw [gS_f z]
      exact if_neg (by omega)
theorem kx_J (hx : kx K K') (hJ : sJ K S) : sJ K' S := by
  have h2 := hx.2.1
  refine ⟨fun i a b h => ?_, hJ.2.1, fun i a b h => ?_, hJ.2.2.2⟩
  · have := hJ.1 i a b h
    exact ⟨by omega, this.2.1, this.2.2.1, by omega⟩
  · have h3 := hJ.2.2.1 i a b h
    have h4 := hx.2.2.2.1 _ h3.1.1 h3.1.2
    rw [h4.1, h4.2]
    exact ⟨by omega, h3.2.1, by omega⟩
theorem kx_I (hx : kx K K') (hK : kI K) (hI : sI K S) : sI K' S := by
  have h2 := hx.2.1
  refine ⟨kx_J hx hI.1, hI.2.1, fun i a b h => ?_, fun w h => ?_⟩
  · rw [kx_hd hx hK hI.1]
    have h1 := hI.2.2.1 i a b h
    have h3 := hs_r h1.1
    have h4 := hI.1.1 _ h3.1 h3.2.1 h1.1
    rw [hx.2.2.1 _ h3.1 h4.1]
    exact h1
  · have h1 := hI.2.2.2 w h
    have h3 := hs_r h1.2.1
    have h4 := hI.1.1 _ h3.1 h3.2.1 h1.2.1
    rw [(hx.2.2.2.2.1 w h1.1.1 h1.1.2).1, hx.2.2.1 _ h3.1 h4.1]
    exact ⟨by omega, h1.2⟩
theorem kx_T (hx : kx K K') (hK : kI K) (hJ : sJ K S) {dp : Int → Nat} (hT : tI K S dp) : tI K' S dp := ⟨hT.1, fun i a b h => by rw [kx_hd hx hK hJ]; exact hT.2 i a b h⟩
theorem kx_so (hx : kx K K') (hJ : sJ K S) (hs0 : 0 ≤ s) (h : s < kS K) : sOk K' S p s = sOk K S p s := by
  unfold sOk
  rw [(hx.2.2.2.1 s hs0 h).1, (hx.2.2.2.1 s hs0 h).2]
theorem kx_sn (hJ : sJ K S) (h : kS K ≤ s) (h0 : 0 ≤ kS K) : sOk K' S p s = false := by
  refine decide_eq_false (fun q => ?_)
  have q := q.2
  by_cases z : 0 ≤ kO K' s ∧ kO K' s < 40
  · rw [gS_t z] at q
    cases e : hs S (kO K' s) with
    | true =>
      by_cases y : kO K' s = 0
      · rw [y, hJ.2.1] at q; omega
      · have := (hJ.2.2.1 _ (by omega) z.2 e).1; omega
    | false => have := (hJ.2.2.2 _ z.1 z.2 e).1; omega
  · rw [gS_f z] at q; omega
theorem kx_D (hx : kx K K') (hK : kI K) (hJ : sJ K S) (hR : rD K S D Z o) : rD K' S D Z o := by
  refine ⟨hR.1, fun i a b h => ?_⟩
  rw [kx_hd hx hK hJ]
  obtain ⟨h1, r, h2, h3, h4⟩ := hR.2 i a b h
  exact ⟨h1, r, h2, h3, fun z => hx.2.2.2.2.2.1 _ _ _ (fun s a b => kx_sn hJ a hK.2.2.2.2.1) (rk_cg hK.1 (fun y a b => (kx_so hx hJ a b).symm) (h4 z))⟩
theorem kx_E (hx : kx K K') (hK : kI K) (hI : sI K S) (hE : rE K S E o) : rE K' S E o := by
  refine ⟨hE.1, fun w a b h => ?_⟩
  have h1 := hI.2.2.2 w h
  obtain ⟨r, h2, h3⟩ := hE.2 w a b h
  have hn := hx.1.2.2.2.1
  rw [(hx.2.2.2.2.1 w a h1.1.2).1]
  refine ⟨r, h2, hx.2.2.2.2.2.2 _ _ _ (fun s c d => ?_) (rk_cg hK.2.1 (fun y c d => ?_) h3)⟩
  · unfold wOk
    cases e : S.2.2.2 s with
    | true => have := (hI.2.2.2 s e).1; omega
    | false => exact Bool.and_false _
  · unfold wOk
    rw [(hx.2.2.2.2.1 y c d).1]
theorem kx_ok (hx : kx K K') (hK : kI K) (hJ : sJ K S) (hO : okS K S) : okS K' S := by
  have e : hold K' S = hold K S := funext (fun i => kx_hd hx hK hJ i)
  refine ⟨fun i j a b c q => hO.1 i j a b c ?_, hO.2.1, by rw [e]; exact hO.2.2.1, by rw [e]; exact hO.2.2.2.1, by rw [e]; exact hO.2.2.2.2⟩
  unfold twn at q ⊢
  rw [e] at q
  refine ⟨q.1, q.2.1, ?_, q.2.2.2⟩
  have h1 := hd_c hK hJ q.2.1 rfl
  rw [← hx.2.2.1 _ q.2.1 h1.2.2.2.2.2]
  exact q.2.2.1
end RX
