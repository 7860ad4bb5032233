/-! What a sweep meets; children and words at their places, in the class and in the law. -/
section RC
variable {K : dK} {S : dS} {D Z E W F : Int → Int} {o i p x r c j q lo s pl ah : Int}
theorem met_1 (hk : kK K p = 1) : met K S p j = if hold K S j = p then j else -1 := by
  unfold met
  rw [if_pos hk]
theorem met_0 (hk : ¬ kK K p = 1) : met K S p j = if sOk K S p (kQ K j) = true then kO K (kQ K j) else -1 := by
  unfold met sOk
  rw [if_neg hk]
  exact ite_c decide_eq_true_iff.symm _ _
theorem mk_1 (hk : kK K p = 1) (hj : 0 ≤ j) : mOk K S p lo j = decide (¬ j = lo ∧ hold K S j = p) := by
  unfold mOk
  rw [met_1 hk]
  by_cases e : hold K S j = p
  · rw [if_pos e]
    exact decide_eq_decide.mpr ⟨fun q => ⟨q.2, e⟩, fun q => ⟨by omega, q.1⟩⟩
  · rw [if_neg e]
    exact decide_eq_decide.mpr ⟨fun q => absurd rfl q.1, fun q => absurd q.2 e⟩
theorem mk_0 (hK : kI K) (hJ : sJ K S) (hp : 0 ≤ p) (hk : ¬ kK K p = 1) (hj : 0 ≤ j ∧ j < kS K) : mOk K S p lo j = (sOk K S p (kQ K j) && !decide (kO K (kQ K j) = lo)) := by
  unfold mOk
  rw [met_0 hk]
  cases e : sOk K S p (kQ K j) with
  | true =>
    have := sO_c hK hJ (hK.1.1 j hj.1 hj.2) hp e
    rw [if_pos rfl]
    show decide (¬ kO K (kQ K j) = -1 ∧ ¬ kO K (kQ K j) = lo) = !decide (kO K (kQ K j) = lo)
    rw [← decide_not]
    exact decide_eq_decide.mpr ⟨fun q => q.2, fun q => ⟨by omega, q⟩⟩
  | false =>
    rw [if_neg (by decide)]
    exact decide_eq_false (fun q => q.1 rfl)
theorem sw_0 (hk : kK K p = 0) : swL K p = kS K := if_pos hk
theorem sw_1 (hk : kK K p = 1) : swL K p = kN K := by
  unfold swL
  rw [if_neg (by omega), if_pos hk]
theorem full_t (hK : kI K) (hJ : sJ K S) (hp : 0 ≤ p) (hk : kK K p = 0 ∨ kK K p = 1) : full K S p lo := by
  have hn := hK.2.2.1
  unfold full
  rcases hk with hk | hk
  · rw [sw_0 hk, ← ch_cn hK hJ hp, ← cn_pm (g := fun s => sOk K S p s && !decide (kO K s = lo)) hK.1 hK.2.2.2.2.1]
    exact cnI_congr hK.2.2.2.2.1 (fun j a b => (mk_0 hK hJ hp (by omega) ⟨a, b⟩).symm)
  · rw [sw_1 hk, cnI_cut (M := kN K) (L := 40) (by omega) (by omega) (fun i a b => decide_eq_false (fun e => by have := (hd_c hK hJ hp e.2).2.1; omega))]
    exact cnI_congr (by omega) (fun j a b => (mk_1 hk a).symm)
/-- the class's child is the law's -/
theorem ch_kid (hK : kI K) (hJ : sJ K S) (hR : rD K S D Z o) (hp : 0 ≤ p) (hk : kK K p = 0 ∨ kK K p = 1) (hj : 0 ≤ j ∧ j < swL K p) (hm : mOk K S p (-1) j = true) (hq : cnI j (mOk K S p (-1)) = q) : kdF D o p (decide (kK K p = 1)) q (kN K).toNat = met K S p j ∧ hold K S (met K S p j) = p := by
  have hn := hK.2.2.1
  rcases hk with hk | hk
  · rw [sw_0 hk] at hj
    have hm2 := hm
    rw [mk_0 hK hJ hp (by omega) hj, Bool.and_eq_true] at hm2
    have h1 := sO_c hK hJ (hK.1.1 j hj.1 hj.2) hp hm2.1
    have e1 : met K S p j = kO K (kQ K j) := by rw [met_0 (by omega), if_pos hm2.1]
    rw [e1]
    refine ⟨?_, h1.1⟩
    have hh := hd_c hK hJ hp h1.1
    refine kd_t hK hJ hR hp h1.1 ?_
    rw [if_neg (by rw [decide_eq_true_eq]; omega)]
    have r1 := (rD_t hK hJ hR hh.1).2.2.1 hh.2.1.1
    rw [h1.1, h1.2.1] at r1
    refine rk_un hK.1 r1 ⟨j, hj.1, hj.2, rfl, ?_⟩
    rw [← hq]
    refine cnI_congr hj.1 (fun i a b => ?_)
    rw [mk_0 hK hJ hp (by omega) ⟨a, by omega⟩]
    cases e : sOk K S p (kQ K i) with
    | true =>
      have := sO_c hK hJ (hK.1.1 i a (by omega)) hp e
      rw [decide_eq_false (by omega)]
      rfl
    | false => rfl
  · rw [sw_1 hk] at hj
    have hm2 := hm
    rw [mk_1 hk hj.1] at hm2
    have hm2 : ¬ j = -1 ∧ hold K S j = p := of_decide_eq_true hm2
    have e1 : met K S p j = j := by rw [met_1 hk, if_pos hm2.2]
    rw [e1]
    refine ⟨kd_t hK hJ hR hp hm2.2 ?_, hm2.2⟩
    rw [if_pos (by rw [decide_eq_true_eq]; omega), ← hq]
    refine cnI_congr hj.1 (fun i a b => ?_)
    rw [mk_1 hk a]
    exact decide_eq_decide.mpr ⟨fun q => ⟨by omega, q⟩, fun q => q.2⟩
theorem ch_no (hK : kI K) (hJ : sJ K S) (hR : rD K S D Z o) (hp : 0 ≤ p) (hk : kK K p = 0 ∨ kK K p = 1) (h : ∀ j, 0 ≤ j → j < swL K p → mOk K S p (-1) j = true → ¬ cnI j (mOk K S p (-1)) = q) : kdF D o p (decide (kK K p = 1)) q (kN K).toNat = -1 := by
  have hn := hK.2.2.1
  refine kd_n hK hJ hR hp (fun c hc => ?_)
  have hh := hd_c hK hJ hp hc
  rcases hk with hk | hk
  · rw [if_neg (by rw [decide_eq_true_eq]; omega)]
    have r1 := (rD_t hK hJ hR hh.1).2.2.1 hh.2.1.1
    rw [hc] at r1
    obtain ⟨j, a1, a2, a3, a4⟩ := r1
    have hs1 : sOk K S p (kQ K j) = true := by rw [a3]; exact sO_t hK hJ hp hc
    have cg : ∀ i, 0 ≤ i → i < kS K → mOk K S p (-1) i = sOk K S p (kQ K i) := fun i a b => by
      rw [mk_0 hK hJ hp (by omega) ⟨a, b⟩]
      cases e : sOk K S p (kQ K i) with
      | true =>
        have := sO_c hK hJ (hK.1.1 i a b) hp e
        rw [decide_eq_false (by omega)]
        rfl
      | false => rfl
    have := h j a1 (by rw [sw_0 hk]; exact a2) (by rw [cg j a1 a2]; exact hs1)
    rw [cnI_congr a1 (fun i a b => cg i a (by omega)), a4] at this
    exact this
  · rw [if_pos (by rw [decide_eq_true_eq]; omega)]
    have := h c (by omega) (by rw [sw_1 hk]; omega) (by rw [mk_1 hk (by omega)]; exact decide_eq_true ⟨by omega, hc⟩)
    rw [cnI_congr (by omega) (q' := fun i => decide (hold K S i = p)) (fun i a b => by
      rw [mk_1 hk a]
      exact decide_eq_decide.mpr ⟨fun q => q.2, fun q => ⟨by omega, q⟩⟩)] at this
    exact this
/-- where there are so many, there is one at each place -/
theorem kd_p (hK : kI K) (hJ : sJ K S) (hR : rD K S D Z o) (hp : 0 ≤ p) (hk : kK K p = 0 ∨ kK K p = 1) (hq : 0 ≤ q ∧ q < cnI 40 (fun i => decide (hold K S i = p))) : 0 ≤ kdF D o p (decide (kK K p = 1)) q (kN K).toNat := by
  have hf : cnI 40 (fun i => decide (¬ i = -1 ∧ hold K S i = p)) = cnI (swL K p) (mOk K S p (-1)) := full_t hK hJ hp hk
  have hn := hK.2.2.1
  have e1 : cnI 40 (fun i => decide (¬ i = -1 ∧ hold K S i = p)) = cnI 40 (fun i => decide (hold K S i = p)) := cnI_congr (by decide) (fun i a b => decide_eq_decide.mpr ⟨fun q => q.2, fun q => ⟨by omega, q⟩⟩)
  have hw : 0 ≤ swL K p := by
    rcases hk with hk | hk
    · rw [sw_0 hk]; exact hK.2.2.2.2.1
    · rw [sw_1 hk]; omega
  obtain ⟨j, h1, h2, h3, h4⟩ := cnI_ex (p := mOk K S p (-1)) (swL K p).toNat q hq.1 (by rw [show (((swL K p).toNat : Nat) : Int) = swL K p by omega]; omega)
  have := ch_kid hK hJ hR hp hk ⟨h1, by omega⟩ h3 h4
  rw [this.1]
  have := (hd_c hK hJ hp this.2).2.1
  omega
/-- the spot ahead, and the row's place -/
theorem ah_kid (hK : kI K) (hJ : sJ K S) (hR : rD K S D Z o) (hp : 0 ≤ p ∧ p < kN K) (hF : rF K F) (hk : kK K p = 0 ∨ kK K p = 1) (h : ahd K S p (-1) pl ah) : (ah = -1 ∧ rpF D F o p pl (kN K) = 0) ∨ ∃ c, hold K S c = p ∧ ah = S.1 c ∧ rpF D F o p pl (kN K) = lrow D o c + 1 := by
  have hn := hK.2.2.1
  rcases h with ⟨h1, h2⟩ | ⟨h1, j, a1, a2, a3, a4, a5⟩
  · exact Or.inl ⟨h2, if_pos h1⟩
  · have h3 := ch_kid hK hJ hR hp.1 hk ⟨a1, a2⟩ a3 a4
    have h4 := hd_c hK hJ hp.1 h3.2
    refine Or.inr ⟨met K S p j, h3.2, by rw [a5, gS_t (by omega)], ?_⟩
    unfold rpF
    rw [if_neg h1, hF p hp.1 hp.2, h3.1, if_neg (by omega)]
/-- a state that a node has left -/
theorem ah_out {T : dS} {n : Int} (hK : kI K) (hJ : sJ K S) (hT : sJ K T) (hp : 0 ≤ p) (hk : kK K p = 0 ∨ kK K p = 1) (hn : hs T n = false) (hT2 : ∀ i, ¬ i = n → T.1 i = S.1 i) (h : ahd K S p n pl ah) : ahd K T p (-1) pl ah := by
  have hd2 : ∀ i, ¬ i = n → hold K T i = hold K S i := fun i hi => by
    unfold hold gS
    rw [hT2 i hi]
  have hnn := hK.2.2.1
  have hdn := hd_f hT hn
  have hgn : gS T.1 n = -2 := by
    by_cases e : 0 ≤ n ∧ n < 40
    · rw [gS_t e]; exact (hT.2.2.2 n e.1 e.2 hn).1
    · exact gS_f e
  have cg : ∀ j, 0 ≤ j → j < swL K p → mOk K S p n j = mOk K T p (-1) j ∧ (mOk K S p n j = true → met K S p j = met K T p j ∧ ¬ met K S p j = n) := fun j a b => by
    rcases hk with hk | hk
    · rw [sw_0 hk] at b
      have rq := hK.1.1 j a b
      rw [mk_0 hK hJ hp (by omega) ⟨a, b⟩, mk_0 hK hT hp (by omega) ⟨a, b⟩, met_0 (by omega), met_0 (by omega)]
      by_cases e : kO K (kQ K j) = n
      · have e2 : sOk K T p (kQ K j) = false := decide_eq_false (fun q => by rw [e, hgn] at q; omega)
        rw [e2, e, decide_eq_true rfl]
        exact ⟨by rw [Bool.not_true, Bool.and_false]; rfl, fun q => by rw [Bool.not_true, Bool.and_false] at q; cases q⟩
      · have e2 : sOk K T p (kQ K j) = sOk K S p (kQ K j) := by
          unfold sOk gS
          rw [hT2 _ e]
        rw [e2, decide_eq_false e]
        cases e3 : sOk K S p (kQ K j) with
        | true =>
          have := sO_c hK hJ rq hp e3
          rw [decide_eq_false (by omega)]
          exact ⟨rfl, fun _ => ⟨rfl, by rw [if_pos rfl]; exact e⟩⟩
        | false => exact ⟨rfl, fun q => by cases q⟩
    · rw [mk_1 hk a, mk_1 hk a, met_1 hk, met_1 hk]
      by_cases e : j = n
      · subst e
        rw [hdn]
        exact ⟨by rw [decide_eq_false (fun q => q.1 rfl), decide_eq_false (fun q => by omega)], fun q => absurd rfl (of_decide_eq_true q).1⟩
      · rw [hd2 j e]
        exact ⟨decide_eq_decide.mpr ⟨fun q => ⟨by omega, q.2⟩, fun q => ⟨e, q.2⟩⟩, fun q => ⟨rfl, by rw [if_pos (of_decide_eq_true q).2]; exact e⟩⟩
  rcases h with ⟨h1, h2⟩ | ⟨h1, j, a1, a2, a3, a4, a5⟩
  · exact Or.inl ⟨h1, h2⟩
  · have hc := cg j a1 a2
    have hm := hc.2 a3
    refine Or.inr ⟨h1, j, a1, a2, by rw [← hc.1]; exact a3, ?_, ?_⟩
    · rw [← a4]
      exact cnI_congr a1 (fun i a b => (cg i a (by omega)).1.symm)
    · rw [a5, hm.1]
      have e : T.1 (met K T p j) = S.1 (met K T p j) := hT2 _ (by rw [← hm.1]; exact hm.2)
      unfold gS
      rw [e]
/-- words -/
theorem lu_eq (hW : rW K W) (hE : rE K S E o) (hx : 0 ≤ x ∧ x < kW K ∧ x < 10) : lu W E o p x = wOk K S p x := by
  obtain ⟨w1, w2, w3⟩ := hW x hx.1 hx.2.1
  unfold lu wOk
  have e1 : decide (W x % 16 = p) = decide (kL K x = p) := decide_eq_decide.mpr (by rw [show W x % 16 = kL K x by omega])
  rw [e1]
  cases e : S.2.2.2 x with
  | true =>
    obtain ⟨r, h1, h2⟩ := hE.2 x hx.1 hx.2.2 e
    have := rk_r h2
    rw [decide_eq_true (p := E (o + x) > 0) (by omega)]
  | false =>
    have := hE.1 x hx.1 hx.2.2 e
    rw [decide_eq_false (p := E (o + x) > 0) (by omega)]
theorem lu_cn (hK : kI K) (hW : rW K W) (hE : rE K S E o) : cnI (kW K) (lu W E o p) = cnI (kW K) (wOk K S p) := by
  have hn := hK.2.2.2.1
  exact cnI_congr hn.1 (fun x a b => lu_eq hW hE ⟨a, b, by omega⟩)
theorem uw_cn (hK : kI K) : cnI (kW K) (uOk K S p) = cnI (kW K) (wOk K S p) := cn_pm (g := wOk K S p) hK.2.1 hK.2.2.2.1.1
theorem wd_eq {W E : Int → Int} {o p q : Int} {c : Int} (n : Nat) (hc : 0 ≤ c ∧ c < n) (h1 : W c % 16 = p ∧ E (o + c) = q + 1) (h2 : ∀ j : Nat, j < n → W j % 16 = p → E (o + j) = q + 1 → (j : Int) = c) : wdF W E o p q n = c := by
  induction n with
  | zero => omega
  | succ n ih =>
    unfold wdF
    by_cases e : W n % 16 = p ∧ E (o + n) = q + 1
    · rw [if_pos e]
      exact h2 n (by omega) e.1 e.2
    · rw [if_neg e]
      have hne : ¬ c = (n : Int) := fun z => e (by rw [← z]; exact h1)
      exact ih (by omega) (fun j hj => h2 j (by omega))
theorem wd_no {W E : Int → Int} {o p q : Int} (n : Nat) (h2 : ∀ j : Nat, j < n → W j % 16 = p → ¬ E (o + j) = q + 1) : wdF W E o p q n = -1 := by
  induction n with
  | zero => rfl
  | succ n ih =>
    unfold wdF
    rw [if_neg (fun e => h2 n (by omega) e.1 e.2)]
    exact ih (fun j hj => h2 j (by omega))
/-- the rank of a word that is said -/
theorem rE_t (hE : rE K S E o) (hx : 0 ≤ x ∧ x < 10) (h : S.2.2.2 x = true) : rk (kU K) (kW K) (wOk K S (kL K x)) x (E (o + x) - 1) ∧ 1 ≤ E (o + x) := by
  obtain ⟨r, h1, h2⟩ := hE.2 x hx.1 hx.2 h
  have := rk_r h2
  rw [show E (o + x) - 1 = r by omega]
  exact ⟨h2, by omega⟩
theorem rE_p (hE : rE K S E o) (hx : 0 ≤ x ∧ x < 10) : (0 < E (o + x) ↔ S.2.2.2 x = true) := by
  cases e : S.2.2.2 x with
  | true => have := (rE_t hE hx e).2; exact ⟨fun _ => rfl, fun _ => by omega⟩
  | false => have := hE.1 x hx.1 hx.2 e; exact ⟨fun q => by omega, fun q => by cases q⟩
theorem wo_t (h : wOk K S p x = true) : kL K x = p ∧ S.2.2.2 x = true := by
  unfold wOk at h
  rw [Bool.and_eq_true] at h
  exact ⟨of_decide_eq_true h.1, h.2⟩
theorem wd_w (hK : kI K) (hW : rW K W) (hE : rE K S E o) (hq : 0 ≤ q) (hj : 0 ≤ j ∧ j < kW K) (hm : uOk K S p j = true) (hc : cnI j (uOk K S p) = q) : wdF W E o p q (kW K).toNat = kU K j := by
  have hn := hK.2.2.2.1
  have ru := hK.2.1.1 j hj.1 hj.2
  have hw := wo_t (K := K) (S := S) (p := p) (x := kU K j) hm
  have r0 : rk (kU K) (kW K) (wOk K S p) (kU K j) q := ⟨j, hj.1, hj.2, rfl, hc⟩
  have r1 := (rE_t hE ⟨ru.1, by omega⟩ hw.2)
  rw [hw.1] at r1
  have e1 := rk_un hK.2.1 r0 r1.1
  have w1 := hW _ ru.1 ru.2
  refine wd_eq _ (by omega) ⟨by omega, by omega⟩ (fun i hi e2 e3 => ?_)
  have w2 := hW i (by omega) (by omega)
  have e4 : S.2.2.2 i = true := (rE_p hE (by omega)).mp (by omega)
  have r2 := (rE_t hE (by omega) e4).1
  rw [show kL K i = p by omega, e3, show q + 1 - 1 = q by omega] at r2
  exact rk_ne r2 r0 (by unfold wOk; rw [e4, decide_eq_true (by omega)]; rfl) hm
theorem wd_n (hK : kI K) (hW : rW K W) (hE : rE K S E o) (h : ∀ j, 0 ≤ j → j < kW K → uOk K S p j = true → ¬ cnI j (uOk K S p) = q) (hq : 0 ≤ q) : wdF W E o p q (kW K).toNat = -1 := by
  have hn := hK.2.2.2.1
  refine wd_no _ (fun i hi e2 e3 => ?_)
  have w2 := hW i (by omega) (by omega)
  have e4 : S.2.2.2 i = true := (rE_p hE (by omega)).mp (by omega)
  have r2 := (rE_t hE (by omega) e4).1
  rw [show kL K i = p by omega, e3, show q + 1 - 1 = q by omega] at r2
  obtain ⟨j, a1, a2, a3, a4⟩ := r2
  exact h j a1 a2 (by unfold uOk; rw [a3]; unfold wOk; rw [e4, decide_eq_true (by omega)]; rfl) a4
theorem wd_p (hK : kI K) (hW : rW K W) (hE : rE K S E o) (hq : 0 ≤ q ∧ q < cnI (kW K) (wOk K S p)) : ∃ j, (0 ≤ j ∧ j < kW K) ∧ uOk K S p j = true ∧ cnI j (uOk K S p) = q ∧ wdF W E o p q (kW K).toNat = kU K j := by
  have hn := hK.2.2.2.1
  have e := uw_cn (S := S) (p := p) hK
  obtain ⟨j, h1, h2, h3, h4⟩ := cnI_ex (p := uOk K S p) (kW K).toNat q hq.1 (by rw [show (((kW K).toNat : Nat) : Int) = kW K by omega]; omega)
  exact ⟨j, ⟨h1, by omega⟩, h3, h4, wd_w hK hW hE hq.1 ⟨h1, by omega⟩ h3 h4⟩
end RC
