/-! What an edit does to the relation: a node put, moved. -/
theorem ins_ex {f : Int → Int} {num ah : Int} (hn : 0 ≤ num) (hp : pm f num) (ha : ah = -1 ∨ (0 ≤ ah ∧ ah < num)) : ∃ f', insd f num ah f' := by
  rcases ha with ha | ha
  · exact ⟨fun j => if j < 0 then f j else if j = 0 then num else if j ≤ num then f (j - 1) else f j, 0, Int.le_refl _, hn, Or.inl rfl, fun j a b e => by have := hp.1 j a b; omega, fun j => rfl⟩
  · obtain ⟨i, h1, h2, h3⟩ := hp.2.2 ah ha.1 ha.2
    exact ⟨fun j => if j < i + 1 then f j else if j = i + 1 then num else if j ≤ num then f (j - 1) else f j, i + 1, by omega, by omega, Or.inr (by rw [show i + 1 - 1 = i by omega]; exact h3), fun j a b e => by have := hp.2.1 i j h1 h2 (by omega) b (h3.trans e.symm); omega, fun j => rfl⟩
section RJ
variable {K K' : dK} {S T : dS} {D D' Z Z' E W F F' : Int → Int} {o i p x r c j lo s pl ah n sm tg : Int} {q : Int → Int} {dp : Int → Nat}
theorem ah_r (hK : kI K) (hJ : sJ K S) (hp : 0 ≤ p) (h : ahd K S p lo pl ah) : ah = -1 ∨ (0 ≤ ah ∧ ah < kS K) := by
  rcases h with ⟨_, h⟩ | ⟨_, j, a1, a2, a3, _, a5⟩
  · exact Or.inl h
  · have hm : ¬ met K S p j = -1 ∧ ¬ met K S p j = lo := of_decide_eq_true a3
    have h0 : 0 ≤ met K S p j := by
      have hk := sw_k a1 a2
      by_cases k1 : kK K p = 1
      · rw [met_1 k1] at hm ⊢
        by_cases e : hold K S j = p
        · rw [if_pos e]; exact a1
        · rw [if_neg e] at hm; exact absurd rfl hm.1
      · rw [met_0 k1] at hm ⊢
        rw [sw_0 (by omega)] at a2
        by_cases e : sOk K S p (kQ K j) = true
        · rw [if_pos e]; have := sO_c hK hJ (hK.1.1 j a1 a2) hp e; omega
        · rw [if_neg e] at hm; exact absurd rfl hm.1
    have h1 := met_h hK hJ hp ⟨a1, a2⟩ h0
    have h2 := hd_c hK hJ hp h1
    have h3 := hK.2.2.1
    rw [gS_t (by omega)] at a5
    rw [a5]
    exact Or.inr h2.2.2.2.1
theorem ah_ex (hK : kI K) (hJ : sJ K S) (hp : 0 ≤ p) (hk : kK K p = 0 ∨ kK K p = 1) (hpl : 0 ≤ pl ∧ pl ≤ cnI 40 (fun i => decide (¬ i = lo ∧ hold K S i = p))) : ∃ ah, ahd K S p lo pl ah := by
  by_cases z : pl = 0
  · exact ⟨-1, Or.inl ⟨z, rfl⟩⟩
  · have hf : cnI 40 (fun i => decide (¬ i = lo ∧ hold K S i = p)) = cnI (swL K p) (mOk K S p lo) := full_t hK hJ hp hk
    have hn := hK.2.2.1
    have hw : 0 ≤ swL K p := by
      rcases hk with hk | hk
      · rw [sw_0 hk]; exact hK.2.2.2.2.1
      · rw [sw_1 hk]; omega
    obtain ⟨j, h1, h2, h3, h4⟩ := cnI_ex (p := mOk K S p lo) (swL K p).toNat (pl - 1) (by omega) (by rw [show (((swL K p).toNat : Nat) : Int) = swL K p by omega]; omega)
    exact ⟨_, Or.inr ⟨z, j, h1, by omega, h3, h4, rfl⟩⟩
/-- what shifts does to a row that is told -/
theorem sh_v (hK : kI K) (hJ : sJ K S) (hR : rD K S D Z o) (hp : 0 ≤ p) (hi : 0 ≤ i ∧ i < 10) : shF D o p r s (kN K) (o + i) = D (o + i) + (if hold K S i = p ∧ r ≤ lrow D o i then 16 * s else 0) := by
  unfold shF
  rw [show o + i - o = i by omega, rD_lk hK hJ hR hi hp]
  by_cases e : hold K S i = p ∧ r ≤ lrow D o i
  · have h1 := hd_c hK hJ hp e.1
    have e2 : r ≤ D (o + i) / 16 % 16 := e.2
    rw [if_pos e, if_pos ⟨by omega, by omega, decide_eq_true e.1, e2⟩]
  · rw [if_neg e, if_neg (fun q => e ⟨of_decide_eq_true q.2.2.1, q.2.2.2⟩)]
    omega
theorem gd_dp (hI : sI K S) (hT : tI K S dp) (hO : okS K S) (h : hs S i = true) : dp i ≤ 8 := by
  have hr := hs_r h
  have h1 := hO.2.2.2.1 i hr.1 hr.2.1
  have h2 := dp_t hI hT h
  unfold dep at h2
  omega
theorem pt_hs (hN : 0 ≤ kN K ∧ kN K < 40) (htg : 0 ≤ tg) : hs (putT K S tg) i = (decide (i = kN K) || hs S i) := by
  unfold hs putT
  dsimp only
  by_cases e : i = kN K
  · rw [decide_eq_true (p := i = kN K) e, Bool.true_or]
    refine decide_eq_true ⟨by omega, by omega, ?_⟩
    rw [e, uz_same]
    omega
  · rw [decide_eq_false (p := i = kN K) e, Bool.false_or]
    refine decide_eq_decide.mpr ?_
    rw [uz_ne _ _ e]
/-- a node put -/
theorem pt_kx (hK : kI K) (hN : kN K < 10) (hS : kS K < 120) (hi : insd (kQ K) (kS K) ah q) : kx K (kpS (kpN (plS (plN K sm) (kN K) p)) q) := by
  have hn := hK.2.2.1
  have h0 := hK.2.2.2.2.1
  have e1 : kN (kpS (kpN (plS (plN K sm) (kN K) p)) q) = kN K + 1 := rfl
  have e2 : kS (kpS (kpN (plS (plN K sm) (kN K) p)) q) = kS K + 1 := rfl
  refine ⟨⟨in_pm h0 hK.1 hi, hK.2.1, ⟨by rw [e1]; omega, by rw [e1]; omega⟩, hK.2.2.2.1, by rw [e2]; omega, by rw [e2]; omega⟩, ⟨by rw [e1]; omega, by rw [e2]; omega, Int.le_refl _⟩, fun i a b => ?_, fun s a b => ⟨?_, ?_⟩, fun x a b => ⟨rfl, rfl, rfl⟩, fun g x r hg h => ?_, fun g x r _ h => h⟩
  · exact uz_ne _ _ (show ¬ i = kN K by omega)
  · exact uz_ne _ _ (show ¬ s = kS K by omega)
  · exact uz_ne _ _ (show ¬ s = kS K by omega)
  · exact in_rf hi (hg (kS K) (Int.le_refl _) (by rw [e2]; omega)) h
theorem pt_I (hK : kI K) (hI : sI K S) (hN : kN K < 10) (hS : kS K < 120) (hi : insd (kQ K) (kS K) ah q) (hp : hs S p = true) (hk : kK K p ≤ 1) (htg : 0 ≤ tg ∧ tg ≤ 9) : sI (kpS (kpN (plS (plN K sm) (kN K) p)) q) (putT K S tg) := by
  have hx := pt_kx (sm := sm) (p := p) hK hN hS hi
  have hn := hK.2.2.1
  have h0 := hK.2.2.2.2.1
  have hpr := hs_r hp
  have hpn := (hI.1.1 p hpr.1 hpr.2.1 hp).1
  have hI2 := kx_I hx hK hI
  generalize hK2 : kpS (kpN (plS (plN K sm) (kN K) p)) q = K2 at *
  have e1 : kN K2 = kN K + 1 := by rw [← hK2]; rfl
  have e2 : kS K2 = kS K + 1 := by rw [← hK2]; rfl
  have e3 : kH K2 (kS K) = p := by rw [← hK2]; exact uz_same _ _ _
  have e4 : kO K2 (kS K) = kN K := by rw [← hK2]; exact uz_same _ _ _
  have e5 : kK K2 p = kK K p := hx.2.2.1 p hpr.1 hpn
  have hh : ∀ i, hs (putT K S tg) i = (decide (i = kN K) || hs S i) := fun i => pt_hs (by omega) htg.1
  have ho : ∀ i, ¬ i = kN K → (putT K S tg).1 i = S.1 i ∧ (putT K S tg).2.1 i = S.2.1 i ∧ (putT K S tg).2.2.1 i = S.2.2.1 i := fun i e => ⟨uz_ne _ _ e, uz_ne _ _ e, uz_ne _ _ e⟩
  have hT1 : (putT K S tg).1 (kN K) = kS K := uz_same _ _ _
  have hT2 : (putT K S tg).2.1 (kN K) = tg := uz_same _ _ _
  have hT3 : (putT K S tg).2.2.1 (kN K) = -1 := uz_same _ _ _
  have old : ∀ i, ¬ i = kN K → hs (putT K S tg) i = hs S i := fun i e => by rw [hh, decide_eq_false e, Bool.false_or]
  have hd2 : ∀ i, ¬ i = kN K → hold K2 (putT K S tg) i = hold K2 S i := fun i e => by
    unfold hold gS
    rw [(ho i e).1]
  have hdn : hold K2 (putT K S tg) (kN K) = p := by
    have : gS (putT K S tg).1 (kN K) = kS K := by rw [gS_t (by omega)]; exact hT1
    rw [hd_S this (by omega)]
    exact e3
  refine ⟨⟨fun i a b h => ?_, ?_, fun i a b h => ?_, fun i a b h => ?_⟩, ?_, fun i a b h => ?_, fun w h => ?_⟩
  · by_cases e : i = kN K
    · rw [e, hT2, hT3]
      omega
    · rw [old i e] at h
      rw [(ho i e).2.1, (ho i e).2.2]
      exact hI2.1.1 i a b h
  · rw [(ho 0 (by omega)).1]
    exact hI.1.2.1
  · by_cases e : i = kN K
    · rw [e, hT1, e3, e4]
      omega
    · rw [old i e] at h
      rw [(ho i e).1]
      exact hI2.1.2.2.1 i a b h
  · by_cases e : i = kN K
    · rw [hh, decide_eq_true e, Bool.true_or] at h; cases h
    · rw [old i e] at h
      rw [(ho i e).1, (ho i e).2.1, (ho i e).2.2]
      exact hI.1.2.2.2 i a b h
  · rw [old 0 (by omega)]
    exact hI.2.1
  · by_cases e : i = kN K
    · rw [e, hdn, old p (by omega), e5]
      exact ⟨hp, hk⟩
    · rw [old i e] at h
      have h1 := hI2.2.2.1 i a b h
      have h2 := hs_r h1.1
      have h3 := (hI.1.1 _ h2.1 h2.2.1 h1.1).1
      rw [hd2 i e, old _ (by omega)]
      exact h1
  · have h1 := hI2.2.2.2 w h
    have h2 := hs_r h1.2.1
    have h3 := (hI.1.1 _ h2.1 h2.2.1 h1.2.1).1
    rw [old _ (by omega)]
    exact h1
theorem pt_T (hK : kI K) (hI : sI K S) (hT : tI K S dp) (hO : okS K S) (hN : kN K < 10) (hS : kS K < 120) (hi : insd (kQ K) (kS K) ah q) (hp : hs S p = true) (htg : 0 ≤ tg ∧ tg ≤ 9) : tI (kpS (kpN (plS (plN K sm) (kN K) p)) q) (putT K S tg) (fun i => if i = kN K then dp p + 1 else dp i) := by
  have hx := pt_kx (sm := sm) (p := p) hK hN hS hi
  have hn := hK.2.2.1
  have h0 := hK.2.2.2.2.1
  have hpr := hs_r hp
  have hpn := (hI.1.1 p hpr.1 hpr.2.1 hp).1
  have hT2 := kx_T hx hK hI.1 hT
  have hdx := kx_hd hx hK hI.1
  have e3 : kH (kpS (kpN (plS (plN K sm) (kN K) p)) q) (kS K) = p := uz_same _ _ _
  generalize kpS (kpN (plS (plN K sm) (kN K) p)) q = K2 at *
  have hdn : hold K2 (putT K S tg) (kN K) = p := by
    have : gS (putT K S tg).1 (kN K) = kS K := by rw [gS_t (by omega)]; exact uz_same _ _ _
    rw [hd_S this (by omega)]
    exact e3
  have hd2 : ∀ i, ¬ i = kN K → hold K2 (putT K S tg) i = hold K2 S i := fun i e => by
    unfold hold gS
    rw [show (putT K S tg).1 i = S.1 i from uz_ne _ _ e]
  refine ⟨?_, fun i a b h => ?_⟩
  · show (if (0 : Int) = kN K then dp p + 1 else dp 0) = 0
    rw [if_neg (by omega)]
    exact hT.1
  · show (if i = kN K then dp p + 1 else dp i) = (if hold K2 (putT K S tg) i = kN K then dp p + 1 else dp (hold K2 (putT K S tg) i)) + 1 ∧ (if i = kN K then dp p + 1 else dp i) < 30
    by_cases e : i = kN K
    · have := gd_dp hI hT hO hp
      rw [e, if_pos rfl, hdn, if_neg (by omega)]
      omega
    · rw [pt_hs (by omega) htg.1, decide_eq_false e, Bool.false_or] at h
      have h1 := hT2.2 i a b h
      have h2 := hI.2.2.1 i a b h
      have h3 := hs_r h2.1
      have h4 := (hI.1.1 _ h3.1 h3.2.1 h2.1).1
      rw [if_neg e, hd2 i e, hdx, if_neg (by omega)]
      rw [hdx] at h1
      exact h1
theorem pt_D (hK : kI K) (hI : sI K S) (hR : rD K S D Z o) (hF : rF K F) (hN : kN K < 10) (hS : kS K < 120) (hi : insd (kQ K) (kS K) ah q) (hp : hs S p = true) (hk : kK K p = 0 ∨ kK K p = 1) (htg : 0 ≤ tg ∧ tg ≤ 9) (ha : ahd K S p (-1) pl ah)
    (d1 : D' (o + kN K) = p + 2 + 16 * rpF D F o p pl (kN K) + 256 * tg) (d2 : ∀ i, 0 ≤ i → i < 10 → ¬ i = kN K → D' (o + i) = shF D o p (rpF D F o p pl (kN K)) 1 (kN K) (o + i) ∧ Z' (o + i) = Z (o + i)) (d3 : Z' (o + kN K) = kS K + 1) : rD (kpS (kpN (plS (plN K sm) (kN K) p)) q) (putT K S tg) D' Z' o := by
  have hx := pt_kx (sm := sm) (p := p) hK hN hS hi
  have hI2 := pt_I (sm := sm) hK hI hN hS hi hp (by omega) htg
  have hn := hK.2.2.1
  have hpr := hs_r hp
  have hpn := (hI.1.1 p hpr.1 hpr.2.1 hp).1
  have hnn : hs S (kN K) = false := by
    cases e : hs S (kN K) with
    | true => have := (hI.1.1 (kN K) (by omega) (by omega) e).1; omega
    | false => rfl
  have hak := ah_kid hK hI.1 hR ⟨hpr.1, hpn⟩ hF hk ha
  refine rD_in (r0 := rpF D F o p pl (kN K)) (n := kN K) (p := p) (ah := ah) hK hx.1 hI.1 hI2.1 hR ⟨by omega, by omega⟩ hnn (by rw [pt_hs (by omega) htg.1, decide_eq_true rfl, Bool.true_or]) hpr.1 rfl hi (fun s a b => ⟨uz_ne _ _ (show ¬ s = kS K by omega), uz_ne _ _ (show ¬ s = kS K by omega)⟩) ⟨uz_same _ _ _, uz_same _ _ _⟩ (uz_same _ _ _) (fun i e => ⟨by rw [pt_hs (by omega) htg.1, decide_eq_false e, Bool.false_or], uz_ne _ _ e, uz_ne _ _ e, uz_ne _ _ e⟩) hak ?_ d3 (fun i a b e => ?_)
  · rw [d1, show (putT K S tg).2.1 (kN K) = tg from uz_same _ _ _, show (putT K S tg).2.2.1 (kN K) = -1 from uz_same _ _ _]
    omega
  · obtain ⟨h1, h2⟩ := d2 i a b e
    rw [h1, sh_v hK hI.1 hR hpr.1 ⟨a, b⟩, show (16 : Int) * 1 = 16 from rfl]
    exact ⟨rfl, h2⟩
end RJ
