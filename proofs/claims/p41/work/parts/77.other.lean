/-! What an edit does to the relation: nodes removed, tags, aims, words. -/
section RL2
variable {K K' : dK} {S T : dS} {D D' Z Z' E E' W W' F F' : Int → Int} {o i p x r c j lo s pl ah n sm tg m t b : Int} {q u : Int → Int} {dp : Int → Nat}
theorem rm_hs : hs (outS K S S n 40) i = (hs S i && !rmv K S n i) := by
  have key : hs (outS K S S n 40) i = decide (hs S i = true ∧ ¬ rmv K S n i = true) := by
    unfold hs outS
    dsimp only
    refine decide_eq_decide.mpr ?_
    rw [decide_eq_true_eq]
    by_cases e : rmv K S n i = true
    · exact ⟨fun z => absurd (if_pos ⟨z.2.1, e⟩) z.2.2, fun z => absurd e z.2⟩
    · rw [if_neg (fun z => e z.2)]
      exact ⟨fun z => ⟨z, e⟩, fun z => z.1⟩
  rw [key]
  cases hs S i <;> cases rmv K S n i <;> decide
theorem rm_v (e : rmv K S n i = false) : (outS K S S n 40).1 i = S.1 i ∧ (outS K S S n 40).2.1 i = S.2.1 i ∧ (outS K S S n 40).2.2.1 i = S.2.2.1 i := by
  have h : ¬ (i < 40 ∧ rmv K S n i = true) := fun z => by rw [e] at z; cases z.2
  exact ⟨if_neg h, if_neg h, if_neg h⟩
theorem rm_y (e : rmv K S n i = true) (h : i < 40) : (outS K S S n 40).1 i = -2 ∧ (outS K S S n 40).2.1 i = -2 ∧ (outS K S S n 40).2.2.1 i = -2 := ⟨if_pos ⟨h, e⟩, if_pos ⟨h, e⟩, if_pos ⟨h, e⟩⟩
theorem rm_f (h : hs (outS K S S n 40) i = true) : hs S i = true ∧ rmv K S n i = false := by
  rw [rm_hs, Bool.and_eq_true] at h
  exact ⟨h.1, by have := h.2; revert this; cases rmv K S n i <;> decide⟩
theorem rm_0 (hI : sI K S) (hn : ¬ n = 0) : rmv K S n 0 = false := by
  unfold rmv
  rw [wt_0 hI hn, Bool.and_false]
theorem rm_up (hI : sI K S) (hT : tI K S dp) (h : hs S i = true) (h1 : 1 ≤ i) (hn : ¬ i = n) : rmv K S n i = rmv K S n (hold K S i) := by
  unfold rmv
  rw [h, (tI_c hI hT h1 h).1, wt_up hI hT h h1 hn]
theorem rm_n (hn : hs S n = true) : rmv K S n n = true := by
  unfold rmv
  rw [hn, wt_n (hs_r hn).1]
  rfl
theorem rm_hd (h : hs (outS K S S n 40) i = true) : hold K (outS K S S n 40) i = hold K S i := by
  unfold hold gS
  rw [(rm_v (rm_f h).2).1]
theorem rm_I (hK : kI K) (hI : sI K S) (hT : tI K S dp) (hn : hs S n = true) (hn0 : ¬ n = 0) : sI K (outS K S S n 40) := by
  have hJ' : sJ K (outS K S S n 40) := by
    refine ⟨fun i a b h => ?_, ?_, fun i a b h => ?_, fun i a b h => ?_⟩
    · have h1 := rm_f h
      rw [(rm_v h1.2).2.1, (rm_v h1.2).2.2]
      exact hI.1.1 i a b h1.1
    · rw [(rm_v (rm_0 hI hn0)).1]
      exact hI.1.2.1
    · have h1 := rm_f h
      rw [(rm_v h1.2).1]
      exact hI.1.2.2.1 i a b h1.1
    · rw [rm_hs] at h
      cases e : rmv K S n i with
      | true => exact rm_y e b
      | false =>
        rw [e, Bool.not_false, Bool.and_true] at h
        rw [(rm_v e).1, (rm_v e).2.1, (rm_v e).2.2]
        exact hI.1.2.2.2 i a b h
  refine ⟨hJ', by rw [rm_hs, rm_0 hI hn0, hI.2.1]; rfl, fun i a b h => ?_, fun w h => ?_⟩
  · have h1 := rm_f h
    have h2 := hI.2.2.1 i a b h1.1
    have hne : ¬ i = n := fun z => by rw [z, rm_n hn] at h1; cases h1.2
    rw [rm_hd h, rm_hs, ← rm_up hI hT h1.1 a hne, h1.2, h2.1]
    exact ⟨rfl, h2.2⟩
  · have h : (if 0 ≤ w ∧ w < kW K ∧ kL K w < 40 ∧ rmv K S n (kL K w) = true then false else S.2.2.2 w) = true := h
    by_cases e : 0 ≤ w ∧ w < kW K ∧ kL K w < 40 ∧ rmv K S n (kL K w) = true
    · rw [if_pos e] at h; cases h
    · rw [if_neg e] at h
      have h1 := hI.2.2.2 w h
      have h2 := hs_r h1.2.1
      refine ⟨h1.1, ?_, h1.2.2⟩
      rw [rm_hs, h1.2.1]
      cases e2 : rmv K S n (kL K w) with
      | true => exact absurd ⟨h1.1.1, h1.1.2, h2.2.1, e2⟩ e
      | false => rfl
theorem rm_T (hT : tI K S dp) : tI K (outS K S S n 40) dp := ⟨hT.1, fun i a b h => by rw [rm_hd h]; exact hT.2 i a b (rm_f h).1⟩
theorem rm_D (hK : kI K) (hI : sI K S) (hT : tI K S dp) (hR : rD K S D Z o) (hn : hs S n = true) (hn1 : 1 ≤ n) {D0 : Int → Int}
    (d0 : ∀ i, 0 ≤ i → i < 10 → D0 (o + i) = if rmv K S n i = true then 0 else D (o + i)) (d1 : ∀ i, 0 ≤ i → i < 10 → D' (o + i) = shF D0 o (hold K S n) (lrow D o n) (-1) (kN K) (o + i)) (z1 : ∀ i, 0 ≤ i → i < 10 → Z' (o + i) = if rmv K S n i = true then 0 else Z (o + i)) : rD K (outS K S S n 40) D' Z' o := by
  have hI' := rm_I hK hI hT hn (by omega)
  refine rD_ou hK hI.1 hI'.1 hR hn hn1 (rmv K S n) (rm_n hn) (fun i => rm_hs) (fun i h => rm_v (rm_f h).2) (fun i c h hc hsc h0 he => ?_) (fun i a b h => ?_) (fun i a b h => ?_)
  · have h1 := rm_f h
    by_cases e : c = n
    · exact e
    · have h2 := hd_c hK hI.1 h0 he
      have h3 := rm_up hI hT hsc h2.2.1.1 e
      rw [hc, he] at h3
      have h5 : ¬ i = n := fun z => by rw [z, rm_n hn] at h1; cases h1.2
      have h6 : 1 ≤ i := by
        by_cases z : i = 0
        · rw [z, hd_0 hI.1] at h0; omega
        · have := hs_r h1.1; omega
      have h4 := rm_up hI hT h1.1 h6 h5
      rw [h1.2, ← h3] at h4
      cases h4
  · have h1 := rm_f h
    have h2 := z1 i a b
    rw [if_neg (by rw [h1.2]; decide)] at h2
    rw [d1 i a b]
    exact ⟨(sh_out hK hI.1 hR hn hn1 (rmv K S n) (rm_n hn) d0 ⟨a, b⟩).1 h1.1 h1.2, h2⟩
  · rw [rm_hs] at h
    rw [d1 i a b]
    refine ⟨(sh_out hK hI.1 hR hn hn1 (rmv K S n) (rm_n hn) d0 ⟨a, b⟩).2 h, ?_⟩
    rw [z1 i a b]
    cases e : rmv K S n i with
    | true => exact if_pos rfl
    | false =>
      rw [e, Bool.not_false, Bool.and_true] at h
      rw [if_neg (by decide)]
      exact (hR.1 i a b h).2
theorem rm_E (hK : kI K) (hI : sI K S) (hE : rE K S E o) (e1 : ∀ x, 0 ≤ x → x < 10 → E' (o + x) = if x < kW K ∧ rmv K S n (kL K x) = true then 0 else E (o + x)) : rE K (outS K S S n 40) E' o := by
  have hN := hK.2.2.1
  have hs2 : ∀ x, (outS K S S n 40).2.2.2 x = if 0 ≤ x ∧ x < kW K ∧ kL K x < 40 ∧ rmv K S n (kL K x) = true then false else S.2.2.2 x := fun x => rfl
  have hr : ∀ l, rmv K S n l = true → l < 40 := fun l h => by
    unfold rmv at h
    rw [Bool.and_eq_true] at h
    exact (hs_r h.1).2.1
  have hcl : ∀ x, 0 ≤ x → ¬ (x < kW K ∧ rmv K S n (kL K x) = true) → (outS K S S n 40).2.2.2 x = S.2.2.2 x := fun x a h => by
    rw [hs2]
    exact if_neg (fun z => h ⟨z.2.1, z.2.2.2⟩)
  refine ⟨fun x a b h => ?_, fun x a b h => ?_⟩
  · rw [e1 x a b]
    by_cases e : x < kW K ∧ rmv K S n (kL K x) = true
    · exact if_pos e
    · rw [if_neg e]
      rw [hcl x a e] at h
      exact hE.1 x a b h
  · have e : ¬ (x < kW K ∧ rmv K S n (kL K x) = true) := fun e => by
      rw [hs2, if_pos ⟨a, e.1, hr _ e.2, e.2⟩] at h
      cases h
    rw [e1 x a b, if_neg e]
    rw [hcl x a e] at h
    obtain ⟨r, h1, h2⟩ := hE.2 x a b h
    have hxw := (hI.2.2.2 x h).1
    refine ⟨r, h1, rk_cg hK.2.1 (fun y y1 y2 => ?_) h2⟩
    unfold wOk
    by_cases e3 : kL K y = kL K x
    · rw [hcl y y1 (fun z => e ⟨hxw.2, by rw [← e3]; exact z.2⟩)]
    · rw [decide_eq_false e3]
      rfl
/-- values of a node -/
theorem rD_vl (hK : kI K) (hJ : sJ K S) (hR : rD K S D Z o) (h1 : T.1 = S.1) (h2 : ∀ i, hs T i = hs S i) (h3 : ∀ i, ¬ i = n → T.2.1 i = S.2.1 i ∧ T.2.2.1 i = S.2.2.1 i) (d1 : D' (o + n) = D (o + n) + 256 * (T.2.1 n - S.2.1 n) + 4096 * (T.2.2.1 n - S.2.2.1 n)) (d2 : ∀ i, 0 ≤ i → i < 10 → ¬ i = n → D' (o + i) = D (o + i)) (hn : hs S n = true) : rD K T D' Z o := by
  have hh : ∀ i, hold K T i = hold K S i := fun i => by unfold hold; rw [h1]
  have hsk : ∀ p, sOk K T p = sOk K S p := fun p => by
    funext s
    unfold sOk
    rw [h1]
  refine ⟨fun i a b h => ?_, fun i a b h => ?_⟩
  · rw [h2] at h
    have hne : ¬ i = n := fun z => by rw [z, hn] at h; cases h
    rw [d2 i a b hne]
    exact hR.1 i a b h
  · rw [h2] at h
    obtain ⟨g1, r, g2, g3, g4⟩ := hR.2 i a b h
    rw [hh, hsk, h1]
    refine ⟨g1, r, ?_, g3, g4⟩
    by_cases e : i = n
    · rw [e] at g2
      rw [e, d1, g2]
      omega
    · rw [d2 i a b e, (h3 i e).1, (h3 i e).2]
      exact g2
theorem rE_c (h : T.2.2.2 = S.2.2.2) (hE : rE K S E o) : rE K T E o := by
  have hw : ∀ p, wOk K T p = wOk K S p := fun p => by
    funext x
    unfold wOk
    rw [h]
  refine ⟨fun x a b e => hE.1 x a b (by rw [← h]; exact e), fun x a b e => ?_⟩
  rw [hw]
  exact hE.2 x a b (by rw [← h]; exact e)
/-- a tag -/
theorem rt_hs (hn : hs S n = true) (htg : 0 ≤ tg) : hs (tagT S n tg) i = hs S i := by
  unfold hs tagT
  dsimp only
  refine decide_eq_decide.mpr ?_
  by_cases e : i = n
  · have := (hs_r hn).2.2
    rw [e, uz_same]
    omega
  · rw [uz_ne _ _ e]
theorem rt_I (hI : sI K S) (hn : hs S n = true) (htg : 0 ≤ tg ∧ tg ≤ 9) : sI K (tagT S n tg) := by
  have hh : ∀ i, hs (tagT S n tg) i = hs S i := fun i => rt_hs hn htg.1
  refine ⟨⟨fun i a b h => ?_, hI.1.2.1, fun i a b h => ?_, fun i a b h => ?_⟩, by rw [hh]; exact hI.2.1, fun i a b h => ?_, fun w h => ?_⟩
  · rw [hh] at h
    have h1 := hI.1.1 i a b h
    refine ⟨h1.1, ?_, h1.2.2⟩
    show 0 ≤ uz S.2.1 n tg i ∧ uz S.2.1 n tg i ≤ 9
    by_cases e : i = n
    · rw [e, uz_same]; exact htg
    · rw [uz_ne _ _ e]; exact h1.2.1
  · rw [hh] at h
    have h1 := hI.1.2.2.1 i a b h
    exact h1
  · rw [hh] at h
    have h1 := hI.1.2.2.2 i a b h
    have hne : ¬ i = n := fun z => by rw [z, hn] at h; cases h
    exact ⟨h1.1, (uz_ne _ _ hne).trans h1.2.1, h1.2.2⟩
  · rw [hh] at h
    rw [hh]
    exact hI.2.2.1 i a b h
  · rw [hh]
    exact hI.2.2.2 w h
theorem rt_T (hT : tI K S dp) (hn : hs S n = true) (htg : 0 ≤ tg) : tI K (tagT S n tg) dp := ⟨hT.1, fun i a b h => hT.2 i a b (by rw [rt_hs hn htg] at h; exact h)⟩
/-- an aim -/
theorem am_g (hG : gd K S) (hn : hs S n = true) (hm : m = -1 ∨ hs S m = true) : gd K (aimT S n m) := by
  obtain ⟨hI, hT, hO⟩ := hG
  have hmr : -1 ≤ m ∧ m < kN K := by
    rcases hm with h | h
    · have := hs_r hn
      have := (hI.1.1 n (by omega) (by omega) hn).1
      omega
    · have h1 := hs_r h
      have := (hI.1.1 m h1.1 h1.2.1 h).1
      omega
  refine ⟨⟨⟨fun i a b h => ?_, hI.1.2.1, hI.1.2.2.1, fun i a b h => ?_⟩, hI.2⟩, hT, hO.1, fun i a b h => ?_, hO.2.2⟩
  · have h1 := hI.1.1 i a b h
    refine ⟨h1.1, h1.2.1, ?_⟩
    show -1 ≤ uz S.2.2.1 n m i ∧ uz S.2.2.1 n m i < kN K
    by_cases e : i = n
    · rw [e, uz_same]; exact hmr
    · rw [uz_ne _ _ e]; exact h1.2.2
  · have h1 := hI.1.2.2.2 i a b h
    have hne : ¬ i = n := fun z => by
      have h : hs S i = false := h
      rw [z, hn] at h; cases h
    exact ⟨h1.1, h1.2.1, (uz_ne _ _ hne).trans h1.2.2⟩
  · have h : 0 ≤ uz S.2.2.1 n m i := h
    show hs S (uz S.2.2.1 n m i) = true
    by_cases e : i = n
    · rw [e, uz_same] at h ⊢
      rcases hm with h1 | h1
      · omega
      · exact h1
    · rw [uz_ne _ _ e] at h ⊢
      exact hO.2.1 i a b h
/-- a word written -/
theorem wr_kx (hK : kI K) (hW : kW K < 10) (hi : insd (kU K) (kW K) ah u) : kx K (adW K n s b u) := by
  have h0 := hK.2.2.2.1
  have e2 : kW (adW K n s b u) = kW K + 1 := rfl
  refine ⟨⟨hK.1, in_pm h0.1 hK.2.1 hi, hK.2.2.1, ⟨by rw [e2]; omega, by rw [e2]; omega⟩, hK.2.2.2.2⟩, ⟨Int.le_refl _, Int.le_refl _, by rw [e2]; omega⟩, fun i _ _ => rfl, fun _ _ _ => ⟨rfl, rfl⟩, fun x _ d => ⟨?_, ?_, ?_⟩, fun g x r _ h => h, fun g x r hg h => ?_⟩
  · exact uz_ne _ _ (show ¬ x = kW K by omega)
  · exact uz_ne _ _ (show ¬ x = kW K by omega)
  · exact uz_ne _ _ (show ¬ x = kW K by omega)
  · exact in_rf hi (hg (kW K) (Int.le_refl _) (by rw [e2]; omega)) h
theorem wr_g (hK : kI K) (hG : gd K S) (hW : kW K < 10) (hi : insd (kU K) (kW K) ah u) (hn : hs S n = true) (hk : kK K n = 2) : gd (adW K n s b u) (sayT S (kW K) true) := by
  have hx := wr_kx (n := n) (s := s) (b := b) hK hW hi
  have h0 := hK.2.2.2.1
  obtain ⟨hI2, hT2, hO2⟩ := kx_g hx hK hG
  have e2 : kW (adW K n s b u) = kW K + 1 := rfl
  refine ⟨⟨hI2.1, hI2.2.1, hI2.2.2.1, fun w h => ?_⟩, hT2, hO2⟩
  have h : uz S.2.2.2 (kW K) true w = true := h
  by_cases e : w = kW K
  · have e3 : kL (adW K n s b u) w = n := by rw [e]; exact uz_same _ _ _
    rw [e3, e2]
    exact ⟨by omega, hn, hk⟩
  · rw [uz_ne _ _ e] at h
    exact hI2.2.2.2 w h
theorem wr_E (hK : kI K) (hI : sI K S) (hr : rW K W) (hE : rE K S E o) (hW : kW K < 10) (hi : insd (kU K) (kW K) ah u) (hn : 0 ≤ n ∧ n < 10) (hpl : 0 ≤ pl)
    (ha : (pl = 0 ∧ ah = -1) ∨ (¬ pl = 0 ∧ ∃ j, 0 ≤ j ∧ j < kW K ∧ uOk K S n j = true ∧ cnI j (uOk K S n) = pl - 1 ∧ ah = kU K j))
    (e1 : ∀ x, 0 ≤ x → x < kW K → E' (o + x) = E (o + x) + (if W x % 16 = n ∧ pl < E (o + x) then 1 else 0)) (e2 : E' (o + kW K) = pl + 1) (e3 : ∀ x, kW K < x → x < 10 → E' (o + x) = E (o + x)) : rE (adW K n s b u) (sayT S (kW K) true) E' o := by
  have h0 := hK.2.2.2.1
  have gl : ∀ x, ¬ x = kW K → kL (adW K n s b u) x = kL K x := fun x e => uz_ne _ _ e
  have gn : kL (adW K n s b u) (kW K) = n := uz_same _ _ _
  have sn : (sayT S (kW K) true).2.2.2 (kW K) = true := uz_same _ _ _
  have so : ∀ x, ¬ x = kW K → (sayT S (kW K) true).2.2.2 x = S.2.2.2 x := fun x e => uz_ne _ _ e
  have gw : ∀ l x, ¬ x = kW K → wOk (adW K n s b u) (sayT S (kW K) true) l x = wOk K S l x := fun l x e => by
    unfold wOk
    rw [gl x e, so x e]
  have gk : ∀ l, wOk (adW K n s b u) (sayT S (kW K) true) l (kW K) = decide (n = l) := fun l => by
    unfold wOk
    rw [gn, sn, Bool.and_true]
  obtain ⟨r0, b0, b1, b2', b3, b4⟩ := in_rt (g := wOk (adW K n s b u) (sayT S (kW K) true) n) hK.2.1 hi (by rw [gk]; exact decide_eq_true rfl)
  have er : r0 = pl := by
    rcases ha with ⟨h1, h2⟩ | ⟨h1, j, j1, j2, j3, j4, j5⟩
    · rw [b2' h2, h1]
    · have hu := hK.2.1.1 j j1 j2
      have hw : wOk K S n (kU K j) = true := j3
      have := b3 (pl - 1) (by rw [j5, gw _ _ (by omega)]; exact hw) (by rw [j5]; exact rk_cg hK.2.1 (fun y y1 y2 => (gw n y (by omega)).symm) ⟨j, j1, j2, rfl, j4⟩)
      omega
  subst er
  refine ⟨fun x a b h => ?_, fun x a b h => ?_⟩
  · have hne : ¬ x = kW K := fun z => by rw [z, sn] at h; cases h
    rw [so x hne] at h
    have h1 := hE.1 x a b h
    by_cases e : x < kW K
    · rw [e1 x a e, h1, if_neg (by omega)]
      rfl
    · rw [e3 x (by omega) b]
      exact h1
  · by_cases e : x = kW K
    · rw [e, e2, gn]
      exact ⟨r0, rfl, b1⟩
    · rw [so x e] at h
      obtain ⟨r, h1, h2⟩ := hE.2 x a b h
      have hx := hI.2.2.2 x h
      have hw := hr x a hx.1.2
      have hr0 := rk_r h2
      rw [gl x e, e1 x a hx.1.2, h1]
      by_cases y : kL K x = n
      · rw [y] at h2 ⊢
        have := b4 x r (by rw [gw _ _ e]; unfold wOk; rw [h, decide_eq_true y]; rfl) (rk_cg hK.2.1 (fun y y1 y2 => (gw n y (by omega)).symm) h2)
        refine ⟨_, ?_, this⟩
        by_cases z : r0 ≤ r
        · rw [if_pos z, if_pos ⟨by omega, by omega⟩]
        · rw [if_neg z, if_neg (fun q => by omega)]
          omega
      · refine ⟨r, by rw [if_neg (fun q => by omega)]; omega, ?_⟩
        exact in_rf hi (by rw [gk]; exact decide_eq_false (fun q => y q.symm)) (rk_cg hK.2.1 (fun y y1 y2 => (gw _ y (by omega)).symm) h2)
theorem wr_W (hr : rW K W) (hn : 0 ≤ n ∧ n < 10) (e1 : W' (kW K) = n + 16 * s + 2048 * b) (e2 : ∀ x, 0 ≤ x → x < kW K → W' x = W x) : rW (adW K n s b u) W' := fun x a b' => by
  have b' : x < kW K + 1 := b'
  by_cases e : x = kW K
  · rw [e, e1, show kL (adW K n s b u) (kW K) = n from uz_same _ _ _, show kE (adW K n s b u) (kW K) = s from uz_same _ _ _, show kR (adW K n s b u) (kW K) = b from uz_same _ _ _]
    exact ⟨rfl, hn⟩
  · rw [e2 x a (by omega), show kL (adW K n s b u) x = kL K x from uz_ne _ _ e, show kE (adW K n s b u) x = kE K x from uz_ne _ _ e, show kR (adW K n s b u) x = kR K x from uz_ne _ _ e]
    exact hr x a (by omega)
/-- a word struck -/
theorem sk_g (hG : gd K S) : gd K (sayT S x false) := by
  obtain ⟨hI, hT, hO⟩ := hG
  refine ⟨⟨hI.1, hI.2.1, hI.2.2.1, fun w h => ?_⟩, hT, hO⟩
  have h : uz S.2.2.2 x false w = true := h
  by_cases e : w = x
  · rw [e, uz_same] at h; cases h
  · rw [uz_ne _ _ e] at h
    exact hI.2.2.2 w h
theorem sk_E (hK : kI K) (hI : sI K S) (hr : rW K W) (hE : rE K S E o) (hx : 0 ≤ x ∧ x < kW K) (hw : wOk K S n x = true) (hk : rk (kU K) (kW K) (wOk K S n) x pl)
    (e1 : ∀ y, 0 ≤ y → y < kW K → E' (o + y) = if y = x then 0 else E (o + y) - (if W y % 16 = n ∧ pl + 1 < E (o + y) then 1 else 0)) (e3 : ∀ y, kW K ≤ y → y < 10 → E' (o + y) = E (o + y)) : rE K (sayT S x false) E' o := by
  have sn : (sayT S x false).2.2.2 x = false := uz_same _ _ _
  have so : ∀ y, ¬ y = x → (sayT S x false).2.2.2 y = S.2.2.2 y := fun y e => uz_ne _ _ e
  have hx1 := wo_t hw
  have gw : ∀ y, wOk K (sayT S x false) n y = (wOk K S n y && !decide (y = x)) := fun y => by
    unfold wOk
    by_cases e : y = x
    · rw [e, sn, decide_eq_true (p := x = x) rfl, Bool.and_false, Bool.not_true, Bool.and_false]
    · rw [so y e, decide_eq_false e, Bool.not_false, Bool.and_true]
  refine ⟨fun y a b h => ?_, fun y a b h => ?_⟩
  · by_cases e : y = x
    · rw [e, e1 x hx.1 hx.2, if_pos rfl]
    · rw [so y e] at h
      have h1 := hE.1 y a b h
      have h2 := rk_r hk
      by_cases z : y < kW K
      · rw [e1 y a z, if_neg e, h1, if_neg (by omega)]
        rfl
      · rw [e3 y (by omega) b]
        exact h1
  · have e : ¬ y = x := fun z => by rw [z, sn] at h; cases h
    rw [so y e] at h
    obtain ⟨r, h1, h2⟩ := hE.2 y a b h
    have hy := hI.2.2.2 y h
    have hwy := hr y a hy.1.2
    rw [e1 y a hy.1.2, if_neg e, h1]
    by_cases z : kL K y = n
    · rw [z] at h2 ⊢
      have hyw : wOk K S n y = true := by unfold wOk; rw [h, decide_eq_true z]; rfl
      refine ⟨_, ?_, rk_out hK.2.1 hw hk (fun y' _ _ => gw y') hyw e h2⟩
      by_cases v : pl < r
      · rw [if_pos v, if_pos ⟨by omega, by omega⟩]
        omega
      · rw [if_neg v, if_neg (fun q => by omega)]
        omega
    · refine ⟨r, by rw [if_neg (fun q => by omega)]; omega, rk_cg hK.2.1 (fun y' _ _ => ?_) h2⟩
      unfold wOk
      by_cases v : y' = x
      · rw [v, sn, decide_eq_false (p := kL K x = kL K y) (fun q => z (by rw [← q]; exact hx1.1))]
        rfl
      · rw [so y' v]
end RL2
