/-! Trials: a spot planned, nodes taken out, a trial taken over. -/
def sD (w : dW) (b : Int) (S : dS) : dW := (wK w, wH w, wB w, wE w, fun c => if c = b then S else wD w c)
theorem Wd_desk {h : ev_H} {w : dW} {b : Int} {S : dS} (hW : Wd h w) (hb : 0 ≤ b ∧ b < 5) (hr : rS S) : Wd (wS h (45 + 6 * b.toNat) S) (sD w b S) := by
  obtain ⟨wk, wh, wt, wd, ⟨⟨t1, q1⟩, ⟨T0, q2⟩, q3, ⟨t2, q4⟩, ⟨f2, q5⟩⟩, w28, w23, we, wl⟩ := hW
  have hS := wd b hb.1 hb.2
  have he : ∀ j, (j < 45 ∨ 75 ≤ j) → (wS h (45 + 6 * b.toNat) S).1[j]? = h.1[j]? := fun j hj => wS_out (by omega)
  refine ⟨wk.wS hS, wh.of (fun j j1 => he j (by omega)), ?_, fun c c1 c2 => ?_, ⟨⟨t1, (he 11 (by omega)).trans q1⟩, ⟨T0, q2.of (fun j j1 j2 => he j (by omega))⟩, q3.of (fun j j1 j2 => he j (by omega)), ⟨t2, (he 29 (by omega)).trans q4⟩, ⟨f2, (he 44 (by omega)).trans q5⟩⟩, (he 28 (by omega)).trans w28, (he 23 (by omega)).trans w23, we, by rw [wS_len]; exact wl⟩
  · exact ⟨(he 0 (by omega)).trans wt.1, (he 36 (by omega)).trans wt.2.1, (he 37 (by omega)).trans wt.2.2.1, wt.2.2.2⟩
  · show St _ _ (if c = b then S else wD w c)
    by_cases hc : c = b
    · rw [if_pos hc, hc]; exact wS_St hS hr
    · rw [if_neg hc]; exact wS_ne (wd c c1 c2) (by omega)
theorem ite_c {A : Type} {p q : Prop} {ip : Decidable p} {iq : Decidable q} (h : p ↔ q) (a b : A) : @ite A p ip a b = @ite A q iq a b := by
  by_cases hp : p
  · rw [if_pos hp, if_pos (h.mp hp)]
  · rw [if_neg hp, if_neg (fun z => hp (h.mpr z))]
/-- the spot that a new one comes behind -/
def ahd (K : dK) (S : dS) (p lo pl ah : Int) : Prop := (pl = 0 ∧ ah = -1) ∨ (¬ pl = 0 ∧ ∃ j, 0 ≤ j ∧ j < swL K p ∧ mOk K S p lo j = true ∧ cnI j (mOk K S p lo) = pl - 1 ∧ ah = gS S.1 (met K S p j))
theorem cnI_ex {p : Int → Bool} : ∀ (L : Nat) (m : Int), 0 ≤ m → m < cnI L p → ∃ j, 0 ≤ j ∧ j < (L : Int) ∧ p j = true ∧ cnI j p = m := by
  intro L
  induction L with
  | zero => intro m h1 h2; exact absurd h2 (by show ¬ m < 0; omega)
  | succ L ih =>
    intro m h1 h2
    rw [show ((L + 1 : Nat) : Int) = (L : Int) + 1 by omega] at h2
    cases e : p L with
    | false =>
      rw [cnI_f (by omega) e] at h2
      obtain ⟨j, j1, j2, j3, j4⟩ := ih m h1 h2
      exact ⟨j, j1, by omega, j3, j4⟩
    | true =>
      rw [cnI_t (by omega) e] at h2
      by_cases hm : m = cnI L p
      · exact ⟨L, by omega, by omega, e, hm.symm⟩
      · obtain ⟨j, j1, j2, j3, j4⟩ := ih m h1 (by omega)
        exact ⟨j, j1, by omega, j3, j4⟩
/-- a sweep meets each child -/
def full (K : dK) (S : dS) (p lo : Int) : Prop := cnI 40 (fun i => decide (¬ i = lo ∧ hold K S i = p)) = cnI (swL K p) (mOk K S p lo)
/-- what goes with a node and all below it -/
def rmv (K : dK) (S : dS) (n i : Int) : Bool := hs S i && wth (hold K S) 40 i n
def outS (K : dK) (S T : dS) (n i : Int) : dS := (fun m => if m < i ∧ rmv K S n m = true then -2 else T.1 m, fun m => if m < i ∧ rmv K S n m = true then -2 else T.2.1 m, fun m => if m < i ∧ rmv K S n m = true then -2 else T.2.2.1 m, fun x => if 0 ≤ x ∧ x < kW K ∧ kL K x < i ∧ rmv K S n (kL K x) = true then false else T.2.2.2 x)
theorem outS_r {K : dK} {S T : dS} {n i : Int} (hr : rS T) : rS (outS K S T n i) := by
  intro m
  have := hr m
  unfold outS
  refine ⟨?_, ?_, ?_⟩ <;> dsimp only <;> split <;> omega
section CA
variable {V : ev_V} {d : Nat} {h : ev_H} {P : ev_O → ev_H → Prop} {a : Nat} {w : dW} {S T : dS} {n k b v o m p pl lo : Int}
theorem c_planSpot (hW : Wd h w) (hn : kS (wK w) < 120) (hk : 0 ≤ n ∧ n < 40) (hm : 0 ≤ m ∧ m < 40) (KK : ∀ h', Wd h' (plS (wK w) n m, w.2) → Kf h h' → P (.inl (some (.int (iI (kS (wK w)))))) h') : En V (d + 1) 100 0 [some (.ref 0), some (.int (iI n)), some (.int (iI m))] [] h P := by
  have t0 := hW.2.2.1.1
  have k1 := hW.1.1
  refine n_go f_100_0 rfl (pc' := 1) rfl ?_
  refine n_gf f_100_1 rfl (by assumption) rfl ?_
  refine n_cv (ls' := [_]) f_100_4 (by decide) m_148 rfl rfl (by assumption) rfl ?_
  refine c_spotsAreFull hW.1 hn ?_
  show En V _ 100 7 _ [_] _ _
  refine n_if_eq f_100_7 rfl rfl (by omega) (fun _ => ?_) (fun e9 => absurd (by omega) e9)
  refine n_go f_100_21 rfl (pc' := 22) rfl ?_
  refine n_gf f_100_22 rfl (by assumption) rfl ?_
  refine n_go f_100_25 rfl (pc' := 26) rfl ?_
  refine n_go f_100_26 rfl (pc' := 27) rfl ?_
  refine n_cv (ls' := [_, _, _]) f_100_27 (by decide) m_149 rfl rfl (by assumption) rfl ?_
  refine c_planSpot0 hW hn hk hm (fun h' g1 g2 => ?_)
  show En V _ _ 30 _ [_] _ _
  refine n_ret f_100_30 rfl rfl ?_
  exact KK h' g1 g2
theorem c_spotAhead (hW : Wd h w) (hS : St h a S) (hp : 0 ≤ p ∧ p < 40) (hpl : 0 ≤ pl ∧ pl ≤ cnI (swL (wK w) p) (mOk (wK w) S p lo)) (hlo : -2147483648 ≤ lo ∧ lo < 2147483648) (KK : ∀ ah, ahd (wK w) S p lo pl ah → -2 ≤ ah ∧ ah ≤ 1000 → P (.inl (some (.int (iI ah)))) h) : En V (d + 4) 98 0 [some (.ref 0), some (.ref a), some (.int (iI p)), some (.int (iI pl)), some (.int (iI lo))] [] h P := by
  have t0 := hW.2.2.1.1
  have k10 := hW.1.2.2.2.2.2.2.2.2.2.1
  have s0 := hS.1
  have sr := hS.2.2.2.2.2.2.1
  have kr := hW.1.2.2.2.2.2.2.2.2.2.2
  have hw := swL_r kr p
  have hc := cnI_r (p := mOk (wK w) S p lo) hw.1
  refine n_go f_98_0 rfl (pc' := 1) rfl ?_
  refine n_if_ne f_98_1 rfl rfl (by omega) (fun e => ?_) (fun e => ?_)
  · refine n_go f_98_8 rfl (pc' := 9) rfl ?_
    refine n_go f_98_9 rfl (pc' := 10) rfl ?_
    refine n_gf f_98_10 rfl (by assumption) rfl ?_
    refine n_go f_98_13 rfl (pc' := 14) rfl ?_
    refine n_go f_98_14 rfl (pc' := 15) rfl ?_
    refine n_go f_98_15 rfl (pc' := 16) rfl ?_
    refine n_go f_98_16 rfl (pc' := 17) (st' := .int (iI 1) :: _) rfl ?_
    refine n_isub f_98_17 rfl ?_
    refine n_go f_98_18 rfl (pc' := 20) rfl ?_
    refine n_cv (ls' := [_, _, _, _, _, _, _, _, _]) f_98_20 (by decide) m_134 rfl rfl (by assumption) rfl ?_
    refine c_childAt hW.1 hS hp (by omega) hlo (fun j j1 j2 j3 j4 => ?_) (fun q => ?_)
    · have hmr := met_r kr S p j (by omega) (fun e => by have := hw.2.2 e; omega)
      show En V _ _ 23 _ [_, _] _ _
      refine n_cv (ls' := [_, _]) f_98_23 (by decide) m_147 rfl rfl (by assumption) rfl ?_
      refine c_spotOf hS (by omega) ?_
      show En V _ 98 26 _ [_] _ _
      refine n_ret f_98_26 rfl rfl ?_
      exact KK _ (Or.inr ⟨e, j, j1, j2, j3, j4, rfl⟩) (gS_r (fun i => (sr i).1) _)
    · have h9 := hpl.2
      rw [show swL (wK w) p = (((swL (wK w) p).toNat : Nat) : Int) by omega] at h9
      obtain ⟨j, j1, j2, j3, j4⟩ := cnI_ex (p := mOk (wK w) S p lo) (swL (wK w) p).toNat (pl - 1) (by omega) (by omega)
      exact absurd j4 (q j j1 (by omega) j3)
  · refine n_go f_98_4 rfl (pc' := 5) (st' := .int (iI (-1)) :: _) rfl ?_
    refine n_go f_98_5 rfl (pc' := 26) rfl ?_
    refine n_ret f_98_26 rfl rfl ?_
    exact KK _ (Or.inl ⟨by omega, rfl⟩) (by decide)
theorem c_accept (hW : Wd h w) (hT : St h 38 T) (hb : 0 ≤ b ∧ b < 5) (hg : ∀ i, 0 ≤ i → i < 40 → 0 ≤ hold (wK w) T i → 0 ≤ T.2.1 i ∧ T.2.1 i < 10) (K1 : okS (wK w) T → ∀ h', Wd h' (sD w b T) → Qk h h' → P (.inl none) h') (K2 : ¬ okS (wK w) T → ∀ h', Wd h' w → Qk h h' → P (.inr 13) (xH h' 13)) : En V (d + 5) 101 0 [some (.ref 0), some (.ref (45 + 6 * b.toNat))] [] h P := by
  have t0 := hW.2.2.1.1
  have k10 := hW.1.2.2.2.2.2.2.2.2.2.1
  obtain ⟨t, ht⟩ := hW.2.2.2.2.1.1
  refine n_go f_101_0 rfl (pc' := 1) rfl ?_
  refine n_gf f_101_1 rfl (by assumption) rfl ?_
  refine n_go f_101_4 rfl (pc' := 5) rfl ?_
  refine n_gf f_101_5 rfl (by assumption) rfl ?_
  refine n_cv (ls' := [_, _]) f_101_8 (by decide) m_93 rfl rfl (by assumption) rfl ?_
  refine c_brokenRule hW.1 hT ht hg (fun r f r1 r2 q => ?_) (fun q f => ?_)
  · show En V _ _ 11 _ [_] _ _
    refine n_if_eq f_101_11 rfl rfl (by omega) (fun e9 => absurd e9 (by omega)) (fun _ => ?_)
    refine n_thr f_101_14 rfl rfl ?_
    exact K2 q _ hW.tly (Qk.set (by decide))
  · have hW1 : Wd (ev_set h 11 (aI 40 f)) w := hW.tly
    have hT1 : St (ev_set h 11 (aI 40 f)) 38 T := hT.set (by decide)
    have hD1 := hW1.2.2.2.1 b hb.1 hb.2
    have u0 := hW1.2.2.1.1
    have d0 := hD1.1
    show En V _ _ 11 _ [_] _ _
    refine n_if_eq f_101_11 rfl rfl (by omega) (fun _ => ?_) (fun e9 => absurd (by omega) e9)
    refine n_go f_101_25 rfl (pc' := 26) rfl ?_
    refine n_go f_101_26 rfl (pc' := 27) rfl ?_
    refine n_gf f_101_27 rfl (by assumption) rfl ?_
    refine n_cv (ls' := [_, _]) f_101_30 (by decide) m_28 rfl rfl (by assumption) rfl ?_
    refine c_copyFrom hD1 hT1 (by omega) ?_
    show En V _ 101 33 _ [] _ _
    refine n_ret f_101_33 rfl rfl ?_
    exact K1 q _ (Wd_desk hW1 hb hT.2.2.2.2.2.2.1) ((Qk.set (by decide)).tr (Qk.wS (by omega)))
theorem c_takeOut (hW : Wd h w) (hS : St h a S) (ha : a + 6 ≤ 38 ∨ 44 ≤ a) (hT : St h 38 T) (hn : 0 ≤ n ∧ n < 40) (KK : P (.inl (some (.int (iI (cnI 40 (rmv (wK w) S n)))))) (wS h 38 (outS (wK w) S T n 40))) : En V (d + 3) 105 0 [some (.ref 0), some (.ref a), some (.int (iI n)), none, none] [] h P := by
  have tr := hT.2.2.2.2.2.2.1
  have kr := hW.1.2.2.2.2.2.2.2.2.2.2
  refine n_go f_105_0 rfl (pc' := 1) (st' := .int (iI 0) :: _) rfl ?_
  refine n_go f_105_1 rfl (pc' := 2) (ls' := [_, _, _, _, _]) rfl ?_
  refine n_go f_105_2 rfl (pc' := 3) (st' := .int (iI 0) :: _) rfl ?_
  refine n_go f_105_3 rfl (pc' := 5) (ls' := [_, _, _, _, _]) rfl ?_
  refine n_for (lo := 0) (hi := 40) (by decide) (fun i ls st h' => ls = [some (.ref 0), some (.ref a), some (.int (iI n)), some (.int (iI (cnI i (rmv (wK w) S n)))), some (.int (iI i))] ∧ st = [] ∧ h' = wS h 38 (outS (wK w) S T n i)) ⟨rfl, rfl, ?_⟩ ?_ ?_
  · have e : wS h 38 (outS (wK w) S T n 0) = wS h 38 T := by
      refine wS_c (fun i h1 _ => if_neg (by omega)) (fun i h1 _ => if_neg (by omega)) (fun i h1 _ => if_neg (by omega)) (fun i h1 _ => if_neg (fun q => ?_))
      have := kr.2.2.2.2.2.2.2.1 i
      omega
    rw [e, wS_self hT]
  · rintro i ls st h' h1 h2 ⟨rfl, rfl, rfl⟩ kk
    have hr := outS_r (K := wK w) (S := S) (n := n) (i := i) tr
    have hW' := hW.trl hr
    have hS' : St (wS h 38 (outS (wK w) S T n i)) a S := wS_ne hS (by omega)
    have hT' := wS_St hT hr
    have t0 := hW'.2.2.1.1
    have k10 := hW'.1.2.2.2.2.2.2.2.2.2.1
    have s0 := hS'.1
    have m0 := hT'.1
    -- a step in which nothing goes
    have skip : rmv (wK w) S n i = false → wS h 38 (outS (wK w) S T n i) = wS h 38 (outS (wK w) S T n (i + 1)) := by
      intro hf
      have hm : ∀ m : Int, (m < i ∧ rmv (wK w) S n m = true) ↔ (m < i + 1 ∧ rmv (wK w) S n m = true) := fun m => ⟨fun q => ⟨by omega, q.2⟩, fun q => ⟨by
        by_cases hmi : m = i
        · rw [hmi, hf] at q; exact absurd q.2 (by decide)
        · omega, q.2⟩⟩
      unfold outS
      refine wS_c (fun m _ _ => ?_) (fun m _ _ => ?_) (fun m _ _ => ?_) (fun x _ _ => ?_) <;> dsimp only
      · exact ite_c (hm m) _ _
      · exact ite_c (hm m) _ _
      · exact ite_c (hm m) _ _
      · exact ite_c (and_congr_right (fun _ => and_congr_right (fun _ => hm (kL (wK w) x)))) _ _
    refine n_go f_105_5 rfl (pc' := 7) rfl ?_
    refine n_bip (m := 40) f_105_7 rfl (by decide) ?_
    refine n_ic_ge f_105_9 rfl rfl ⟨by omega, by omega⟩ (fun e9 => absurd e9 (by omega)) (fun _ => ?_)
    refine n_go f_105_12 rfl (pc' := 13) rfl ?_
    refine n_go f_105_13 rfl (pc' := 15) rfl ?_
    refine n_cv (ls' := [_, _]) f_105_15 (by decide) m_133 rfl rfl (by assumption) rfl ?_
    refine c_has hS' (by omega) ?_
    show En V _ 105 18 _ [_] _ _
    refine n_ib_eq f_105_18 rfl rfl (fun e => ?_) (fun e => ?_)
    · have hf : rmv (wK w) S n i = false := by unfold rmv; rw [e]; rfl
      refine n_iinc (m' := 1) (ls' := [_, _, _, _, _]) f_105_60 rfl rfl rfl rfl ?_
      refine n_go f_105_63 rfl (pc' := 5) rfl ?_
      exact kk _ _ _ ⟨by rw [cnI_f h1 hf], rfl, skip hf⟩
    refine n_go f_105_21 rfl (pc' := 22) rfl ?_
    refine n_gf f_105_22 rfl (by assumption) rfl ?_
    refine n_go f_105_25 rfl (pc' := 26) rfl ?_
    refine n_go f_105_26 rfl (pc' := 28) rfl ?_
    refine n_go f_105_28 rfl (pc' := 29) rfl ?_
    refine n_cv (ls' := [_, _, _, _, _, _]) f_105_29 (by decide) m_151 rfl rfl (by assumption) rfl ?_
    refine c_isWithin hW'.1 hS' (by omega) (by omega) ?_
    show En V _ 105 32 _ [_] _ _
    refine n_ib_eq f_105_32 rfl rfl (fun e2 => ?_) (fun e2 => ?_)
    · have hf : rmv (wK w) S n i = false := by unfold rmv; rw [e, e2]; rfl
      refine n_iinc (m' := 1) (ls' := [_, _, _, _, _]) f_105_60 rfl rfl rfl rfl ?_
      refine n_go f_105_63 rfl (pc' := 5) rfl ?_
      exact kk _ _ _ ⟨by rw [cnI_f h1 hf], rfl, skip hf⟩
    have ht : rmv (wK w) S n i = true := by unfold rmv; rw [e, e2]; rfl
    have hr2 := setAt_r (n := i) (w := fun _ => -2) hr (fun _ => by decide)
    have hW2 := hW.trl hr2
    have hT2 := wS_St hT hr2
    have t02 := hW2.2.2.1.1
    have k102 := hW2.1.2.2.2.2.2.2.2.2.2.1
    have hr3 : rS (hsW (wK w) (setAt (outS (wK w) S T n i) i (fun _ => -2)) i (kW (wK w))) := hr2
    refine n_go f_105_35 rfl (pc' := 36) rfl ?_
    refine n_gf f_105_36 rfl (by assumption) rfl ?_
    refine n_go f_105_39 rfl (pc' := 41) rfl ?_
    refine n_cv (ls' := [_, _, _]) f_105_41 (by decide) m_152 rfl rfl (by assumption) rfl ?_
    refine c_drop hT' ⟨h1, h2⟩ ?_
    show En V _ 105 44 _ [] _ _
    rw [wS_w]
    refine n_go f_105_44 rfl (pc' := 45) rfl ?_
    refine n_gf f_105_45 rfl (by assumption) rfl ?_
    refine n_go f_105_48 rfl (pc' := 49) rfl ?_
    refine n_gf f_105_49 rfl (by assumption) rfl ?_
    refine n_go f_105_52 rfl (pc' := 54) rfl ?_
    refine n_cv (ls' := [_, _, _, _]) f_105_54 (by decide) m_153 rfl rfl (by assumption) rfl ?_
    refine c_hush hW2.1 hT2 (by omega) ?_
    show En V _ 105 57 _ [] _ _
    refine n_iinc (m' := 1) (ls' := [_, _, _, _, _]) f_105_57 rfl rfl rfl rfl ?_
    refine n_iinc (m' := 1) (ls' := [_, _, _, _, _]) f_105_60 rfl rfl rfl rfl ?_
    refine n_go f_105_63 rfl (pc' := 5) rfl ?_
    refine kk _ _ _ ⟨by rw [cnI_t h1 ht], rfl, ?_⟩
    rw [wS_w]
    have key : ∀ (f : Int → Int) (m : Int), uz (fun m => if m < i ∧ rmv (wK w) S n m = true then -2 else f m) i (-2) m = if m < i + 1 ∧ rmv (wK w) S n m = true then -2 else f m := by
      intro f m
      unfold uz
      by_cases hm : m = i
      · rw [if_pos hm, if_pos ⟨by omega, by rw [hm]; exact ht⟩]
      · rw [if_neg hm]
        dsimp only
        exact ite_c (show (m < i ∧ rmv (wK w) S n m = true) ↔ (m < i + 1 ∧ rmv (wK w) S n m = true) from ⟨fun q => ⟨by omega, q.2⟩, fun q => ⟨by omega, q.2⟩⟩) _ _
    refine wS_c (fun m _ _ => key T.1 m) (fun m _ _ => key T.2.1 m) (fun m _ _ => key T.2.2.1 m) (fun x x1 _ => ?_)
    show (if 0 ≤ x ∧ x < kW (wK w) ∧ kL (wK w) x = i then false else (if 0 ≤ x ∧ x < kW (wK w) ∧ kL (wK w) x < i ∧ rmv (wK w) S n (kL (wK w) x) = true then false else T.2.2.2 x)) = (if 0 ≤ x ∧ x < kW (wK w) ∧ kL (wK w) x < i + 1 ∧ rmv (wK w) S n (kL (wK w) x) = true then false else T.2.2.2 x)
    by_cases hx : x < kW (wK w)
    · by_cases hl : kL (wK w) x = i
      · rw [if_pos ⟨x1, hx, hl⟩, if_pos ⟨x1, hx, by omega, by rw [hl]; exact ht⟩]
      · rw [if_neg (fun q => hl q.2.2)]
        exact ite_c (show (0 ≤ x ∧ x < kW (wK w) ∧ kL (wK w) x < i ∧ rmv (wK w) S n (kL (wK w) x) = true) ↔ (0 ≤ x ∧ x < kW (wK w) ∧ kL (wK w) x < i + 1 ∧ rmv (wK w) S n (kL (wK w) x) = true) from ⟨fun q => ⟨q.1, q.2.1, by omega, q.2.2.2⟩, fun q => ⟨q.1, q.2.1, by omega, q.2.2.2⟩⟩) _ _
    · rw [if_neg (fun q => hx q.2.1), if_neg (fun q => hx q.2.1), if_neg (fun q => hx q.2.1)]
  · rintro ls st h' ⟨rfl, rfl, rfl⟩
    refine n_go f_105_5 rfl (pc' := 7) rfl ?_
    refine n_bip (m := 40) f_105_7 rfl (by decide) ?_
    refine n_ic_ge f_105_9 rfl rfl ⟨by omega, by omega⟩ (fun _ => ?_) (fun e9 => absurd (by omega) e9)
    refine n_go f_105_66 rfl (pc' := 67) rfl ?_
    refine n_ret f_105_67 rfl rfl ?_
    exact KK
end CA
