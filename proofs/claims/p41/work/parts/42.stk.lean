/-! What is put into the stock. -/
/-- the stock's cells alone have changed -/
def Kf (h h' : ev_H) : Prop := h'.2 = h.2 ∧ h'.1.length = h.1.length ∧ ∀ j, ¬ (1 ≤ j ∧ j ≤ 9) → h'.1[j]? = h.1[j]?
theorem Kf.rf (h : ev_H) : Kf h h := ⟨rfl, rfl, fun _ _ => rfl⟩
theorem Kf.tr {a b c : ev_H} (h1 : Kf a b) (h2 : Kf b c) : Kf a c := ⟨h2.1.trans h1.1, h2.2.1.trans h1.2.1, fun j hj => (h2.2.2 j hj).trans (h1.2.2 j hj)⟩
theorem Kf.set {h : ev_H} {a : Nat} {c : ev_C} (ha : 1 ≤ a ∧ a ≤ 9) : Kf h (ev_set h a c) := ⟨rfl, g_len, fun j hj => g_ne (fun e => hj (by omega))⟩
theorem Kf.qk {h h' : ev_H} (hf : Kf h h') : Qk h h' := ⟨hf.1, hf.2.1, fun j hj => hf.2.2 j (by omega)⟩
theorem Wd.chK {h h' : ev_H} {w : dW} {K : dK} (hW : Wd h w) (hf : Kf h h') (hk : Sk h' K) : Wd h' (K, w.2) := by
  obtain ⟨wk, wh, wt, wd, ⟨⟨t1, q1⟩, ⟨T0, q2⟩, q3, ⟨t2, q4⟩, ⟨f2, q5⟩⟩, w28, w23, we, wl⟩ := hW
  have he := hf.2.2
  refine ⟨hk, wh.of (fun j j1 => he j (by omega)), ?_, fun b b1 b2 => (wd b b1 b2).of (fun j j1 j2 => he j (by omega)), ⟨⟨t1, (he 11 (by omega)).trans q1⟩, ⟨T0, q2.of (fun j j1 j2 => he j (by omega))⟩, q3.of (fun j j1 j2 => he j (by omega)), ⟨t2, (he 29 (by omega)).trans q4⟩, ⟨f2, (he 44 (by omega)).trans q5⟩⟩, (he 28 (by omega)).trans w28, (he 23 (by omega)).trans w23, we, by rw [hf.1, hf.2.1]; exact wl⟩
  exact ⟨(he 0 (by omega)).trans wt.1, (he 36 (by omega)).trans wt.2.1, (he 37 (by omega)).trans wt.2.2.1, wt.2.2.2⟩
theorem St.kf {h h' : ev_H} {a : Nat} {S : dS} (hS : St h a S) (hf : Kf h h') : St h' a S := hS.of (fun j j1 j2 => hf.2.2 j (by have := hS.2.2.2.2.2.2.2; omega))
/-- a number brought into a row, behind another one -/
def insd (f : Int → Int) (num ah : Int) (f' : Int → Int) : Prop := ∃ p, 0 ≤ p ∧ p ≤ num ∧ (p = 0 ∨ f (p - 1) = ah) ∧ (∀ j, p ≤ j → j < num → ¬ f j = ah) ∧ ∀ j, f' j = if j < p then f j else if j = p then num else if j ≤ num then f (j - 1) else f j
section CI
variable {V : ev_V} {d : Nat} {h : ev_H} {P : ev_O → ev_H → Prop} {a c : Nat} {w : dW} {S : dS} {n k b v o m : Int} {f : Int → Int}
theorem c_insert (hc : h.1[c]? = some (aI 120 f)) (he : c < 1048576) (hf : ∀ i, 0 ≤ f i ∧ f i < 120) (hn : 0 ≤ n ∧ n < 120) (hm : -1 ≤ m ∧ m < 2147483648) (KK : ∀ f', insd f n m f' → P (.inl none) (ev_set h c (aI 120 f'))) : En V d 150 0 [some (.ref c), some (.int (iI n)), some (.int (iI m)), none] [] h P := by
  have hc0 := hc
  unfold aI at hc0
  refine n_go f_150_0 rfl (pc' := 1) rfl ?_
  refine n_if_lt f_150_1 rfl rfl (by omega) (fun e9 => absurd e9 (by omega)) (fun _ => ?_)
  refine n_go f_150_4 rfl (pc' := 5) rfl ?_
  refine n_go f_150_5 rfl (pc' := 6) rfl ?_
  refine n_aln f_150_6 rfl (hc0) rfl (by unfold ev_ext; omega) ?_
  refine n_ic_lt f_150_7 rfl rfl ⟨by omega, by omega⟩ (fun _ => ?_) (fun e9 => absurd (by omega) e9)
  refine n_go f_150_11 rfl (pc' := 12) rfl ?_
  refine n_go f_150_12 rfl (pc' := 13) (ls' := [_, _, _, _]) rfl ?_
  have key : ∀ (p : Nat), (p : Int) ≤ n → (∀ j, (p : Int) ≤ j → j < n → ¬ f j = m) → En V d 150 13 [some (.ref c), some (.int (iI n)), some (.int (iI m)), some (.int (iI p))] [] (ev_set h c (aI 120 (fun j => if j ≤ p then f j else if j ≤ n then f (j - 1) else f j))) P := by
    intro p
    induction p with
    | zero =>
      intro hp hno
      have hc1 : (ev_set h c (aI 120 (fun j => if j ≤ ((0 : Nat) : Int) then f j else if j ≤ n then f (j - 1) else f j))).1[c]? = some (aI 120 (fun j => if j ≤ ((0 : Nat) : Int) then f j else if j ≤ n then f (j - 1) else f j)) := g_eq hc
      refine n_go f_150_13 rfl (pc' := 14) rfl ?_
      refine n_if_le f_150_14 rfl rfl (by omega) (fun _ => ?_) (fun e9 => absurd (by omega) e9)
      refine n_go f_150_40 rfl (pc' := 41) rfl ?_
      refine n_go f_150_41 rfl (pc' := 42) rfl ?_
      refine n_go f_150_42 rfl (pc' := 43) rfl ?_
      refine n_ias f_150_43 rfl (hc1) (by omega) ?_
      refine n_ret f_150_44 rfl rfl ?_
      rw [g_ss]
      refine KK _ ⟨0, by decide, hn.1, Or.inl rfl, hno, fun j => ?_⟩
      unfold uz
      dsimp only
      (repeat' split) <;> first | rfl | (exfalso; omega) | (congr 1; omega)
    | succ p ih =>
      intro hp hno
      have hc1 : (ev_set h c (aI 120 (fun j => if j ≤ ((p + 1 : Nat) : Int) then f j else if j ≤ n then f (j - 1) else f j))).1[c]? = some (aI 120 (fun j => if j ≤ ((p + 1 : Nat) : Int) then f j else if j ≤ n then f (j - 1) else f j)) := g_eq hc
      have e1 : (if ((p + 1 : Nat) : Int) - 1 ≤ ((p + 1 : Nat) : Int) then f (((p + 1 : Nat) : Int) - 1) else if ((p + 1 : Nat) : Int) - 1 ≤ n then f (((p + 1 : Nat) : Int) - 1 - 1) else f (((p + 1 : Nat) : Int) - 1)) = f p := by rw [if_pos (by omega), show ((p + 1 : Nat) : Int) - 1 = p by omega]
      have hfp := hf p
      refine n_go f_150_13 rfl (pc' := 14) rfl ?_
      refine n_if_le f_150_14 rfl rfl (by omega) (fun e9 => absurd e9 (by omega)) (fun _ => ?_)
      refine n_go f_150_17 rfl (pc' := 18) rfl ?_
      refine n_go f_150_18 rfl (pc' := 19) rfl ?_
      refine n_go f_150_19 rfl (pc' := 20) (st' := .int (iI 1) :: _) rfl ?_
      refine n_isub f_150_20 rfl ?_
      refine n_ial f_150_21 rfl (hc1) (by unfold ev_ext; omega) (by omega) ?_
      rw [e1]
      refine n_go f_150_22 rfl (pc' := 23) rfl ?_
      refine n_ic_eq f_150_23 rfl rfl ⟨by omega, by omega⟩ (fun e => ?_) (fun e => ?_)
      · -- found
        refine n_go f_150_40 rfl (pc' := 41) rfl ?_
        refine n_go f_150_41 rfl (pc' := 42) rfl ?_
        refine n_go f_150_42 rfl (pc' := 43) rfl ?_
        refine n_ias f_150_43 rfl (hc1) (by omega) ?_
        refine n_ret f_150_44 rfl rfl ?_
        rw [g_ss]
        refine KK _ ⟨((p + 1 : Nat) : Int), by omega, hp, Or.inr (by rw [show ((p + 1 : Nat) : Int) - 1 = p by omega]; exact e), hno, fun j => ?_⟩
        unfold uz
        dsimp only
        (repeat' split) <;> first | rfl | (exfalso; omega) | (congr 1; omega)
      · refine n_go f_150_26 rfl (pc' := 27) rfl ?_
        refine n_go f_150_27 rfl (pc' := 28) rfl ?_
        refine n_go f_150_28 rfl (pc' := 29) rfl ?_
        refine n_go f_150_29 rfl (pc' := 30) rfl ?_
        refine n_go f_150_30 rfl (pc' := 31) (st' := .int (iI 1) :: _) rfl ?_
        refine n_isub f_150_31 rfl ?_
        refine n_ial f_150_32 rfl (hc1) (by unfold ev_ext; omega) (by omega) ?_
        refine n_ias f_150_33 rfl (hc1) (by omega) ?_
        rw [e1, g_ss]
        refine n_iinc (m' := (-1)) (ls' := [_, _, _, _]) f_150_34 rfl rfl rfl rfl ?_
        refine n_go f_150_37 rfl (pc' := 13) rfl ?_
        have K := ih (by omega) (fun j j1 j2 => by
          by_cases hj : j = (p : Int)
          · rw [hj]; exact e
          · exact hno j (by omega) j2)
        rw [show ((p + 1 : Nat) : Int) + -1 = p by omega]
        rw [aI_congr (f' := fun j => if j ≤ (p : Int) then f j else if j ≤ n then f (j - 1) else f j) (fun j _ _ => ?_)]
        · exact K
        · unfold uz
          dsimp only
          (repeat' split) <;> first | rfl | (exfalso; omega) | (congr 1; omega)
  have K := key n.toNat (by omega) (fun j j1 j2 => absurd j2 (by omega))
  rw [show ((n.toNat : Nat) : Int) = n by omega] at K
  rw [aI_congr (f' := f) (fun j _ _ => ?_), g_sf hc] at K
  · exact K
  · by_cases hj : j ≤ n
    · rw [if_pos hj]
    · rw [if_neg hj, if_neg hj]
theorem insd_r {f f' : Int → Int} (hf : ∀ i, 0 ≤ f i ∧ f i < 120) (hn : 0 ≤ n ∧ n < 120) (h : insd f n m f') : ∀ i, 0 ≤ f' i ∧ f' i < 120 := by
  obtain ⟨p, p1, p2, p3, p4, p5⟩ := h
  intro i
  rw [p5]
  split
  · exact hf i
  · split
    · exact hn
    · split
      · exact hf _
      · exact hf i
/-- the stock with a node planned, a spot planned, both kept -/
def plN (K : dK) (k : Int) : dK := (kN K, kS K, kW K, uz (kK K) (kN K) k, K.2.2.2.2)
def plS (K : dK) (n p : Int) : dK := (kN K, kS K, kW K, kK K, uz (kH K) (kS K) p, uz (kO K) (kS K) n, K.2.2.2.2.2.2)
def kpN (K : dK) : dK := (kN K + 1, K.2)
def kpS (K : dK) (q : Int → Int) : dK := (kN K, kS K + 1, kW K, kK K, kH K, kO K, q, K.2.2.2.2.2.2.2)
def adW (K : dK) (l s r : Int) (u : Int → Int) : dK := (kN K, kS K, kW K + 1, kK K, kH K, kO K, kQ K, uz (kL K) (kW K) l, uz (kE K) (kW K) s, uz (kR K) (kW K) r, u)
theorem c_planNode (hW : Wd h w) (hn : kN (wK w) < 40) (hk : 0 ≤ k ∧ k ≤ 3) (KK : ∀ h', Wd h' (plN (wK w) k, w.2) → Kf h h' → P (.inl (some (.int (iI (kN (wK w)))))) h') : En V d 99 0 [some (.ref 1), some (.int (iI k))] [] h P := by
  obtain ⟨k1, k2, k3, k4, k5, k6, k7, k8, k9, k10, kr⟩ := id hW.1
  have r1 := kr.1
  have hk' : Sk (ev_set h 2 (aI 40 (uz (kK (wK w)) (kN (wK w)) k))) (plN (wK w) k) := by
    have hr2 : rK (plN (wK w) k) := ⟨kr.1, kr.2.1, kr.2.2.1, uz_rg kr.2.2.2.1 hk, kr.2.2.2.2⟩
    exact ⟨(g_ne (by decide)).trans k1, g_eq k2, (g_ne (by decide)).trans k3, (g_ne (by decide)).trans k4, (g_ne (by decide)).trans k5, (g_ne (by decide)).trans k6, (g_ne (by decide)).trans k7, (g_ne (by decide)).trans k8, (g_ne (by decide)).trans k9, (g_ne (by decide)).trans k10, hr2⟩
  have q1 := hk'.1
  refine n_go f_99_0 rfl (pc' := 1) rfl ?_
  refine n_gf f_99_1 rfl (by assumption) rfl ?_
  refine n_bip (m := 40) f_99_4 rfl (by decide) ?_
  refine n_ic_lt f_99_6 rfl rfl ⟨by omega, by omega⟩ (fun _ => ?_) (fun e9 => absurd (by omega) e9)
  refine n_go f_99_11 rfl (pc' := 12) rfl ?_
  refine n_gf f_99_12 rfl (by assumption) rfl ?_
  refine n_go f_99_15 rfl (pc' := 16) rfl ?_
  refine n_gf f_99_16 rfl (by assumption) rfl ?_
  refine n_go f_99_19 rfl (pc' := 20) rfl ?_
  refine n_ias f_99_20 rfl (by assumption) (by omega) ?_
  refine n_go f_99_21 rfl (pc' := 22) rfl ?_
  refine n_gf f_99_22 rfl (q1) rfl ?_
  refine n_ret f_99_25 rfl rfl ?_
  exact KK _ (hW.chK (Kf.set (by decide)) hk') (Kf.set (by decide))
theorem c_planSpot0 (hW : Wd h w) (hn : kS (wK w) < 120) (hk : 0 ≤ n ∧ n < 40) (hm : 0 ≤ m ∧ m < 40) (KK : ∀ h', Wd h' (plS (wK w) n m, w.2) → Kf h h' → P (.inl (some (.int (iI (kS (wK w)))))) h') : En V d 149 0 [some (.ref 1), some (.int (iI n)), some (.int (iI m))] [] h P := by
  obtain ⟨k1, k2, k3, k4, k5, k6, k7, k8, k9, k10, kr⟩ := id hW.1
  have r1 := kr.2.1
  have e3 : (ev_set h 3 (aI 120 (uz (kH (wK w)) (kS (wK w)) m))).1[4]? = some (aI 120 (kO (wK w))) := (g_ne (by decide)).trans k4
  have e1 : (ev_set h 3 (aI 120 (uz (kH (wK w)) (kS (wK w)) m))).1[1]? = _ := (g_ne (by decide)).trans k1
  have hk' : Sk (ev_set (ev_set h 3 (aI 120 (uz (kH (wK w)) (kS (wK w)) m))) 4 (aI 120 (uz (kO (wK w)) (kS (wK w)) n))) (plS (wK w) n m) := by
    have hr2 : rK (plS (wK w) n m) := by
      refine ⟨kr.1, kr.2.1, kr.2.2.1, kr.2.2.2.1, fun i => ?_, fun i => ?_, kr.2.2.2.2.2.2⟩
      · show 0 ≤ uz _ _ _ i ∧ uz _ _ _ i < 40
        unfold uz
        split
        · exact hm
        · exact kr.2.2.2.2.1 i
      · show 0 ≤ uz _ _ _ i ∧ uz _ _ _ i < 40
        unfold uz
        split
        · exact hk
        · exact kr.2.2.2.2.2.1 i
    refine ⟨(g_ne (by decide)).trans e1, (g_ne (by decide)).trans ((g_ne (by decide)).trans k2), (g_ne (by decide)).trans (g_eq k3), g_eq e3, (g_ne (by decide)).trans ((g_ne (by decide)).trans k5), (g_ne (by decide)).trans ((g_ne (by decide)).trans k6), (g_ne (by decide)).trans ((g_ne (by decide)).trans k7), (g_ne (by decide)).trans ((g_ne (by decide)).trans k8), (g_ne (by decide)).trans ((g_ne (by decide)).trans k9), (g_ne (by decide)).trans ((g_ne (by decide)).trans k10), hr2⟩
  have q1 := hk'.1
  have hf : Kf h (ev_set (ev_set h 3 (aI 120 (uz (kH (wK w)) (kS (wK w)) m))) 4 (aI 120 (uz (kO (wK w)) (kS (wK w)) n))) := (Kf.set (by decide)).tr (Kf.set (by decide))
  refine n_go f_149_0 rfl (pc' := 1) rfl ?_
  refine n_gf f_149_1 rfl (by assumption) rfl ?_
  refine n_bip (m := 120) f_149_4 rfl (by decide) ?_
  refine n_ic_lt f_149_6 rfl rfl ⟨by omega, by omega⟩ (fun _ => ?_) (fun e9 => absurd (by omega) e9)
  refine n_go f_149_11 rfl (pc' := 12) rfl ?_
  refine n_gf f_149_12 rfl (by assumption) rfl ?_
  refine n_go f_149_15 rfl (pc' := 16) rfl ?_
  refine n_gf f_149_16 rfl (by assumption) rfl ?_
  refine n_go f_149_19 rfl (pc' := 20) rfl ?_
  refine n_ias f_149_20 rfl (by assumption) (by omega) ?_
  refine n_go f_149_21 rfl (pc' := 22) rfl ?_
  refine n_gf f_149_22 rfl (e1) rfl ?_
  refine n_go f_149_25 rfl (pc' := 26) rfl ?_
  refine n_gf f_149_26 rfl (e1) rfl ?_
  refine n_go f_149_29 rfl (pc' := 30) rfl ?_
  refine n_ias f_149_30 rfl (e3) (by omega) ?_
  refine n_go f_149_31 rfl (pc' := 32) rfl ?_
  refine n_gf f_149_32 rfl (q1) rfl ?_
  refine n_ret f_149_35 rfl rfl ?_
  exact KK _ (hW.chK hf hk') hf
theorem c_keepNode (hW : Wd h w) (hn : kN (wK w) < 40) (KK : ∀ h', Wd h' (kpN (wK w), w.2) → Kf h h' → P (.inl none) h') : En V d 102 0 [some (.ref 1)] [] h P := by
  obtain ⟨k1, k2, k3, k4, k5, k6, k7, k8, k9, k10, kr⟩ := id hW.1
  have r1 := kr.1
  have hr2 : rK (kpN (wK w)) := ⟨by show 0 ≤ kN (wK w) + 1 ∧ kN (wK w) + 1 ≤ 40; omega, kr.2⟩
  refine n_go f_102_0 rfl (pc' := 1) rfl ?_
  refine n_gf f_102_1 rfl (by assumption) rfl ?_
  refine n_bip (m := 40) f_102_4 rfl (by decide) ?_
  refine n_ic_ge f_102_6 rfl rfl ⟨by omega, by omega⟩ (fun e9 => absurd e9 (by omega)) (fun _ => ?_)
  refine n_go f_102_9 rfl (pc' := 10) rfl ?_
  refine n_go f_102_10 rfl (pc' := 11) rfl ?_
  refine n_gf f_102_11 rfl (by assumption) rfl ?_
  refine n_go f_102_14 rfl (pc' := 15) (st' := .int (iI 1) :: _) rfl ?_
  refine n_iadd f_102_15 rfl ?_
  refine n_pf f_102_16 rfl (by assumption) rfl ?_
  have hk' : Sk (ev_set h 1 (.inr (1, [.int (iI (kN (wK w) + 1)), .int (iI (kS (wK w))), .int (iI (kW (wK w))), .ref 2, .ref 3, .ref 4, .ref 5, .ref 6, .ref 7, .ref 8, .ref 9]))) (kpN (wK w)) := ⟨g_eq k1, (g_ne (by decide)).trans k2, (g_ne (by decide)).trans k3, (g_ne (by decide)).trans k4, (g_ne (by decide)).trans k5, (g_ne (by decide)).trans k6, (g_ne (by decide)).trans k7, (g_ne (by decide)).trans k8, (g_ne (by decide)).trans k9, (g_ne (by decide)).trans k10, hr2⟩
  refine n_ret f_102_19 rfl rfl ?_
  exact KK _ (hW.chK (Kf.set (by decide)) hk') (Kf.set (by decide))
theorem c_keepSpot (hW : Wd h w) (hn : kS (wK w) < 120) (hm : -1 ≤ m ∧ m < 2147483648) (KK : ∀ h' q, insd (kQ (wK w)) (kS (wK w)) m q → Wd h' (kpS (wK w) q, w.2) → Kf h h' → P (.inl none) h') : En V (d + 1) 103 0 [some (.ref 1), some (.int (iI m))] [] h P := by
  obtain ⟨k1, k2, k3, k4, k5, k6, k7, k8, k9, k10, kr⟩ := id hW.1
  have r1 := kr.2.1
  refine n_go f_103_0 rfl (pc' := 1) rfl ?_
  refine n_gf f_103_1 rfl (by assumption) rfl ?_
  refine n_bip (m := 120) f_103_4 rfl (by decide) ?_
  refine n_ic_ge f_103_6 rfl rfl ⟨by omega, by omega⟩ (fun e9 => absurd e9 (by omega)) (fun _ => ?_)
  refine n_go f_103_9 rfl (pc' := 10) rfl ?_
  refine n_gf f_103_10 rfl (by assumption) rfl ?_
  refine n_go f_103_13 rfl (pc' := 14) rfl ?_
  refine n_gf f_103_14 rfl (by assumption) rfl ?_
  refine n_go f_103_17 rfl (pc' := 18) rfl ?_
  refine n_cs (ls' := [_, _, _, _]) f_103_18 (by decide) m_150 rfl rfl ?_
  refine c_insert k5 (by decide) kr.2.2.2.2.2.2.1 ⟨r1.1, hn⟩ hm (fun q hq => ?_)
  have hqr := insd_r kr.2.2.2.2.2.2.1 ⟨r1.1, hn⟩ hq
  have e1 : (ev_set h 5 (aI 120 q)).1[1]? = _ := (g_ne (by decide)).trans k1
  have hr2 : rK (kpS (wK w) q) := ⟨kr.1, by show 0 ≤ kS (wK w) + 1 ∧ kS (wK w) + 1 ≤ 120; omega, kr.2.2.1, kr.2.2.2.1, kr.2.2.2.2.1, kr.2.2.2.2.2.1, hqr, kr.2.2.2.2.2.2.2⟩
  show En V _ _ 21 _ [] _ _
  refine n_go f_103_21 rfl (pc' := 22) rfl ?_
  refine n_go f_103_22 rfl (pc' := 23) rfl ?_
  refine n_gf f_103_23 rfl (by assumption) rfl ?_
  refine n_go f_103_26 rfl (pc' := 27) (st' := .int (iI 1) :: _) rfl ?_
  refine n_iadd f_103_27 rfl ?_
  refine n_pf f_103_28 rfl (by assumption) rfl ?_
  have hk' : Sk (ev_set (ev_set h 5 (aI 120 q)) 1 (.inr (1, [.int (iI (kN (wK w))), .int (iI (kS (wK w) + 1)), .int (iI (kW (wK w))), .ref 2, .ref 3, .ref 4, .ref 5, .ref 6, .ref 7, .ref 8, .ref 9]))) (kpS (wK w) q) := ⟨g_eq e1, (g_ne (by decide)).trans ((g_ne (by decide)).trans k2), (g_ne (by decide)).trans ((g_ne (by decide)).trans k3), (g_ne (by decide)).trans ((g_ne (by decide)).trans k4), (g_ne (by decide)).trans (g_eq k5), (g_ne (by decide)).trans ((g_ne (by decide)).trans k6), (g_ne (by decide)).trans ((g_ne (by decide)).trans k7), (g_ne (by decide)).trans ((g_ne (by decide)).trans k8), (g_ne (by decide)).trans ((g_ne (by decide)).trans k9), (g_ne (by decide)).trans ((g_ne (by decide)).trans k10), hr2⟩
  have hf : Kf h (ev_set (ev_set h 5 (aI 120 q)) 1 (.inr (1, [.int (iI (kN (wK w))), .int (iI (kS (wK w) + 1)), .int (iI (kW (wK w))), .ref 2, .ref 3, .ref 4, .ref 5, .ref 6, .ref 7, .ref 8, .ref 9]))) := (Kf.set (by decide)).tr (Kf.set (by decide))
  refine n_ret f_103_31 rfl rfl ?_
  exact KK _ q hq (hW.chK hf hk') hf
theorem c_addWord (hW : Wd h w) (hn : kW (wK w) < 120) (hl : 0 ≤ n ∧ n < 40) (hs' : 0 ≤ k ∧ k < 100) (hr' : 0 ≤ b ∧ b < 5) (hm : -1 ≤ m ∧ m < 2147483648) (KK : ∀ h' u, insd (kU (wK w)) (kW (wK w)) m u → Wd h' (adW (wK w) n k b u, w.2) → Kf h h' → P (.inl (some (.int (iI (kW (wK w)))))) h') : En V (d + 1) 113 0 [some (.ref 1), some (.int (iI n)), some (.int (iI k)), some (.int (iI b)), some (.int (iI m))] [] h P := by
  obtain ⟨k1, k2, k3, k4, k5, k6, k7, k8, k9, k10, kr⟩ := id hW.1
  have r1 := kr.2.2.1
  refine n_go f_113_0 rfl (pc' := 1) rfl ?_
  refine n_gf f_113_1 rfl (by assumption) rfl ?_
  refine n_bip (m := 120) f_113_4 rfl (by decide) ?_
  refine n_ic_lt f_113_6 rfl rfl ⟨by omega, by omega⟩ (fun _ => ?_) (fun e9 => absurd (by omega) e9)
  refine n_go f_113_11 rfl (pc' := 12) rfl ?_
  refine n_gf f_113_12 rfl (by assumption) rfl ?_
  refine n_go f_113_15 rfl (pc' := 16) rfl ?_
  refine n_gf f_113_16 rfl (by assumption) rfl ?_
  refine n_go f_113_19 rfl (pc' := 20) rfl ?_
  refine n_ias f_113_20 rfl (by assumption) (by omega) ?_
  generalize hh1 : ev_set h 6 (aI 120 (uz (kL (wK w)) (kW (wK w)) n)) = h1
  have o1 : ∀ j, ¬ 6 = j → h1.1[j]? = h.1[j]? := fun j hj => by rw [← hh1]; exact g_ne hj
  have a1 := (o1 1 (by decide)).trans k1
  have a7 := (o1 7 (by decide)).trans k7
  refine n_go f_113_21 rfl (pc' := 22) rfl ?_
  refine n_gf f_113_22 rfl (by assumption) rfl ?_
  refine n_go f_113_25 rfl (pc' := 26) rfl ?_
  refine n_gf f_113_26 rfl (by assumption) rfl ?_
  refine n_go f_113_29 rfl (pc' := 30) rfl ?_
  refine n_ias f_113_30 rfl (by assumption) (by omega) ?_
  generalize hh2 : ev_set h1 7 (aI 120 (uz (kE (wK w)) (kW (wK w)) k)) = h2
  have o2 : ∀ j, ¬ 7 = j → h2.1[j]? = h1.1[j]? := fun j hj => by rw [← hh2]; exact g_ne hj
  have b1 := (o2 1 (by decide)).trans a1
  have b8 := (o2 8 (by decide)).trans ((o1 8 (by decide)).trans k8)
  refine n_go f_113_31 rfl (pc' := 32) rfl ?_
  refine n_gf f_113_32 rfl (by assumption) rfl ?_
  refine n_go f_113_35 rfl (pc' := 36) rfl ?_
  refine n_gf f_113_36 rfl (by assumption) rfl ?_
  refine n_go f_113_39 rfl (pc' := 40) rfl ?_
  refine n_ias f_113_40 rfl (by assumption) (by omega) ?_
  generalize hh3 : ev_set h2 8 (aI 120 (uz (kR (wK w)) (kW (wK w)) b)) = h3
  have o3 : ∀ j, ¬ 8 = j → h3.1[j]? = h2.1[j]? := fun j hj => by rw [← hh3]; exact g_ne hj
  have c1 := (o3 1 (by decide)).trans b1
  have c9 := (o3 9 (by decide)).trans ((o2 9 (by decide)).trans ((o1 9 (by decide)).trans k9))
  refine n_go f_113_41 rfl (pc' := 42) rfl ?_
  refine n_gf f_113_42 rfl (by assumption) rfl ?_
  refine n_go f_113_45 rfl (pc' := 46) rfl ?_
  refine n_gf f_113_46 rfl (by assumption) rfl ?_
  refine n_go f_113_49 rfl (pc' := 51) rfl ?_
  refine n_cs (ls' := [_, _, _, _]) f_113_51 (by decide) m_150 rfl rfl ?_
  refine c_insert c9 (by decide) kr.2.2.2.2.2.2.2.2.2.2 ⟨r1.1, hn⟩ hm (fun q hq => ?_)
  have hqr := insd_r kr.2.2.2.2.2.2.2.2.2.2 ⟨r1.1, hn⟩ hq
  have e1 : (ev_set h3 9 (aI 120 q)).1[1]? = _ := (g_ne (by decide)).trans c1
  have hu : ∀ {f : Int → Int} {hi v : Int}, (∀ i, 0 ≤ f i ∧ f i < hi) → (0 ≤ v ∧ v < hi) → ∀ i, 0 ≤ uz f (kW (wK w)) v i ∧ uz f (kW (wK w)) v i < hi := by
    intro f hi v q1 q2 i
    unfold uz
    split
    · exact q2
    · exact q1 i
  have hr2 : rK (adW (wK w) n k b q) := ⟨kr.1, kr.2.1, by show 0 ≤ kW (wK w) + 1 ∧ kW (wK w) + 1 ≤ 120; omega, kr.2.2.2.1, kr.2.2.2.2.1, kr.2.2.2.2.2.1, kr.2.2.2.2.2.2.1, hu kr.2.2.2.2.2.2.2.1 hl, hu kr.2.2.2.2.2.2.2.2.1 hs', hu kr.2.2.2.2.2.2.2.2.2.1 hr', hqr⟩
  show En V _ _ 54 _ [] _ _
  refine n_go f_113_54 rfl (pc' := 55) rfl ?_
  refine n_go f_113_55 rfl (pc' := 56) rfl ?_
  refine n_gf f_113_56 rfl (by assumption) rfl ?_
  refine n_go f_113_59 rfl (pc' := 60) (st' := .int (iI 1) :: _) rfl ?_
  refine n_iadd f_113_60 rfl ?_
  refine n_pf f_113_61 rfl (by assumption) rfl ?_
  generalize hh4 : ev_set h3 9 (aI 120 q) = h4 at *
  have o4 : ∀ j, ¬ 9 = j → h4.1[j]? = h3.1[j]? := fun j hj => by rw [← hh4]; exact g_ne hj
  have y : ∀ c, Kf h (ev_set h4 1 c) := fun c => by
    rw [← hh4, ← hh3, ← hh2, ← hh1]
    exact (((((Kf.set (by decide)).tr (Kf.set (by decide))).tr (Kf.set (by decide))).tr (Kf.set (by decide)))).tr (Kf.set (by decide))
  have hk' : Sk (ev_set h4 1 (.inr (1, [.int (iI (kN (wK w))), .int (iI (kS (wK w))), .int (iI (kW (wK w) + 1)), .ref 2, .ref 3, .ref 4, .ref 5, .ref 6, .ref 7, .ref 8, .ref 9]))) (adW (wK w) n k b q) := by
    have z : ∀ j, ¬ j = 1 → ¬ j = 6 → ¬ j = 7 → ¬ j = 8 → ¬ j = 9 → ∀ c, (ev_set h4 1 c).1[j]? = h.1[j]? := fun j j1 j6 j7 j8 j9 c => (g_ne (fun e => j1 e.symm)).trans ((o4 j (fun e => j9 e.symm)).trans ((o3 j (fun e => j8 e.symm)).trans ((o2 j (fun e => j7 e.symm)).trans (o1 j (fun e => j6 e.symm)))))
    refine ⟨g_eq e1, (z 2 (by decide) (by decide) (by decide) (by decide) (by decide) _).trans k2, (z 3 (by decide) (by decide) (by decide) (by decide) (by decide) _).trans k3, (z 4 (by decide) (by decide) (by decide) (by decide) (by decide) _).trans k4, (z 5 (by decide) (by decide) (by decide) (by decide) (by decide) _).trans k5, ?_, ?_, ?_, ?_, (z 10 (by decide) (by decide) (by decide) (by decide) (by decide) _).trans k10, hr2⟩
    · exact (g_ne (by decide)).trans ((o4 6 (by decide)).trans ((o3 6 (by decide)).trans ((o2 6 (by decide)).trans (by rw [← hh1]; exact g_eq k6))))
    · exact (g_ne (by decide)).trans ((o4 7 (by decide)).trans ((o3 7 (by decide)).trans (by rw [← hh2]; exact g_eq a7)))
    · exact (g_ne (by decide)).trans ((o4 8 (by decide)).trans (by rw [← hh3]; exact g_eq b8))
    · exact (g_ne (by decide)).trans (by rw [← hh4]; exact g_eq c9)
  have q1 := hk'.1
  refine n_go f_113_64 rfl (pc' := 65) rfl ?_
  refine n_gf f_113_65 rfl (q1) rfl ?_
  refine n_go f_113_68 rfl (pc' := 69) (st' := .int (iI 1) :: _) rfl ?_
  refine n_isub f_113_69 rfl ?_
  show En V _ _ 70 _ [.int (iI (kW (wK w) + 1 - 1))] _ _
  rw [show kW (wK w) + 1 - 1 = kW (wK w) by omega]
  refine n_ret f_113_70 rfl rfl ?_
  exact KK _ q hq (hW.chK (y _) hk') (y _)
end CI
