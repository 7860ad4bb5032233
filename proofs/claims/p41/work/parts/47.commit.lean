/-! Versions added; commit, reset, fork, merge. -/
/-- the history's cells alone have changed -/
def Hf (h h' : ev_H) : Prop := h'.2 = h.2 ∧ h'.1.length = h.1.length ∧ ∀ j, ¬ (13 ≤ j ∧ j ≤ 16) → ¬ j = 81 → h'.1[j]? = h.1[j]?
theorem Wd_chH {h h' : ev_H} {w : dW} {H : dH} (hW : Wd h w) (hf : Hf h h') (hH : Hi h' H) (hn : hN (wH w) ≤ hN H) : Wd h' (wK w, H, w.2.2) := by
  obtain ⟨wk, wh, wt, wd, ⟨⟨t1, q1⟩, ⟨T0, q2⟩, q3, ⟨t2, q4⟩, ⟨f2, q5⟩⟩, w28, w23, we, wl⟩ := hW
  have he := hf.2.2
  refine ⟨wk.of (fun j j1 j2 => he j (by omega) (by omega)), hH, ?_, fun b b1 b2 => (wd b b1 b2).of (fun j j1 j2 => he j (by omega) (by omega)), ⟨⟨t1, (he 11 (by omega) (by omega)).trans q1⟩, ⟨T0, q2.of (fun j j1 j2 => he j (by omega) (by omega))⟩, q3.of (fun j j1 j2 => he j (by omega) (by omega)), ⟨t2, (he 29 (by omega) (by omega)).trans q4⟩, ⟨f2, (he 44 (by omega) (by omega)).trans q5⟩⟩, (he 28 (by omega) (by omega)).trans w28, (he 23 (by omega) (by omega)).trans w23, fun b b1 b2 => ?_, by rw [hf.1, hf.2.1]; exact wl⟩
  · exact ⟨(he 0 (by omega) (by omega)).trans wt.1, (he 36 (by omega) (by omega)).trans wt.2.1, (he 37 (by omega) (by omega)).trans wt.2.2.1, wt.2.2.2⟩
  · exact Int.lt_of_lt_of_le (we b b1 b2) hn
theorem Wd_grow {h h' : ev_H} {w : dW} (hW : Wd h w) (he : ∀ j, j < h.1.length → h'.1[j]? = h.1[j]?) (hl : h'.2.1 = h'.1.length) : Wd h' w := by
  obtain ⟨⟨t1, q1⟩, ⟨T0, q2⟩, q3, ⟨t2, q4⟩, ⟨f2, q5⟩⟩ := hW.2.2.2.2.1
  have e44 : 44 < h.1.length := (List.getElem?_eq_some_iff.mp q5).1
  exact hW.of (fun j j1 _ => he j j1) ⟨⟨t1, (he 11 (by omega)).trans q1⟩, ⟨T0, q2.of (fun j j1 j2 => he j (by omega))⟩, q3.of (fun j j1 j2 => he j (by omega)), ⟨t2, (he 29 (by omega)).trans q4⟩, ⟨f2, (he 44 (by omega)).trans q5⟩⟩ hl
theorem Wd_top {h : ev_H} {w : dW} {nb : Int} {hd : Int → Int} (hW : Wd h w) (hb : 1 ≤ nb ∧ nb ≤ 3) (hh : ∀ b, 0 ≤ hd b ∧ hd b < 6) (hn : ∀ b, 0 ≤ b → b < nb → hd b < hN (wH w)) : Wd (ev_set (ev_set h 0 (.inr (0, [.ref 1, .ref 10, .ref 12, .ref 23, .ref 25, .ref 28, .ref 30, .ref 36, .ref 37, .int (iI nb), .ref 38, .ref 44]))) 37 (aI 5 hd)) (wK w, wH w, nb, hd, wD w) := by
  obtain ⟨wk, wh, wt, wd, ⟨⟨t1, q1⟩, ⟨T0, q2⟩, q3, ⟨t2, q4⟩, ⟨f2, q5⟩⟩, w28, w23, we, wl⟩ := hW
  generalize hh' : ev_set (ev_set h 0 (.inr (0, [.ref 1, .ref 10, .ref 12, .ref 23, .ref 25, .ref 28, .ref 30, .ref 36, .ref 37, .int (iI nb), .ref 38, .ref 44]))) 37 (aI 5 hd) = h'
  have he : ∀ j, ¬ j = 0 → ¬ j = 37 → h'.1[j]? = h.1[j]? := fun j j1 j2 => by
    rw [← hh', g_ne (fun e => j2 e.symm), g_ne (fun e => j1 e.symm)]
  have h0 : h'.1[0]? = some (.inr (0, [.ref 1, .ref 10, .ref 12, .ref 23, .ref 25, .ref 28, .ref 30, .ref 36, .ref 37, .int (iI nb), .ref 38, .ref 44])) := by
    rw [← hh', g_ne (by decide)]
    exact g_eq wt.1
  have h37 : h'.1[37]? = some (aI 5 hd) := by
    rw [← hh']
    exact g_eq ((g_ne (by decide)).trans wt.2.2.1)
  have hl : h'.2 = h.2 ∧ h'.1.length = h.1.length := by
    rw [← hh', g_len, g_len]
    exact ⟨rfl, rfl⟩
  exact ⟨wk.of (fun j j1 j2 => he j (by omega) (by omega)), wh.of (fun j j1 => he j (by omega) (by omega)), ⟨h0, (he 36 (by omega) (by omega)).trans wt.2.1, h37, hb, hh⟩, fun b b1 b2 => (wd b b1 b2).of (fun j j1 j2 => he j (by omega) (by omega)), ⟨⟨t1, (he 11 (by omega) (by omega)).trans q1⟩, ⟨T0, q2.of (fun j j1 j2 => he j (by omega) (by omega))⟩, q3.of (fun j j1 j2 => he j (by omega) (by omega)), ⟨t2, (he 29 (by omega) (by omega)).trans q4⟩, ⟨f2, (he 44 (by omega) (by omega)).trans q5⟩⟩, (he 28 (by omega) (by omega)).trans w28, (he 23 (by omega) (by omega)).trans w23, hn, by rw [hl.1, hl.2]; exact wl⟩
/-- a version added behind a head -/
def addH (H : dH) (a : Nat) (S : dS) (v : Int) : dH := (hN H + 1, uz (hA H) (hN H) a, uz (hV H) (hN H) S, uz (hF H) (hN H) v, uz (hG H) (hN H) (-1), uz (hO H) (hN H) (lin H v))
section CW
variable {V : ev_V} {d : Nat} {h : ev_H} {P : ev_O → ev_H → Prop} {a : Nat} {w : dW} {S : dS} {H : dH} {n k b v o m : Int}
theorem c_ladd {f : Int → Option Nat} {mc z : Int} {fs : List Value} (h13 : h.1[13]? = some (.inr (4, [.ref 81, .int (iI z), .int (iI mc)]))) (h81 : h.1[81]? = some (aR 4 10 f)) (ha : h.1[a]? = some (.inr (5, fs))) (hz : 0 ≤ z ∧ z < 10) (hb : 82 ≤ a) (KK : P (.inl (some (.int (iI 1)))) (ev_set (ev_set h 81 (aR 4 10 (uz f z (some a)))) 13 (.inr (4, [.ref 81, .int (iI (z + 1)), .int (iI (mc + 1))])))) : En V (d + 1) 68 0 [some (.ref 13), some (.ref a)] [] h P := by
  have g13 : (ev_set h 13 (.inr (4, [.ref 81, .int (iI z), .int (iI (mc + 1))]))).1[13]? = _ := g_eq h13
  have g81 : (ev_set h 13 (.inr (4, [.ref 81, .int (iI z), .int (iI (mc + 1))]))).1[81]? = _ := (g_ne (by decide)).trans h81
  have ga : (ev_set h 13 (.inr (4, [.ref 81, .int (iI z), .int (iI (mc + 1))]))).1[a]? = _ := (g_ne (by omega)).trans ha
  have g81' := g81
  unfold aR at g81'
  have k13 : (ev_set (ev_set h 13 (.inr (4, [.ref 81, .int (iI z), .int (iI (mc + 1))]))) 81 (aR 4 10 (uz f z (some a)))).1[13]? = _ := (g_ne (by decide)).trans g13
  rw [g_cm (a := 81) (b := 13) (by decide)] at KK
  refine n_go f_68_0 rfl (pc' := 1) rfl ?_
  refine n_go f_68_1 rfl (pc' := 2) rfl ?_
  refine n_gf f_68_2 rfl (h13) rfl ?_
  refine n_go f_68_5 rfl (pc' := 6) (st' := .int (iI 1) :: _) rfl ?_
  refine n_iadd f_68_6 rfl ?_
  refine n_pf f_68_7 rfl (h13) rfl ?_
  show En V _ _ 10 _ [] (ev_set h 13 (.inr (4, [.ref 81, .int (iI z), .int (iI (mc + 1))]))) _
  refine n_go f_68_10 rfl (pc' := 11) rfl ?_
  refine n_go f_68_11 rfl (pc' := 12) rfl ?_
  refine n_go f_68_12 rfl (pc' := 13) rfl ?_
  refine n_gf f_68_13 rfl (g13) rfl ?_
  refine n_go f_68_16 rfl (pc' := 17) rfl ?_
  refine n_gf f_68_17 rfl (g13) rfl ?_
  refine n_cv (ls' := [_, _, _, _]) f_68_20 (by decide) m_130 rfl rfl (g13) rfl ?_
  show En V _ _ 0 [some (.ref 13), some (.ref a), some (.ref 81), some (.int (iI z))] [] _ _
  refine n_go f_130_0 rfl (pc' := 1) rfl ?_
  refine n_go f_130_1 rfl (pc' := 2) rfl ?_
  refine n_aln f_130_2 rfl (g81') rfl (by unfold ev_ext; omega) ?_
  refine n_ic_ne f_130_3 rfl rfl ⟨by omega, by omega⟩ (fun _ => ?_) (fun e9 => absurd (by omega) e9)
  refine n_go f_130_11 rfl (pc' := 12) rfl ?_
  refine n_go f_130_12 rfl (pc' := 13) rfl ?_
  refine n_go f_130_13 rfl (pc' := 14) rfl ?_
  refine n_aas f_130_14 rfl (g81) (by omega) (ga) ?_
  refine n_go f_130_15 rfl (pc' := 16) rfl ?_
  refine n_go f_130_16 rfl (pc' := 17) rfl ?_
  refine n_go f_130_17 rfl (pc' := 18) (st' := .int (iI 1) :: _) rfl ?_
  refine n_iadd f_130_18 rfl ?_
  refine n_pf f_130_19 rfl (k13) rfl ?_
  refine n_ret f_130_22 rfl rfl ?_
  show En V _ _ 23 _ [] _ _
  rw [g_cm (a := 81) (b := 13) (by decide), g_ss]
  refine n_go f_68_23 rfl (pc' := 24) (st' := .int (iI 1) :: _) rfl ?_
  first | refine n_rtz f_68_24 rfl ?_ | refine n_rt0 f_68_24 rfl ?_ | refine n_rt1 f_68_24 rfl ?_
  exact KK
theorem Hi_F {F : Int → Int} (hH : Hi h H) (hF' : ∀ v, -1 ≤ F v ∧ F v < 6) : Hi (ev_set h 14 (aI 40 F)) (hN H, hA H, hV H, F, H.2.2.2.2) := by
  obtain ⟨h1, ⟨mc, h2⟩, ⟨f, h3, h3'⟩, h4, h5, h6, h7, hr⟩ := hH
  exact ⟨(g_ne (by decide)).trans h1, ⟨mc, (g_ne (by decide)).trans h2⟩, ⟨f, (g_ne (by decide)).trans h3, h3'⟩, g_eq h4, (g_ne (by decide)).trans h5, (g_ne (by decide)).trans h6, fun v v1 v2 => (h7 v v1 v2).set (by have := hr.2.2.2.2 v v1 v2; omega), hr.1, hr.2.1, hF', hr.2.2.2⟩
theorem Hi_G {G : Int → Int} (hH : Hi h H) (hG' : ∀ v, -1 ≤ G v ∧ G v < 6) : Hi (ev_set h 15 (aI 40 G)) (hN H, hA H, hV H, hF H, G, hO H) := by
  obtain ⟨h1, ⟨mc, h2⟩, ⟨f, h3, h3'⟩, h4, h5, h6, h7, hr⟩ := hH
  exact ⟨(g_ne (by decide)).trans h1, ⟨mc, (g_ne (by decide)).trans h2⟩, ⟨f, (g_ne (by decide)).trans h3, h3'⟩, (g_ne (by decide)).trans h4, g_eq h5, (g_ne (by decide)).trans h6, fun v v1 v2 => (h7 v v1 v2).set (by have := hr.2.2.2.2 v v1 v2; omega), hr.1, hr.2.1, hr.2.2.1, hG', hr.2.2.2.2⟩
theorem lin_m (H : dH) : lin H (-1) = 0 := if_neg (by omega)
theorem c_hadd (hH : Hi h H) (hn : hN H < 6) (hS : St h a S) (ha : 92 ≤ a) (hv : 0 ≤ v ∧ v < hN H) (KK : ∀ h', Hi h' (addH H a S v) → Hf h h' → P (.inl (some (.int (iI (hN H))))) h') : En V (d + 3) 27 0 [some (.ref 12), some (.ref a), some (.int (iI v)), some (.int (iI (-1))), none] [] h P := by
  have r1 := hH.2.2.2.2.2.2.2.1
  have hm1 : (-1 : Int) ≤ -1 ∧ (-1 : Int) < hN H := by omega
  have hm2 : -1 ≤ v ∧ v < hN H := by omega
  have hm3 : 0 ≤ hN H ∧ hN H < 10 := by omega
  obtain ⟨h1, ⟨mc, h2⟩, ⟨f, h3, h3'⟩, h4, h5, h6, h7, hr⟩ := id hH
  refine n_go f_27_0 rfl (pc' := 1) rfl ?_
  refine n_gf f_27_1 rfl (by assumption) rfl ?_
  refine n_cv (ls' := [_]) f_27_4 (by decide) m_66 rfl rfl (by assumption) rfl ?_
  refine c_size hH ?_
  show En V _ 27 7 _ [_] _ _
  refine n_go f_27_7 rfl (pc' := 9) (ls' := [_, _, _, _, _]) rfl ?_
  refine n_go f_27_9 rfl (pc' := 11) rfl ?_
  refine n_bip (m := 40) f_27_11 rfl (by decide) ?_
  refine n_ic_lt f_27_13 rfl rfl ⟨by omega, by omega⟩ (fun _ => ?_) (fun e9 => absurd (by omega) e9)
  refine n_go f_27_18 rfl (pc' := 19) rfl ?_
  refine n_gf f_27_19 rfl (by assumption) rfl ?_
  refine n_go f_27_22 rfl (pc' := 24) rfl ?_
  refine n_go f_27_24 rfl (pc' := 25) rfl ?_
  refine n_ias f_27_25 rfl (by assumption) (by omega) ?_
  have hr1 : ∀ i, -1 ≤ uz (hF H) (hN H) v i ∧ uz (hF H) (hN H) v i < 6 := fun i => by
    unfold uz
    split
    · omega
    · exact hr.2.2.1 i
  have H1 := Hi_F hH hr1
  have a12 := H1.1
  have a15 := H1.2.2.2.2.1
  have hf1 : Hf h (ev_set h 14 (aI 40 (uz (hF H) (hN H) v))) := ⟨rfl, g_len, fun j j1 j2 => g_ne (by omega)⟩
  generalize ev_set h 14 (aI 40 (uz (hF H) (hN H) v)) = k1 at *
  refine n_go f_27_26 rfl (pc' := 27) rfl ?_
  refine n_gf f_27_27 rfl (a12) rfl ?_
  refine n_go f_27_30 rfl (pc' := 32) rfl ?_
  refine n_go f_27_32 rfl (pc' := 33) rfl ?_
  refine n_ias f_27_33 rfl (a15) (by omega) ?_
  have hr2 : ∀ i, -1 ≤ uz (hG H) (hN H) (-1) i ∧ uz (hG H) (hN H) (-1) i < 6 := fun i => by
    unfold uz
    split
    · decide
    · exact hr.2.2.2.1 i
  have H2 := Hi_G H1 hr2
  have b12 := H2.1
  have hf2 : Hf h (ev_set k1 15 (aI 40 (uz (hG H) (hN H) (-1)))) := ⟨hf1.1, g_len.trans hf1.2.1, fun j j1 j2 => (g_ne (by omega)).trans (hf1.2.2 j j1 j2)⟩
  show En V _ _ 34 _ [] (ev_set k1 15 (aI 40 (uz (hG H) (hN H) (-1)))) _
  generalize ev_set k1 15 (aI 40 (uz (hG H) (hN H) (-1))) = k2 at *
  have hl1 : lin H v < 64 := lin_r hr v
  have lo := l_or ⟨lin H v, hl1⟩ ⟨0, by decide⟩
  dsimp only at lo
  rw [Nat.or_zero] at lo
  refine n_go f_27_34 rfl (pc' := 35) rfl ?_
  refine n_gf f_27_35 rfl (b12) rfl ?_
  refine n_go f_27_38 rfl (pc' := 40) rfl ?_
  refine n_go f_27_40 rfl (pc' := 41) rfl ?_
  refine n_go f_27_41 rfl (pc' := 42) rfl ?_
  refine n_cv (ls' := [_, _]) f_27_42 (by decide) m_67 rfl rfl (by assumption) rfl ?_
  refine c_lineOf H2 hm2 ?_
  show En V _ 27 45 _ [_, _, _] _ _
  refine n_go f_27_45 rfl (pc' := 46) rfl ?_
  refine n_go f_27_46 rfl (pc' := 47) rfl ?_
  refine n_cv (ls' := [_, _]) f_27_47 (by decide) m_67 rfl rfl (by assumption) rfl ?_
  refine c_lineOf H2 hm1 ?_
  show En V _ 27 50 _ [_, _, _, _] _ _
  show En V _ _ 50 _ [.long (l64 (lin H (-1))), .long (l64 (lin H v)), .int (iI (hN H)), .ref 16] _ _
  rw [lin_m]
  obtain ⟨-, ⟨mc2, c13⟩, ⟨f2, c81, c81'⟩, c14, c15, c16, c7, cr⟩ := id H2
  refine n_go f_27_50 rfl (pc' := 51) rfl ?_
  show En V _ _ 51 _ [.long (l64 (lin H v) ||| l64 0), .int (iI (hN H)), .ref 16] _ _
  rw [lo]
  refine n_las f_27_51 rfl (c16) (by omega) ?_
  have e16 : aL 40 (uz (fun v => l64 (hO H v)) (hN H) (l64 (lin H v))) = aL 40 (fun i => l64 (uz (hO H) (hN H) (lin H v) i)) := aL_congr (fun i _ _ => by unfold uz; split <;> rfl)
  show En V _ _ 52 _ [] (ev_set k2 16 (aL 40 (uz (fun v => l64 (hO H v)) (hN H) (l64 (lin H v))))) _
  rw [e16]
  generalize hk3 : ev_set k2 16 (aL 40 (fun i => l64 (uz (hO H) (hN H) (lin H v) i))) = k3
  have o3 : ∀ j, ¬ 16 = j → k3.1[j]? = k2.1[j]? := fun j hj => by rw [← hk3]; exact g_ne hj
  have d12 := (o3 12 (by decide)).trans b12
  have d13 := (o3 13 (by decide)).trans c13
  have d81 := (o3 81 (by decide)).trans c81
  have d14 := (o3 14 (by decide)).trans c14
  have d15 := (o3 15 (by decide)).trans c15
  have d16 : k3.1[16]? = some (aL 40 (fun i => l64 (uz (hO H) (hN H) (lin H v) i))) := by rw [← hk3]; exact g_eq c16
  have hf3 : Hf h k3 := ⟨by rw [← hk3]; exact hf2.1, by rw [← hk3]; exact g_len.trans hf2.2.1, fun j j1 j2 => (o3 j (by omega)).trans (hf2.2.2 j j1 j2)⟩
  have da : k3.1[a]? = _ := (hf3.2.2 a (by omega) (by omega)).trans hS.1
  refine n_go f_27_52 rfl (pc' := 53) rfl ?_
  refine n_gf f_27_53 rfl (d12) rfl ?_
  refine n_go f_27_56 rfl (pc' := 57) rfl ?_
  refine n_cv (ls' := [_, _]) f_27_57 (by decide) m_68 rfl rfl (by assumption) rfl ?_
  refine c_ladd d13 d81 da hm3 (by omega) ?_
  show En V _ 27 60 _ [_] _ _
  refine n_go f_27_60 rfl (pc' := 61) rfl ?_
  generalize hk4 : ev_set (ev_set k3 81 (aR 4 10 (uz f2 (hN H) (some a)))) 13 (.inr (4, [.ref 81, .int (iI (hN H + 1)), .int (iI (mc2 + 1))])) = k4
  have o4 : ∀ j, ¬ j = 13 → ¬ j = 81 → k4.1[j]? = k3.1[j]? := fun j j1 j2 => by rw [← hk4]; exact (g_ne (fun e => j1 e.symm)).trans (g_ne (fun e => j2 e.symm))
  have hf4 : Hf h k4 := ⟨by rw [← hk4]; exact hf3.1, by rw [← hk4, g_len, g_len]; exact hf3.2.1, fun j j1 j2 => (o4 j (by omega) j2).trans (hf3.2.2 j j1 j2)⟩
  have H4 : Hi k4 (addH H a S v) := by
    refine ⟨(o4 12 (by decide) (by decide)).trans d12, ⟨mc2 + 1, ?_⟩, ⟨uz f2 (hN H) (some a), ?_, fun i i1 i2 => ?_⟩, (o4 14 (by decide) (by decide)).trans d14, (o4 15 (by decide) (by decide)).trans d15, (o4 16 (by decide) (by decide)).trans d16, fun i i1 i2 => ?_, ⟨by show 1 ≤ hN H + 1 ∧ hN H + 1 ≤ 6; omega, fun i => ?_, hr1, hr2, fun i i1 i2 => ?_⟩⟩
    · rw [← hk4]
      exact g_eq ((g_ne (by decide)).trans d13)
    · rw [← hk4]
      exact (g_ne (by decide)).trans (g_eq d81)
    · show uz f2 (hN H) (some a) i = some (uz (hA H) (hN H) a i)
      unfold uz
      split
      · rfl
      · exact c81' i i1 (by have i2 : i < hN H + 1 := i2; show i < hN H; omega)
    · show St k4 (uz (hA H) (hN H) a i) (uz (hV H) (hN H) S i)
      unfold uz
      split
      · exact hS.of (fun j j1 j2 => hf4.2.2 j (by omega) (by omega))
      · have i2 : i < hN H + 1 := i2
        have := hr.2.2.2.2 i i1 (by omega)
        exact (h7 i i1 (by omega)).of (fun j j1 j2 => hf4.2.2 j (by omega) (by omega))
    · show uz (hO H) (hN H) (lin H v) i < 64
      unfold uz
      split
      · exact hl1
      · exact hr.2.1 i
    · show uz (hA H) (hN H) a i = 75 ∨ 92 ≤ uz (hA H) (hN H) a i
      have i2 : i < hN H + 1 := i2
      unfold uz
      split
      · exact Or.inr ha
      · exact hr.2.2.2.2 i i1 (by omega)
  show En V _ _ 61 _ [] k4 _
  refine n_go f_27_61 rfl (pc' := 63) rfl ?_
  refine n_ret f_27_63 rfl rfl ?_
  exact KK k4 H4 hf4
end CW
