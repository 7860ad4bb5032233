/-! commit, reset, fork, merge. -/
section CX
variable {V : ev_V} {d : Nat} {h : ev_H} {P : ev_O → ev_H → Prop} {a : Nat} {w : dW} {S : dS} {H : dH} {n k b v o m : Int}
/-- a head set -/
theorem c_setHead (hW : Wd h w) (hb : 0 ≤ b ∧ b < wB w) (hv : 0 ≤ v ∧ v < hN (wH w)) (KK : ∀ h', Wd h' (wK w, wH w, wB w, uz (wE w) b v, (sD w b (hV (wH w) v)).2.2.2.2) → Qk h h' → P (.inl (some (.int (iI v)))) h') : En V (d + 4) 119 0 [some (.ref 0), some (.int (iI b)), some (.int (iI v)), none] [] h P := by
  obtain ⟨hD, hb5⟩ := Wd_dsk hW hb
  obtain ⟨wk, wh, wt, wd, wq, w28, w23, we, wl⟩ := id hW
  obtain ⟨t0, t1, t2, t3, t4⟩ := wt
  have h12 := wh.1
  have d0 := hD.1
  have r1 := wh.2.2.2.2.2.2.2.1
  have hu : ∀ c, 0 ≤ uz (wE w) b v c ∧ uz (wE w) b v c < 6 := fun c => by
    unfold uz
    split
    · omega
    · exact t4 c
  have hu2 : ∀ c, 0 ≤ c → c < wB w → uz (wE w) b v c < hN (wH w) := fun c c1 c2 => by
    unfold uz
    split
    · exact hv.2
    · exact we c c1 c2
  have hW1 := Wd_top hW t3 hu hu2
  rw [g_sf t0] at hW1
  have hQ1 : Qk h (ev_set h 37 (aI 5 (uz (wE w) b v))) := Qk.set (by decide)
  refine n_go f_119_0 rfl (pc' := 1) rfl ?_
  refine n_go f_119_1 rfl (pc' := 2) rfl ?_
  refine n_cv (ls' := [_, _]) f_119_2 (by decide) m_59 rfl rfl (by assumption) rfl ?_
  refine c_deskOf hW hb ?_
  show En V _ 119 5 _ [_] _ _
  refine n_go f_119_5 rfl (pc' := 6) (ls' := [_, _, _, _]) rfl ?_
  refine n_go f_119_6 rfl (pc' := 7) rfl ?_
  refine n_gf f_119_7 rfl (t0) rfl ?_
  refine n_go f_119_10 rfl (pc' := 11) rfl ?_
  refine n_go f_119_11 rfl (pc' := 12) rfl ?_
  refine n_ias f_119_12 rfl (by assumption) (by omega) ?_
  show En V _ _ 13 _ [] (ev_set h 37 (aI 5 (uz (wE w) b v))) _
  generalize ev_set h 37 (aI 5 (uz (wE w) b v)) = h1 at *
  have u0 := hW1.2.2.1.1
  have u12 := hW1.2.1.1
  have hD1 := (Wd_dsk hW1 (b := b) hb).1
  have e0 := hD1.1
  have hS := hW1.2.1.2.2.2.2.2.2.1 v hv.1 hv.2
  have ha := hW1.2.1.2.2.2.2.2.2.2.2.2.2.2 v hv.1 hv.2
  have ha : hA (wH w) v = 75 ∨ 92 ≤ hA (wH w) v := ha
  have hdis : 45 + 6 * b.toNat + 6 ≤ hA (wH w) v ∨ hA (wH w) v + 6 ≤ 45 + 6 * b.toNat := by omega
  refine n_go f_119_13 rfl (pc' := 14) rfl ?_
  refine n_go f_119_14 rfl (pc' := 15) rfl ?_
  refine n_gf f_119_15 rfl (u0) rfl ?_
  refine n_go f_119_18 rfl (pc' := 19) rfl ?_
  refine n_cv (ls' := [_, _]) f_119_19 (by decide) m_60 rfl rfl (by assumption) rfl ?_
  refine c_stateOf hW1.2.1 hv ?_
  show En V _ 119 22 _ [_, _] _ _
  refine n_cv (ls' := [_, _]) f_119_22 (by decide) m_28 rfl rfl (by assumption) rfl ?_
  refine c_copyFrom hD1 hS hdis ?_
  show En V _ 119 25 _ [] _ _
  have hW2 := Wd_desk hW1 ⟨hb.1, hb5⟩ hS.2.2.2.2.2.2.1
  show En V _ _ 25 _ [] (wS h1 (45 + 6 * b.toNat) (hV (wH w) v)) _
  refine n_go f_119_25 rfl (pc' := 26) rfl ?_
  refine n_ret f_119_26 rfl rfl ?_
  exact KK _ hW2 (hQ1.tr (Qk.wS (by omega)))
theorem c_commit (hW : Wd h w) (hb : 0 ≤ b ∧ b < wB w) (hd : dlo (wD w b) (hV (wH w) (wE w b))) (hn : hN (wH w) < 6) (hl : 92 ≤ h.1.length ∧ h.1.length < 1000000)
    (E1 : edk (wD w b) (hV (wH w) (wE w b)) 8 = [] → ∀ h', Wd h' w → Qk h h' → P (.inr 13) (xH h' 13))
    (OK : ¬ edk (wD w b) (hV (wH w) (wE w b)) 8 = [] → ∀ h' a, Wd h' (wK w, addH (wH w) a (wD w b) (wE w b), wB w, uz (wE w) b (hN (wH w)), wD w) → Gr h h' 6 445 → P (.inl (some (.int (iI (hN (wH w)))))) h') :
    En V (d + 6) 50 0 [some (.ref 0), some (.int (iI b)), none, none] [] h P := by
  have t0 := hW.2.2.1.1
  refine n_go f_50_0 rfl (pc' := 1) rfl ?_
  refine n_go f_50_1 rfl (pc' := 2) rfl ?_
  refine n_cv (ls' := [_, _]) f_50_2 (by decide) m_59 rfl rfl (by assumption) rfl ?_
  refine c_deskOf hW hb ?_
  show En V _ 50 5 _ [_] _ _
  refine n_go f_50_5 rfl (pc' := 6) (ls' := [_, _, _, _]) rfl ?_
  refine n_go f_50_6 rfl (pc' := 7) rfl ?_
  refine n_go f_50_7 rfl (pc' := 8) rfl ?_
  refine n_cv (ls' := [_, _]) f_50_8 (by decide) m_62 rfl rfl (by assumption) rfl ?_
  refine c_deskClean hW hb hd (fun h1 hW1 hQ1 => ?_)
  have v0 := hW1.2.2.1.1
  have v12 := hW1.2.1.1
  show En V _ _ 11 _ [_] _ _
  refine n_ib_eq f_50_11 rfl rfl (fun e => ?_) (fun e => ?_)
  · -- not clean
    have e := of_decide_eq_false e
    have OK := OK e
    have hb5 := (Wd_dsk hW hb).2
    have hl1 : h1.1.length = h.1.length := hQ1.2.1
    have hx1 : h1.2.1 = h1.1.length := hW1.2.2.2.2.2.2.2.2
    refine n_go f_50_24 rfl (pc' := 25) rfl ?_
    refine n_gf f_50_25 rfl (v0) rfl ?_
    refine n_cv (ls' := [_]) f_50_28 (by decide) m_118 rfl rfl (v12) rfl ?_
    refine c_isFull hW1.2.1 ?_
    show En V _ 50 31 _ [_] _ _
    refine n_if_eq f_50_31 rfl rfl (by omega) (fun _ => ?_) (fun e9 => absurd (by omega) e9)
    refine n_new f_50_44 (by decide) (hx1) ?_
    refine n_go f_50_47 rfl (pc' := 48) rfl ?_
    refine n_ci (ls' := [_]) f_50_48 (by decide) m_25 rfl rfl rfl ?_
    generalize hk2 : ev_push h1 (.inr (5, fx_dft 5)) (fx_dft 5).length = h2
    have p1 : ∀ j, j < h1.1.length → h2.1[j]? = h1.1[j]? := fun j hj => by
      rw [← hk2]
      unfold ev_push
      dsimp only
      rw [List.getElem?_append_left hj]
    have p2 : h2.1[h1.1.length]? = some (.inr (5, [.null, .null, .null, .null, .null])) := by
      rw [← hk2, ← hx1]
      exact g_pn hx1
    have p3 : h2.1.length = h1.1.length + 1 := by
      rw [← hk2]
      unfold ev_push
      dsimp only
      rw [List.length_append]
      rfl
    have p4 : h2.2.1 = h1.1.length + 1 := by
      rw [← hk2, ← hx1]
      rfl
    have p5 : h2.2.2 = h1.2.2 + 5 := by
      rw [← hk2]
      rfl
    refine c_newState p2 p3 p4 (by omega) (fun h3 hS3 n1 n2 n3 n4 => ?_)
    have hW3 : Wd h3 w := Wd_grow hW1 (fun j hj => (n1 j hj).trans (p1 j hj)) (by omega)
    have hG3 : Gr h1 h3 6 445 := ⟨by omega, by omega, fun j j1 j2 => (n1 j j2).trans (p1 j j2)⟩
    have hD3 := (Wd_dsk hW3 hb).1
    have d0 := hS3.1
    show En V _ _ 51 _ [_] h3 _
    refine n_go f_50_51 rfl (pc' := 52) (ls' := [_, _, _, _]) rfl ?_
    refine n_go f_50_52 rfl (pc' := 53) rfl ?_
    refine n_go f_50_53 rfl (pc' := 54) rfl ?_
    refine n_cv (ls' := [_, _]) f_50_54 (by decide) m_28 rfl rfl (d0) rfl ?_
    refine c_copyFrom hS3 hD3 (by omega) ?_
    show En V _ 50 57 _ [] _ _
    have hS4 : St (wS h3 h1.1.length (wD w b)) h1.1.length (wD w b) := wS_St hS3 hD3.2.2.2.2.2.2.1
    have hW4 : Wd (wS h3 h1.1.length (wD w b)) w := Wd_grow hW1 (fun j hj => (wS_out (Or.inl (by omega))).trans ((n1 j hj).trans (p1 j hj))) (by rw [wS_len]; show h3.2.1 = _; omega)
    have hG4 : Gr h1 (wS h3 h1.1.length (wD w b)) 6 445 := ⟨by rw [wS_len]; omega, hG3.2.1, fun j j1 j2 => (wS_out (Or.inl (by omega))).trans (hG3.2.2 j j1 j2)⟩
    generalize wS h3 h1.1.length (wD w b) = h4 at *
    obtain ⟨-, -, wt, -, -, -, -, we, -⟩ := id hW4
    have w12 := hW4.2.1.1
    obtain ⟨w0, w1, w2, w3, w4⟩ := wt
    have e4 := w4 b
    have r1 := hW4.2.1.2.2.2.2.2.2.2.1
    refine n_go f_50_57 rfl (pc' := 58) rfl ?_
    refine n_gf f_50_58 rfl (w0) rfl ?_
    refine n_go f_50_61 rfl (pc' := 62) rfl ?_
    refine n_go f_50_62 rfl (pc' := 63) rfl ?_
    refine n_gf f_50_63 rfl (w0) rfl ?_
    refine n_go f_50_66 rfl (pc' := 67) rfl ?_
    refine n_go f_50_67 rfl (pc' := 68) rfl ?_
    refine n_gf f_50_68 rfl (w0) rfl ?_
    refine n_go f_50_71 rfl (pc' := 72) rfl ?_
    refine n_ial f_50_72 rfl (w2) (by unfold ev_ext; omega) (by omega) ?_
    refine n_go f_50_73 rfl (pc' := 74) (st' := .int (iI (-1)) :: _) rfl ?_
    refine n_cv (ls' := [_, _, _, _, _]) f_50_74 (by decide) m_27 rfl rfl (w12) rfl ?_
    refine c_hadd hW4.2.1 hn hS4 (by omega) ⟨e4.1, we b hb.1 hb.2⟩ (fun h5 hH5 hF5 => ?_)
    have hW5 := Wd_chH hW4 hF5 hH5 (by show hN (wH w) ≤ hN (wH w) + 1; omega)
    have x0 := hW5.2.2.1.1
    have x2 := hW5.2.2.1.2.2.1
    show En V _ _ 77 _ [.int (iI (hN (wH w))), .int (iI b), .ref 37] h5 _
    have hW6 := Wd_top hW5 (nb := wB w) (hd := uz (wE w) b (hN (wH w))) w3 (fun c => by
      unfold uz
      split
      · omega
      · exact w4 c) (fun c c1 c2 => by
      show uz (wE w) b (hN (wH w)) c < hN (wH w) + 1
      unfold uz
      split
      · omega
      · have := we c c1 c2
        show wE w c < hN (wH w) + 1
        omega)
    rw [g_sf x0] at hW6
    have hG6 : Gr h (ev_set h5 37 (aI 5 (uz (wE w) b (hN (wH w))))) 6 445 := by
      have g1 : Gr h h4 (0 + 6) (0 + 445) := hQ1.gr.tr hG4
      refine ⟨?_, ?_, fun j j1 j2 => ?_⟩
      · rw [g_len, hF5.2.1]; exact g1.1
      · show h5.2.2 = _
        rw [hF5.1]; exact g1.2.1
      · rw [g_ne (by omega), hF5.2.2 j (by omega) (by omega)]; exact g1.2.2 j j1 j2
    have x5 : 0 ≤ b ∧ b < ((5 : Nat) : Int) ∧ (5 : Nat) < 2147483648 := by omega
    refine n_ias f_50_77 rfl (x2) (by omega) ?_
    show En V _ _ 78 _ [] (ev_set h5 37 (aI 5 (uz (wE w) b (hN (wH w))))) _
    generalize ev_set h5 37 (aI 5 (uz (wE w) b (hN (wH w)))) = h6 at *
    have y0 := hW6.2.2.1.1
    have y2 := hW6.2.2.1.2.2.1
    refine n_go f_50_78 rfl (pc' := 79) rfl ?_
    refine n_gf f_50_79 rfl (y0) rfl ?_
    refine n_go f_50_82 rfl (pc' := 83) rfl ?_
    refine n_ial f_50_83 rfl (y2) (by unfold ev_ext; omega) (by omega) ?_
    have e9 : wE (wK w, addH (wH w) h1.1.length (wD w b) (wE w b), wB w, uz (wE w) b (hN (wH w)), wD w) b = hN (wH w) := uz_same _ _ _
    rw [e9]
    refine n_ret f_50_84 rfl rfl ?_
    exact OK h6 _ hW6 hG6
  · refine n_thr f_50_14 rfl rfl ?_
    exact E1 (of_decide_eq_true e) h1 hW1 hQ1
theorem c_reset (hW : Wd h w) (hb : 0 ≤ b ∧ b < wB w) (hd : dlo (wD w b) (hV (wH w) (wE w b))) (KK : ∀ h', Wd h' (sD w b (hV (wH w) (wE w b))) → Qk h h' → P (.inl (some (.int (iI ((edk (wD w b) (hV (wH w) (wE w b)) 8).length : Int))))) h') : En V (d + 4) 15 0 [some (.ref 0), some (.int (iI b)), none] [] h P := by
  obtain ⟨hD, hb5⟩ := Wd_dsk hW hb
  obtain ⟨wk, wh, wt, wd, wq, w28, w23, we, wl⟩ := id hW
  obtain ⟨t0, t1, t2, t3, t4⟩ := wt
  have h12 := wh.1
  have hC := wq.2.2.1
  have e1 := we b hb.1 hb.2
  have e2 := t4 b
  have hS := wh.2.2.2.2.2.2.1 _ e2.1 e1
  have ha := wh.2.2.2.2.2.2.2.2.2.2.2 _ e2.1 e1
  obtain ⟨sz, f0, f1, c1, c2, c3⟩ := id hC
  refine n_go f_15_0 rfl (pc' := 1) rfl ?_
  refine n_go f_15_1 rfl (pc' := 2) rfl ?_
  refine n_cv (ls' := [_, _]) f_15_2 (by decide) m_59 rfl rfl (by assumption) rfl ?_
  refine c_deskOf hW hb ?_
  show En V _ 15 5 _ [_] _ _
  refine n_go f_15_5 rfl (pc' := 6) (ls' := [_, _, _]) rfl ?_
  refine n_go f_15_6 rfl (pc' := 7) rfl ?_
  refine n_gf f_15_7 rfl (t0) rfl ?_
  refine n_go f_15_10 rfl (pc' := 11) rfl ?_
  refine n_go f_15_11 rfl (pc' := 12) rfl ?_
  refine n_gf f_15_12 rfl (t0) rfl ?_
  refine n_go f_15_15 rfl (pc' := 16) rfl ?_
  refine n_gf f_15_16 rfl (t0) rfl ?_
  refine n_go f_15_19 rfl (pc' := 20) rfl ?_
  refine n_ial f_15_20 rfl (t2) (by unfold ev_ext; omega) (by omega) ?_
  refine n_cv (ls' := [_, _]) f_15_21 (by decide) m_60 rfl rfl (h12) rfl ?_
  refine c_stateOf wh ⟨e2.1, e1⟩ ?_
  show En V _ 15 24 _ [_, _, _] _ _
  refine n_cv (ls' := [_, _, _, _, _, _]) f_15_24 (by decide) m_56 rfl rfl (c1) rfl ?_
  refine c_tell hC hD hS (by omega) (by omega) hd (fun fk fn hL => ?_)
  obtain ⟨g1, g2, g3⟩ := Wd_told hW hL
  have hlen := edk_le _ _ hd 8
  generalize wC h (edk (wD w b) (hV (wH w) (wE w b)) 8).length fk fn = h1 at *
  have u0 := g1.2.2.1.1
  have u2 := g1.2.2.1.2.2.1
  have u12 := g1.2.1.1
  have hD1 := (Wd_dsk g1 hb).1
  have d0 := hD1.1
  have hS1 := g1.2.1.2.2.2.2.2.2.1 _ e2.1 e1
  show En V _ _ 27 _ [] _ _
  refine n_go f_15_27 rfl (pc' := 28) rfl ?_
  refine n_go f_15_28 rfl (pc' := 29) rfl ?_
  refine n_gf f_15_29 rfl (u0) rfl ?_
  refine n_go f_15_32 rfl (pc' := 33) rfl ?_
  refine n_gf f_15_33 rfl (u0) rfl ?_
  refine n_go f_15_36 rfl (pc' := 37) rfl ?_
  refine n_ial f_15_37 rfl (u2) (by unfold ev_ext; omega) (by omega) ?_
  refine n_cv (ls' := [_, _]) f_15_38 (by decide) m_60 rfl rfl (u12) rfl ?_
  refine c_stateOf g1.2.1 ⟨e2.1, e1⟩ ?_
  show En V _ 15 41 _ [_, _] _ _
  refine n_cv (ls' := [_, _]) f_15_41 (by decide) m_28 rfl rfl (d0) rfl ?_
  refine c_copyFrom hD1 hS1 (by omega) ?_
  show En V _ 15 44 _ [] _ _
  have g4 := Wd_desk g1 ⟨hb.1, hb5⟩ hS1.2.2.2.2.2.2.1
  have g5 : Qk h (wS h1 (45 + 6 * b.toNat) (hV (wH w) (wE w b))) := g2.tr (Qk.wS (by omega))
  have g6 := g3.of (h' := wS h1 (45 + 6 * b.toNat) (hV (wH w) (wE w b))) (fun j j1 j2 => wS_out (by omega))
  generalize wS h1 (45 + 6 * b.toNat) (hV (wH w) (wE w b)) = h2 at *
  have v0 := g4.2.2.1.1
  obtain ⟨fk', fn', v25, -⟩ := id g6
  refine n_go f_15_44 rfl (pc' := 45) rfl ?_
  refine n_gf f_15_45 rfl (v0) rfl ?_
  refine n_cv (ls' := [_]) f_15_48 (by decide) m_57 rfl rfl (v25) rfl ?_
  refine c_count g6 ?_
  show En V _ 15 51 _ [_] _ _
  refine n_ret f_15_51 rfl rfl ?_
  exact KK h2 g4 g5
theorem c_fork (hW : Wd h w) (hb : wB w < 3) (hE : wE w (wB w) < hN (wH w)) (hv : 0 ≤ v ∧ v < hN (wH w)) (KK : ∀ h', Wd h' (wK w, wH w, wB w + 1, uz (wE w) (wB w) v, (sD w (wB w) (hV (wH w) v)).2.2.2.2) → Qk h h' → P (.inl (some (.int (iI (wB w))))) h') : En V (d + 5) 51 0 [some (.ref 0), some (.int (iI v)), none] [] h P := by
  obtain ⟨wk, wh, wt, wd, wq, w28, w23, we, wl⟩ := id hW
  obtain ⟨t0, t1, t2, t3, t4⟩ := wt
  have hW1 := Wd_top hW (nb := wB w + 1) (hd := wE w) (by omega) t4 (fun c c1 c2 => by
    by_cases hc : c = wB w
    · rw [hc]; exact hE
    · exact we c c1 (by omega))
  rw [g_sf (a := 37) ((g_ne (by decide)).trans t2)] at hW1
  have hQ1 : Qk h (ev_set h 0 (.inr (0, [.ref 1, .ref 10, .ref 12, .ref 23, .ref 25, .ref 28, .ref 30, .ref 36, .ref 37, .int (iI (wB w + 1)), .ref 38, .ref 44]))) := Qk.set (by decide)
  refine n_go f_51_0 rfl (pc' := 1) rfl ?_
  refine n_go f_51_1 rfl (pc' := 2) rfl ?_
  refine n_cv (ls' := [_, _]) f_51_2 (by decide) m_81 rfl rfl (t0) rfl ?_
  refine c_needVersion hW hv ?_
  show En V _ 51 5 _ [] _ _
  refine n_go f_51_5 rfl (pc' := 6) rfl ?_
  refine n_gf f_51_6 rfl (t0) rfl ?_
  refine n_go f_51_9 rfl (pc' := 10) (st' := .int (iI 5) :: _) rfl ?_
  refine n_ic_lt f_51_10 rfl rfl ⟨by omega, by omega⟩ (fun _ => ?_) (fun e9 => absurd (by omega) e9)
  refine n_go f_51_23 rfl (pc' := 24) rfl ?_
  refine n_gf f_51_24 rfl (t0) rfl ?_
  refine n_go f_51_27 rfl (pc' := 28) (ls' := [_, _, _]) rfl ?_
  refine n_go f_51_28 rfl (pc' := 29) rfl ?_
  refine n_go f_51_29 rfl (pc' := 30) rfl ?_
  refine n_gf f_51_30 rfl (t0) rfl ?_
  refine n_go f_51_33 rfl (pc' := 34) (st' := .int (iI 1) :: _) rfl ?_
  refine n_iadd f_51_34 rfl ?_
  refine n_pf f_51_35 rfl (t0) rfl ?_
  show En V _ _ 38 _ [] (ev_set h 0 (.inr (0, [.ref 1, .ref 10, .ref 12, .ref 23, .ref 25, .ref 28, .ref 30, .ref 36, .ref 37, .int (iI (wB w + 1)), .ref 38, .ref 44]))) _
  generalize ev_set h 0 (.inr (0, [.ref 1, .ref 10, .ref 12, .ref 23, .ref 25, .ref 28, .ref 30, .ref 36, .ref 37, .int (iI (wB w + 1)), .ref 38, .ref 44])) = h1 at *
  have u0 := hW1.2.2.1.1
  have hb1 : 0 ≤ wB w ∧ wB w < wB w + 1 := by omega
  refine n_go f_51_38 rfl (pc' := 39) rfl ?_
  refine n_go f_51_39 rfl (pc' := 40) rfl ?_
  refine n_go f_51_40 rfl (pc' := 41) rfl ?_
  refine n_cv (ls' := [_, _, _, _]) f_51_41 (by decide) m_119 rfl rfl (u0) rfl ?_
  refine c_setHead hW1 hb1 hv (fun h2 hW2 hQ2 => ?_)
  show En V _ _ 44 _ [_] _ _
  refine n_go f_51_44 rfl (pc' := 45) rfl ?_
  refine n_go f_51_45 rfl (pc' := 46) rfl ?_
  refine n_ret f_51_46 rfl rfl ?_
  exact KK h2 hW2 (hQ1.tr hQ2)
theorem c_needClean (hW : Wd h w) (hb : 0 ≤ b ∧ b < wB w) (hd : dlo (wD w b) (hV (wH w) (wE w b)))
    (K1 : edk (wD w b) (hV (wH w) (wE w b)) 8 = [] → ∀ h', Wd h' w → Qk h h' → P (.inl none) h')
    (K2 : ¬ edk (wD w b) (hV (wH w) (wE w b)) 8 = [] → ∀ h', Wd h' w → Qk h h' → P (.inr 13) (xH h' 13)) :
    En V (d + 6) 120 0 [some (.ref 0), some (.int (iI b))] [] h P := by
  have t0 := hW.2.2.1.1
  refine n_go f_120_0 rfl (pc' := 1) rfl ?_
  refine n_go f_120_1 rfl (pc' := 2) rfl ?_
  refine n_cv (ls' := [_, _]) f_120_2 (by decide) m_62 rfl rfl (by assumption) rfl ?_
  refine c_deskClean hW hb hd (fun h1 hW1 hQ1 => ?_)
  show En V _ _ 5 _ [_] _ _
  refine n_ib_ne f_120_5 rfl rfl (fun e => ?_) (fun e => ?_)
  · refine n_ret f_120_19 rfl rfl ?_
    exact K1 (of_decide_eq_true e) h1 hW1 hQ1
  · refine n_thr f_120_8 rfl rfl ?_
    exact K2 (of_decide_eq_false e) h1 hW1 hQ1
/-- merging one that is the head, comes from it, or that it comes from -/
theorem c_merge (hW : Wd h w) (hb : 0 ≤ b ∧ b < wB w) (hv : 0 ≤ v ∧ v < hN (wH w)) (hd : dlo (wD w b) (hV (wH w) (wE w b)))
    (ho : v = wE w b ∨ (hO (wH w) (wE w b)).testBit v.toNat = true ∨ (hO (wH w) v).testBit (wE w b).toNat = true)
    (E1 : ¬ edk (wD w b) (hV (wH w) (wE w b)) 8 = [] → ∀ h', Wd h' w → Qk h h' → P (.inr 13) (xH h' 13))
    (K1 : edk (wD w b) (hV (wH w) (wE w b)) 8 = [] → (v = wE w b ∨ (hO (wH w) (wE w b)).testBit v.toNat = true) → ∀ h', Wd h' w → Qk h h' → P (.inl (some (.int (iI (wE w b))))) h')
    (K2 : edk (wD w b) (hV (wH w) (wE w b)) 8 = [] → ¬ v = wE w b → (hO (wH w) (wE w b)).testBit v.toNat = false → ∀ h', Wd h' (wK w, wH w, wB w, uz (wE w) b v, (sD w b (hV (wH w) v)).2.2.2.2) → Qk h h' → P (.inl (some (.int (iI v)))) h') :
    En V (d + 7) 52 0 [some (.ref 0), some (.int (iI b)), some (.int (iI v)), none] [] h P := by
  have t0 := hW.2.2.1.1
  refine n_go f_52_0 rfl (pc' := 1) rfl ?_
  refine n_go f_52_1 rfl (pc' := 2) rfl ?_
  refine n_cv (ls' := [_, _]) f_52_2 (by decide) m_61 rfl rfl (t0) rfl ?_
  refine c_needBranch hW hb ?_
  show En V _ 52 5 _ [] _ _
  refine n_go f_52_5 rfl (pc' := 6) rfl ?_
  refine n_go f_52_6 rfl (pc' := 7) rfl ?_
  refine n_cv (ls' := [_, _]) f_52_7 (by decide) m_81 rfl rfl (t0) rfl ?_
  refine c_needVersion hW hv ?_
  show En V _ 52 10 _ [] _ _
  refine n_go f_52_10 rfl (pc' := 11) rfl ?_
  refine n_go f_52_11 rfl (pc' := 12) rfl ?_
  refine n_cv (ls' := [_, _]) f_52_12 (by decide) m_120 rfl rfl (t0) rfl ?_
  refine c_needClean hW hb hd (fun e h1 hW1 hQ1 => ?_) (fun e h1 hW1 hQ1 => n_up rfl (E1 e h1 hW1 hQ1))
  have K1 := K1 e
  have K2 := K2 e
  obtain ⟨-, wh, wt, -, -, -, -, we, -⟩ := id hW1
  obtain ⟨u0, u1, u2, u3, u4⟩ := wt
  have u12 := wh.1
  have e1 := we b hb.1 hb.2
  have e2 := u4 b
  have r1 := wh.2.2.2.2.2.2.2.1
  show En V _ _ 15 _ [] _ _
  refine n_go f_52_15 rfl (pc' := 16) rfl ?_
  refine n_gf f_52_16 rfl (u0) rfl ?_
  refine n_go f_52_19 rfl (pc' := 20) rfl ?_
  refine n_ial f_52_20 rfl (u2) (by unfold ev_ext; omega) (by omega) ?_
  refine n_go f_52_21 rfl (pc' := 22) (ls' := [_, _, _, _]) rfl ?_
  refine n_go f_52_22 rfl (pc' := 23) rfl ?_
  refine n_go f_52_23 rfl (pc' := 24) rfl ?_
  refine n_ic_eq f_52_24 rfl rfl ⟨by omega, by omega⟩ (fun e3 => ?_) (fun e3 => ?_)
  · refine n_go f_52_39 rfl (pc' := 40) rfl ?_
    refine n_ret f_52_40 rfl rfl ?_
    exact K1 (Or.inl e3) h1 hW1 hQ1
  refine n_go f_52_27 rfl (pc' := 28) rfl ?_
  refine n_gf f_52_28 rfl (u0) rfl ?_
  refine n_go f_52_31 rfl (pc' := 32) rfl ?_
  refine n_go f_52_32 rfl (pc' := 33) rfl ?_
  refine n_cv (ls' := [_, _, _]) f_52_33 (by decide) m_121 rfl rfl (u12) rfl ?_
  refine c_older wh hv ⟨e2.1, e1⟩ ?_
  show En V _ 52 36 _ [_] _ _
  refine n_ib_eq f_52_36 rfl rfl (fun e4 => ?_) (fun e4 => ?_)
  · -- it isn't older
    refine n_go f_52_41 rfl (pc' := 42) rfl ?_
    refine n_gf f_52_42 rfl (u0) rfl ?_
    refine n_go f_52_45 rfl (pc' := 46) rfl ?_
    refine n_go f_52_46 rfl (pc' := 47) rfl ?_
    refine n_cv (ls' := [_, _, _]) f_52_47 (by decide) m_121 rfl rfl (u12) rfl ?_
    refine c_older wh ⟨e2.1, e1⟩ hv ?_
    show En V _ 52 50 _ [_] _ _
    refine n_ib_eq f_52_50 rfl rfl (fun e5 => ?_) (fun e5 => ?_)
    · rcases ho with ho | ho | ho
      · exact absurd ho e3
      · exact absurd (ho.symm.trans e4) (by decide)
      · exact absurd (ho.symm.trans e5) (by decide)
    · refine n_go f_52_53 rfl (pc' := 54) rfl ?_
      refine n_go f_52_54 rfl (pc' := 55) rfl ?_
      refine n_go f_52_55 rfl (pc' := 56) rfl ?_
      refine n_cv (ls' := [_, _, _, _]) f_52_56 (by decide) m_119 rfl rfl (u0) rfl ?_
      refine c_setHead hW1 hb hv (fun h2 hW2 hQ2 => ?_)
      show En V _ _ 59 _ [_] _ _
      refine n_ret f_52_59 rfl rfl ?_
      exact K2 e3 e4 h2 hW2 (hQ1.tr hQ2)
  · refine n_go f_52_39 rfl (pc' := 40) rfl ?_
    refine n_ret f_52_40 rfl rfl ?_
    exact K1 (Or.inr e4) h1 hW1 hQ1
end CX
