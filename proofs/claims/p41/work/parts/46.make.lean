/-! Versions made: a state made, a version added; commit, reset, fork, merge. -/
def mtS : dS := (fun _ => -2, fun _ => -2, fun _ => -2, fun _ => false)
theorem mtS_r : rS mtS := fun _ => ⟨(by decide : (-2 : Int) ≤ -2 ∧ (-2 : Int) ≤ 1000), (by decide : (-2 : Int) ≤ -2 ∧ (-2 : Int) ≤ 1000), (by decide : (-2 : Int) ≤ -2 ∧ (-2 : Int) ≤ 1000)⟩
def Mk (h0 h : ev_H) (a k : Nat) (fs : List Value) (s : Nat) : Prop := (∀ j, j < a → h.1[j]? = h0.1[j]?) ∧ h.1[a]? = some (.inr (5, fs)) ∧ h.1.length = a + k ∧ h.2.1 = a + k ∧ h.2.2 = h0.2.2 + s
theorem Mk.nx {h0 h : ev_H} {a k s n : Nat} {fs fs' : List Value} {c : ev_C} (hM : Mk h0 h a k fs s) (hk : 0 < k) : Mk h0 (ev_set (ev_push h c n) a (.inr (5, fs'))) a (k + 1) fs' (s + n) ∧ (ev_set (ev_push h c n) a (.inr (5, fs'))).1[a + k]? = some c ∧ ∀ j, a < j → j < a + k → (ev_set (ev_push h c n) a (.inr (5, fs'))).1[j]? = h.1[j]? := by
  obtain ⟨m1, m2, m3, m4, m5⟩ := hM
  have hp : ∀ j, j < a + k → (ev_push h c n).1[j]? = h.1[j]? := fun j hj => by
    unfold ev_push
    dsimp only
    rw [List.getElem?_append_left (by omega)]
  have hl : (ev_push h c n).1.length = a + (k + 1) := by
    unfold ev_push
    dsimp only
    rw [List.length_append, m3]
    rfl
  refine ⟨⟨fun j hj => ?_, ?_, ?_, ?_, ?_⟩, ?_, fun j h1 h2 => ?_⟩
  · rw [g_ne (by omega), hp j (by omega)]; exact m1 j hj
  · exact g_eq (by rw [hp a (by omega)]; exact m2)
  · rw [g_len, hl]
  · show h.2.1 + 1 = _
    omega
  · show h.2.2 + n = _
    omega
  · rw [g_ne (by omega), show a + k = h.2.1 by omega]
    exact g_pn (by omega)
  · rw [g_ne (by omega), hp j (by omega)]
section CM
variable {V : ev_V} {d : Nat} {h : ev_H} {P : ev_O → ev_H → Prop} {a : Nat} {w : dW} {S : dS} {H : dH} {n k b v o m : Int}
theorem c_newState (ha : h.1[a]? = some (.inr (5, [.null, .null, .null, .null, .null]))) (hl : h.1.length = a + 1) (hx : h.2.1 = a + 1) (hr : 12 ≤ a ∧ a + 5 < 1048576) (KK : ∀ h', St h' a mtS → (∀ j, j < a → h'.1[j]? = h.1[j]?) → h'.1.length = a + 6 → h'.2.1 = a + 6 → h'.2.2 = h.2.2 + 440 → P (.inl none) h') : En V (d + 1) 25 0 [some (.ref a)] [] h P := by
  have M0 : Mk h h a 1 [.null, .null, .null, .null, .null] 0 := ⟨fun _ _ => rfl, ha, hl, hx, rfl⟩
  refine n_go f_25_0 rfl (pc' := 1) rfl ?_
  refine n_ob f_25_1 rfl rfl ?_
  refine n_go f_25_4 rfl (pc' := 5) rfl ?_
  refine n_bip (m := 40) f_25_5 rfl (by decide) ?_
  refine n_nai f_25_7 rfl (by omega) (M0.2.2.2.1) ?_
  refine n_pf f_25_9 rfl (g_pu M0.2.1) rfl ?_
  obtain ⟨M1, a1, -⟩ := M0.nx (n := 40) (c := aI 40 (fun _ => 0)) (fs' := [.ref (a + 1), .null, .null, .null, .null]) (by decide)
  show En V _ _ 12 _ [] (ev_set (ev_push h (aI 40 (fun _ => 0)) 40) a (.inr (5, [.ref (a + 1), .null, .null, .null, .null]))) _
  generalize ev_set (ev_push h (aI 40 (fun _ => 0)) 40) a (.inr (5, [.ref (a + 1), .null, .null, .null, .null])) = h1 at *
  refine n_go f_25_12 rfl (pc' := 13) rfl ?_
  refine n_bip (m := 40) f_25_13 rfl (by decide) ?_
  refine n_nai f_25_15 rfl (by omega) (M1.2.2.2.1) ?_
  refine n_pf f_25_17 rfl (g_pu M1.2.1) rfl ?_
  obtain ⟨M2, a2, b1⟩ := M1.nx (n := 40) (c := aI 40 (fun _ => 0)) (fs' := [.ref (a + 1), .ref (a + 2), .null, .null, .null]) (by decide)
  show En V _ _ 20 _ [] (ev_set (ev_push h1 (aI 40 (fun _ => 0)) 40) a (.inr (5, [.ref (a + 1), .ref (a + 2), .null, .null, .null]))) _
  have c1 := (b1 (a + 1) (by omega) (by omega)).trans a1
  generalize ev_set (ev_push h1 (aI 40 (fun _ => 0)) 40) a (.inr (5, [.ref (a + 1), .ref (a + 2), .null, .null, .null])) = h2 at *
  refine n_go f_25_20 rfl (pc' := 21) rfl ?_
  refine n_bip (m := 40) f_25_21 rfl (by decide) ?_
  refine n_nai f_25_23 rfl (by omega) (M2.2.2.2.1) ?_
  refine n_pf f_25_25 rfl (g_pu M2.2.1) rfl ?_
  obtain ⟨M3, a3, b2⟩ := M2.nx (n := 40) (c := aI 40 (fun _ => 0)) (fs' := [.ref (a + 1), .ref (a + 2), .ref (a + 3), .null, .null]) (by decide)
  show En V _ _ 28 _ [] (ev_set (ev_push h2 (aI 40 (fun _ => 0)) 40) a (.inr (5, [.ref (a + 1), .ref (a + 2), .ref (a + 3), .null, .null]))) _
  have d1 := (b2 (a + 1) (by omega) (by omega)).trans c1
  have d2 := (b2 (a + 2) (by omega) (by omega)).trans a2
  generalize ev_set (ev_push h2 (aI 40 (fun _ => 0)) 40) a (.inr (5, [.ref (a + 1), .ref (a + 2), .ref (a + 3), .null, .null])) = h3 at *
  refine n_go f_25_28 rfl (pc' := 29) rfl ?_
  refine n_sip (m := 200) f_25_29 rfl (by decide) ?_
  refine n_nai f_25_32 rfl (by omega) (M3.2.2.2.1) ?_
  refine n_pf f_25_34 rfl (g_pu M3.2.1) rfl ?_
  obtain ⟨M4, a4, b3⟩ := M3.nx (n := 200) (c := aI 200 (fun _ => 0)) (fs' := [.ref (a + 1), .ref (a + 2), .ref (a + 3), .ref (a + 4), .null]) (by decide)
  show En V _ _ 37 _ [] (ev_set (ev_push h3 (aI 200 (fun _ => 0)) 200) a (.inr (5, [.ref (a + 1), .ref (a + 2), .ref (a + 3), .ref (a + 4), .null]))) _
  have e1 := (b3 (a + 1) (by omega) (by omega)).trans d1
  have e2 := (b3 (a + 2) (by omega) (by omega)).trans d2
  have e3 := (b3 (a + 3) (by omega) (by omega)).trans a3
  generalize ev_set (ev_push h3 (aI 200 (fun _ => 0)) 200) a (.inr (5, [.ref (a + 1), .ref (a + 2), .ref (a + 3), .ref (a + 4), .null])) = h4 at *
  refine n_go f_25_37 rfl (pc' := 38) rfl ?_
  refine n_bip (m := 120) f_25_38 rfl (by decide) ?_
  refine n_nab f_25_40 rfl (by omega) (M4.2.2.2.1) ?_
  refine n_pf f_25_42 rfl (g_pu M4.2.1) rfl ?_
  obtain ⟨M5, a5, b4⟩ := M4.nx (n := 120) (c := aB 120 (fun _ => false)) (fs' := [.ref (a + 1), .ref (a + 2), .ref (a + 3), .ref (a + 4), .ref (a + 5)]) (by decide)
  show En V _ _ 45 _ [] (ev_set (ev_push h4 (aB 120 (fun _ => false)) 120) a (.inr (5, [.ref (a + 1), .ref (a + 2), .ref (a + 3), .ref (a + 4), .ref (a + 5)]))) _
  have g1 := (b4 (a + 1) (by omega) (by omega)).trans e1
  have g2 := (b4 (a + 2) (by omega) (by omega)).trans e2
  have g3 := (b4 (a + 3) (by omega) (by omega)).trans e3
  have g4 := (b4 (a + 4) (by omega) (by omega)).trans a4
  generalize ev_set (ev_push h4 (aB 120 (fun _ => false)) 120) a (.inr (5, [.ref (a + 1), .ref (a + 2), .ref (a + 3), .ref (a + 4), .ref (a + 5)])) = h5 at *
  obtain ⟨n1, n2, n3, n4, n5⟩ := M5
  clear M0 M1 M2 M3 M4 b1 b2 b3 b4
  refine n_go f_25_45 rfl (pc' := 46) rfl ?_
  refine n_gf f_25_46 rfl (by assumption) rfl ?_
  refine n_bip (m := (-2)) f_25_49 rfl (by decide) ?_
  refine n_cs (ls' := [_, _, _, _]) f_25_51 (by decide) m_64 rfl rfl ?_
  refine c_fill g1 (by omega) (by decide) ?_
  show En V _ 25 54 _ [] _ _
  have q0 : (ev_set h5 (a + 1) (aI 40 (fun _ => -2))).1[a]? = _ := (g_ne (by omega)).trans n2
  have q2 : (ev_set h5 (a + 1) (aI 40 (fun _ => -2))).1[a + 2]? = _ := (g_ne (by omega)).trans g2
  have q3 : (ev_set h5 (a + 1) (aI 40 (fun _ => -2))).1[a + 3]? = _ := (g_ne (by omega)).trans g3
  have q4 : (ev_set h5 (a + 1) (aI 40 (fun _ => -2))).1[a + 4]? = _ := (g_ne (by omega)).trans g4
  have q5 : (ev_set h5 (a + 1) (aI 40 (fun _ => -2))).1[a + 5]? = _ := (g_ne (by omega)).trans a5
  have q1 : (ev_set h5 (a + 1) (aI 40 (fun _ => -2))).1[a + 1]? = _ := g_eq g1
  have q6 : ∀ j, j < a → (ev_set h5 (a + 1) (aI 40 (fun _ => -2))).1[j]? = h.1[j]? := fun j hj => (g_ne (by omega)).trans (n1 j hj)
  have q7 : (ev_set h5 (a + 1) (aI 40 (fun _ => -2))).1.length = a + 6 := g_len.trans n3
  have q8 : (ev_set h5 (a + 1) (aI 40 (fun _ => -2))).2 = h5.2 := rfl
  generalize ev_set h5 (a + 1) (aI 40 (fun _ => -2)) = h6 at *
  refine n_go f_25_54 rfl (pc' := 55) rfl ?_
  refine n_gf f_25_55 rfl (by assumption) rfl ?_
  refine n_bip (m := (-2)) f_25_58 rfl (by decide) ?_
  refine n_cs (ls' := [_, _, _, _]) f_25_60 (by decide) m_64 rfl rfl ?_
  refine c_fill q2 (by omega) (by decide) ?_
  show En V _ 25 63 _ [] _ _
  have r0 : (ev_set h6 (a + 2) (aI 40 (fun _ => -2))).1[a]? = _ := (g_ne (by omega)).trans q0
  have r1 : (ev_set h6 (a + 2) (aI 40 (fun _ => -2))).1[a + 1]? = _ := (g_ne (by omega)).trans q1
  have r3 : (ev_set h6 (a + 2) (aI 40 (fun _ => -2))).1[a + 3]? = _ := (g_ne (by omega)).trans q3
  have r4 : (ev_set h6 (a + 2) (aI 40 (fun _ => -2))).1[a + 4]? = _ := (g_ne (by omega)).trans q4
  have r5 : (ev_set h6 (a + 2) (aI 40 (fun _ => -2))).1[a + 5]? = _ := (g_ne (by omega)).trans q5
  have r2 : (ev_set h6 (a + 2) (aI 40 (fun _ => -2))).1[a + 2]? = _ := g_eq q2
  have r6 : ∀ j, j < a → (ev_set h6 (a + 2) (aI 40 (fun _ => -2))).1[j]? = h.1[j]? := fun j hj => (g_ne (by omega)).trans (q6 j hj)
  have r7 : (ev_set h6 (a + 2) (aI 40 (fun _ => -2))).1.length = a + 6 := g_len.trans q7
  have r8 : (ev_set h6 (a + 2) (aI 40 (fun _ => -2))).2 = h5.2 := q8
  generalize ev_set h6 (a + 2) (aI 40 (fun _ => -2)) = h7 at *
  refine n_go f_25_63 rfl (pc' := 64) rfl ?_
  refine n_gf f_25_64 rfl (by assumption) rfl ?_
  refine n_bip (m := (-2)) f_25_67 rfl (by decide) ?_
  refine n_cs (ls' := [_, _, _, _]) f_25_69 (by decide) m_64 rfl rfl ?_
  refine c_fill r3 (by omega) (by decide) ?_
  show En V _ 25 72 _ [] _ _
  have t0 : (ev_set h7 (a + 3) (aI 40 (fun _ => -2))).1[a]? = _ := (g_ne (by omega)).trans r0
  have t1 : (ev_set h7 (a + 3) (aI 40 (fun _ => -2))).1[a + 1]? = _ := (g_ne (by omega)).trans r1
  have t2 : (ev_set h7 (a + 3) (aI 40 (fun _ => -2))).1[a + 2]? = _ := (g_ne (by omega)).trans r2
  have t4 : (ev_set h7 (a + 3) (aI 40 (fun _ => -2))).1[a + 4]? = _ := (g_ne (by omega)).trans r4
  have t5 : (ev_set h7 (a + 3) (aI 40 (fun _ => -2))).1[a + 5]? = _ := (g_ne (by omega)).trans r5
  have t3 : (ev_set h7 (a + 3) (aI 40 (fun _ => -2))).1[a + 3]? = _ := g_eq r3
  have t6 : ∀ j, j < a → (ev_set h7 (a + 3) (aI 40 (fun _ => -2))).1[j]? = h.1[j]? := fun j hj => (g_ne (by omega)).trans (r6 j hj)
  have t7 : (ev_set h7 (a + 3) (aI 40 (fun _ => -2))).1.length = a + 6 := g_len.trans r7
  have t8 : (ev_set h7 (a + 3) (aI 40 (fun _ => -2))).2 = h5.2 := r8
  generalize ev_set h7 (a + 3) (aI 40 (fun _ => -2)) = h8 at *
  refine n_go f_25_72 rfl (pc' := 73) rfl ?_
  refine n_gf f_25_73 rfl (by assumption) rfl ?_
  refine n_ldc (m := 1048576) f_25_76 rfl (by decide) ?_
  refine n_cs (ls' := [_, _, _, _]) f_25_78 (by decide) m_64 rfl rfl ?_
  refine c_fill t4 (by omega) (by decide) ?_
  show En V _ 25 81 _ [] _ _
  refine n_ret f_25_81 rfl rfl ?_
  refine KK _ ⟨(g_ne (by omega)).trans t0, (g_ne (by omega)).trans t1, (g_ne (by omega)).trans t2, (g_ne (by omega)).trans t3, g_eq t4, (g_ne (by omega)).trans t5, mtS_r, hr⟩ (fun j hj => (g_ne (by omega)).trans (t6 j hj)) (g_len.trans t7) ?_ ?_
  · show h8.2.1 = _
    rw [t8]; exact n4
  · show h8.2.2 = _
    rw [t8]; exact n5
end CM
