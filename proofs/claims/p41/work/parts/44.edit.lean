/-! Edits of desks. -/
/-- all edits: from the heap ahead to one in which w' holds; an exception leaves w' too -/
def putT (K : dK) (S : dS) (tg : Int) : dS := (uz S.1 (kN K) (kS K), uz S.2.1 (kN K) tg, uz S.2.2.1 (kN K) (-1), S.2.2.2)
def held (K : dK) (T : dS) : Prop := ∀ i, 0 ≤ i → i < 40 → 0 ≤ hold K T i → 0 ≤ T.2.1 i ∧ T.2.1 i < 10
section CE
variable {V : ev_V} {d : Nat} {h : ev_H} {P : ev_O → ev_H → Prop} {a : Nat} {w : dW} {n k b v o m p pl tg s : Int}
theorem Wd_dsk (hW : Wd h w) (hb : 0 ≤ b ∧ b < wB w) : St h (45 + 6 * b.toNat) (wD w b) ∧ b < 5 := by
  have := hW.2.2.1.2.2.2.1
  exact ⟨hW.2.2.2.1 b hb.1 (by omega), by omega⟩
theorem c_put (hW : Wd h w) (hb : 0 ≤ b ∧ b < wB w) (hp : 0 ≤ p ∧ p < 40) (hpl : 0 ≤ pl ∧ pl < 1000) (hk : 0 ≤ k ∧ k ≤ 3) (htg : 0 ≤ tg ∧ tg ≤ 9) (hN : kN (wK w) < 40) (hS : kS (wK w) < 120)
    (hfu : hs (wD w b) p = true → kK (wK w) p ≤ 1 → full (wK w) (wD w b) p (-1))
    (hg : hs (wD w b) p = true → held (plS (plN (wK w) k) (kN (wK w)) p) (putT (wK w) (wD w b) tg))
    (E1 : hs (wD w b) p = false → P (.inr 11) (xH h 11))
    (E2 : hs (wD w b) p = true → cnI 40 (fun i => decide (¬ i = -1 ∧ hold (wK w) (wD w b) i = p)) < pl → P (.inr 12) (xH h 12))
    (E3 : hs (wD w b) p = true → pl ≤ cnI 40 (fun i => decide (¬ i = -1 ∧ hold (wK w) (wD w b) i = p)) → ¬ kK (wK w) p ≤ 1 → P (.inr 13) (xH h 13))
    (NO : hs (wD w b) p = true → pl ≤ cnI 40 (fun i => decide (¬ i = -1 ∧ hold (wK w) (wD w b) i = p)) → kK (wK w) p ≤ 1 → ¬ okS (plS (plN (wK w) k) (kN (wK w)) p) (putT (wK w) (wD w b) tg) → ∀ h', Wd h' (plS (plN (wK w) k) (kN (wK w)) p, w.2) → Qk h h' → P (.inr 13) (xH h' 13))
    (OK : hs (wD w b) p = true → pl ≤ cnI 40 (fun i => decide (¬ i = -1 ∧ hold (wK w) (wD w b) i = p)) → kK (wK w) p ≤ 1 → okS (plS (plN (wK w) k) (kN (wK w)) p) (putT (wK w) (wD w b) tg) → ∀ ah q h', ahd (wK w) (wD w b) p (-1) pl ah → insd (kQ (wK w)) (kS (wK w)) ah q → Wd h' (sD (kpS (kpN (plS (plN (wK w) k) (kN (wK w)) p)) q, w.2) b (putT (wK w) (wD w b) tg)) → Qk h h' → P (.inl (some (.int (iI (kN (wK w)))))) h') :
    En V (d + 6) 42 0 [some (.ref 0), some (.int (iI b)), some (.int (iI p)), some (.int (iI pl)), some (.int (iI k)), some (.int (iI tg)), none, none, none] [] h P := by
  obtain ⟨hD, hb5⟩ := Wd_dsk hW hb
  have t0 := hW.2.2.1.1
  have k1 := hW.1.1
  have k10 := hW.1.2.2.2.2.2.2.2.2.2.1
  have kr := hW.1.2.2.2.2.2.2.2.2.2.2
  have hc := cnI_r (p := fun i => decide (¬ i = -1 ∧ hold (wK w) (wD w b) i = p)) (i := 40) (by decide)
  have sr := hD.2.2.2.2.2.2.1
  refine n_go f_42_0 rfl (pc' := 1) rfl ?_
  refine n_go f_42_1 rfl (pc' := 2) rfl ?_
  refine n_cv (ls' := [_, _]) f_42_2 (by decide) m_59 rfl rfl (by assumption) rfl ?_
  refine c_deskOf hW hb ?_
  show En V _ 42 5 _ [_] _ _
  refine n_go f_42_5 rfl (pc' := 7) (ls' := [_, _, _, _, _, _, _, _, _]) rfl ?_
  refine n_go f_42_7 rfl (pc' := 8) rfl ?_
  refine n_go f_42_8 rfl (pc' := 10) rfl ?_
  refine n_go f_42_10 rfl (pc' := 11) rfl ?_
  refine n_cv (ls' := [_, _, _]) f_42_11 (by decide) m_94 rfl rfl (by assumption) rfl ?_
  refine c_needThere hD (by omega) (fun e1 => ?_) (fun e1 => n_up rfl (E1 e1))
  have hfu := hfu e1
  have hg := hg e1
  show En V _ _ 14 _ [] _ _
  refine n_go f_42_14 rfl (pc' := 15) rfl ?_
  refine n_go f_42_15 rfl (pc' := 16) rfl ?_
  refine n_go f_42_16 rfl (pc' := 17) rfl ?_
  refine n_gf f_42_17 rfl (by assumption) rfl ?_
  refine n_go f_42_20 rfl (pc' := 22) rfl ?_
  refine n_go f_42_22 rfl (pc' := 23) rfl ?_
  refine n_go f_42_23 rfl (pc' := 24) (st' := .int (iI (-1)) :: _) rfl ?_
  refine n_cv (ls' := [_, _, _, _, _, _]) f_42_24 (by decide) m_95 rfl rfl (by assumption) rfl ?_
  refine c_countChildren hW.1 hD (by omega) (by omega) ?_
  show En V _ 42 27 _ [_, _, _] _ _
  refine n_cv (ls' := [_, _, _]) f_42_27 (by decide) m_82 rfl rfl (by assumption) rfl ?_
  refine c_needRange (by omega) (by omega) (fun q1 q2 => ?_) (fun q => n_up rfl (E2 e1 (by omega)))
  show En V _ _ 30 _ [] _ _
  refine n_go f_42_30 rfl (pc' := 31) rfl ?_
  refine n_go f_42_31 rfl (pc' := 33) rfl ?_
  refine n_go f_42_33 rfl (pc' := 34) (st' := .int (iI 3) :: _) rfl ?_
  refine n_cv (ls' := [_, _, _]) f_42_34 (by decide) m_82 rfl rfl (by assumption) rfl ?_
  refine c_needRange (by omega) (by omega) (fun _ _ => ?_) (fun q => absurd (by omega) q)
  show En V _ _ 37 _ [] _ _
  refine n_go f_42_37 rfl (pc' := 38) rfl ?_
  refine n_go f_42_38 rfl (pc' := 40) rfl ?_
  refine n_bip (m := 9) f_42_40 rfl (by decide) ?_
  refine n_cv (ls' := [_, _, _]) f_42_42 (by decide) m_82 rfl rfl (by assumption) rfl ?_
  refine c_needRange (by omega) (by omega) (fun _ _ => ?_) (fun q => absurd (by omega) q)
  show En V _ _ 45 _ [] _ _
  refine n_go f_42_45 rfl (pc' := 46) rfl ?_
  refine n_go f_42_46 rfl (pc' := 47) rfl ?_
  refine n_cv (ls' := [_, _, _]) f_42_47 (by decide) m_96 rfl rfl (by assumption) rfl ?_
  refine c_needHolderKind hW hp (fun e3 => ?_) (fun e3 => n_up rfl (E3 e1 q2 e3))
  have hfu := hfu e3
  unfold full at hfu
  show En V _ _ 50 _ [] _ _
  refine n_go f_42_50 rfl (pc' := 51) rfl ?_
  refine n_gf f_42_51 rfl (by assumption) rfl ?_
  refine n_cv (ls' := [_]) f_42_54 (by decide) m_97 rfl rfl (by assumption) rfl ?_
  refine c_nodesAreFull hW.1 hN ?_
  show En V _ 42 57 _ [_] _ _
  refine n_if_eq f_42_57 rfl rfl (by omega) (fun _ => ?_) (fun e9 => absurd (by omega) e9)
  refine n_go f_42_70 rfl (pc' := 71) rfl ?_
  refine n_go f_42_71 rfl (pc' := 73) rfl ?_
  refine n_go f_42_73 rfl (pc' := 74) rfl ?_
  refine n_go f_42_74 rfl (pc' := 75) rfl ?_
  refine n_go f_42_75 rfl (pc' := 76) (st' := .int (iI (-1)) :: _) rfl ?_
  refine n_cv (ls' := [_, _, _, _, _]) f_42_76 (by decide) m_98 rfl rfl (by assumption) rfl ?_
  refine c_spotAhead hW hD hp (by omega) (by omega) (fun ah a1 a2 => ?_)
  show En V _ _ 79 _ [_] _ _
  refine n_go f_42_79 rfl (pc' := 81) (ls' := [_, _, _, _, _, _, _, _, _]) rfl ?_
  refine n_go f_42_81 rfl (pc' := 82) rfl ?_
  refine n_gf f_42_82 rfl (by assumption) rfl ?_
  refine n_go f_42_85 rfl (pc' := 87) rfl ?_
  refine n_cv (ls' := [_, _]) f_42_87 (by decide) m_99 rfl rfl (by assumption) rfl ?_
  refine c_planNode hW hN hk (fun h1 hW1 hK1 => ?_)
  have hD1 := hD.kf hK1
  have u0 := hW1.2.2.1.1
  obtain ⟨T0, hT0⟩ := hW1.2.2.2.2.1.2.1
  have m0 := hT0.1
  have r0 := kr.1
  have r1 := kr.2.1
  show En V _ _ 90 _ [_] _ _
  refine n_go f_42_90 rfl (pc' := 92) (ls' := [_, _, _, _, _, _, _, _, _]) rfl ?_
  refine n_go f_42_92 rfl (pc' := 93) rfl ?_
  refine n_gf f_42_93 rfl (by assumption) rfl ?_
  refine n_go f_42_96 rfl (pc' := 98) rfl ?_
  refine n_cv (ls' := [_, _]) f_42_98 (by decide) m_28 rfl rfl (by assumption) rfl ?_
  refine c_copyFrom hT0 hD1 (by omega) ?_
  show En V _ 42 101 _ [] _ _
  have hW2 := hW1.trl (T := wD w b) sr
  have hT2 : St (wS h1 38 (wD w b)) 38 (wD w b) := wS_St hT0 sr
  have hQ2 : Qk h (wS h1 38 (wD w b)) := hK1.qk.tr (Qk.wS (by decide))
  generalize wS h1 38 (wD w b) = h2 at *
  have v0 := hW2.2.2.1.1
  refine n_go f_42_101 rfl (pc' := 102) rfl ?_
  refine n_gf f_42_102 rfl (by assumption) rfl ?_
  refine n_go f_42_105 rfl (pc' := 107) rfl ?_
  refine n_go f_42_107 rfl (pc' := 108) rfl ?_
  refine n_go f_42_108 rfl (pc' := 110) rfl ?_
  refine n_go f_42_110 rfl (pc' := 111) rfl ?_
  refine n_cv (ls' := [_, _, _]) f_42_111 (by decide) m_100 rfl rfl (by assumption) rfl ?_
  refine c_planSpot (w := (plN (wK w) k, w.2)) hW2 hS ⟨r0.1, hN⟩ hp (fun h3 hW3 hK3 => ?_)
  have hT3 := hT2.kf hK3
  have x0 := hT3.1
  show En V _ _ 114 _ [.int (iI (kS (wK w))), .int (iI (kN (wK w))), .ref 38] _ _
  refine n_go f_42_114 rfl (pc' := 116) rfl ?_
  refine n_cv (ls' := [_, _, _, _]) f_42_116 (by decide) m_26 rfl rfl (by assumption) rfl ?_
  refine c_seat hT3 ⟨r0.1, hN⟩ (by omega) (by omega) ?_
  show En V _ 42 119 _ [] _ _
  have hrT : rS (putT (wK w) (wD w b) tg) := fun i => ⟨uz_rg (fun i => (sr i).1) (by omega) i, uz_rg (fun i => (sr i).2.1) (by omega) i, uz_rg (fun i => (sr i).2.2) (by decide) i⟩
  have hW4 := hW3.trl (T := putT (wK w) (wD w b) tg) hrT
  have hT4 : St (wS h3 38 (putT (wK w) (wD w b) tg)) 38 (putT (wK w) (wD w b) tg) := wS_St hT3 hrT
  have hQ4 : Qk h (wS h3 38 (putT (wK w) (wD w b) tg)) := hQ2.tr (hK3.qk.tr (Qk.wS (by decide)))
  show En V _ _ 119 _ [] (wS h3 38 (putT (wK w) (wD w b) tg)) _
  generalize wS h3 38 (putT (wK w) (wD w b) tg) = h4 at *
  have y0 := hW4.2.2.1.1
  refine n_go f_42_119 rfl (pc' := 120) rfl ?_
  refine n_go f_42_120 rfl (pc' := 122) rfl ?_
  refine n_cv (ls' := [_, _]) f_42_122 (by decide) m_101 rfl rfl (by assumption) rfl ?_
  refine c_accept (w := (plS (plN (wK w) k) (kN (wK w)) p, w.2)) hW4 hT4 ⟨hb.1, hb5⟩ hg (fun q h5 hW5 hQ5 => ?_) (fun q h5 hW5 hQ5 => n_up rfl (NO e1 q2 e3 q h5 hW5 (hQ4.tr hQ5)))
  have z0 := hW5.2.2.1.1
  have z1 := hW5.1.1
  show En V _ _ 125 _ [] _ _
  refine n_go f_42_125 rfl (pc' := 126) rfl ?_
  refine n_gf f_42_126 rfl (by assumption) rfl ?_
  refine n_cv (ls' := [_]) f_42_129 (by decide) m_102 rfl rfl (by assumption) rfl ?_
  refine c_keepNode hW5 hN (fun h6 hW6 hK6 => ?_)
  have y0 := hW6.2.2.1.1
  have y1 := hW6.1.1
  show En V _ _ 132 _ [] _ _
  refine n_go f_42_132 rfl (pc' := 133) rfl ?_
  refine n_gf f_42_133 rfl (by assumption) rfl ?_
  refine n_go f_42_136 rfl (pc' := 138) rfl ?_
  refine n_cv (ls' := [_, _]) f_42_138 (by decide) m_103 rfl rfl (by assumption) rfl ?_
  refine c_keepSpot hW6 hS (by rcases a1 with a1 | ⟨-, j, j1, j2, j3, j4, j5⟩
                               · omega
                               · have hw := swL_r kr p
                                 have hmr := met_r kr (wD w b) p j (by omega) (fun e => by have := hw.2.2 e; omega)
                                 have := sr (met (wK w) (wD w b) p j)
                                 have hd : ¬ met (wK w) (wD w b) p j = -1 := (of_decide_eq_true j3).1
                                 rw [show gS (wD w b).1 (met (wK w) (wD w b) p j) = (wD w b).1 (met (wK w) (wD w b) p j) from if_pos (by omega)] at j5
                                 have hx : 0 ≤ ah := by
                                   by_cases hk1 : kK (wK w) p = 1
                                   · have hm : met (wK w) (wD w b) p j = if hold (wK w) (wD w b) j = p then j else -1 := by unfold met; rw [if_pos hk1]
                                     by_cases hj : hold (wK w) (wD w b) j = p
                                     · rw [if_pos hj] at hm
                                       rw [hm] at j5
                                       have hg9 : gS (wD w b).1 j = (wD w b).1 j := if_pos (by have := hw.2.2 hk1; omega)
                                       unfold hold sph at hj
                                       rw [hg9] at hj
                                       by_cases hz : 0 ≤ (wD w b).1 j ∧ (wD w b).1 j < 120
                                       · omega
                                       · rw [if_neg hz] at hj; omega
                                     · rw [if_neg hj] at hm; exact absurd hm hd
                                   · have hm : met (wK w) (wD w b) p j = if kH (wK w) (kQ (wK w) j) = p ∧ gS (wD w b).1 (kO (wK w) (kQ (wK w) j)) = kQ (wK w) j then kO (wK w) (kQ (wK w) j) else -1 := by unfold met; rw [if_neg hk1]
                                     by_cases hj : kH (wK w) (kQ (wK w) j) = p ∧ gS (wD w b).1 (kO (wK w) (kQ (wK w) j)) = kQ (wK w) j
                                     · rw [if_pos hj] at hm
                                       have h9 := hj.2
                                       rw [← hm, show gS (wD w b).1 (met (wK w) (wD w b) p j) = (wD w b).1 (met (wK w) (wD w b) p j) from if_pos (by omega)] at h9
                                       have := kr.2.2.2.2.2.2.1 j
                                       omega
                                     · rw [if_neg hj] at hm; exact absurd hm hd
                                 omega) (fun h7 q7 i7 hW7 hK7 => ?_)
  show En V _ _ 141 _ [] _ _
  refine n_go f_42_141 rfl (pc' := 143) rfl ?_
  refine n_ret f_42_143 rfl rfl ?_
  exact OK e1 q2 e3 q ah q7 h7 a1 i7 hW7 (hQ4.tr (hQ5.tr (hK6.qk.tr hK7.qk)))
end CE
