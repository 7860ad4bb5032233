/-! More edits of desks. -/
theorem ahd_r {K : dK} {S : dS} {p lo pl ah : Int} (hp : 0 ≤ p) (kr : rK K) (sr : rS S) (h : ahd K S p lo pl ah) : -1 ≤ ah ∧ ah ≤ 1000 := by
  rcases h with ⟨-, e⟩ | ⟨-, j, j1, j2, j3, j4, j5⟩
  · omega
  have hw := swL_r kr p
  have hmr := met_r kr S p j (by omega) (fun e => by have := hw.2.2 e; omega)
  have sm := sr (met K S p j)
  have hd : ¬ met K S p j = -1 := (of_decide_eq_true j3).1
  have eg : gS S.1 (met K S p j) = S.1 (met K S p j) := if_pos (by omega)
  rw [eg] at j5
  by_cases hk1 : kK K p = 1
  · have hm : met K S p j = if hold K S j = p then j else -1 := by unfold met; rw [if_pos hk1]
    by_cases hj : hold K S j = p
    · rw [if_pos hj] at hm
      rw [hm] at j5
      have hg9 : gS S.1 j = S.1 j := if_pos (by have := hw.2.2 hk1; omega)
      unfold hold sph at hj
      rw [hg9] at hj
      by_cases hz : 0 ≤ S.1 j ∧ S.1 j < 120
      · omega
      · rw [if_neg hz] at hj; omega
    · rw [if_neg hj] at hm; exact absurd hm hd
  · have hm : met K S p j = if kH K (kQ K j) = p ∧ gS S.1 (kO K (kQ K j)) = kQ K j then kO K (kQ K j) else -1 := by unfold met; rw [if_neg hk1]
    by_cases hj : kH K (kQ K j) = p ∧ gS S.1 (kO K (kQ K j)) = kQ K j
    · rw [if_pos hj] at hm
      have h9 := hj.2
      rw [← hm, eg] at h9
      have := kr.2.2.2.2.2.2.1 j
      omega
    · rw [if_neg hj] at hm; exact absurd hm hd
section CE
variable {V : ev_V} {d : Nat} {h : ev_H} {P : ev_O → ev_H → Prop} {a : Nat} {w : dW} {n k b v o m p pl tg s c : Int}
theorem c_remove (hW : Wd h w) (hb : 0 ≤ b ∧ b < wB w) (hn : 0 ≤ n ∧ n < 40)
    (hg : hs (wD w b) n = true → ¬ n = 0 → held (wK w) (outS (wK w) (wD w b) (wD w b) n 40))
    (E1 : hs (wD w b) n = false → P (.inr 11) (xH h 11))
    (E2 : hs (wD w b) n = true → n = 0 → P (.inr 13) (xH h 13))
    (NO : hs (wD w b) n = true → ¬ n = 0 → ¬ okS (wK w) (outS (wK w) (wD w b) (wD w b) n 40) → ∀ h', Wd h' w → Qk h h' → P (.inr 13) (xH h' 13))
    (OK : hs (wD w b) n = true → ¬ n = 0 → okS (wK w) (outS (wK w) (wD w b) (wD w b) n 40) → ∀ h', Wd h' (sD w b (outS (wK w) (wD w b) (wD w b) n 40)) → Qk h h' → P (.inl (some (.int (iI (cnI 40 (rmv (wK w) (wD w b) n)))))) h') :
    En V (d + 6) 43 0 [some (.ref 0), some (.int (iI b)), some (.int (iI n)), none, none] [] h P := by
  obtain ⟨hD, hb5⟩ := Wd_dsk hW hb
  have t0 := hW.2.2.1.1
  have sr := hD.2.2.2.2.2.2.1
  refine n_go f_43_0 rfl (pc' := 1) rfl ?_
  refine n_go f_43_1 rfl (pc' := 2) rfl ?_
  refine n_cv (ls' := [_, _]) f_43_2 (by decide) m_59 rfl rfl (by assumption) rfl ?_
  refine c_deskOf hW hb ?_
  show En V _ 43 5 _ [_] _ _
  refine n_go f_43_5 rfl (pc' := 6) (ls' := [_, _, _, _, _]) rfl ?_
  refine n_go f_43_6 rfl (pc' := 7) rfl ?_
  refine n_go f_43_7 rfl (pc' := 8) rfl ?_
  refine n_go f_43_8 rfl (pc' := 9) rfl ?_
  refine n_cv (ls' := [_, _, _]) f_43_9 (by decide) m_94 rfl rfl (by assumption) rfl ?_
  refine c_needThere hD (by omega) (fun e1 => ?_) (fun e1 => n_up rfl (E1 e1))
  show En V _ _ 12 _ [] _ _
  refine n_go f_43_12 rfl (pc' := 13) rfl ?_
  refine n_go f_43_13 rfl (pc' := 14) rfl ?_
  refine n_cv (ls' := [_, _]) f_43_14 (by decide) m_104 rfl rfl (by assumption) rfl ?_
  refine c_needNoRoot (by omega) (fun e2 => ?_) (fun e2 => n_up rfl (E2 e1 e2))
  obtain ⟨T0, hT0⟩ := hW.2.2.2.2.1.2.1
  have m0 := hT0.1
  show En V _ _ 17 _ [] _ _
  refine n_go f_43_17 rfl (pc' := 18) rfl ?_
  refine n_gf f_43_18 rfl (by assumption) rfl ?_
  refine n_go f_43_21 rfl (pc' := 22) rfl ?_
  refine n_cv (ls' := [_, _]) f_43_22 (by decide) m_28 rfl rfl (by assumption) rfl ?_
  refine c_copyFrom hT0 hD (by omega) ?_
  show En V _ 43 25 _ [] _ _
  have hW2 := hW.trl (T := wD w b) sr
  have hT2 : St (wS h 38 (wD w b)) 38 (wD w b) := wS_St hT0 sr
  have hD2 : St (wS h 38 (wD w b)) (45 + 6 * b.toNat) (wD w b) := wS_ne hD (by omega)
  have u0 := hW2.2.2.1.1
  refine n_go f_43_25 rfl (pc' := 26) rfl ?_
  refine n_go f_43_26 rfl (pc' := 27) rfl ?_
  refine n_go f_43_27 rfl (pc' := 28) rfl ?_
  refine n_cv (ls' := [_, _, _, _, _]) f_43_28 (by decide) m_105 rfl rfl (by assumption) rfl ?_
  refine c_takeOut hW2 hD2 (by omega) hT2 hn ?_
  show En V _ 43 31 _ [_] _ _
  rw [wS_w]
  have hrT := outS_r (K := wK w) (S := wD w b) (n := n) (i := 40) sr
  have hW4 := hW.trl hrT
  have hT4 := wS_St hT0 hrT
  have hQ4 : Qk h (wS h 38 (outS (wK w) (wD w b) (wD w b) n 40)) := Qk.wS (by decide)
  generalize wS h 38 (outS (wK w) (wD w b) (wD w b) n 40) = h4 at *
  have y0 := hW4.2.2.1.1
  refine n_go f_43_31 rfl (pc' := 33) (ls' := [_, _, _, _, _]) rfl ?_
  refine n_go f_43_33 rfl (pc' := 34) rfl ?_
  refine n_go f_43_34 rfl (pc' := 35) rfl ?_
  refine n_cv (ls' := [_, _]) f_43_35 (by decide) m_101 rfl rfl (by assumption) rfl ?_
  refine c_accept hW4 hT4 ⟨hb.1, hb5⟩ (hg e1 e2) (fun q h5 hW5 hQ5 => ?_) (fun q h5 hW5 hQ5 => n_up rfl (NO e1 e2 q h5 hW5 (hQ4.tr hQ5)))
  show En V _ _ 38 _ [] _ _
  refine n_go f_43_38 rfl (pc' := 40) rfl ?_
  refine n_ret f_43_40 rfl rfl ?_
  exact OK e1 e2 q h5 hW5 (hQ4.tr hQ5)
def movT (K : dK) (S : dS) (n : Int) : dS := (uz S.1 n (kS K), S.2)
theorem c_move (hW : Wd h w) (hb : 0 ≤ b ∧ b < wB w) (hn : 0 ≤ n ∧ n < 40) (hp : 0 ≤ p ∧ p < 40) (hpl : 0 ≤ pl ∧ pl < 1000) (hS : kS (wK w) < 120)
    (hfu : hs (wD w b) n = true → hs (wD w b) p = true → kK (wK w) p ≤ 1 → full (wK w) (wD w b) p n)
    (hg : hs (wD w b) n = true → hs (wD w b) p = true → held (plS (wK w) n p) (movT (wK w) (wD w b) n))
    (E1 : ¬ (hs (wD w b) n = true ∧ hs (wD w b) p = true) → P (.inr 11) (xH h 11))
    (E2 : hs (wD w b) n = true → hs (wD w b) p = true → cnI 40 (fun i => decide (¬ i = n ∧ hold (wK w) (wD w b) i = p)) < pl → P (.inr 12) (xH h 12))
    (E3 : hs (wD w b) n = true → hs (wD w b) p = true → pl ≤ cnI 40 (fun i => decide (¬ i = n ∧ hold (wK w) (wD w b) i = p)) → (n = 0 ∨ ¬ kK (wK w) p ≤ 1 ∨ wth (hold (wK w) (wD w b)) 40 p n = true) → P (.inr 13) (xH h 13))
    (NO : hs (wD w b) n = true → hs (wD w b) p = true → pl ≤ cnI 40 (fun i => decide (¬ i = n ∧ hold (wK w) (wD w b) i = p)) → ¬ n = 0 → kK (wK w) p ≤ 1 → wth (hold (wK w) (wD w b)) 40 p n = false → ¬ okS (plS (wK w) n p) (movT (wK w) (wD w b) n) → ∀ h', Wd h' (plS (wK w) n p, w.2) → Qk h h' → P (.inr 13) (xH h' 13))
    (OK : hs (wD w b) n = true → hs (wD w b) p = true → pl ≤ cnI 40 (fun i => decide (¬ i = n ∧ hold (wK w) (wD w b) i = p)) → ¬ n = 0 → kK (wK w) p ≤ 1 → wth (hold (wK w) (wD w b)) 40 p n = false → okS (plS (wK w) n p) (movT (wK w) (wD w b) n) → ∀ ah q h', ahd (wK w) (wD w b) p n pl ah → insd (kQ (wK w)) (kS (wK w)) ah q → Wd h' (sD (kpS (plS (wK w) n p) q, w.2) b (movT (wK w) (wD w b) n)) → Qk h h' → P (.inl none) h') :
    En V (d + 6) 106 0 [some (.ref 0), some (.int (iI b)), some (.int (iI n)), some (.int (iI p)), some (.int (iI pl)), none, none] [] h P := by
  obtain ⟨hD, hb5⟩ := Wd_dsk hW hb
  have t0 := hW.2.2.1.1
  have k1 := hW.1.1
  have k10 := hW.1.2.2.2.2.2.2.2.2.2.1
  have kr := hW.1.2.2.2.2.2.2.2.2.2.2
  have hc := cnI_r (p := fun i => decide (¬ i = n ∧ hold (wK w) (wD w b) i = p)) (i := 40) (by decide)
  have sr := hD.2.2.2.2.2.2.1
  refine n_go f_106_0 rfl (pc' := 1) rfl ?_
  refine n_go f_106_1 rfl (pc' := 2) rfl ?_
  refine n_cv (ls' := [_, _]) f_106_2 (by decide) m_59 rfl rfl (by assumption) rfl ?_
  refine c_deskOf hW hb ?_
  show En V _ 106 5 _ [_] _ _
  refine n_go f_106_5 rfl (pc' := 7) (ls' := [_, _, _, _, _, _, _]) rfl ?_
  refine n_go f_106_7 rfl (pc' := 8) rfl ?_
  refine n_go f_106_8 rfl (pc' := 10) rfl ?_
  refine n_go f_106_10 rfl (pc' := 11) rfl ?_
  refine n_cv (ls' := [_, _, _]) f_106_11 (by decide) m_94 rfl rfl (by assumption) rfl ?_
  refine c_needThere hD (by omega) (fun e1 => ?_) (fun e1 => n_up rfl (E1 (fun q => absurd (q.1.symm.trans e1) (by decide))))
  show En V _ _ 14 _ [] _ _
  refine n_go f_106_14 rfl (pc' := 15) rfl ?_
  refine n_go f_106_15 rfl (pc' := 17) rfl ?_
  refine n_go f_106_17 rfl (pc' := 18) rfl ?_
  refine n_cv (ls' := [_, _, _]) f_106_18 (by decide) m_94 rfl rfl (by assumption) rfl ?_
  refine c_needThere hD (by omega) (fun e2 => ?_) (fun e2 => n_up rfl (E1 (fun q => absurd (q.2.symm.trans e2) (by decide))))
  have hfu := hfu e1 e2
  have hg := hg e1 e2
  show En V _ _ 21 _ [] _ _
  refine n_go f_106_21 rfl (pc' := 22) rfl ?_
  refine n_go f_106_22 rfl (pc' := 24) rfl ?_
  refine n_go f_106_24 rfl (pc' := 25) rfl ?_
  refine n_gf f_106_25 rfl (by assumption) rfl ?_
  refine n_go f_106_28 rfl (pc' := 30) rfl ?_
  refine n_go f_106_30 rfl (pc' := 31) rfl ?_
  refine n_go f_106_31 rfl (pc' := 32) rfl ?_
  refine n_cv (ls' := [_, _, _, _, _, _]) f_106_32 (by decide) m_95 rfl rfl (by assumption) rfl ?_
  refine c_countChildren hW.1 hD (by omega) (by omega) ?_
  show En V _ 106 35 _ [_, _, _] _ _
  refine n_cv (ls' := [_, _, _]) f_106_35 (by decide) m_82 rfl rfl (by assumption) rfl ?_
  refine c_needRange (by omega) (by omega) (fun q1 q2 => ?_) (fun q => n_up rfl (E2 e1 e2 (by omega)))
  show En V _ _ 38 _ [] _ _
  refine n_go f_106_38 rfl (pc' := 39) rfl ?_
  refine n_go f_106_39 rfl (pc' := 40) rfl ?_
  refine n_cv (ls' := [_, _]) f_106_40 (by decide) m_104 rfl rfl (by assumption) rfl ?_
  refine c_needNoRoot (by omega) (fun e3 => ?_) (fun e3 => n_up rfl (E3 e1 e2 q2 (Or.inl e3)))
  show En V _ _ 43 _ [] _ _
  refine n_go f_106_43 rfl (pc' := 44) rfl ?_
  refine n_go f_106_44 rfl (pc' := 45) rfl ?_
  refine n_cv (ls' := [_, _, _]) f_106_45 (by decide) m_96 rfl rfl (by assumption) rfl ?_
  refine c_needHolderKind hW hp (fun e4 => ?_) (fun e4 => n_up rfl (E3 e1 e2 q2 (Or.inr (Or.inl e4))))
  have hfu := hfu e4
  unfold full at hfu
  show En V _ _ 48 _ [] _ _
  refine n_go f_106_48 rfl (pc' := 49) rfl ?_
  refine n_gf f_106_49 rfl (by assumption) rfl ?_
  refine n_go f_106_52 rfl (pc' := 54) rfl ?_
  refine n_go f_106_54 rfl (pc' := 55) rfl ?_
  refine n_go f_106_55 rfl (pc' := 56) rfl ?_
  refine n_cv (ls' := [_, _, _, _, _, _]) f_106_56 (by decide) m_151 rfl rfl (by assumption) rfl ?_
  refine c_isWithin hW.1 hD (by omega) (by omega) ?_
  show En V _ 106 59 _ [_] _ _
  refine n_ib_eq f_106_59 rfl rfl (fun e5 => ?_) (fun e5 => ?_)
  · -- it is not within
    refine n_go f_106_72 rfl (pc' := 73) rfl ?_
    refine n_go f_106_73 rfl (pc' := 75) rfl ?_
    refine n_go f_106_75 rfl (pc' := 76) rfl ?_
    refine n_go f_106_76 rfl (pc' := 78) rfl ?_
    refine n_go f_106_78 rfl (pc' := 79) rfl ?_
    refine n_cv (ls' := [_, _, _, _, _]) f_106_79 (by decide) m_98 rfl rfl (by assumption) rfl ?_
    refine c_spotAhead hW hD hp (by omega) (by omega) (fun ah a1 a2 => ?_)
    obtain ⟨T0, hT0⟩ := hW.2.2.2.2.1.2.1
    have m0 := hT0.1
    have r1 := kr.2.1
    show En V _ _ 82 _ [_] _ _
    refine n_go f_106_82 rfl (pc' := 84) (ls' := [_, _, _, _, _, _, _]) rfl ?_
    refine n_go f_106_84 rfl (pc' := 85) rfl ?_
    refine n_gf f_106_85 rfl (by assumption) rfl ?_
    refine n_go f_106_88 rfl (pc' := 90) rfl ?_
    refine n_cv (ls' := [_, _]) f_106_90 (by decide) m_28 rfl rfl (by assumption) rfl ?_
    refine c_copyFrom hT0 hD (by omega) ?_
    show En V _ 106 93 _ [] _ _
    have hW2 := hW.trl (T := wD w b) sr
    have hT2 : St (wS h 38 (wD w b)) 38 (wD w b) := wS_St hT0 sr
    have hQ2 : Qk h (wS h 38 (wD w b)) := Qk.wS (by decide)
    generalize wS h 38 (wD w b) = h2 at *
    have v0 := hW2.2.2.1.1
    refine n_go f_106_93 rfl (pc' := 94) rfl ?_
    refine n_gf f_106_94 rfl (by assumption) rfl ?_
    refine n_go f_106_97 rfl (pc' := 98) rfl ?_
    refine n_go f_106_98 rfl (pc' := 99) (st' := .int (iI 0) :: _) rfl ?_
    refine n_go f_106_99 rfl (pc' := 100) rfl ?_
    refine n_go f_106_100 rfl (pc' := 101) rfl ?_
    refine n_go f_106_101 rfl (pc' := 102) rfl ?_
    refine n_cv (ls' := [_, _, _]) f_106_102 (by decide) m_100 rfl rfl (by assumption) rfl ?_
    refine c_planSpot hW2 hS hn hp (fun h3 hW3 hK3 => ?_)
    have hT3 := hT2.kf hK3
    have x0 := hT3.1
    show En V _ _ 105 _ [.int (iI (kS (wK w))), .int (iI 0), .int (iI n), .ref 38] _ _
    refine n_cv (ls' := [_, _, _, _]) f_106_105 (by decide) m_65 rfl rfl (by assumption) rfl ?_
    refine c_setValue hT3 hn (by decide) ?_
    show En V _ 106 108 _ [] _ _
    have hrT : rS (movT (wK w) (wD w b) n) := fun i => ⟨uz_rg (fun i => (sr i).1) (by omega) i, (sr i).2⟩
    have hW4 := hW3.trl (T := movT (wK w) (wD w b) n) hrT
    have hT4 : St (wS h3 38 (movT (wK w) (wD w b) n)) 38 (movT (wK w) (wD w b) n) := wS_St hT3 hrT
    have hQ4 : Qk h (wS h3 38 (movT (wK w) (wD w b) n)) := hQ2.tr (hK3.qk.tr (Qk.wS (by decide)))
    show En V _ _ 108 _ [] (wS h3 38 (movT (wK w) (wD w b) n)) _
    generalize wS h3 38 (movT (wK w) (wD w b) n) = h4 at *
    have y0 := hW4.2.2.1.1
    refine n_go f_106_108 rfl (pc' := 109) rfl ?_
    refine n_go f_106_109 rfl (pc' := 111) rfl ?_
    refine n_cv (ls' := [_, _]) f_106_111 (by decide) m_101 rfl rfl (by assumption) rfl ?_
    refine c_accept hW4 hT4 ⟨hb.1, hb5⟩ hg (fun q h5 hW5 hQ5 => ?_) (fun q h5 hW5 hQ5 => n_up rfl (NO e1 e2 q2 e3 e4 e5 q h5 hW5 (hQ4.tr hQ5)))
    have z0 := hW5.2.2.1.1
    have z1 := hW5.1.1
    show En V _ _ 114 _ [] _ _
    refine n_go f_106_114 rfl (pc' := 115) rfl ?_
    refine n_gf f_106_115 rfl (by assumption) rfl ?_
    refine n_go f_106_118 rfl (pc' := 120) rfl ?_
    refine n_cv (ls' := [_, _]) f_106_120 (by decide) m_103 rfl rfl (by assumption) rfl ?_
    refine c_keepSpot hW5 hS (by have := ahd_r hp.1 kr sr a1; omega) (fun h7 q7 i7 hW7 hK7 => ?_)
    show En V _ _ 123 _ [] _ _
    refine n_ret f_106_123 rfl rfl ?_
    exact OK e1 e2 q2 e3 e4 e5 q ah q7 h7 a1 i7 hW7 (hQ4.tr (hQ5.tr hK7.qk))
  · refine n_thr f_106_62 rfl rfl ?_
    exact E3 e1 e2 q2 (Or.inr (Or.inr e5))
def tagT (S : dS) (n tg : Int) : dS := (S.1, uz S.2.1 n tg, S.2.2)
theorem c_retag (hW : Wd h w) (hb : 0 ≤ b ∧ b < wB w) (hn : 0 ≤ n ∧ n < 40) (htg : 0 ≤ tg ∧ tg ≤ 9)
    (hg : hs (wD w b) n = true → held (wK w) (tagT (wD w b) n tg))
    (E1 : hs (wD w b) n = false → P (.inr 11) (xH h 11))
    (NO : hs (wD w b) n = true → ¬ okS (wK w) (tagT (wD w b) n tg) → ∀ h', Wd h' w → Qk h h' → P (.inr 13) (xH h' 13))
    (OK : hs (wD w b) n = true → okS (wK w) (tagT (wD w b) n tg) → ∀ h', Wd h' (sD w b (tagT (wD w b) n tg)) → Qk h h' → P (.inl (some (.int (iI ((wD w b).2.1 n))))) h') :
    En V (d + 6) 45 0 [some (.ref 0), some (.int (iI b)), some (.int (iI n)), some (.int (iI tg)), none, none] [] h P := by
  obtain ⟨hD, hb5⟩ := Wd_dsk hW hb
  have t0 := hW.2.2.1.1
  have sr := hD.2.2.2.2.2.2.1
  have d0 := hD.1
  have g1 : gS (wD w b).2.1 n = (wD w b).2.1 n := if_pos hn
  refine n_go f_45_0 rfl (pc' := 1) rfl ?_
  refine n_go f_45_1 rfl (pc' := 2) rfl ?_
  refine n_cv (ls' := [_, _]) f_45_2 (by decide) m_59 rfl rfl (by assumption) rfl ?_
  refine c_deskOf hW hb ?_
  show En V _ 45 5 _ [_] _ _
  refine n_go f_45_5 rfl (pc' := 7) (ls' := [_, _, _, _, _, _]) rfl ?_
  refine n_go f_45_7 rfl (pc' := 8) rfl ?_
  refine n_go f_45_8 rfl (pc' := 10) rfl ?_
  refine n_go f_45_10 rfl (pc' := 11) rfl ?_
  refine n_cv (ls' := [_, _, _]) f_45_11 (by decide) m_94 rfl rfl (by assumption) rfl ?_
  refine c_needThere hD (by omega) (fun e1 => ?_) (fun e1 => n_up rfl (E1 e1))
  show En V _ _ 14 _ [] _ _
  refine n_go f_45_14 rfl (pc' := 15) rfl ?_
  refine n_go f_45_15 rfl (pc' := 16) rfl ?_
  refine n_bip (m := 9) f_45_16 rfl (by decide) ?_
  refine n_cv (ls' := [_, _, _]) f_45_18 (by decide) m_82 rfl rfl (by assumption) rfl ?_
  refine c_needRange (by omega) (by omega) (fun _ _ => ?_) (fun q => absurd (by omega) q)
  obtain ⟨T0, hT0⟩ := hW.2.2.2.2.1.2.1
  have m0 := hT0.1
  show En V _ _ 21 _ [] _ _
  refine n_go f_45_21 rfl (pc' := 23) rfl ?_
  refine n_go f_45_23 rfl (pc' := 24) rfl ?_
  refine n_cv (ls' := [_, _]) f_45_24 (by decide) m_107 rfl rfl (by assumption) rfl ?_
  refine c_tagOf hD (by omega) ?_
  show En V _ 45 27 _ [_] _ _
  rw [g1]
  refine n_go f_45_27 rfl (pc' := 29) (ls' := [_, _, _, _, _, _]) rfl ?_
  refine n_go f_45_29 rfl (pc' := 30) rfl ?_
  refine n_gf f_45_30 rfl (by assumption) rfl ?_
  refine n_go f_45_33 rfl (pc' := 35) rfl ?_
  refine n_cv (ls' := [_, _]) f_45_35 (by decide) m_28 rfl rfl (by assumption) rfl ?_
  refine c_copyFrom hT0 hD (by omega) ?_
  show En V _ 45 38 _ [] _ _
  have hW2 := hW.trl (T := wD w b) sr
  have hT2 : St (wS h 38 (wD w b)) 38 (wD w b) := wS_St hT0 sr
  have hQ2 : Qk h (wS h 38 (wD w b)) := Qk.wS (by decide)
  generalize wS h 38 (wD w b) = h2 at *
  have v0 := hW2.2.2.1.1
  have x0 := hT2.1
  refine n_go f_45_38 rfl (pc' := 39) rfl ?_
  refine n_gf f_45_39 rfl (by assumption) rfl ?_
  refine n_go f_45_42 rfl (pc' := 43) rfl ?_
  refine n_go f_45_43 rfl (pc' := 44) (st' := .int (iI 1) :: _) rfl ?_
  refine n_go f_45_44 rfl (pc' := 45) rfl ?_
  refine n_cv (ls' := [_, _, _, _]) f_45_45 (by decide) m_65 rfl rfl (by assumption) rfl ?_
  refine c_setValue hT2 hn (by decide) ?_
  show En V _ 45 48 _ [] _ _
  have hrT : rS (tagT (wD w b) n tg) := fun i => ⟨(sr i).1, uz_rg (fun i => (sr i).2.1) (by omega) i, (sr i).2.2⟩
  have hW4 := hW2.trl (T := tagT (wD w b) n tg) hrT
  have hT4 : St (wS h2 38 (tagT (wD w b) n tg)) 38 (tagT (wD w b) n tg) := wS_St hT2 hrT
  have hQ4 : Qk h (wS h2 38 (tagT (wD w b) n tg)) := hQ2.tr (Qk.wS (by decide))
  show En V _ _ 48 _ [] (wS h2 38 (tagT (wD w b) n tg)) _
  generalize wS h2 38 (tagT (wD w b) n tg) = h4 at *
  have y0 := hW4.2.2.1.1
  refine n_go f_45_48 rfl (pc' := 49) rfl ?_
  refine n_go f_45_49 rfl (pc' := 51) rfl ?_
  refine n_cv (ls' := [_, _]) f_45_51 (by decide) m_101 rfl rfl (by assumption) rfl ?_
  refine c_accept hW4 hT4 ⟨hb.1, hb5⟩ (hg e1) (fun q h5 hW5 hQ5 => ?_) (fun q h5 hW5 hQ5 => n_up rfl (NO e1 q h5 hW5 (hQ4.tr hQ5)))
  show En V _ _ 54 _ [] _ _
  refine n_go f_45_54 rfl (pc' := 56) rfl ?_
  refine n_ret f_45_56 rfl rfl ?_
  exact OK e1 q h5 hW5 (hQ4.tr hQ5)
def aimT (S : dS) (n m : Int) : dS := (S.1, S.2.1, uz S.2.2.1 n m, S.2.2.2)
theorem c_aim (hW : Wd h w) (hb : 0 ≤ b ∧ b < wB w) (hn : 0 ≤ n ∧ n < 40) (hm : -1 ≤ m ∧ m < 40)
    (E1 : ¬ (hs (wD w b) n = true ∧ (m = -1 ∨ hs (wD w b) m = true)) → P (.inr 11) (xH h 11))
    (E2 : hs (wD w b) n = true → (m = -1 ∨ hs (wD w b) m = true) → ¬ kK (wK w) n = 3 → P (.inr 13) (xH h 13))
    (OK : hs (wD w b) n = true → (m = -1 ∨ hs (wD w b) m = true) → kK (wK w) n = 3 → ∀ h', Wd h' (sD w b (aimT (wD w b) n m)) → Qk h h' → P (.inl (some (.int (iI ((wD w b).2.2.1 n))))) h') :
    En V (d + 5) 46 0 [some (.ref 0), some (.int (iI b)), some (.int (iI n)), some (.int (iI m)), none, none] [] h P := by
  obtain ⟨hD, hb5⟩ := Wd_dsk hW hb
  have t0 := hW.2.2.1.1
  have k1 := hW.1.1
  have kr := hW.1.2.2.2.2.2.2.2.2.2.2.2.2.2.1 n
  have sr := hD.2.2.2.2.2.2.1
  have d0 := hD.1
  have g1 : gS (vS (wD w b) 2) n = (wD w b).2.2.1 n := if_pos hn
  have fin : hs (wD w b) n = true → (m = -1 ∨ hs (wD w b) m = true) → En V (d + 5) 46 26 [some (.ref 0), some (.int (iI b)), some (.int (iI n)), some (.int (iI m)), some (.ref (45 + 6 * b.toNat)), none] [] h P := by
    intro e1 e2
    refine n_go f_46_26 rfl (pc' := 27) rfl ?_
    refine n_gf f_46_27 rfl (by assumption) rfl ?_
    refine n_go f_46_30 rfl (pc' := 31) rfl ?_
    refine n_cv (ls' := [_, _]) f_46_31 (by decide) m_108 rfl rfl (by assumption) rfl ?_
    refine c_kindOf hW.1 hn ?_
    show En V _ 46 34 _ [_] _ _
    refine n_go f_46_34 rfl (pc' := 35) (st' := .int (iI 3) :: _) rfl ?_
    refine n_ic_eq f_46_35 rfl rfl ⟨by omega, by omega⟩ (fun e3 => ?_) (fun e3 => ?_)
    · refine n_go f_46_48 rfl (pc' := 50) rfl ?_
      refine n_go f_46_50 rfl (pc' := 51) rfl ?_
      refine n_go f_46_51 rfl (pc' := 52) (st' := .int (iI 2) :: _) rfl ?_
      refine n_cv (ls' := [_, _, _]) f_46_52 (by decide) m_109 rfl rfl (by assumption) rfl ?_
      refine c_valueOf hD (by omega) (by decide) ?_
      show En V _ 46 55 _ [_] _ _
      rw [g1]
      refine n_go f_46_55 rfl (pc' := 57) (ls' := [_, _, _, _, _, _]) rfl ?_
      refine n_go f_46_57 rfl (pc' := 59) rfl ?_
      refine n_go f_46_59 rfl (pc' := 60) rfl ?_
      refine n_go f_46_60 rfl (pc' := 61) (st' := .int (iI 2) :: _) rfl ?_
      refine n_go f_46_61 rfl (pc' := 62) rfl ?_
      refine n_cv (ls' := [_, _, _, _]) f_46_62 (by decide) m_65 rfl rfl (by assumption) rfl ?_
      refine c_setValue hD hn (by decide) ?_
      show En V _ 46 65 _ [] _ _
      have hrT : rS (aimT (wD w b) n m) := fun i => ⟨(sr i).1, (sr i).2.1, uz_rg (fun i => (sr i).2.2) (by omega) i⟩
      show En V _ _ 65 _ [] (wS h (45 + 6 * b.toNat) (aimT (wD w b) n m)) _
      refine n_go f_46_65 rfl (pc' := 67) rfl ?_
      refine n_ret f_46_67 rfl rfl ?_
      exact OK e1 e2 e3 _ (Wd_desk hW ⟨hb.1, hb5⟩ hrT) (Qk.wS (by omega))
    · refine n_thr f_46_38 rfl rfl ?_
      exact E2 e1 e2 e3
  refine n_go f_46_0 rfl (pc' := 1) rfl ?_
  refine n_go f_46_1 rfl (pc' := 2) rfl ?_
  refine n_cv (ls' := [_, _]) f_46_2 (by decide) m_59 rfl rfl (by assumption) rfl ?_
  refine c_deskOf hW hb ?_
  show En V _ 46 5 _ [_] _ _
  refine n_go f_46_5 rfl (pc' := 7) (ls' := [_, _, _, _, _, _]) rfl ?_
  refine n_go f_46_7 rfl (pc' := 8) rfl ?_
  refine n_go f_46_8 rfl (pc' := 10) rfl ?_
  refine n_go f_46_10 rfl (pc' := 11) rfl ?_
  refine n_cv (ls' := [_, _, _]) f_46_11 (by decide) m_94 rfl rfl (by assumption) rfl ?_
  refine c_needThere hD (by omega) (fun e1 => ?_) (fun e1 => n_up rfl (E1 (fun q => absurd (q.1.symm.trans e1) (by decide))))
  show En V _ _ 14 _ [] _ _
  refine n_go f_46_14 rfl (pc' := 15) rfl ?_
  refine n_go f_46_15 rfl (pc' := 16) (st' := .int (iI (-1)) :: _) rfl ?_
  refine n_ic_eq f_46_16 rfl rfl ⟨by omega, by omega⟩ (fun e0 => ?_) (fun e0 => ?_)
  · exact fin e1 (Or.inl e0)
  refine n_go f_46_19 rfl (pc' := 20) rfl ?_
  refine n_go f_46_20 rfl (pc' := 22) rfl ?_
  refine n_go f_46_22 rfl (pc' := 23) rfl ?_
  refine n_cv (ls' := [_, _, _]) f_46_23 (by decide) m_94 rfl rfl (by assumption) rfl ?_
  refine c_needThere hD (by omega) (fun e2 => fin e1 (Or.inr e2)) (fun e2 => n_up rfl (E1 (fun q => by
    rcases q.2 with q | q
    · exact e0 q
    · exact absurd (q.symm.trans e2) (by decide))))
def sayT (S : dS) (x : Int) (c : Bool) : dS := (S.1, S.2.1, S.2.2.1, uz S.2.2.2 x c)
theorem c_write (hW : Wd h w) (hb : 0 ≤ b ∧ b < wB w) (hn : 0 ≤ n ∧ n < 40) (hpl : 0 ≤ pl ∧ pl < 1000) (hs' : 0 ≤ s ∧ s < 100) (hWd : kW (wK w) < 120)
    (E1 : hs (wD w b) n = false → P (.inr 11) (xH h 11))
    (E2 : hs (wD w b) n = true → cnI (kW (wK w)) (wOk (wK w) (wD w b) n) < pl → P (.inr 12) (xH h 12))
    (E3 : hs (wD w b) n = true → pl ≤ cnI (kW (wK w)) (wOk (wK w) (wD w b) n) → ¬ kK (wK w) n = 2 → P (.inr 13) (xH h 13))
    (hfu : hs (wD w b) n = true → kK (wK w) n = 2 → cnI (kW (wK w)) (wOk (wK w) (wD w b) n) = cnI (kW (wK w)) (uOk (wK w) (wD w b) n))
    (OK : hs (wD w b) n = true → pl ≤ cnI (kW (wK w)) (wOk (wK w) (wD w b) n) → kK (wK w) n = 2 → ∀ ah u h', ((pl = 0 ∧ ah = -1) ∨ (¬ pl = 0 ∧ ∃ j, 0 ≤ j ∧ j < kW (wK w) ∧ uOk (wK w) (wD w b) n j = true ∧ cnI j (uOk (wK w) (wD w b) n) = pl - 1 ∧ ah = kU (wK w) j)) → insd (kU (wK w)) (kW (wK w)) ah u → Wd h' (sD (adW (wK w) n s b u, w.2) b (sayT (wD w b) (kW (wK w)) true)) → Qk h h' → P (.inl (some (.int (iI (cnI (kW (wK w)) (wOk (wK w) (wD w b) n) + 1))))) h') :
    En V (d + 5) 47 0 [some (.ref 0), some (.int (iI b)), some (.int (iI n)), some (.int (iI pl)), some (.int (iI s)), none, none, none] [] h P := by
  obtain ⟨hD, hb5⟩ := Wd_dsk hW hb
  have t0 := hW.2.2.1.1
  have k1 := hW.1.1
  have k10 := hW.1.2.2.2.2.2.2.2.2.2.1
  have kr := hW.1.2.2.2.2.2.2.2.2.2.2
  have kw := kr.2.2.1
  have kk := kr.2.2.2.1 n
  have hc := cnI_r (p := wOk (wK w) (wD w b) n) kw.1
  have fin : hs (wD w b) n = true → pl ≤ cnI (kW (wK w)) (wOk (wK w) (wD w b) n) → kK (wK w) n = 2 → ∀ ah, -1 ≤ ah → ah < 120 → ((pl = 0 ∧ ah = -1) ∨ (¬ pl = 0 ∧ ∃ j, 0 ≤ j ∧ j < kW (wK w) ∧ uOk (wK w) (wD w b) n j = true ∧ cnI j (uOk (wK w) (wD w b) n) = pl - 1 ∧ ah = kU (wK w) j)) → En V (d + 5) 47 104 [some (.ref 0), some (.int (iI b)), some (.int (iI n)), some (.int (iI pl)), some (.int (iI s)), some (.ref (45 + 6 * b.toNat)), some (.int (iI (cnI (kW (wK w)) (wOk (wK w) (wD w b) n)))), none] [.int (iI ah)] h P := by
    intro e1 q2 e3 ah a1 a2 a3
    refine n_go f_47_104 rfl (pc' := 106) (ls' := [_, _, _, _, _, _, _, _]) rfl ?_
    refine n_go f_47_106 rfl (pc' := 108) rfl ?_
    refine n_go f_47_108 rfl (pc' := 109) rfl ?_
    refine n_gf f_47_109 rfl (by assumption) rfl ?_
    refine n_go f_47_112 rfl (pc' := 113) rfl ?_
    refine n_go f_47_113 rfl (pc' := 115) rfl ?_
    refine n_go f_47_115 rfl (pc' := 116) rfl ?_
    refine n_go f_47_116 rfl (pc' := 118) rfl ?_
    refine n_cv (ls' := [_, _, _, _, _]) f_47_118 (by decide) m_113 rfl rfl (by assumption) rfl ?_
    refine c_addWord hW hWd hn hs' (by omega) (by omega) (fun h1 u iu hW1 hK1 => ?_)
    have hD1 := hD.kf hK1
    have d0 := hD1.1
    show En V _ _ 121 _ [.int (iI (kW (wK w))), .ref (45 + 6 * b.toNat)] _ _
    refine n_go f_47_121 rfl (pc' := 122) (st' := .int (iI 1) :: _) rfl ?_
    refine n_cv (ls' := [_, _, _]) f_47_122 (by decide) m_114 rfl rfl (by assumption) rfl ?_
    refine c_say (sb := true) hD1 (by omega) ?_
    show En V _ 47 125 _ [] _ _
    have hrT : rS (sayT (wD w b) (kW (wK w)) true) := hD.2.2.2.2.2.2.1
    show En V _ _ 125 _ [] (wS h1 (45 + 6 * b.toNat) (sayT (wD w b) (kW (wK w)) true)) _
    refine n_go f_47_125 rfl (pc' := 127) rfl ?_
    refine n_go f_47_127 rfl (pc' := 128) (st' := .int (iI 1) :: _) rfl ?_
    refine n_iadd f_47_128 rfl ?_
    refine n_ret f_47_129 rfl rfl ?_
    exact OK e1 q2 e3 ah u _ a3 iu (Wd_desk hW1 ⟨hb.1, hb5⟩ hrT) (hK1.qk.tr (Qk.wS (by omega)))
  refine n_go f_47_0 rfl (pc' := 1) rfl ?_
  refine n_go f_47_1 rfl (pc' := 2) rfl ?_
  refine n_cv (ls' := [_, _]) f_47_2 (by decide) m_59 rfl rfl (by assumption) rfl ?_
  refine c_deskOf hW hb ?_
  show En V _ 47 5 _ [_] _ _
  refine n_go f_47_5 rfl (pc' := 7) (ls' := [_, _, _, _, _, _, _, _]) rfl ?_
  refine n_go f_47_7 rfl (pc' := 8) rfl ?_
  refine n_go f_47_8 rfl (pc' := 10) rfl ?_
  refine n_go f_47_10 rfl (pc' := 11) rfl ?_
  refine n_cv (ls' := [_, _, _]) f_47_11 (by decide) m_94 rfl rfl (by assumption) rfl ?_
  refine c_needThere hD (by omega) (fun e1 => ?_) (fun e1 => n_up rfl (E1 e1))
  show En V _ _ 14 _ [] _ _
  refine n_go f_47_14 rfl (pc' := 15) rfl ?_
  refine n_gf f_47_15 rfl (by assumption) rfl ?_
  refine n_go f_47_18 rfl (pc' := 20) rfl ?_
  refine n_go f_47_20 rfl (pc' := 21) rfl ?_
  refine n_cv (ls' := [_, _, _, _, _]) f_47_21 (by decide) m_110 rfl rfl (by assumption) rfl ?_
  refine c_countWords hW.1 hD (by omega) ?_
  show En V _ 47 24 _ [_] _ _
  refine n_go f_47_24 rfl (pc' := 26) (ls' := [_, _, _, _, _, _, _, _]) rfl ?_
  refine n_go f_47_26 rfl (pc' := 27) rfl ?_
  refine n_go f_47_27 rfl (pc' := 28) rfl ?_
  refine n_go f_47_28 rfl (pc' := 30) rfl ?_
  refine n_cv (ls' := [_, _, _]) f_47_30 (by decide) m_82 rfl rfl (by assumption) rfl ?_
  refine c_needRange (by omega) (by omega) (fun q1 q2 => ?_) (fun q => n_up rfl (E2 e1 (by omega)))
  show En V _ _ 33 _ [] _ _
  refine n_go f_47_33 rfl (pc' := 34) rfl ?_
  refine n_go f_47_34 rfl (pc' := 36) rfl ?_
  refine n_bip (m := 99) f_47_36 rfl (by decide) ?_
  refine n_cv (ls' := [_, _, _]) f_47_38 (by decide) m_82 rfl rfl (by assumption) rfl ?_
  refine c_needRange (by omega) (by omega) (fun _ _ => ?_) (fun q => absurd (by omega) q)
  show En V _ _ 41 _ [] _ _
  refine n_go f_47_41 rfl (pc' := 42) rfl ?_
  refine n_gf f_47_42 rfl (by assumption) rfl ?_
  refine n_go f_47_45 rfl (pc' := 46) rfl ?_
  refine n_cv (ls' := [_, _]) f_47_46 (by decide) m_108 rfl rfl (by assumption) rfl ?_
  refine c_kindOf hW.1 hn ?_
  show En V _ 47 49 _ [_] _ _
  refine n_go f_47_49 rfl (pc' := 50) (st' := .int (iI 2) :: _) rfl ?_
  refine n_ic_eq f_47_50 rfl rfl ⟨by omega, by omega⟩ (fun e3 => ?_) (fun e3 => ?_)
  · have e3 : kK (wK w) n = 2 := by omega
    refine n_go f_47_63 rfl (pc' := 64) rfl ?_
    refine n_gf f_47_64 rfl (by assumption) rfl ?_
    refine n_cv (ls' := [_]) f_47_67 (by decide) m_111 rfl rfl (by assumption) rfl ?_
    refine c_wordsAreFull hW.1 hWd ?_
    show En V _ 47 70 _ [_] _ _
    refine n_if_eq f_47_70 rfl rfl (by omega) (fun _ => ?_) (fun e9 => absurd (by omega) e9)
    refine n_go f_47_83 rfl (pc' := 84) rfl ?_
    refine n_if_ne f_47_84 rfl rfl (by omega) (fun e4 => ?_) (fun e4 => ?_)
    · refine n_go f_47_91 rfl (pc' := 92) rfl ?_
      refine n_gf f_47_92 rfl (by assumption) rfl ?_
      refine n_go f_47_95 rfl (pc' := 97) rfl ?_
      refine n_go f_47_97 rfl (pc' := 98) rfl ?_
      refine n_go f_47_98 rfl (pc' := 99) rfl ?_
      refine n_go f_47_99 rfl (pc' := 100) (st' := .int (iI 1) :: _) rfl ?_
      refine n_isub f_47_100 rfl ?_
      refine n_cv (ls' := [_, _, _, _, _, _, _]) f_47_101 (by decide) m_112 rfl rfl (by assumption) rfl ?_
      refine c_wordAt hW.1 hD (by omega) (by omega) (fun j j1 j2 j3 j4 => ?_) (fun q => ?_)
      · have hu := kr.2.2.2.2.2.2.2.2.2.2 j
        exact fin e1 q2 e3 _ (by omega) (by omega) (Or.inr ⟨e4, j, j1, j2, j3, j4, rfl⟩)
      · have h9 := hfu e1 e3
        rw [h9, show kW (wK w) = (((kW (wK w)).toNat : Nat) : Int) by omega] at q2
        obtain ⟨j, j1, j2, j3, j4⟩ := cnI_ex (p := uOk (wK w) (wD w b) n) (kW (wK w)).toNat (pl - 1) (by omega) (by omega)
        exact absurd j4 (q j j1 (by omega) j3)
    · refine n_go f_47_87 rfl (pc' := 88) (st' := .int (iI (-1)) :: _) rfl ?_
      refine n_go f_47_88 rfl (pc' := 104) rfl ?_
      exact fin e1 q2 e3 (-1) (by decide) (by decide) (Or.inl ⟨by omega, rfl⟩)
  · refine n_thr f_47_53 rfl rfl ?_
    exact E3 e1 q2 e3
theorem c_strike (hW : Wd h w) (hb : 0 ≤ b ∧ b < wB w) (hn : 0 ≤ n ∧ n < 40) (hpl : 0 ≤ pl ∧ pl < 1000)
    (E1 : (hs (wD w b) n = true → ∀ j, 0 ≤ j → j < kW (wK w) → uOk (wK w) (wD w b) n j = true → ¬ cnI j (uOk (wK w) (wD w b) n) = pl) → P (.inr 11) (xH h 11))
    (OK : hs (wD w b) n = true → ∀ j, 0 ≤ j → j < kW (wK w) → uOk (wK w) (wD w b) n j = true → cnI j (uOk (wK w) (wD w b) n) = pl → ∀ h', Wd h' (sD w b (sayT (wD w b) (kU (wK w) j) false)) → Qk h h' → P (.inl (some (.int (iI (kE (wK w) (kU (wK w) j)))))) h') :
    En V (d + 4) 48 0 [some (.ref 0), some (.int (iI b)), some (.int (iI n)), some (.int (iI pl)), none, none] [] h P := by
  obtain ⟨hD, hb5⟩ := Wd_dsk hW hb
  have t0 := hW.2.2.1.1
  have kr := hW.1.2.2.2.2.2.2.2.2.2.2
  have d0 := hD.1
  refine n_go f_48_0 rfl (pc' := 1) rfl ?_
  refine n_go f_48_1 rfl (pc' := 2) rfl ?_
  refine n_cv (ls' := [_, _]) f_48_2 (by decide) m_59 rfl rfl (by assumption) rfl ?_
  refine c_deskOf hW hb ?_
  show En V _ 48 5 _ [_] _ _
  refine n_go f_48_5 rfl (pc' := 7) (ls' := [_, _, _, _, _, _]) rfl ?_
  refine n_go f_48_7 rfl (pc' := 8) rfl ?_
  refine n_go f_48_8 rfl (pc' := 10) rfl ?_
  refine n_go f_48_10 rfl (pc' := 11) rfl ?_
  refine n_go f_48_11 rfl (pc' := 12) rfl ?_
  refine n_cv (ls' := [_, _, _, _, _]) f_48_12 (by decide) m_115 rfl rfl (by assumption) rfl ?_
  refine c_neededWord hW hD (by omega) (by omega) (fun e1 j j1 j2 j3 j4 => ?_) (fun q => n_up rfl (E1 q))
  have hu := kr.2.2.2.2.2.2.2.2.2.2 j
  have hrT : rS (sayT (wD w b) (kU (wK w) j) false) := hD.2.2.2.2.2.2.1
  have hW1 := Wd_desk hW ⟨hb.1, hb5⟩ hrT
  have u0 := hW1.2.2.1.1
  have u1 := hW1.1.1
  show En V _ _ 15 _ [_] _ _
  refine n_go f_48_15 rfl (pc' := 17) (ls' := [_, _, _, _, _, _]) rfl ?_
  refine n_go f_48_17 rfl (pc' := 19) rfl ?_
  refine n_go f_48_19 rfl (pc' := 21) rfl ?_
  refine n_go f_48_21 rfl (pc' := 22) (st' := .int (iI 0) :: _) rfl ?_
  refine n_cv (ls' := [_, _, _]) f_48_22 (by decide) m_114 rfl rfl (by assumption) rfl ?_
  refine c_say (sb := false) hD (by omega) ?_
  show En V _ 48 25 _ [] _ _
  show En V _ _ 25 _ [] (wS h (45 + 6 * b.toNat) (sayT (wD w b) (kU (wK w) j) false)) _
  refine n_go f_48_25 rfl (pc' := 26) rfl ?_
  refine n_gf f_48_26 rfl (by assumption) rfl ?_
  refine n_go f_48_29 rfl (pc' := 31) rfl ?_
  refine n_cv (ls' := [_, _]) f_48_31 (by decide) m_116 rfl rfl (by assumption) rfl ?_
  refine c_senseOf hW1.1 (by omega) ?_
  show En V _ 48 34 _ [_] _ _
  refine n_ret f_48_34 rfl rfl ?_
  exact OK e1 j j1 j2 j3 j4 _ hW1 (Qk.wS (by omega))
theorem c_settle (hW : Wd h w) (hb : 0 ≤ b ∧ b < wB w) (hn : 0 ≤ n ∧ n < 40) (hk : 0 ≤ k ∧ k < 5) (hc : 0 ≤ c ∧ c ≤ 1)
    (E1 : hs (wD w b) n = false → P (.inr 11) (xH h 11))
    (E2 : hs (wD w b) n = true → P (.inr 14) (xH h 14)) :
    En V (d + 4) 117 0 [some (.ref 0), some (.int (iI b)), some (.int (iI n)), some (.int (iI k)), some (.int (iI c)), none, none] [] h P := by
  obtain ⟨hD, hb5⟩ := Wd_dsk hW hb
  have t0 := hW.2.2.1.1
  have d0 := hD.1
  have nc : ∀ Q : ev_O → ev_H → Prop, (hs (wD w b) n = false → Q (.inr 11) (xH h 11)) → (hs (wD w b) n = true → Q (.inr 14) (xH h 14)) → En V (d + 3) 158 0 [some (.ref 0), some (.ref (45 + 6 * b.toNat)), some (.int (iI n)), some (.int (iI k)), some (.int (iI c)), none] [] h Q := by
    intro Q q1 q2
    refine n_go f_158_0 rfl (pc' := 1) rfl ?_
    refine n_go f_158_1 rfl (pc' := 2) rfl ?_
    refine n_go f_158_2 rfl (pc' := 3) rfl ?_
    refine n_cv (ls' := [_, _, _]) f_158_3 (by decide) m_94 rfl rfl (by assumption) rfl ?_
    refine c_needThere hD (by omega) (fun e1 => ?_) (fun e1 => n_up rfl (q1 e1))
    show En V _ _ 6 _ [] _ _
    refine n_go f_158_6 rfl (pc' := 7) rfl ?_
    refine n_go f_158_7 rfl (pc' := 8) rfl ?_
    refine n_go f_158_8 rfl (pc' := 9) (st' := .int (iI 4) :: _) rfl ?_
    refine n_cv (ls' := [_, _, _]) f_158_9 (by decide) m_82 rfl rfl (by assumption) rfl ?_
    refine c_needRange (by omega) (by omega) (fun _ _ => ?_) (fun q => absurd (by omega) q)
    show En V _ _ 12 _ [] _ _
    refine n_go f_158_12 rfl (pc' := 13) rfl ?_
    refine n_go f_158_13 rfl (pc' := 15) rfl ?_
    refine n_go f_158_15 rfl (pc' := 16) (st' := .int (iI 1) :: _) rfl ?_
    refine n_cv (ls' := [_, _, _]) f_158_16 (by decide) m_82 rfl rfl (by assumption) rfl ?_
    refine c_needRange (by omega) (by omega) (fun _ _ => ?_) (fun q => absurd (by omega) q)
    show En V _ _ 19 _ [] _ _
    refine n_go f_158_19 rfl (pc' := 20) rfl ?_
    refine n_go f_158_20 rfl (pc' := 21) rfl ?_
    refine n_go f_158_21 rfl (pc' := 22) rfl ?_
    refine n_cv (ls' := [_, _, _]) f_158_22 (by decide) m_176 rfl rfl (by assumption) rfl ?_
    refine c_conflictOf hD (by omega) hk ?_
    show En V _ 158 25 _ [_] _ _
    refine n_go f_158_25 rfl (pc' := 27) (ls' := [_, _, _, _, _, _]) rfl ?_
    refine n_go f_158_27 rfl (pc' := 29) rfl ?_
    refine n_ldc (m := 1048576) f_158_29 rfl (by decide) ?_
    refine n_ic_ne f_158_31 rfl rfl ⟨by omega, by omega⟩ (fun e9 => absurd e9 (by omega)) (fun _ => ?_)
    refine n_thr f_158_34 rfl rfl ?_
    exact q2 e1
  refine n_go f_117_0 rfl (pc' := 1) rfl ?_
  refine n_go f_117_1 rfl (pc' := 2) rfl ?_
  refine n_cv (ls' := [_, _]) f_117_2 (by decide) m_59 rfl rfl (by assumption) rfl ?_
  refine c_deskOf hW hb ?_
  show En V _ 117 5 _ [_] _ _
  refine n_go f_117_5 rfl (pc' := 7) (ls' := [_, _, _, _, _, _, _]) rfl ?_
  refine n_go f_117_7 rfl (pc' := 8) rfl ?_
  refine n_go f_117_8 rfl (pc' := 10) rfl ?_
  refine n_go f_117_10 rfl (pc' := 11) rfl ?_
  refine n_go f_117_11 rfl (pc' := 12) rfl ?_
  refine n_go f_117_12 rfl (pc' := 14) rfl ?_
  refine n_cv (ls' := [_, _, _, _, _, _]) f_117_14 (by decide) m_158 rfl rfl (by assumption) rfl ?_
  exact nc _ (fun e => n_up rfl (E1 e)) (fun e => n_up rfl (E2 e))
end CE
