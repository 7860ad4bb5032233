/-! joinAll and playAll where one side is the base. -/
section CA
variable {V : ev_V} {d : Nat} {h : ev_H} {P : ev_O → ev_H → Prop} {j x y o r : Nat} {K : dK} {X Y R Z : dS} {n k a b c : Int}
theorem c_joinLone0 (hK : Sk h K) (hJ : Jn h j x y o r) (hX : St h x X) (hO : St h o X) (hn : 0 ≤ n ∧ n < 40) (hx : hs X n = true) (KK : P (.inl none) h) : En V (d + 3) 172 0 [some (.ref j), some (.int (iI n)), some (.ref x)] [] h P := by
  have jj := hJ
  unfold Jn at jj
  have o0 := hO.1
  refine n_go f_172_0 rfl (pc' := 1) rfl ?_
  refine n_gf f_172_1 rfl (by assumption) rfl ?_
  refine n_go f_172_4 rfl (pc' := 5) rfl ?_
  refine n_cv (ls' := [_, _]) f_172_5 (by decide) m_133 rfl rfl (by assumption) rfl ?_
  refine c_has hO (by omega) ?_
  show En V _ 172 8 _ [_] _ _
  refine n_ib_ne f_172_8 rfl rfl (fun _ => ?_) (fun e9 => absurd (e9.symm.trans (hx)) (by decide))
  refine n_go f_172_23 rfl (pc' := 24) rfl ?_
  refine n_go f_172_24 rfl (pc' := 25) rfl ?_
  refine n_go f_172_25 rfl (pc' := 26) rfl ?_
  refine n_cv (ls' := [_, _, _, _]) f_172_26 (by decide) m_185 rfl rfl (by assumption) rfl ?_
  refine c_isTouched hK hJ hX hO hn ?_
  show En V _ 172 29 _ [_] _ _
  refine n_if_eq f_172_29 rfl rfl (by omega) (fun _ => ?_) (fun e9 => absurd (by omega) e9)
  refine n_ret f_172_55 rfl rfl ?_
  exact KK
theorem c_joinLone1 (hJ : Jn h j x y o r) (hY : St h y Y) (hO : St h o X) (hR : St h r R) (dy : r + 6 ≤ y ∨ y + 6 ≤ r) (hn : 0 ≤ n ∧ n < 40) (hx : hs X n = false) (KK : P (.inl none) (wS h r (setAt R n (fun k => vS Y k n)))) : En V (d + 3) 172 0 [some (.ref j), some (.int (iI n)), some (.ref y)] [] h P := by
  have jj := hJ
  unfold Jn at jj
  have o0 := hO.1
  have r0 := hR.1
  refine n_go f_172_0 rfl (pc' := 1) rfl ?_
  refine n_gf f_172_1 rfl (by assumption) rfl ?_
  refine n_go f_172_4 rfl (pc' := 5) rfl ?_
  refine n_cv (ls' := [_, _]) f_172_5 (by decide) m_133 rfl rfl (by assumption) rfl ?_
  refine c_has hO (by omega) ?_
  show En V _ 172 8 _ [_] _ _
  refine n_ib_ne f_172_8 rfl rfl (fun e9 => absurd (e9.symm.trans (hx)) (by decide)) (fun _ => ?_)
  refine n_go f_172_11 rfl (pc' := 12) rfl ?_
  refine n_gf f_172_12 rfl (by assumption) rfl ?_
  refine n_go f_172_15 rfl (pc' := 16) rfl ?_
  refine n_go f_172_16 rfl (pc' := 17) rfl ?_
  refine n_cv (ls' := [_, _, _, _]) f_172_17 (by decide) m_184 rfl rfl (by assumption) rfl ?_
  refine c_copyNode hR hY dy hn ?_
  show En V _ 172 20 _ [] _ _
  refine n_go f_172_20 rfl (pc' := 55) rfl ?_
  refine n_ret f_172_55 rfl rfl ?_
  exact KK
theorem c_wordSaid (hK : Sk h K) (hJ : Jn h j x y o r) (hX : St h x X) (hO : St h o X) (hY : St h y Y) (hR : St h r R) (tx : tidy K X) (ty : tidy K Y) (hl : hs R (kL K n) = hs Y (kL K n)) (hn : 0 ≤ n ∧ n < 120) (KK : P (.inl (some (.int (iI (b2 (Y.2.2.2 n)))))) h) : En V (d + 1) 173 0 [some (.ref j), some (.int (iI n)), none] [] h P := by
  have jj := hJ
  unfold Jn at jj
  have x0 := hX.1
  have o0 := hO.1
  have y0 := hY.1
  have r0 := hR.1
  have k1 := hK.1
  have lr := hK.2.2.2.2.2.2.2.2.2.2.2.2.2.2.2.2.2.1 n
  have t1 := tx.1 n hn.1 hn.2
  have t2 := ty.1 n hn.1 hn.2
  have fin : X.2.2.2 n = false ∨ hs X (kL K n) = false → En V (d + 1) 173 83 [some (.ref j), some (.int (iI n)), some (.int (iI (kL K n)))] [] h P := by
    intro hf
    have hxf : X.2.2.2 n = false := by
      rcases hf with q | q
      · exact q
      · cases e : X.2.2.2 n with
        | false => rfl
        | true => rw [t1 e] at q; cases q
    refine n_go f_173_83 rfl (pc' := 84) rfl ?_
    refine n_gf f_173_84 rfl (by assumption) rfl ?_
    refine n_go f_173_87 rfl (pc' := 88) rfl ?_
    refine n_cv (ls' := [_, _]) f_173_88 (by decide) m_156 rfl rfl (by assumption) rfl ?_
    refine c_says hX (by omega) ?_
    show En V _ 173 91 _ [_] _ _
    refine n_ib_ne f_173_91 rfl rfl (fun e9 => absurd (e9.symm.trans (hxf)) (by decide)) (fun _ => ?_)
    refine n_go f_173_94 rfl (pc' := 95) rfl ?_
    refine n_gf f_173_95 rfl (by assumption) rfl ?_
    refine n_go f_173_98 rfl (pc' := 99) rfl ?_
    refine n_cv (ls' := [_, _]) f_173_99 (by decide) m_156 rfl rfl (by assumption) rfl ?_
    refine c_says hY (by omega) ?_
    show En V _ 173 102 _ [_] _ _
    refine n_ib_eq f_173_102 rfl rfl (fun e => ?_) (fun e => ?_)
    · rw [e] at KK
      refine n_go f_173_109 rfl (pc' := 110) (st' := .int (iI 0) :: _) rfl ?_
      first | refine n_rt0 f_173_110 rfl ?_ | refine n_rt1 f_173_110 rfl ?_ | refine n_rtz f_173_110 rfl ?_
      exact KK
    · rw [e] at KK
      refine n_go f_173_105 rfl (pc' := 106) (st' := .int (iI 1) :: _) rfl ?_
      refine n_go f_173_106 rfl (pc' := 110) rfl ?_
      first | refine n_rt0 f_173_110 rfl ?_ | refine n_rt1 f_173_110 rfl ?_ | refine n_rtz f_173_110 rfl ?_
      exact KK
  refine n_go f_173_0 rfl (pc' := 1) rfl ?_
  refine n_gf f_173_1 rfl (by assumption) rfl ?_
  refine n_go f_173_4 rfl (pc' := 5) rfl ?_
  refine n_cv (ls' := [_, _]) f_173_5 (by decide) m_155 rfl rfl (by assumption) rfl ?_
  refine c_leafOf hK (by omega) ?_
  show En V _ 173 8 _ [_] _ _
  refine n_go f_173_8 rfl (pc' := 9) (ls' := [_, _, _]) rfl ?_
  refine n_go f_173_9 rfl (pc' := 10) rfl ?_
  refine n_gf f_173_10 rfl (by assumption) rfl ?_
  refine n_go f_173_13 rfl (pc' := 14) rfl ?_
  refine n_cv (ls' := [_, _]) f_173_14 (by decide) m_133 rfl rfl (by assumption) rfl ?_
  refine c_has hR (by omega) ?_
  show En V _ 173 17 _ [_] _ _
  refine n_ib_ne f_173_17 rfl rfl (fun e => ?_) (fun e => ?_)
  · -- the leaf is there
    refine n_go f_173_22 rfl (pc' := 23) rfl ?_
    refine n_gf f_173_23 rfl (by assumption) rfl ?_
    refine n_go f_173_26 rfl (pc' := 27) rfl ?_
    refine n_cv (ls' := [_, _]) f_173_27 (by decide) m_133 rfl rfl (by assumption) rfl ?_
    refine c_has hX (by omega) ?_
    show En V _ 173 30 _ [_] _ _
    refine n_ib_eq f_173_30 rfl rfl (fun e1 => ?_) (fun e1 => ?_)
    · exact fin (Or.inr e1)
    refine n_go f_173_33 rfl (pc' := 34) rfl ?_
    refine n_gf f_173_34 rfl (by assumption) rfl ?_
    refine n_go f_173_37 rfl (pc' := 38) rfl ?_
    refine n_cv (ls' := [_, _]) f_173_38 (by decide) m_133 rfl rfl (by assumption) rfl ?_
    refine c_has hY (by omega) ?_
    show En V _ 173 41 _ [_] _ _
    refine n_ib_eq f_173_41 rfl rfl (fun e9 => absurd (e9.symm.trans (hl.symm.trans e)) (by decide)) (fun _ => ?_)
    refine n_go f_173_44 rfl (pc' := 45) rfl ?_
    refine n_gf f_173_45 rfl (by assumption) rfl ?_
    refine n_go f_173_48 rfl (pc' := 49) rfl ?_
    refine n_cv (ls' := [_, _]) f_173_49 (by decide) m_156 rfl rfl (by assumption) rfl ?_
    refine c_says hO (by omega) ?_
    show En V _ 173 52 _ [_] _ _
    refine n_ib_eq f_173_52 rfl rfl (fun e2 => ?_) (fun e2 => ?_)
    · exact fin (Or.inl e2)
    refine n_go f_173_55 rfl (pc' := 56) rfl ?_
    refine n_gf f_173_56 rfl (by assumption) rfl ?_
    refine n_go f_173_59 rfl (pc' := 60) rfl ?_
    refine n_cv (ls' := [_, _]) f_173_60 (by decide) m_156 rfl rfl (by assumption) rfl ?_
    refine c_says hX (by omega) ?_
    show En V _ 173 63 _ [_] _ _
    refine n_ib_eq f_173_63 rfl rfl (fun e9 => absurd (e9.symm.trans (e2)) (by decide)) (fun _ => ?_)
    refine n_go f_173_66 rfl (pc' := 67) rfl ?_
    refine n_gf f_173_67 rfl (by assumption) rfl ?_
    refine n_go f_173_70 rfl (pc' := 71) rfl ?_
    refine n_cv (ls' := [_, _]) f_173_71 (by decide) m_156 rfl rfl (by assumption) rfl ?_
    refine c_says hY (by omega) ?_
    show En V _ 173 74 _ [_] _ _
    refine n_ib_eq f_173_74 rfl rfl (fun e3 => ?_) (fun e3 => ?_)
    · rw [e3] at KK
      refine n_go f_173_81 rfl (pc' := 82) (st' := .int (iI 0) :: _) rfl ?_
      first | refine n_rt0 f_173_82 rfl ?_ | refine n_rt1 f_173_82 rfl ?_ | refine n_rtz f_173_82 rfl ?_
      exact KK
    · rw [e3] at KK
      refine n_go f_173_77 rfl (pc' := 78) (st' := .int (iI 1) :: _) rfl ?_
      refine n_go f_173_78 rfl (pc' := 82) rfl ?_
      first | refine n_rt0 f_173_82 rfl ?_ | refine n_rt1 f_173_82 rfl ?_ | refine n_rtz f_173_82 rfl ?_
      exact KK
  have e3 : Y.2.2.2 n = false := by
    cases e4 : Y.2.2.2 n with
    | false => rfl
    | true =>
      have := t2 e4
      rw [← hl, e] at this
      cases this
  rw [e3] at KK
  refine n_go f_173_20 rfl (pc' := 21) (st' := .int (iI 0) :: _) rfl ?_
  first | refine n_rt0 f_173_21 rfl ?_ | refine n_rt1 f_173_21 rfl ?_ | refine n_rtz f_173_21 rfl ?_
  exact KK
theorem c_untie (hK : Sk h K) (hJ : Jn h j x y o r) (hR : St h r Z) (hz : roots K Z) (KK : P (.inl none) h) : En V (d + 3) 141 0 [some (.ref j), none, none, none, none] [] h P := by
  have jj := hJ
  unfold Jn at jj
  have r0 := hR.1
  have k10 := hK.2.2.2.2.2.2.2.2.2.1
  have kr := hK.2.2.2.2.2.2.2.2.2.2
  refine n_go f_141_0 rfl (pc' := 1) rfl ?_
  refine n_go f_141_1 rfl (pc' := 2) (ls' := [_, _, _, _, _]) rfl ?_
  refine n_go f_141_2 rfl (pc' := 3) (st' := .int (iI 0) :: _) rfl ?_
  refine n_go f_141_3 rfl (pc' := 4) (ls' := [_, _, _, _, _]) rfl ?_
  refine n_for (lo := 0) (hi := 40) (by decide) (fun i ls st h' => (∃ u, ls = [some (.ref j), some (.long (l64 0)), none, some (.int (iI i)), u]) ∧ st = [] ∧ h' = h) ⟨⟨_, rfl⟩, rfl, rfl⟩ ?_ ?_
  · rintro i ls st h' h1 h2 ⟨⟨u, rfl⟩, rfl, rfl⟩ kk
    have hr := hold_r kr Z i
    refine n_go f_141_4 rfl (pc' := 5) rfl ?_
    refine n_bip (m := 40) f_141_5 rfl (by decide) ?_
    refine n_ic_ge f_141_7 rfl rfl ⟨by omega, by omega⟩ (fun e9 => absurd e9 (by omega)) (fun _ => ?_)
    refine n_go f_141_10 rfl (pc' := 11) rfl ?_
    refine n_gf f_141_11 rfl (by assumption) rfl ?_
    refine n_go f_141_14 rfl (pc' := 15) rfl ?_
    refine n_gf f_141_15 rfl (by assumption) rfl ?_
    refine n_go f_141_18 rfl (pc' := 19) rfl ?_
    refine n_cv (ls' := [_, _, _]) f_141_19 (by decide) m_122 rfl rfl (by assumption) rfl ?_
    refine c_holderIn hK hR (by omega) ?_
    show En V _ 141 22 _ [_] _ _
    refine n_go f_141_22 rfl (pc' := 24) (ls' := [_, _, _, _, _]) rfl ?_
    refine n_go f_141_24 rfl (pc' := 26) rfl ?_
    refine n_go f_141_26 rfl (pc' := 27) (st' := .int (iI (-1)) :: _) rfl ?_
    refine n_ic_eq f_141_27 rfl rfl ⟨by omega, by omega⟩ (fun e => ?_) (fun e => ?_)
    · refine n_iinc (m' := 1) (ls' := [_, _, _, _, _]) f_141_53 rfl rfl rfl rfl ?_
      refine n_go f_141_56 rfl (pc' := 4) rfl ?_
      exact kk _ _ _ ⟨⟨_, rfl⟩, rfl, rfl⟩
    refine n_go f_141_30 rfl (pc' := 31) rfl ?_
    refine n_gf f_141_31 rfl (by assumption) rfl ?_
    refine n_go f_141_34 rfl (pc' := 35) rfl ?_
    refine n_gf f_141_35 rfl (by assumption) rfl ?_
    refine n_go f_141_38 rfl (pc' := 40) rfl ?_
    refine n_go f_141_40 rfl (pc' := 41) rfl ?_
    refine n_cv (ls' := [_, _, _, _, _, _]) f_141_41 (by decide) m_151 rfl rfl (by assumption) rfl ?_
    refine c_isWithin hK hR (by omega) (by omega) ?_
    show En V _ 141 44 _ [_] _ _
    refine n_ib_eq f_141_44 rfl rfl (fun _ => ?_) (fun e9 => absurd (e9.symm.trans ((hz i h1 h2 e).2)) (by decide))
    refine n_iinc (m' := 1) (ls' := [_, _, _, _, _]) f_141_53 rfl rfl rfl rfl ?_
    refine n_go f_141_56 rfl (pc' := 4) rfl ?_
    exact kk _ _ _ ⟨⟨_, rfl⟩, rfl, rfl⟩
  rintro ls st h ⟨⟨u, rfl⟩, rfl, rfl⟩
  refine n_go f_141_4 rfl (pc' := 5) rfl ?_
  refine n_bip (m := 40) f_141_5 rfl (by decide) ?_
  refine n_ic_ge f_141_7 rfl rfl ⟨by omega, by omega⟩ (fun _ => ?_) (fun e9 => absurd (by omega) e9)
  refine n_go f_141_59 rfl (pc' := 60) (st' := .int (iI 0) :: _) rfl ?_
  refine n_go f_141_60 rfl (pc' := 61) (ls' := [_, _, _, _, _]) rfl ?_
  refine n_for (lo := 0) (hi := 40) (by decide) (fun i ls st h' => (∃ u, ls = [some (.ref j), some (.long (l64 0)), none, some (.int (iI i)), u]) ∧ st = [] ∧ h' = h) ⟨⟨_, rfl⟩, rfl, rfl⟩ ?_ ?_
  · rintro i ls st h' h1 h2 ⟨⟨u, rfl⟩, rfl, rfl⟩ kk
    have lb := l_bit ⟨0, by decide⟩ ⟨i.toNat, by omega⟩
    dsimp only at lb
    rw [show ((i.toNat : Nat) : Int) = i by omega, Nat.zero_testBit] at lb
    refine n_go f_141_61 rfl (pc' := 62) rfl ?_
    refine n_bip (m := 40) f_141_62 rfl (by decide) ?_
    refine n_ic_ge f_141_64 rfl rfl ⟨by omega, by omega⟩ (fun e9 => absurd e9 (by omega)) (fun _ => ?_)
    refine n_go f_141_67 rfl (pc' := 68) rfl ?_
    refine n_go f_141_68 rfl (pc' := 69) rfl ?_
    refine n_go f_141_69 rfl (pc' := 70) rfl ?_
    refine n_go f_141_70 rfl (pc' := 71) rfl ?_
    refine n_go f_141_71 rfl (pc' := 72) rfl ?_
    refine n_go f_141_72 rfl (pc' := 73) rfl ?_
    refine n_go f_141_73 rfl (pc' := 74) rfl ?_
    show En V _ _ 74 _ [.int (lg_cmp ((l64 0 >>> ((iI i).toInt64 &&& 63)) &&& l64 1) (l64 0))] _ _
    rw [lb]
    refine n_ib_eq f_141_74 rfl rfl (fun _ => ?_) (fun e9 => absurd (e9.symm.trans (rfl)) (by decide))
    refine n_iinc (m' := 1) (ls' := [_, _, _, _, _]) f_141_145 rfl rfl rfl rfl ?_
    refine n_go f_141_148 rfl (pc' := 61) rfl ?_
    exact kk _ _ _ ⟨⟨_, rfl⟩, rfl, rfl⟩
  rintro ls st h ⟨⟨u, rfl⟩, rfl, rfl⟩
  refine n_go f_141_61 rfl (pc' := 62) rfl ?_
  refine n_bip (m := 40) f_141_62 rfl (by decide) ?_
  refine n_ic_ge f_141_64 rfl rfl ⟨by omega, by omega⟩ (fun _ => ?_) (fun e9 => absurd (by omega) e9)
  refine n_ret f_141_151 rfl rfl ?_
  exact KK
theorem c_bring (hK : Sk h K) (hJ : Jn h j x y o r) (hR : St h r Z) (hz : roots K Z) (KK : P (.inl none) h) : En V (d + 2) 142 0 [some (.ref j), none, none, none, none] [] h P := by
  have jj := hJ
  unfold Jn at jj
  have r0 := hR.1
  have k10 := hK.2.2.2.2.2.2.2.2.2.1
  have kr := hK.2.2.2.2.2.2.2.2.2.2
  refine n_go f_142_0 rfl (pc' := 1) (st' := .int (iI 1) :: _) rfl ?_
  refine n_go f_142_1 rfl (pc' := 2) (ls' := [_, _, _, _, _]) rfl ?_
  refine n_go f_142_2 rfl (pc' := 3) (st' := .int (iI 0) :: _) rfl ?_
  refine n_go f_142_3 rfl (pc' := 4) (ls' := [_, _, _, _, _]) rfl ?_
  refine n_go f_142_4 rfl (pc' := 5) rfl ?_
  refine n_bip (m := 40) f_142_5 rfl (by decide) ?_
  refine n_ic_ge f_142_7 rfl rfl ⟨by omega, by omega⟩ (fun e9 => absurd e9 (by omega)) (fun _ => ?_)
  refine n_go f_142_10 rfl (pc' := 11) rfl ?_
  refine n_if_eq f_142_11 rfl rfl (by omega) (fun e9 => absurd e9 (by omega)) (fun _ => ?_)
  refine n_go f_142_14 rfl (pc' := 15) (st' := .int (iI 0) :: _) rfl ?_
  refine n_go f_142_15 rfl (pc' := 16) (ls' := [_, _, _, _, _]) rfl ?_
  refine n_go f_142_16 rfl (pc' := 17) (st' := .int (iI 0) :: _) rfl ?_
  refine n_go f_142_17 rfl (pc' := 18) (ls' := [_, _, _, _, _]) rfl ?_
  refine n_for (lo := 0) (hi := 40) (by decide) (fun i ls st h' => (∃ u, ls = [some (.ref j), some (.int (iI 0)), some (.int (iI 0)), some (.int (iI i)), u]) ∧ st = [] ∧ h' = h) ⟨⟨_, rfl⟩, rfl, rfl⟩ ?_ ?_
  · rintro i ls st h' h1 h2 ⟨⟨u, rfl⟩, rfl, rfl⟩ kk
    have hr := hold_r kr Z i
    refine n_go f_142_18 rfl (pc' := 19) rfl ?_
    refine n_bip (m := 40) f_142_19 rfl (by decide) ?_
    refine n_ic_ge f_142_21 rfl rfl ⟨by omega, by omega⟩ (fun e9 => absurd e9 (by omega)) (fun _ => ?_)
    refine n_go f_142_24 rfl (pc' := 25) rfl ?_
    refine n_gf f_142_25 rfl (by assumption) rfl ?_
    refine n_go f_142_28 rfl (pc' := 29) rfl ?_
    refine n_gf f_142_29 rfl (by assumption) rfl ?_
    refine n_go f_142_32 rfl (pc' := 33) rfl ?_
    refine n_cv (ls' := [_, _, _]) f_142_33 (by decide) m_122 rfl rfl (by assumption) rfl ?_
    refine c_holderIn hK hR (by omega) ?_
    show En V _ 142 36 _ [_] _ _
    refine n_go f_142_36 rfl (pc' := 38) (ls' := [_, _, _, _, _]) rfl ?_
    refine n_go f_142_38 rfl (pc' := 40) rfl ?_
    refine n_go f_142_40 rfl (pc' := 41) (st' := .int (iI (-1)) :: _) rfl ?_
    refine n_ic_eq f_142_41 rfl rfl ⟨by omega, by omega⟩ (fun e => ?_) (fun e => ?_)
    · refine n_iinc (m' := 1) (ls' := [_, _, _, _, _]) f_142_106 rfl rfl rfl rfl ?_
      refine n_go f_142_109 rfl (pc' := 18) rfl ?_
      exact kk _ _ _ ⟨⟨_, rfl⟩, rfl, rfl⟩
    refine n_go f_142_44 rfl (pc' := 45) rfl ?_
    refine n_gf f_142_45 rfl (by assumption) rfl ?_
    refine n_go f_142_48 rfl (pc' := 50) rfl ?_
    refine n_cv (ls' := [_, _]) f_142_50 (by decide) m_133 rfl rfl (by assumption) rfl ?_
    refine c_has hR (by omega) ?_
    show En V _ 142 53 _ [_] _ _
    refine n_ib_ne f_142_53 rfl rfl (fun _ => ?_) (fun e9 => absurd (e9.symm.trans ((hz i h1 h2 e).1)) (by decide))
    refine n_iinc (m' := 1) (ls' := [_, _, _, _, _]) f_142_106 rfl rfl rfl rfl ?_
    refine n_go f_142_109 rfl (pc' := 18) rfl ?_
    exact kk _ _ _ ⟨⟨_, rfl⟩, rfl, rfl⟩
  rintro ls st h ⟨⟨u, rfl⟩, rfl, rfl⟩
  refine n_go f_142_18 rfl (pc' := 19) rfl ?_
  refine n_bip (m := 40) f_142_19 rfl (by decide) ?_
  refine n_ic_ge f_142_21 rfl rfl ⟨by omega, by omega⟩ (fun _ => ?_) (fun e9 => absurd (by omega) e9)
  refine n_iinc (m' := 1) (ls' := [_, _, _, _, _]) f_142_112 rfl rfl rfl rfl ?_
  refine n_go f_142_115 rfl (pc' := 4) rfl ?_
  refine n_go f_142_4 rfl (pc' := 5) rfl ?_
  refine n_bip (m := 40) f_142_5 rfl (by decide) ?_
  refine n_ic_ge f_142_7 rfl rfl ⟨by omega, by omega⟩ (fun e9 => absurd e9 (by omega)) (fun _ => ?_)
  refine n_go f_142_10 rfl (pc' := 11) rfl ?_
  refine n_if_eq f_142_11 rfl rfl (by omega) (fun _ => ?_) (fun e9 => absurd (by omega) e9)
  refine n_ret f_142_118 rfl rfl ?_
  exact KK
def mixS (Y R : dS) (i w : Int) : dS := (fun n => if n < i then Y.1 n else R.1 n, fun n => if n < i then Y.2.1 n else R.2.1 n, fun n => if n < i then Y.2.2.1 n else R.2.2.1 n, fun n => if n < w then Y.2.2.2 n else R.2.2.2 n)
theorem mixS_r {Y R : dS} {i w : Int} (hy : rS Y) (hr : rS R) : rS (mixS Y R i w) := by
  intro n
  unfold mixS
  refine ⟨?_, ?_, ?_⟩ <;> dsimp only <;> split
  · exact (hy n).1
  · exact (hr n).1
  · exact (hy n).2.1
  · exact (hr n).2.1
  · exact (hy n).2.2
  · exact (hr n).2.2
theorem mix_uz {A : Type} (f g : Int → A) (i j : Int) (v : A) (hv : v = f i) : uz (fun n => if n < i then f n else g n) i v j = if j < i + 1 then f j else g j := by
  unfold uz
  by_cases hj : j = i
  · rw [if_pos hj, if_pos (by omega), hv, hj]
  · rw [if_neg hj]
    show (if j < i then f j else g j) = (if j < i + 1 then f j else g j)
    by_cases hj2 : j < i
    · rw [if_pos hj2, if_pos (by omega)]
    · rw [if_neg hj2, if_neg (by omega)]
theorem wS_c {h : ev_H} {r : Nat} {S T : dS} (h1 : ∀ i : Int, 0 ≤ i → i < 40 → S.1 i = T.1 i) (h2 : ∀ i : Int, 0 ≤ i → i < 40 → S.2.1 i = T.2.1 i) (h3 : ∀ i : Int, 0 ≤ i → i < 40 → S.2.2.1 i = T.2.2.1 i) (h4 : ∀ i : Int, 0 ≤ i → i < 120 → S.2.2.2 i = T.2.2.2 i) : wS h r S = wS h r T := by
  unfold wS
  rw [aI_congr (f := S.1) (f' := T.1) h1, aI_congr (f := S.2.1) (f' := T.2.1) h2, aI_congr (f := S.2.2.1) (f' := T.2.2.1) h3, aB_congr (f := S.2.2.2) (f' := T.2.2.2) h4]
theorem mixS_0 {h : ev_H} {r : Nat} {Y R : dS} : wS h r (mixS Y R 0 0) = wS h r R := wS_c (fun i h1 _ => if_neg (by omega)) (fun i h1 _ => if_neg (by omega)) (fun i h1 _ => if_neg (by omega)) (fun i h1 _ => if_neg (by omega))
theorem mixS_e {h : ev_H} {r : Nat} {Y R : dS} : wS h r (mixS Y R 40 120) = wS h r Y := wS_c (fun i _ h2 => if_pos h2) (fun i _ h2 => if_pos h2) (fun i _ h2 => if_pos h2) (fun i _ h2 => if_pos h2)
theorem mixS_n {h : ev_H} {r : Nat} {Y R : dS} {i : Int} {w0 w : Int → Int} (hw : w 0 = Y.1 i ∧ w 1 = Y.2.1 i ∧ w 2 = Y.2.2.1 i) : wS h r (setAt (setAt (mixS Y R i 0) i w0) i w) = wS h r (mixS Y R (i + 1) 0) := by
  refine wS_c (fun n _ _ => ?_) (fun n _ _ => ?_) (fun n _ _ => ?_) (fun n _ _ => rfl)
  · show uz (uz (fun n => if n < i then Y.1 n else R.1 n) i (w0 0)) i (w 0) n = if n < i + 1 then Y.1 n else R.1 n
    rw [show uz (uz (fun n => if n < i then Y.1 n else R.1 n) i (w0 0)) i (w 0) n = uz (fun n => if n < i then Y.1 n else R.1 n) i (w 0) n by unfold uz; split <;> rfl]
    exact mix_uz _ _ _ _ _ hw.1
  · show uz (uz (fun n => if n < i then Y.2.1 n else R.2.1 n) i (w0 1)) i (w 1) n = if n < i + 1 then Y.2.1 n else R.2.1 n
    rw [show uz (uz (fun n => if n < i then Y.2.1 n else R.2.1 n) i (w0 1)) i (w 1) n = uz (fun n => if n < i then Y.2.1 n else R.2.1 n) i (w 1) n by unfold uz; split <;> rfl]
    exact mix_uz _ _ _ _ _ hw.2.1
  · show uz (uz (fun n => if n < i then Y.2.2.1 n else R.2.2.1 n) i (w0 2)) i (w 2) n = if n < i + 1 then Y.2.2.1 n else R.2.2.1 n
    rw [show uz (uz (fun n => if n < i then Y.2.2.1 n else R.2.2.1 n) i (w0 2)) i (w 2) n = uz (fun n => if n < i then Y.2.2.1 n else R.2.2.1 n) i (w 2) n by unfold uz; split <;> rfl]
    exact mix_uz _ _ _ _ _ hw.2.2
theorem mixS_d {h : ev_H} {r : Nat} {Y R : dS} {i : Int} {w : Int → Int} (hw : w 0 = Y.1 i ∧ w 1 = Y.2.1 i ∧ w 2 = Y.2.2.1 i) : wS h r (setAt (mixS Y R i 0) i w) = wS h r (mixS Y R (i + 1) 0) := by
  refine wS_c (fun n _ _ => ?_) (fun n _ _ => ?_) (fun n _ _ => ?_) (fun n _ _ => rfl)
  · exact mix_uz _ _ _ _ _ hw.1
  · exact mix_uz _ _ _ _ _ hw.2.1
  · exact mix_uz _ _ _ _ _ hw.2.2
theorem mixS_w {h : ev_H} {r : Nat} {Y R : dS} {w : Int} : wS h r ((mixS Y R 40 w).1, (mixS Y R 40 w).2.1, (mixS Y R 40 w).2.2.1, uz (mixS Y R 40 w).2.2.2 w (Y.2.2.2 w)) = wS h r (mixS Y R 40 (w + 1)) :=
  wS_c (fun n _ _ => rfl) (fun n _ _ => rfl) (fun n _ _ => rfl) (fun n _ _ => mix_uz Y.2.2.2 R.2.2.2 w n _ rfl)
theorem c_joinAll (hK : Sk h K) (hJ : Jn h j x y o r) (hX : St h x X) (hO : St h o X) (hY : St h y Y) (hR : St h r R) (dx : r + 6 ≤ x ∨ x + 6 ≤ r) (do' : r + 6 ≤ o ∨ o + 6 ≤ r) (dy : r + 6 ≤ y ∨ y + 6 ≤ r) (dj : j < r ∨ r + 5 < j) (tx : tidy K X) (ty : tidy K Y) (hz : roots K Y) (KK : P (.inl none) (wS h r Y)) : En V (d + 4) 136 0 [some (.ref j), none] [] h P := by
  have rr := hR.2.2.2.2.2.2.1
  have yr := hY.2.2.2.2.2.2.1
  have kr := hK.2.2.2.2.2.2.2.2.2.2
  -- what holds beside a written state
  have fr : ∀ T, rS T → Sk (wS h r T) K ∧ Jn (wS h r T) j x y o r ∧ St (wS h r T) x X ∧ St (wS h r T) o X ∧ St (wS h r T) y Y ∧ St (wS h r T) r T := fun T hT => ⟨hK.wS hR, (wS_out (by omega)).trans hJ, wS_ne hX dx, wS_ne hO do', wS_ne hY dy, wS_St hR hT⟩
  refine n_go f_136_0 rfl (pc' := 1) (st' := .int (iI 0) :: _) rfl ?_
  refine n_go f_136_1 rfl (pc' := 2) (ls' := [_, _]) rfl ?_
  refine n_for (lo := 0) (hi := 40) (by decide) (fun i ls st h' => ls = [some (.ref j), some (.int (iI i))] ∧ st = [] ∧ h' = wS h r (mixS Y R i 0)) ⟨rfl, rfl, by rw [mixS_0, wS_self hR]⟩ ?_ ?_
  · rintro i ls st h' h1 h2 ⟨rfl, rfl, rfl⟩ kk
    have mr := mixS_r (i := i) (w := 0) yr rr
    obtain ⟨f1, f2, f3, f4, f5, f6⟩ := fr _ mr
    have dr := setAt_r (n := i) (w := fun _ => -2) mr (fun _ => by decide)
    obtain ⟨g1, g2, g3, g4, g5, g6⟩ := fr _ dr
    have ff := f2
    have gg := g2
    unfold Jn at ff gg
    have f60 := f6.1
    have g30 := g3.1
    have g50 := g5.1
    have yw : (fun k => vS Y k i) 0 = Y.1 i ∧ (fun k => vS Y k i) 1 = Y.2.1 i ∧ (fun k => vS Y k i) 2 = Y.2.2.1 i := ⟨rfl, rfl, rfl⟩
    refine n_go f_136_2 rfl (pc' := 3) rfl ?_
    refine n_bip (m := 40) f_136_3 rfl (by decide) ?_
    refine n_ic_ge f_136_5 rfl rfl ⟨by omega, by omega⟩ (fun e9 => absurd e9 (by omega)) (fun _ => ?_)
    refine n_go f_136_8 rfl (pc' := 9) rfl ?_
    refine n_gf f_136_9 rfl (by assumption) rfl ?_
    refine n_go f_136_12 rfl (pc' := 13) rfl ?_
    refine n_cv (ls' := [_, _, _]) f_136_13 (by decide) m_152 rfl rfl (by assumption) rfl ?_
    refine c_drop f6 ⟨h1, h2⟩ ?_
    show En V _ 136 16 _ [] _ _
    rw [wS_w]
    refine n_go f_136_16 rfl (pc' := 17) rfl ?_
    refine n_gf f_136_17 rfl (by assumption) rfl ?_
    refine n_go f_136_20 rfl (pc' := 21) rfl ?_
    refine n_cv (ls' := [_, _]) f_136_21 (by decide) m_133 rfl rfl (by assumption) rfl ?_
    refine c_has g3 (by omega) ?_
    show En V _ 136 24 _ [_] _ _
    refine n_ib_eq f_136_24 rfl rfl (fun e1 => ?_) (fun e1 => ?_)
    · -- not in X
      refine n_go f_136_46 rfl (pc' := 47) rfl ?_
      refine n_gf f_136_47 rfl (by assumption) rfl ?_
      refine n_go f_136_50 rfl (pc' := 51) rfl ?_
      refine n_cv (ls' := [_, _]) f_136_51 (by decide) m_133 rfl rfl (by assumption) rfl ?_
      refine c_has g3 (by omega) ?_
      show En V _ 136 54 _ [_] _ _
      refine n_ib_eq f_136_54 rfl rfl (fun _ => ?_) (fun e9 => absurd (e9.symm.trans (e1)) (by decide))
      refine n_go f_136_69 rfl (pc' := 70) rfl ?_
      refine n_gf f_136_70 rfl (by assumption) rfl ?_
      refine n_go f_136_73 rfl (pc' := 74) rfl ?_
      refine n_cv (ls' := [_, _]) f_136_74 (by decide) m_133 rfl rfl (by assumption) rfl ?_
      refine c_has g5 (by omega) ?_
      show En V _ 136 77 _ [_] _ _
      refine n_ib_eq f_136_77 rfl rfl (fun e2 => ?_) (fun e2 => ?_)
      · refine n_iinc (m' := 1) (ls' := [_, _]) f_136_89 rfl rfl rfl rfl ?_
        refine n_go f_136_92 rfl (pc' := 2) rfl ?_
        obtain ⟨a1, a2, a3⟩ := ty.2 i h1 h2 e2
        exact kk _ _ _ ⟨rfl, rfl, mixS_d ⟨a1.symm, a2.symm, a3.symm⟩⟩
      refine n_go f_136_80 rfl (pc' := 81) rfl ?_
      refine n_go f_136_81 rfl (pc' := 82) rfl ?_
      refine n_go f_136_82 rfl (pc' := 83) rfl ?_
      refine n_gf f_136_83 rfl (by assumption) rfl ?_
      refine n_cv (ls' := [_, _, _]) f_136_86 (by decide) m_172 rfl rfl (by assumption) rfl ?_
      refine c_joinLone1 g2 g5 g4 g6 dy ⟨h1, h2⟩ e1 ?_
      show En V _ 136 89 _ [] _ _
      rw [wS_w, mixS_n yw]
      refine n_iinc (m' := 1) (ls' := [_, _]) f_136_89 rfl rfl rfl rfl ?_
      refine n_go f_136_92 rfl (pc' := 2) rfl ?_
      exact kk _ _ _ ⟨rfl, rfl, rfl⟩
    refine n_go f_136_27 rfl (pc' := 28) rfl ?_
    refine n_gf f_136_28 rfl (by assumption) rfl ?_
    refine n_go f_136_31 rfl (pc' := 32) rfl ?_
    refine n_cv (ls' := [_, _]) f_136_32 (by decide) m_133 rfl rfl (by assumption) rfl ?_
    refine c_has g5 (by omega) ?_
    show En V _ 136 35 _ [_] _ _
    refine n_ib_eq f_136_35 rfl rfl (fun e2 => ?_) (fun e2 => ?_)
    · refine n_go f_136_46 rfl (pc' := 47) rfl ?_
      refine n_gf f_136_47 rfl (by assumption) rfl ?_
      refine n_go f_136_50 rfl (pc' := 51) rfl ?_
      refine n_cv (ls' := [_, _]) f_136_51 (by decide) m_133 rfl rfl (by assumption) rfl ?_
      refine c_has g3 (by omega) ?_
      show En V _ 136 54 _ [_] _ _
      refine n_ib_eq f_136_54 rfl rfl (fun e9 => absurd (e9.symm.trans (e1)) (by decide)) (fun _ => ?_)
      refine n_go f_136_57 rfl (pc' := 58) rfl ?_
      refine n_go f_136_58 rfl (pc' := 59) rfl ?_
      refine n_go f_136_59 rfl (pc' := 60) rfl ?_
      refine n_gf f_136_60 rfl (by assumption) rfl ?_
      refine n_cv (ls' := [_, _, _]) f_136_63 (by decide) m_172 rfl rfl (by assumption) rfl ?_
      refine c_joinLone0 g1 g2 g3 g4 ⟨h1, h2⟩ e1 ?_
      show En V _ 136 66 _ [] _ _
      refine n_go f_136_66 rfl (pc' := 89) rfl ?_
      refine n_iinc (m' := 1) (ls' := [_, _]) f_136_89 rfl rfl rfl rfl ?_
      refine n_go f_136_92 rfl (pc' := 2) rfl ?_
      obtain ⟨a1, a2, a3⟩ := ty.2 i h1 h2 e2
      exact kk _ _ _ ⟨rfl, rfl, mixS_d ⟨a1.symm, a2.symm, a3.symm⟩⟩
    refine n_go f_136_38 rfl (pc' := 39) rfl ?_
    refine n_go f_136_39 rfl (pc' := 40) rfl ?_
    refine n_cv (ls' := [_, _, _]) f_136_40 (by decide) m_171 rfl rfl (by assumption) rfl ?_
    refine c_joinNode g2 g3 g4 g5 g6 dx do' dy dj ⟨h1, h2⟩ ?_
    show En V _ 136 43 _ [] _ _
    rw [wS_w, mixS_n yw]
    refine n_go f_136_43 rfl (pc' := 89) rfl ?_
    refine n_iinc (m' := 1) (ls' := [_, _]) f_136_89 rfl rfl rfl rfl ?_
    refine n_go f_136_92 rfl (pc' := 2) rfl ?_
    exact kk _ _ _ ⟨rfl, rfl, rfl⟩
  rintro ls st h' ⟨rfl, rfl, rfl⟩
  refine n_go f_136_2 rfl (pc' := 3) rfl ?_
  refine n_bip (m := 40) f_136_3 rfl (by decide) ?_
  refine n_ic_ge f_136_5 rfl rfl ⟨by omega, by omega⟩ (fun _ => ?_) (fun e9 => absurd (by omega) e9)
  refine n_go f_136_95 rfl (pc' := 96) (st' := .int (iI 0) :: _) rfl ?_
  refine n_go f_136_96 rfl (pc' := 97) (ls' := [_, _]) rfl ?_
  refine n_for (lo := 0) (hi := 120) (by decide) (fun i ls st h' => ls = [some (.ref j), some (.int (iI i))] ∧ st = [] ∧ h' = wS h r (mixS Y R 40 i)) ⟨rfl, rfl, rfl⟩ ?_ ?_
  · rintro i ls st h' h1 h2 ⟨rfl, rfl, rfl⟩ kk
    have mr := mixS_r (i := 40) (w := i) yr rr
    obtain ⟨f1, f2, f3, f4, f5, f6⟩ := fr _ mr
    have ff := f2
    unfold Jn at ff
    have f60 := f6.1
    have lr := kr.2.2.2.2.2.2.2.1 i
    have hl : hs (mixS Y R 40 i) (kL K i) = hs Y (kL K i) := by
      unfold hs
      rw [show (mixS Y R 40 i).2.1 (kL K i) = Y.2.1 (kL K i) from if_pos lr.2]
    refine n_go f_136_97 rfl (pc' := 98) rfl ?_
    refine n_bip (m := 120) f_136_98 rfl (by decide) ?_
    refine n_ic_ge f_136_100 rfl rfl ⟨by omega, by omega⟩ (fun e9 => absurd e9 (by omega)) (fun _ => ?_)
    refine n_go f_136_103 rfl (pc' := 104) rfl ?_
    refine n_gf f_136_104 rfl (by assumption) rfl ?_
    refine n_go f_136_107 rfl (pc' := 108) rfl ?_
    refine n_go f_136_108 rfl (pc' := 109) rfl ?_
    refine n_go f_136_109 rfl (pc' := 110) rfl ?_
    refine n_cv (ls' := [_, _, _]) f_136_110 (by decide) m_173 rfl rfl (by assumption) rfl ?_
    refine c_wordSaid f1 f2 f3 f4 f5 f6 tx ty hl ⟨h1, h2⟩ ?_
    show En V _ 136 113 _ [_, _, _] _ _
    refine n_cv (ls' := [_, _, _]) f_136_113 (by decide) m_114 rfl rfl (by assumption) rfl ?_
    refine c_say f6 ⟨h1, h2⟩ ?_
    show En V _ 136 116 _ [] _ _
    refine n_iinc (m' := 1) (ls' := [_, _]) f_136_116 rfl rfl rfl rfl ?_
    refine n_go f_136_119 rfl (pc' := 97) rfl ?_
    exact kk _ _ _ ⟨rfl, rfl, by rw [wS_w, mixS_w]⟩
  rintro ls st h' ⟨rfl, rfl, rfl⟩
  rw [mixS_e]
  obtain ⟨f1, f2, f3, f4, f5, f6⟩ := fr _ yr
  have ff := f2
  unfold Jn at ff
  refine n_go f_136_97 rfl (pc' := 98) rfl ?_
  refine n_bip (m := 120) f_136_98 rfl (by decide) ?_
  refine n_ic_ge f_136_100 rfl rfl ⟨by omega, by omega⟩ (fun _ => ?_) (fun e9 => absurd (by omega) e9)
  refine n_go f_136_122 rfl (pc' := 123) rfl ?_
  refine n_cv (ls' := [_, _, _, _, _]) f_136_123 (by decide) m_141 rfl rfl (by assumption) rfl ?_
  refine c_untie f1 f2 f6 hz ?_
  show En V _ 136 126 _ [] _ _
  refine n_go f_136_126 rfl (pc' := 127) rfl ?_
  refine n_cv (ls' := [_, _, _, _, _]) f_136_127 (by decide) m_142 rfl rfl (by assumption) rfl ?_
  refine c_bring f1 f2 f6 hz ?_
  show En V _ 136 130 _ [] _ _
  refine n_ret f_136_130 rfl rfl ?_
  exact KK
theorem c_playAll (hK : Sk h K) (hJ : Jn h j x y o r) (hX : St h x X) (hR : St h r R) (dx : r + 6 ≤ x ∨ x + 6 ≤ r) (dj : j < r ∨ r + 5 < j) (hC : ScL h []) (hrr : 28 ≤ r) (hz : roots K X) (KK : P (.inl none) (wS h r X)) : En V (d + 4) 92 0 [some (.ref j), some (.ref 25), none, none] [] h P := by
  have xr := hX.2.2.2.2.2.2.1
  have jj := hJ
  unfold Jn at jj
  have r0 := hR.1
  have f1 : Sk (wS h r X) K := hK.wS hR
  have f2 : Jn (wS h r X) j x y o r := (wS_out (by omega)).trans hJ
  have f6 : St (wS h r X) r X := wS_St hR xr
  have f7 : ScL (wS h r X) [] := hC.of (fun _ _ _ => wS_out (by omega))
  obtain ⟨fk, fn, c1, -⟩ := id f7
  have ff := f2
  unfold Jn at ff
  refine n_go f_92_0 rfl (pc' := 1) rfl ?_
  refine n_gf f_92_1 rfl (by assumption) rfl ?_
  refine n_go f_92_4 rfl (pc' := 5) rfl ?_
  refine n_gf f_92_5 rfl (by assumption) rfl ?_
  refine n_cv (ls' := [_, _]) f_92_8 (by decide) m_28 rfl rfl (by assumption) rfl ?_
  refine c_copyFrom hR hX dx ?_
  show En V _ 92 11 _ [] _ _
  refine n_go f_92_11 rfl (pc' := 12) (st' := .int (iI 0) :: _) rfl ?_
  refine n_go f_92_12 rfl (pc' := 13) (ls' := [_, _, _, _]) rfl ?_
  refine n_go f_92_13 rfl (pc' := 14) rfl ?_
  refine n_go f_92_14 rfl (pc' := 15) rfl ?_
  refine n_cv (ls' := [_]) f_92_15 (by decide) m_57 rfl rfl (by assumption) rfl ?_
  refine c_count f7 ?_
  show En V _ 92 18 _ [_, _] _ _
  show En V _ _ 18 _ [.int (iI 0), .int (iI 0)] _ _
  refine n_ic_ge f_92_18 rfl rfl ⟨by omega, by omega⟩ (fun _ => ?_) (fun e9 => absurd (by omega) e9)
  refine n_go f_92_171 rfl (pc' := 172) rfl ?_
  refine n_cv (ls' := [_, _, _, _, _]) f_92_172 (by decide) m_141 rfl rfl (by assumption) rfl ?_
  refine c_untie f1 f2 f6 hz ?_
  show En V _ 92 175 _ [] _ _
  refine n_go f_92_175 rfl (pc' := 176) rfl ?_
  refine n_cv (ls' := [_, _, _, _, _]) f_92_176 (by decide) m_142 rfl rfl (by assumption) rfl ?_
  refine c_bring f1 f2 f6 hz ?_
  show En V _ 92 179 _ [] _ _
  refine n_ret f_92_179 rfl rfl ?_
  exact KK
end CA
