/-! The law's edits: a node put, a tag. -/
/-- at most so much is made -/
def Gw (h h' : ev_H) (c s : Nat) : Prop := h.1.length ≤ h'.1.length ∧ h'.1.length ≤ h.1.length + c ∧ h'.2.2 ≤ h.2.2 + s
theorem Gm.gw {h h' : ev_H} {c s : Nat} (g : Gm h h' c s) : Gw h h' c s := ⟨g.1, g.2.1, g.2.2.1⟩
theorem Ek.gw {h h' : ev_H} (g : Ek h h') : Gw h h' 0 0 := ⟨by rw [g.2.1]; exact Nat.le_refl _, by rw [g.2.1]; exact Nat.le_refl _, by rw [g.1]; exact Nat.le_refl _⟩
theorem Gw.tr {a b c : ev_H} {x y x' y' : Nat} (h1 : Gw a b x y) (h2 : Gw b c x' y') : Gw a c (x + x') (y + y') := ⟨by have := h1.1; have := h2.1; omega, by have := h1.2.1; have := h2.2.1; omega, by have := h1.2.2; have := h2.2.2; omega⟩
theorem Gw.le {h h' : ev_H} {c s c' s' : Nat} (g : Gw h h' c s) (hc : c ≤ c') (hs' : s ≤ s') : Gw h h' c' s' := ⟨g.1, by have := g.2.1; omega, by have := g.2.2; omega⟩
theorem rp_r {D F : Int → Int} {o p pl m : Int} : 0 ≤ rpF D F o p pl m ∧ rpF D F o p pl m ≤ 16 := by
  unfold rpF
  split
  · omega
  · split
    · omega
    · unfold lrow; omega
theorem bd_D {K : dK} {T : dS} {D D' Z' : Int → Int} {o : Int} (hK : kI K) (hJ : sJ K T) (hR : rD K T D' Z' o) (hD : ∀ i, 0 ≤ D i ∧ D i < 60000) (hO : ∀ i, ¬ (o ≤ i ∧ i < o + 10) → D' i = D i) : ∀ i, 0 ≤ D' i ∧ D' i < 60000 := fun i => by
  by_cases c : o ≤ i ∧ i < o + 10
  · have e : o + (i - o) = i := by omega
    cases c2 : hs T (i - o) with
    | true =>
      have := (rD_t hK hJ hR c2).1
      rw [e] at this
      omega
    | false =>
      have := (hR.1 (i - o) (by omega) (by omega) c2).1
      rw [e] at this
      omega
  · rw [hO i c]
    exact hD i
section LF
variable {V : ev_V} {d : Nat} {h : ev_H} {P : ev_O → ev_H → Prop} {w : dW} {b kd nd pa pl sm tg : Int} {n dd e z v f y k q p : Int → Int}
theorem c_ledP (hL : Lst h w n dd e z v f y k q p) (hl : 92 ≤ h.1.length ∧ h.1.length < 900000) (hb : 0 ≤ b ∧ b < wB w) (hp : hs (wD w b) pa = true) (hk : kK (wK w) pa ≤ 1) (hpl : 0 ≤ pl ∧ pl ≤ cnI 40 (fun i => decide (hold (wK w) (wD w b) i = pa))) (hsm : 0 ≤ sm ∧ sm ≤ 3) (htg : 0 ≤ tg ∧ tg ≤ 9) (hN : kN (wK w) < 10) (hS : kS (wK w) < 112)
    (OK : okS (plS (plN (wK w) sm) (kN (wK w)) pa) (putT (wK w) (wD w b) tg) → ∀ h' d', Wd h' w → Gw h h' 3 30 → Hp h' (uz (uz n 0 (kN (wK w) + 1)) 7 (kS (wK w) + 2)) d' e (uz z (10 * b + kN (wK w)) (kS (wK w) + 1)) v f y (uz k (kN (wK w)) sm) q p → (∀ ah u, ahd (wK w) (wD w b) pa (-1) pl ah → insd (kQ (wK w)) (kS (wK w)) ah u → rD (kpS (kpN (plS (plN (wK w) sm) (kN (wK w)) pa)) u) (putT (wK w) (wD w b) tg) d' (uz z (10 * b + kN (wK w)) (kS (wK w) + 1)) (10 * b)) → (∀ i, ¬ (10 * b ≤ i ∧ i < 10 * b + 10) → d' i = dd i) → P (.inl (some (.int (iI (kN (wK w)))))) h')
    (NO : ¬ okS (plS (plN (wK w) sm) (kN (wK w)) pa) (putT (wK w) (wD w b) tg) → ∀ h', Wd h' w → Gw h h' 3 30 → Hp h' n dd e z v f y (uz k (kN (wK w)) sm) q p → P (.inl (some (.int (iI (-13))))) h') :
    En V (d + 3) 5 0 [some (.ref 82), some (.ref 83), some (.ref 84), some (.ref 85), some (.int (iI (10 * b))), some (.ref 89), some (.ref 90), some (.int (iI 0)), some (.int (iI nd)), some (.int (iI pa)), some (.int (iI pl)), some (.int (iI sm)), some (.int (iI tg)), none, none, none, none, none, none, none, none, none, none] [] h P := by
  obtain ⟨hW, hK, ⟨n0, n1, n2, n3, n7, n4⟩, hP, hOO, rw', rf', hH, hE, hpp, hbd, hbv⟩ := id hL
  have tb := hW.2.2.1.2.2.2.1
  have kr := hW.1.2.2.2.2.2.2.2.2.2.2
  have kn := hK.2.2.1
  have ks0 := hK.2.2.2.2.1
  obtain ⟨⟨hI, ⟨dp, hT⟩, hOk⟩, hR, hEe⟩ := hOO.1 b hb.1 hb.2
  have hpr := hs_r hp
  have hpn := (hI.1.1 pa hpr.1 hpr.2.1 hp).1
  have hk2 : kK (wK w) pa = 0 ∨ kK (wK w) pa = 1 := by have := kr.2.2.2.1 pa; omega
  have bn : ∀ i, (0 ≤ n i ∧ n i < 1000000) ∧ (0 ≤ dd i ∧ dd i < 1000000) ∧ (0 ≤ e i ∧ e i < 1000000) ∧ 0 ≤ z i ∧ z i < 1000000 := fun i => ⟨hH.1.2.2.2.2 i, hH.2.1.2.2.2.2 i, hH.2.2.1.2.2.2.2 i, hH.2.2.2.1.2.2.2.2 i⟩
  have hor : 0 ≤ 10 * b ∧ 10 * b + 10 ≤ 30 := by omega
  have hcl := ch_le hK hI.1 hpr.1
  refine c_led0 hW.2.2.2.2.2.2.2.2 hl hH hor (fun h0 a hG0 hl0 ho0 hS0 => ?_)
  have hW0 : Wd h0 w := Wd_grow hW ho0 hl0
  have H0 := hH.gm hG0
  have E0 : Ek h0 h0 := Ek.rf h0
  rw [n7]
  have hr9 := rp_r (D := dd) (F := k) (o := 10 * b) (p := pa) (pl := pl) (m := kN (wK w))
  have b0 := H0.1.1
  refine n_go f_5_59 rfl (pc' := 61) rfl ?_
  refine n_if_ne f_5_61 rfl rfl (by omega) (fun e9 => absurd e9 (by omega)) (fun _ => ?_)
  refine n_go f_5_64 rfl (pc' := 65) rfl ?_
  refine n_go f_5_65 rfl (pc' := 66) rfl ?_
  refine n_go f_5_66 rfl (pc' := 68) rfl ?_
  refine n_go f_5_68 rfl (pc' := 70) rfl ?_
  refine n_go f_5_70 rfl (pc' := 72) rfl ?_
  refine n_go f_5_72 rfl (pc' := 74) rfl ?_
  refine n_cs (ls' := [_, _, _, _, _, _, _]) f_5_74 (by decide) m_38 rfl rfl ?_
  refine c_lrowPlace H0.1 ⟨n0, kn⟩ H0.2.1 H0.2.2.2.2.2.2.2.1 hor (by omega) (by omega) ?_
  show En V _ 5 77 _ [_] _ _
  have hrp : ∀ ah u, ahd (wK w) (wD w b) pa (-1) pl ah → insd (kQ (wK w)) (kS (wK w)) ah u → rD (kpS (kpN (plS (plN (wK w) sm) (kN (wK w)) pa)) u) (putT (wK w) (wD w b) tg) (uz (shF dd (10 * b) pa (rpF dd k (10 * b) pa pl (kN (wK w))) 1 (kN (wK w))) (10 * b + kN (wK w)) (pa + 2 + 16 * rpF dd k (10 * b) pa pl (kN (wK w)) + 256 * tg)) (uz z (10 * b + kN (wK w)) (kS (wK w) + 1)) (10 * b) := fun ah u ha hu => by
    refine pt_D hK hI hR rf' hN (by omega) hu hp hk2 htg ha (uz_same _ _ _) (fun i i1 i2 i3 => ⟨uz_ne _ _ (by omega), uz_ne _ _ (by omega)⟩) (uz_same _ _ _)
  generalize hrr : rpF dd k (10 * b) pa pl (kN (wK w)) = r at *
  have hsb : ∀ i, 0 ≤ shF dd (10 * b) pa r 1 (kN (wK w)) i ∧ shF dd (10 * b) pa r 1 (kN (wK w)) i < 1000000 := fun i => by
    have := (bn i).2.1
    have := hbd i
    unfold shF
    split <;> omega
  have hdout : ∀ i, ¬ (10 * b ≤ i ∧ i < 10 * b + 10) → uz (shF dd (10 * b) pa r 1 (kN (wK w))) (10 * b + kN (wK w)) (pa + 2 + 16 * r + 256 * tg) i = dd i := fun i c => by
    rw [uz_ne _ _ (by omega)]
    unfold shF
    exact if_neg (fun c2 => c (by omega))
  have hdb : ∀ i, 0 ≤ uz (shF dd (10 * b) pa r 1 (kN (wK w))) (10 * b + kN (wK w)) (pa + 2 + 16 * r + 256 * tg) i ∧ uz (shF dd (10 * b) pa r 1 (kN (wK w))) (10 * b + kN (wK w)) (pa + 2 + 16 * r + 256 * tg) i < 1000000 := fun i => by
    have := hsb i
    unfold uz
    split <;> omega
  have hb9 : ∀ i, dd i < 900000 := fun i => by have := hbd i; omega
  refine n_go f_5_77 rfl (pc' := 79) (ls' := [_, _, _, _, _, _, _, _, _, _, _, _, _, _, _, _, _, _, _, _, _, _, _]) rfl ?_
  refine n_go f_5_79 rfl (pc' := 80) rfl ?_
  refine n_go f_5_80 rfl (pc' := 81) rfl ?_
  refine n_go f_5_81 rfl (pc' := 83) rfl ?_
  refine n_go f_5_83 rfl (pc' := 85) rfl ?_
  refine n_go f_5_85 rfl (pc' := 87) rfl ?_
  refine n_go f_5_87 rfl (pc' := 88) (st' := .int (iI 1) :: _) rfl ?_
  refine n_cs (ls' := [_, _, _, _, _, _, _, _]) f_5_88 (by decide) m_39 rfl rfl ?_
  refine c_lshifts H0.1 ⟨n0, kn⟩ H0.2.1 (by decide) hor (by omega) (by omega) (Or.inl rfl) hb9 (fun _ _ _ _ _ => Or.inl rfl) ?_
  show En V _ 5 91 _ [] _ _
  have H1 := Hp_d H0 (g := shF dd (10 * b) pa r 1 (kN (wK w))) hsb
  have E1 : Ek h0 (ev_set h0 83 (aI 30 (shF dd (10 * b) pa r 1 (kN (wK w))))) := Ek.set (by decide)
  generalize ev_set h0 83 (aI 30 (shF dd (10 * b) pa r 1 (kN (wK w)))) = h1 at *
  have b1 := H1.1.1
  have d1 := H1.2.1.1
  refine n_go f_5_91 rfl (pc' := 92) rfl ?_
  refine n_go f_5_92 rfl (pc' := 93) (st' := .int (iI 0) :: _) rfl ?_
  refine n_ial f_5_93 rfl (b1) (by unfold ev_ext; omega) (by omega) ?_
  rw [n0]
  refine n_go f_5_94 rfl (pc' := 96) (ls' := [_, _, _, _, _, _, _, _, _, _, _, _, _, _, _, _, _, _, _, _, _, _, _]) rfl ?_
  refine n_go f_5_96 rfl (pc' := 97) rfl ?_
  refine n_go f_5_97 rfl (pc' := 99) rfl ?_
  refine n_go f_5_99 rfl (pc' := 101) rfl ?_
  refine n_iadd f_5_101 rfl ?_
  refine n_go f_5_102 rfl (pc' := 104) rfl ?_
  refine n_go f_5_104 rfl (pc' := 105) (st' := .int (iI 2) :: _) rfl ?_
  refine n_iadd f_5_105 rfl ?_
  refine n_bip (m := 16) f_5_106 rfl (by decide) ?_
  refine n_go f_5_108 rfl (pc' := 110) rfl ?_
  refine n_imul f_5_110 rfl ?_
  refine n_iadd f_5_111 rfl ?_
  refine n_sip (m := 256) f_5_112 rfl (by decide) ?_
  refine n_go f_5_115 rfl (pc' := 117) rfl ?_
  refine n_imul f_5_117 rfl ?_
  refine n_iadd f_5_118 rfl ?_
  refine n_ias f_5_119 rfl (d1) (by omega) ?_
  have H2 := Hp_d H1 (g := uz (shF dd (10 * b) pa r 1 (kN (wK w))) (10 * b + kN (wK w)) (pa + 2 + 16 * r + 256 * tg)) hdb
  have E2 : Ek h0 (ev_set h1 83 (aI 30 (uz (shF dd (10 * b) pa r 1 (kN (wK w))) (10 * b + kN (wK w)) (pa + 2 + 16 * r + 256 * tg)))) := E1.tr (Ek.set (by decide))
  generalize uz (shF dd (10 * b) pa r 1 (kN (wK w))) (10 * b + kN (wK w)) (pa + 2 + 16 * r + 256 * tg) = d' at *
  generalize ev_set h1 83 (aI 30 d') = h2 at *
  have k2 := H2.2.2.2.2.2.2.2.1.1
  refine n_go f_5_120 rfl (pc' := 122) rfl ?_
  refine n_go f_5_122 rfl (pc' := 124) rfl ?_
  refine n_go f_5_124 rfl (pc' := 126) rfl ?_
  refine n_ias f_5_126 rfl (k2) (by omega) ?_
  have H3 := Hp_k H2 (g := uz k (kN (wK w)) sm) (fun i => by have := hH.2.2.2.2.2.2.2.1.2.2.2.2 i; unfold uz; split <;> omega)
  have E3 : Ek h0 (ev_set h2 89 (aI 10 (uz k (kN (wK w)) sm))) := E2.tr (Ek.set (by decide))
  generalize ev_set h2 89 (aI 10 (uz k (kN (wK w)) sm)) = h3 at *
  have b3 := H3.1.1
  have z3 := H3.2.2.2.1.1
  refine n_go f_5_127 rfl (pc' := 128) rfl ?_
  refine n_go f_5_128 rfl (pc' := 130) rfl ?_
  refine n_go f_5_130 rfl (pc' := 132) rfl ?_
  refine n_iadd f_5_132 rfl ?_
  refine n_go f_5_133 rfl (pc' := 134) rfl ?_
  refine n_bip (m := 7) f_5_134 rfl (by decide) ?_
  refine n_ial f_5_136 rfl (b3) (by unfold ev_ext; omega) (by omega) ?_
  rw [n7]
  refine n_ias f_5_137 rfl (z3) (by omega) ?_
  have H4 := Hp_z H3 (g := uz z (10 * b + kN (wK w)) (kS (wK w) + 1)) (fun i => by have := (bn i).2.2.2; unfold uz; split <;> omega)
  have E4 : Ek h0 (ev_set h3 85 (aI 30 (uz z (10 * b + kN (wK w)) (kS (wK w) + 1)))) := E3.tr (Ek.set (by decide))
  generalize ev_set h3 85 (aI 30 (uz z (10 * b + kN (wK w)) (kS (wK w) + 1))) = h4 at *
  have b4 := H4.1.1
  refine n_go f_5_138 rfl (pc' := 139) rfl ?_
  refine n_go f_5_139 rfl (pc' := 140) (st' := .int (iI 0) :: _) rfl ?_
  refine n_go f_5_140 rfl (pc' := 141) rfl ?_
  refine n_ial f_5_141 rfl (b4) (by unfold ev_ext; omega) (by omega) ?_
  refine n_go f_5_142 rfl (pc' := 143) (st' := .int (iI 1) :: _) rfl ?_
  refine n_iadd f_5_143 rfl ?_
  refine n_ias f_5_144 rfl (b4) (by omega) ?_
  rw [n0]
  have H5 := Hp_n H4 (g := uz n 0 (kN (wK w) + 1)) (fun i => by have := (bn i).1; unfold uz; split <;> omega)
  have E5 : Ek h0 (ev_set h4 82 (aI 8 (uz n 0 (kN (wK w) + 1)))) := E4.tr (Ek.set (by decide))
  generalize ev_set h4 82 (aI 8 (uz n 0 (kN (wK w) + 1))) = h5 at *
  have b5 := H5.1.1
  refine n_go f_5_145 rfl (pc' := 146) rfl ?_
  refine n_bip (m := 7) f_5_146 rfl (by decide) ?_
  refine n_go f_5_148 rfl (pc' := 149) rfl ?_
  refine n_ial f_5_149 rfl (b5) (by unfold ev_ext; omega) (by omega) ?_
  refine n_go f_5_150 rfl (pc' := 151) (st' := .int (iI 1) :: _) rfl ?_
  refine n_iadd f_5_151 rfl ?_
  refine n_ias f_5_152 rfl (b5) (by omega) ?_
  refine n_go f_5_153 rfl (pc' := 489) rfl ?_
  have e7 : uz n 0 (kN (wK w) + 1) 7 = kS (wK w) + 1 := (uz_ne _ _ (by decide)).trans n7
  rw [e7, show kS (wK w) + 1 + 1 = kS (wK w) + 2 by omega]
  have H6 := Hp_n H5 (g := uz (uz n 0 (kN (wK w) + 1)) 7 (kS (wK w) + 2)) (fun i => by have := (bn i).1; unfold uz; split <;> (try split) <;> omega)
  have E6 : Ek h0 (ev_set h5 82 (aI 8 (uz (uz n 0 (kN (wK w) + 1)) 7 (kS (wK w) + 2)))) := E5.tr (Ek.set (by decide))
  generalize ev_set h5 82 (aI 8 (uz (uz n 0 (kN (wK w) + 1)) 7 (kS (wK w) + 2))) = h6 at *
  -- the rules
  obtain ⟨ah, ha⟩ := ah_ex (lo := -1) (S := wD w b) hK hI.1 hpr.1 hk2 (pl := pl) ⟨hpl.1, by rw [cn_m1]; exact hpl.2⟩
  obtain ⟨u, hu⟩ := ins_ex ks0 hK.1 (ah_r hK hI.1 hpr.1 ha)
  have hx := pt_kx (sm := sm) (p := pa) hK hN (by omega) hu
  have hI2 := pt_I (sm := sm) hK hI hN (by omega) hu hp hk htg
  have hT2 := pt_T (sm := sm) hK hI hT hOk hN (by omega) hu hp htg
  have e80 : uz (uz n 0 (kN (wK w) + 1)) 7 (kS (wK w) + 2) 0 = kN (wK w) + 1 := (uz_ne _ _ (by decide)).trans (uz_same _ _ _)
  refine c_led9 (K := kpS (kpN (plS (plN (wK w) sm) (kN (wK w)) pa)) u) H6 e80 hx.1 hI2 hT2 (hrp ah u ha hu) (fun i i1 i2 => ?_) (hS0.ek E6) hor (fun i c => ⟨hdout i c, rfl, uz_ne _ _ (by omega)⟩) (fun i c1 c2 => (uz_ne _ _ c2).trans (uz_ne _ _ c1)) bn n0.symm n7.symm (fun hO => OK hO h6 d' (Wd_ek hW0 E6) ((hG0.gw.tr E6.gw).le (by omega) (by omega)) H6 hrp hdout) (fun hO h7 hE7 hH7 => NO hO h7 (Wd_ek (Wd_ek hW0 E6) hE7) (((hG0.gw.tr E6.gw).tr hE7.gw).le (by omega) (by omega)) hH7)
  have i2 : i < kN (wK w) + 1 := i2
  show uz k (kN (wK w)) sm i = uz (kK (wK w)) (kN (wK w)) sm i
  by_cases c : i = kN (wK w)
  · rw [c, uz_same, uz_same]
  · rw [uz_ne _ _ c, uz_ne _ _ c]
    exact rf' i i1 (by omega)
theorem c_ledT (hL : Lst h w n dd e z v f y k q p) (hl : 92 ≤ h.1.length ∧ h.1.length < 900000) (hb : 0 ≤ b ∧ b < wB w) (hp : hs (wD w b) nd = true) (htg : 0 ≤ tg ∧ tg ≤ 9)
    (OK : okS (wK w) (tagT (wD w b) nd tg) → ∀ h' d', Wd h' w → Gw h h' 3 30 → Hp h' n d' e z v f y k q p → rD (wK w) (tagT (wD w b) nd tg) d' z (10 * b) → (∀ i, ¬ (10 * b ≤ i ∧ i < 10 * b + 10) → d' i = dd i) → P (.inl (some (.int (iI ((wD w b).2.1 nd))))) h')
    (NO : ¬ okS (wK w) (tagT (wD w b) nd tg) → ∀ h', Wd h' w → Gw h h' 3 30 → Hp h' n dd e z v f y k q p → P (.inl (some (.int (iI (-13))))) h') :
    En V (d + 3) 5 0 [some (.ref 82), some (.ref 83), some (.ref 84), some (.ref 85), some (.int (iI (10 * b))), some (.ref 89), some (.ref 90), some (.int (iI 3)), some (.int (iI nd)), some (.int (iI pa)), some (.int (iI pl)), some (.int (iI sm)), some (.int (iI tg)), none, none, none, none, none, none, none, none, none, none] [] h P := by
  obtain ⟨hW, hK, ⟨n0, n1, n2, n3, n7, n4⟩, hP, hOO, rw', rf', hH, hE, hpp, hbd, hbv⟩ := id hL
  have tb := hW.2.2.1.2.2.2.1
  have kn := hK.2.2.1
  obtain ⟨⟨hI, ⟨dp, hT⟩, hOk⟩, hR, hEe⟩ := hOO.1 b hb.1 hb.2
  have hpr := hs_r hp
  have hpn := hI.1.1 nd hpr.1 hpr.2.1 hp
  have bn : ∀ i, (0 ≤ n i ∧ n i < 1000000) ∧ (0 ≤ dd i ∧ dd i < 1000000) ∧ (0 ≤ e i ∧ e i < 1000000) ∧ 0 ≤ z i ∧ z i < 1000000 := fun i => ⟨hH.1.2.2.2.2 i, hH.2.1.2.2.2.2 i, hH.2.2.1.2.2.2.2 i, hH.2.2.2.1.2.2.2.2 i⟩
  have hor : 0 ≤ 10 * b ∧ 10 * b + 10 ≤ 30 := by omega
  refine c_led0 hW.2.2.2.2.2.2.2.2 hl hH hor (fun h0 a hG0 hl0 ho0 hS0 => ?_)
  have hW0 : Wd h0 w := Wd_grow hW ho0 hl0
  have H0 := hH.gm hG0
  have d0 := H0.2.1.1
  have bd0 := (bn (10 * b + nd)).2.1
  have rn := (rD_t hK hI.1 hR hp).1
  refine n_go f_5_59 rfl (pc' := 61) rfl ?_
  refine n_if_ne f_5_61 rfl rfl (by omega) (fun _ => ?_) (fun e9 => absurd (by omega) e9)
  refine n_go f_5_156 rfl (pc' := 158) rfl ?_
  refine n_go f_5_158 rfl (pc' := 159) (st' := .int (iI 1) :: _) rfl ?_
  refine n_ic_ne f_5_159 rfl rfl ⟨by omega, by omega⟩ (fun _ => ?_) (fun e9 => absurd (by omega) e9)
  refine n_go f_5_317 rfl (pc' := 319) rfl ?_
  refine n_go f_5_319 rfl (pc' := 320) (st' := .int (iI 2) :: _) rfl ?_
  refine n_ic_ne f_5_320 rfl rfl ⟨by omega, by omega⟩ (fun _ => ?_) (fun e9 => absurd (by omega) e9)
  refine n_go f_5_454 rfl (pc' := 455) rfl ?_
  refine n_go f_5_455 rfl (pc' := 457) rfl ?_
  refine n_go f_5_457 rfl (pc' := 459) rfl ?_
  refine n_iadd f_5_459 rfl ?_
  refine n_ial f_5_460 rfl (d0) (by unfold ev_ext; omega) (by omega) ?_
  refine n_sip (m := 256) f_5_461 rfl (by decide) ?_
  refine n_idiv f_5_464 rfl (by omega) ?_
  refine n_bip (m := 16) f_5_465 rfl (by decide) ?_
  refine n_irem f_5_467 rfl (by omega) ?_
  rw [rn.2.2.1]
  refine n_go f_5_468 rfl (pc' := 470) (ls' := [_, _, _, _, _, _, _, _, _, _, _, _, _, _, _, _, _, _, _, _, _, _, _]) rfl ?_
  refine n_go f_5_470 rfl (pc' := 471) rfl ?_
  refine n_go f_5_471 rfl (pc' := 473) rfl ?_
  refine n_go f_5_473 rfl (pc' := 475) rfl ?_
  refine n_iadd f_5_475 rfl ?_
  refine n_go f_5_476 rfl (pc' := 477) rfl ?_
  refine n_ial f_5_477 rfl (d0) (by unfold ev_ext; omega) (by omega) ?_
  refine n_sip (m := 256) f_5_478 rfl (by decide) ?_
  refine n_go f_5_481 rfl (pc' := 483) rfl ?_
  refine n_go f_5_483 rfl (pc' := 485) rfl ?_
  refine n_isub f_5_485 rfl ?_
  refine n_imul f_5_486 rfl ?_
  refine n_iadd f_5_487 rfl ?_
  refine n_ias f_5_488 rfl (d0) (by omega) ?_
  have hR2 : rD (wK w) (tagT (wD w b) nd tg) (uz dd (10 * b + nd) (dd (10 * b + nd) + 256 * (tg - (wD w b).2.1 nd))) z (10 * b) := by
    refine rD_vl (n := nd) hK hI.1 hR rfl (fun i => rt_hs hp htg.1) (fun i c => ⟨uz_ne _ _ c, rfl⟩) ?_ (fun i i1 i2 c => uz_ne _ _ (by omega)) hp
    rw [uz_same, show (tagT (wD w b) nd tg).2.1 nd = tg from uz_same _ _ _, show (tagT (wD w b) nd tg).2.2.1 nd = (wD w b).2.2.1 nd from rfl]
    omega
  have hI2 := rt_I hI hp htg
  have hT2 := rt_T hT hp htg.1
  have hdout : ∀ i, ¬ (10 * b ≤ i ∧ i < 10 * b + 10) → uz dd (10 * b + nd) (dd (10 * b + nd) + 256 * (tg - (wD w b).2.1 nd)) i = dd i := fun i c => uz_ne _ _ (by omega)
  have hdb := bd_D hK hI2.1 hR2 (fun i => ⟨(bn i).2.1.1, hbd i⟩) hdout
  generalize uz dd (10 * b + nd) (dd (10 * b + nd) + 256 * (tg - (wD w b).2.1 nd)) = d' at *
  have H1 := Hp_d H0 (g := d') (fun i => by have := hdb i; omega)
  have E1 : Ek h0 (ev_set h0 83 (aI 30 d')) := Ek.set (by decide)
  generalize ev_set h0 83 (aI 30 d') = h1 at *
  exact c_led9 (K := wK w) H1 n0 hK hI2 hT2 hR2 rf' (hS0.ek E1) hor (fun i c => ⟨hdout i c, rfl, rfl⟩) (fun i c1 c2 => rfl) bn rfl rfl (fun hO => OK hO h1 d' (Wd_ek hW0 E1) ((hG0.gw.tr E1.gw).le (by omega) (by omega)) H1 hR2 hdout) (fun hO h7 hE7 hH7 => NO hO h7 (Wd_ek (Wd_ek hW0 E1) hE7) (((hG0.gw.tr E1.gw).tr hE7.gw).le (by omega) (by omega)) hH7)
end LF
