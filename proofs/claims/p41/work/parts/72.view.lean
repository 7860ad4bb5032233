/-! The law's isView holds. -/
theorem lcmp_s (p : Int64) : lg_cmp p p = iI 0 := by
  unfold lg_cmp
  rw [if_neg (fun h => Int64.lt_irrefl h), if_pos rfl]
  rfl
/-- a call that makes at most so much, at the heap's end -/
def Gm (h h' : ev_H) (c s : Nat) : Prop := h.1.length ≤ h'.1.length ∧ h'.1.length ≤ h.1.length + c ∧ h'.2.2 ≤ h.2.2 + s ∧ ∀ j, 82 ≤ j → j < h.1.length → h'.1[j]? = h.1[j]?
theorem Gr.gm {h h' : ev_H} {c s : Nat} (g : Gr h h' c s) : Gm h h' c s := ⟨by have := g.1; omega, by have := g.1; omega, by have := g.2.1; omega, g.2.2⟩
theorem Gm.rf (h : ev_H) : Gm h h 0 0 := ⟨Nat.le_refl _, Nat.le_refl _, Nat.le_refl _, fun _ _ _ => rfl⟩
theorem Gm.le {h h' : ev_H} {c s c' s' : Nat} (g : Gm h h' c s) (hc : c ≤ c') (hs' : s ≤ s') : Gm h h' c' s' := ⟨g.1, by have := g.2.1; omega, by have := g.2.2.1; omega, g.2.2.2⟩
theorem Gm.tr {a b c : ev_H} {x y x' y' : Nat} (h1 : Gm a b x y) (h2 : Gm b c x' y') : Gm a c (x + x') (y + y') := ⟨by have := h1.1; have := h2.1; omega, by have := h1.2.1; have := h2.2.1; omega, by have := h1.2.2.1; have := h2.2.2.1; omega, fun j hj h3 => (h2.2.2.2 j hj (by have := h1.1; omega)).trans (h1.2.2.2 j hj h3)⟩
theorem Gm.qk {a b c : ev_H} {x y : Nat} (h1 : Gm a b x y) (h2 : Qk b c) : Gm a c x y := h1.tr h2.gr.gm
theorem Qk.gm {a b : ev_H} (h : Qk a b) : Gm a b 0 0 := h.gr.gm
theorem Gm.push (h : ev_H) (c : ev_C) (n : Nat) : Gm h (ev_push h c n) 1 n := (Gr.push h c n).gm
theorem Rw.gm {h h' : ev_H} {a n c s : Nat} {D : Int → Int} (hR : Rw h a n D) (hG : Gm h h' c s) : Rw h' a n D := ⟨(hG.2.2.2 a hR.2.1 (List.getElem?_eq_some_iff.mp hR.1).1).trans hR.1, hR.2⟩
section RV
variable {K : dK} {S : dS} {D Z : Int → Int} {o p q : Int}
theorem sw_k {j : Int} (h0 : 0 ≤ j) (h : j < swL K p) : kK K p = 0 ∨ kK K p = 1 := by
  unfold swL at h
  by_cases a : kK K p = 0
  · exact Or.inl a
  · by_cases b : kK K p = 1
    · exact Or.inr b
    · rw [if_neg a, if_neg b] at h; omega
theorem ch_no2 (hK : kI K) (hr : rK K) (hI : sI K S) (hR : rD K S D Z o) (hp : 0 ≤ p) (h : ∀ j, 0 ≤ j → j < swL K p → mOk K S p (-1) j = true → ¬ cnI j (mOk K S p (-1)) = q) : kdF D o p (decide (kK K p = 1)) q (kN K).toNat = -1 := by
  by_cases hk : kK K p = 0 ∨ kK K p = 1
  · exact ch_no hK hI.1 hR hp hk h
  · refine kd_n hK hI.1 hR hp (fun c hc => ?_)
    have h1 := hd_c hK hI.1 hp hc
    have h2 := (hI.2.2.1 c h1.2.1.1 (by have := hK.2.2.1; omega) h1.1).2
    have h3 := hr.2.2.2.1 p
    rw [hc] at h2
    omega
theorem cn_m1 : cnI 40 (fun i => decide (¬ i = -1 ∧ hold K S i = p)) = cnI 40 (fun i => decide (hold K S i = p)) := cnI_congr (by decide) (fun i a b => decide_eq_decide.mpr ⟨fun q => q.2, fun q => ⟨by omega, q⟩⟩)
end RV
section LW
variable {V : ev_V} {d : Nat} {h : ev_H} {P : ev_O → ev_H → Prop} {w : dW} {A B C N M O : Nat} {D X F W G Z : Int → Int} {o v x : Int}
theorem c_lview (hWd : Wd h w) (hl : 92 ≤ h.1.length ∧ h.1.length < 1000000) (hv : vwO w v) (hvr : -10 ≤ v ∧ v < 10) (hK : kI (wK w)) (hG : gd (wK w) (vwS w v)) (hB : Rw h B 8 G) (hm : G 0 = kN (wK w)) (hm1 : G 1 = kW (wK w)) (hA : Rw h A N D) (hX : Rw h M N X) (hC : Rw h C 10 F) (hO : Rw h O 10 W) (hr : 0 ≤ o ∧ o + 10 ≤ N) (hR : rD (wK w) (vwS w v) D Z o) (hE : rE (wK w) (vwS w v) X o) (hW : rW (wK w) W) (hF : rF (wK w) F) (hx : 0 ≤ x ∧ x < 2147483648) (KK : ∀ h', Wd h' w → Gm h h' 20 200 → P (.inl (some (.int (iI 1)))) h') : En V (d + 7) 31 0 [some (.ref 0), some (.int (iI v)), some (.ref B), some (.ref A), some (.ref M), some (.int (iI o)), some (.ref C), some (.ref O), some (.int (iI x)), none, none, none, none, none, none] [] h P := by
  have t0 := hWd.2.2.1.1
  obtain ⟨hI, ⟨dp, hT⟩, hOk⟩ := hG
  have kr := hWd.1.2.2.2.2.2.2.2.2.2.2
  have kn := hK.2.2.1
  have kw := hK.2.2.2.1
  have g0 := hB.2.2.2.2 0
  have bl := hB.2.2.1
  have al' := hA.2.2.1
  have cl := hC.2.2.1
  have ol := hO.2.2.1
  have xl := hX.2.2.1
  have hN : (N : Int) ≤ 60 := by have := hA.2.2.2.1; omega
  have hd3 := gd_deep hK hI hT
  refine n_go f_31_0 rfl (pc' := 1) rfl ?_
  refine n_go f_31_1 rfl (pc' := 2) rfl ?_
  refine n_cv (ls' := [_, _]) f_31_2 (by decide) m_70 rfl rfl (t0) rfl ?_
  refine c_conflicts hWd hv ?_
  show En V _ 31 5 _ [_] _ _
  refine n_if_ne f_31_5 rfl rfl (by omega) (fun e9 => absurd e9 (by omega)) (fun _ => ?_)
  refine n_go f_31_8 rfl (pc' := 9) rfl ?_
  refine n_go f_31_9 rfl (pc' := 10) rfl ?_
  refine n_cv (ls' := [_, _]) f_31_10 (by decide) m_71 rfl rfl (t0) rfl ?_
  refine c_print hWd hv hd3 (fun h1 f hW1 hQ1 hf => ?_)
  show En V _ _ 13 _ [_] _ _
  have e1 : h1.1.length = h.1.length := hQ1.2.1
  have hA1 := hA.qk hQ1
  have hB1 := hB.qk hQ1
  have hC1 := hC.qk hQ1
  have hX1 := hX.qk hQ1
  have hO1 := hO.qk hQ1
  refine n_go f_31_13 rfl (pc' := 14) rfl ?_
  refine n_go f_31_14 rfl (pc' := 15) rfl ?_
  refine n_go f_31_15 rfl (pc' := 17) rfl ?_
  refine n_go f_31_17 rfl (pc' := 19) rfl ?_
  refine n_go f_31_19 rfl (pc' := 21) rfl ?_
  refine n_go f_31_21 rfl (pc' := 23) rfl ?_
  refine n_cs (ls' := [_, _, _, _, _, _, _, _, _, _]) f_31_23 (by decide) m_34 rfl rfl ?_
  refine c_lprint (m := kN (wK w)) (m1 := kW (wK w)) (dp := dp) hW1.2.2.2.2.2.2.2.2 (by omega) hB1 ⟨hm, kn⟩ ⟨hm1, kw⟩ hA1 hX1 hC1 hO1 hr (fun i a b c => ?_) (fun i j a b a' b' c c' => ?_) (fun i q a b c a' b' => ?_) (fun i q a b c a' b' => ?_) (fun f' hf' => ?_)
  · rw [rD_lt hK hI.1 hR (by omega)] at c
    have h3 := hOk.2.2.2.1 i a (by omega)
    have h4 := dp_t hI hT c
    unfold dep at h4
    exact ⟨dpO_t hK hI hT hR c, by omega⟩
  · rw [rD_lk hK hI.1 hR (by omega) a, decide_eq_true_eq] at c'
    have h3 := hd_c hK hI.1 a c'
    have h4 := tI_c hI hT h3.2.1.1 h3.1
    rw [h4.2, c']
  · rw [lu_cn hK hW hE] at b'
    obtain ⟨j, q1, q2, q3, q4⟩ := wd_p hK hW hE ⟨a', b'⟩
    rw [q4]
    exact (hK.2.1.1 j q1.1 q1.2).1
  · rw [rD_kids hK hI.1 hR a] at b'
    rw [hF i a b]
    by_cases hk : kK (wK w) i = 0 ∨ kK (wK w) i = 1
    · exact kd_p hK hI.1 hR a hk ⟨a', b'⟩
    · exfalso
      have h5 : ∀ j, 0 ≤ j → j < 40 → decide (hold (wK w) (vwS w v) j = i) = false := fun j c1 c2 => decide_eq_false (fun e => by
        have h1 := hd_c hK hI.1 a e
        have h2 := (hI.2.2.1 j h1.2.1.1 c2 h1.1).2
        have h3 := kr.2.2.2.1 i
        rw [e] at h2
        omega)
      rw [cnI_cut (M := 0) (by decide) (by decide) h5] at b'
      have b' : q < (0 : Int) := b'
      omega
  show En V _ _ 26 _ [.long (f' 0), .long (f 0)] _ _
  rw [pr_eq hK kr hI hT hR hE hW hF hf hf']
  refine n_go f_31_26 rfl (pc' := 27) rfl ?_
  rw [lcmp_s]
  have hG2 : Gm h (ev_push h1 (aL 10 f') 10) 1 10 := hQ1.gm.tr (Gm.push _ _ _)
  have hW2 : Wd (ev_push h1 (aL 10 f') 10) w := hW1.psh
  generalize ev_push h1 (aL 10 f') 10 = h2 at *
  refine n_if_ne f_31_27 rfl rfl (by omega) (fun e9 => absurd e9 (by omega)) (fun _ => ?_)
  refine n_go f_31_30 rfl (pc' := 31) (st' := .int (iI 1) :: _) rfl ?_
  refine n_go f_31_31 rfl (pc' := 35) rfl ?_
  refine n_go f_31_35 rfl (pc' := 37) (ls' := [_, _, _, _, _, _, _, _, _, _, _, _, _, _, _]) rfl ?_
  refine n_go f_31_37 rfl (pc' := 38) (st' := .int (iI 0) :: _) rfl ?_
  refine n_go f_31_38 rfl (pc' := 40) (ls' := [_, _, _, _, _, _, _, _, _, _, _, _, _, _, _]) rfl ?_
  refine n_for (lo := 0) (hi := kN (wK w)) (by omega) (fun i ls st h' => (∃ u11 u12 u13 u14, ls = [some (.ref 0), some (.int (iI v)), some (.ref B), some (.ref A), some (.ref M), some (.int (iI o)), some (.ref C), some (.ref O), some (.int (iI x)), some (.int (iI 1)), some (.int (iI i)), u11, u12, u13, u14]) ∧ st = [] ∧ Wd h' w ∧ Gm h h' (1 + i.toNat) (10 + 6 * i.toNat)) ⟨⟨_, _, _, _, rfl⟩, rfl, hW2, hG2.le (by omega) (by omega)⟩ ?_ ?_
  · rintro i ls st h3 i1 i2 ⟨⟨u11, u12, u13, u14, rfl⟩, rfl, hW3, hG3⟩ kk
    have t3 := hW3.2.2.1.1
    have hA3 := hA.gm hG3
    have hB3 := hB.gm hG3
    have hC3 := hC.gm hG3
    have hX3 := hX.gm hG3
    have hO3 := hO.gm hG3
    have b3 := hB3.1
    have a3 := hA3.1
    have c3 := hC3.1
    have o3 := hO3.1
    have fi := hF i i1 i2
    have kri := kr.2.2.2.1 i
    have hb2 := b2_r (hs (vwS w v) i)
    have hdr := hold_r kr (vwS w v) i

    refine n_go f_31_40 rfl (pc' := 42) rfl ?_
    refine n_go f_31_42 rfl (pc' := 43) rfl ?_
    refine n_go f_31_43 rfl (pc' := 44) (st' := .int (iI 0) :: _) rfl ?_
    refine n_ial f_31_44 rfl (b3) (by unfold ev_ext; omega) (by omega) ?_
    refine n_ic_ge f_31_45 rfl rfl ⟨by omega, by omega⟩ (fun e9 => absurd e9 (by omega)) (fun _ => ?_)
    refine n_go f_31_48 rfl (pc' := 50) rfl ?_
    refine n_if_eq f_31_50 rfl rfl (by omega) (fun e9 => absurd e9 (by omega)) (fun _ => ?_)
    refine n_go f_31_53 rfl (pc' := 54) rfl ?_
    refine n_go f_31_54 rfl (pc' := 55) rfl ?_
    refine n_go f_31_55 rfl (pc' := 57) rfl ?_
    refine n_cv (ls' := [_, _, _, _]) f_31_57 (by decide) m_72 rfl rfl (t3) rfl ?_
    refine c_isThere hW3 hv ⟨i1, i2⟩ ?_
    show En V _ 31 60 _ [_] _ _
    refine n_go f_31_60 rfl (pc' := 61) rfl ?_
    refine n_go f_31_61 rfl (pc' := 63) rfl ?_
    refine n_go f_31_63 rfl (pc' := 65) rfl ?_
    refine n_cs (ls' := [_, _, _]) f_31_65 (by decide) m_3 rfl rfl ?_
    refine c_lthere hA3 (by omega) ?_
    show En V _ 31 68 _ [_, _] _ _
    rw [rD_lt hK hI.1 hR (by omega)]
    refine n_ic_ne f_31_68 rfl rfl ⟨by omega, by omega⟩ (fun e9 => absurd e9 (by omega)) (fun _ => ?_)
    refine n_go f_31_71 rfl (pc' := 72) rfl ?_
    refine n_go f_31_72 rfl (pc' := 74) rfl ?_
    refine n_cv (ls' := [_, _]) f_31_74 (by decide) m_73 rfl rfl (t3) rfl ?_
    refine c_kind hW3 ⟨i1, i2⟩ ?_
    show En V _ 31 77 _ [_] _ _
    refine n_go f_31_77 rfl (pc' := 79) rfl ?_
    refine n_go f_31_79 rfl (pc' := 81) rfl ?_
    refine n_ial f_31_81 rfl (c3) (by unfold ev_ext; omega) (by omega) ?_
    refine n_ic_ne f_31_82 rfl rfl ⟨by omega, by omega⟩ (fun e9 => absurd e9 (by omega)) (fun _ => ?_)
    refine n_go f_31_85 rfl (pc' := 86) rfl ?_
    refine n_bip (m := 11) f_31_86 rfl (by decide) ?_
    refine n_go f_31_88 rfl (pc' := 89) rfl ?_
    refine n_go f_31_89 rfl (pc' := 91) rfl ?_
    refine n_go f_31_91 rfl (pc' := 92) (st' := .int (iI 0) :: _) rfl ?_
    refine n_go f_31_92 rfl (pc' := 93) (st' := .int (iI 0) :: _) rfl ?_
    refine n_go f_31_93 rfl (pc' := 94) (st' := .int (iI 0) :: _) rfl ?_
    refine n_cs (ls' := [_, _, _, _, _, _, _, _]) f_31_94 (by decide) m_6 rfl rfl ?_
    cases e : hs (vwS w v) i with
    | false =>
      refine d_holder t3 (c_holder hW3 hv (by omega) (fun e2 => absurd (e.symm.trans e2) (by decide)) (fun _ => ?_))
      show En V _ _ 97 _ [.int (iI (-11))] (xH h3 11) _
      have hG4 : Gm h (xH h3 11) (1 + (i + 1).toNat) (10 + 6 * (i + 1).toNat) := (hG3.tr (Gm.push _ _ _)).le (by omega) (by omega)
      have hW4 : Wd (xH h3 11) w := hW3.psh
      generalize xH h3 11 = h4 at *
      have hA4 := hA.gm hG4
      have el : lt D o i = false := (rD_lt hK hI.1 hR (by omega)).trans e
      refine n_go f_31_97 rfl (pc' := 98) rfl ?_
      refine n_go f_31_98 rfl (pc' := 100) rfl ?_
      refine n_go f_31_100 rfl (pc' := 102) rfl ?_
      refine n_cs (ls' := [_, _, _]) f_31_102 (by decide) m_3 rfl rfl ?_
      refine c_lthere hA4 (by omega) ?_
      show En V _ 31 105 _ [_, _] _ _
      refine n_ib_eq f_31_105 rfl rfl (fun _ => ?_) (fun e9 => absurd (e9.symm.trans (el)) (by decide))
      refine n_bip (m := (-11)) f_31_119 rfl (by decide) ?_
      refine n_ic_ne f_31_121 rfl rfl ⟨by omega, by omega⟩ (fun e9 => absurd e9 (by omega)) (fun _ => ?_)
      refine n_go f_31_124 rfl (pc' := 125) (st' := .int (iI 1) :: _) rfl ?_
      refine n_go f_31_125 rfl (pc' := 129) rfl ?_
      refine n_go f_31_129 rfl (pc' := 131) (ls' := [_, _, _, _, _, _, _, _, _, _, _, _, _, _, _]) rfl ?_
      refine n_go f_31_131 rfl (pc' := 133) rfl ?_
      refine n_if_eq f_31_133 rfl rfl (by omega) (fun e9 => absurd e9 (by omega)) (fun _ => ?_)
      refine n_go f_31_136 rfl (pc' := 137) rfl ?_
      refine n_go f_31_137 rfl (pc' := 139) rfl ?_
      refine n_go f_31_139 rfl (pc' := 141) rfl ?_
      refine n_cs (ls' := [_, _, _]) f_31_141 (by decide) m_3 rfl rfl ?_
      refine c_lthere hA4 (by omega) ?_
      show En V _ 31 144 _ [_] _ _
      refine n_ib_eq f_31_144 rfl rfl (fun _ => ?_) (fun e9 => absurd (e9.symm.trans (el)) (by decide))
      refine n_iinc (m' := 1) (ls' := [_, _, _, _, _, _, _, _, _, _, _, _, _, _, _]) f_31_369 rfl rfl rfl rfl ?_
      refine n_go f_31_372 rfl (pc' := 40) rfl ?_
      exact kk _ _ _ ⟨⟨_, _, _, _, rfl⟩, rfl, hW4, hG4⟩
    | true =>
      have el : lt D o i = true := (rD_lt hK hI.1 hR (by omega)).trans e
      have ri := (rD_t hK hI.1 hR e).1
      have ji := hI.1.1 i i1 (by omega) e
      have lh' := ri.2.1
      have hG4 : Gm h h3 (1 + (i + 1).toNat) (10 + 6 * (i + 1).toNat) := hG3.le (by omega) (by omega)
      have kk : ∀ u11 u12 u13 u14, En V (d + 7) 31 40 [some (.ref 0), some (.int (iI v)), some (.ref B), some (.ref A), some (.ref M), some (.int (iI o)), some (.ref C), some (.ref O), some (.int (iI x)), some (.int (iI 1)), some (.int (iI (i + 1))), u11, u12, u13, u14] [] h3 P := fun u11 u12 u13 u14 => kk _ _ _ ⟨⟨_, _, _, _, rfl⟩, rfl, hW3, hG4⟩
      refine d_holder t3 (c_holder hW3 hv (by omega) (fun _ => ?_) (fun e2 => absurd (e.symm.trans e2) (by decide)))
      show En V _ _ 97 _ [.int (iI (hold (wK w) (vwS w v) i))] h3 _
      have hkc := ch_le hK hI.1 i1
      have hkc0 := (cnI_r (i := 40) (p := fun j => decide (hold (wK w) (vwS w v) j = i)) (by decide)).1
      have hwc := cnI_r (i := kW (wK w)) (p := wOk (wK w) (vwS w v) i) kw.1
      refine n_go f_31_97 rfl (pc' := 98) rfl ?_
      refine n_go f_31_98 rfl (pc' := 100) rfl ?_
      refine n_go f_31_100 rfl (pc' := 102) rfl ?_
      refine n_cs (ls' := [_, _, _]) f_31_102 (by decide) m_3 rfl rfl ?_
      refine c_lthere hA3 (by omega) ?_
      show En V _ 31 105 _ [_, _] _ _
      refine n_ib_eq f_31_105 rfl rfl (fun e9 => absurd (e9.symm.trans (el)) (by decide)) (fun _ => ?_)
      refine n_go f_31_108 rfl (pc' := 109) rfl ?_
      refine n_go f_31_109 rfl (pc' := 111) rfl ?_
      refine n_go f_31_111 rfl (pc' := 113) rfl ?_
      refine n_cs (ls' := [_, _, _]) f_31_113 (by decide) m_7 rfl rfl ?_
      refine c_lholder hA3 (by omega) ?_
      show En V _ 31 116 _ [_, _] _ _
      refine n_go f_31_116 rfl (pc' := 121) rfl ?_
      refine n_ic_ne f_31_121 rfl rfl ⟨by omega, by omega⟩ (fun e9 => absurd e9 (by omega)) (fun _ => ?_)
      refine n_go f_31_124 rfl (pc' := 125) (st' := .int (iI 1) :: _) rfl ?_
      refine n_go f_31_125 rfl (pc' := 129) rfl ?_
      refine n_go f_31_129 rfl (pc' := 131) (ls' := [_, _, _, _, _, _, _, _, _, _, _, _, _, _, _]) rfl ?_
      refine n_go f_31_131 rfl (pc' := 133) rfl ?_
      refine n_if_eq f_31_133 rfl rfl (by omega) (fun e9 => absurd e9 (by omega)) (fun _ => ?_)
      refine n_go f_31_136 rfl (pc' := 137) rfl ?_
      refine n_go f_31_137 rfl (pc' := 139) rfl ?_
      refine n_go f_31_139 rfl (pc' := 141) rfl ?_
      refine n_cs (ls' := [_, _, _]) f_31_141 (by decide) m_3 rfl rfl ?_
      refine c_lthere hA3 (by omega) ?_
      show En V _ 31 144 _ [_] _ _
      refine n_ib_eq f_31_144 rfl rfl (fun e9 => absurd (e9.symm.trans (el)) (by decide)) (fun _ => ?_)
      refine n_go f_31_147 rfl (pc' := 148) rfl ?_
      refine n_go f_31_148 rfl (pc' := 149) rfl ?_
      refine n_go f_31_149 rfl (pc' := 151) rfl ?_
      refine n_go f_31_151 rfl (pc' := 153) rfl ?_
      refine n_cs (ls' := [_, _, _, _, _, _]) f_31_153 (by decide) m_4 rfl rfl ?_
      refine c_lkids hB3 ⟨hm, kn⟩ hA3 hr (by omega) ?_
      show En V _ 31 156 _ [_] _ _
      refine n_go f_31_156 rfl (pc' := 158) (ls' := [_, _, _, _, _, _, _, _, _, _, _, _, _, _, _]) rfl ?_
      refine n_go f_31_158 rfl (pc' := 159) rfl ?_
      refine n_go f_31_159 rfl (pc' := 161) rfl ?_
      refine n_go f_31_161 rfl (pc' := 163) rfl ?_
      refine n_go f_31_163 rfl (pc' := 165) rfl ?_
      refine n_go f_31_165 rfl (pc' := 167) rfl ?_
      refine n_cs (ls' := [_, _, _, _, _, _, _]) f_31_167 (by decide) m_9 rfl rfl ?_
      refine c_lwords hB3 ⟨hm1, kw⟩ hX3 hO3 hr (by omega) ?_
      show En V _ 31 170 _ [_] _ _
      rw [rD_kids hK hI.1 hR i1, lu_cn hK hW hE]
      generalize hkd : cnI 40 (fun j => decide (hold (wK w) (vwS w v) j = i)) = kc at *
      generalize hwd : cnI (kW (wK w)) (wOk (wK w) (vwS w v) i) = wc at *
      have rest3 : ∀ pl z, -1 ≤ z → z < 1000 → En V (d + 7) 31 224 [some (.ref 0), some (.int (iI v)), some (.ref B), some (.ref A), some (.ref M), some (.int (iI o)), some (.ref C), some (.ref O), some (.int (iI x)), some (.int (iI 1)), some (.int (iI i)), some (.int (iI kc)), some (.int (iI wc)), some (.int (iI pl)), u14] [.int (iI z), .int (iI z)] h3 P := fun pl z z1 z2 => by
        refine n_ic_ne f_31_224 rfl rfl ⟨by omega, by omega⟩ (fun e9 => absurd e9 (by omega)) (fun _ => ?_)
        refine n_go f_31_227 rfl (pc' := 228) rfl ?_
        refine n_go f_31_228 rfl (pc' := 229) rfl ?_
        refine n_go f_31_229 rfl (pc' := 231) rfl ?_
        refine n_cv (ls' := [_, _, _, _]) f_31_231 (by decide) m_77 rfl rfl (t3) rfl ?_
        refine c_tag hW3 hv (by omega) e ?_
        show En V _ 31 234 _ [_] _ _
        refine n_go f_31_234 rfl (pc' := 235) rfl ?_
        refine n_go f_31_235 rfl (pc' := 237) rfl ?_
        refine n_go f_31_237 rfl (pc' := 239) rfl ?_
        refine n_iadd f_31_239 rfl ?_
        refine n_ial f_31_240 rfl (a3) (by unfold ev_ext; omega) (by omega) ?_
        refine n_sip (m := 256) f_31_241 rfl (by decide) ?_
        refine n_idiv f_31_244 rfl (by omega) ?_
        refine n_bip (m := 16) f_31_245 rfl (by decide) ?_
        refine n_irem f_31_247 rfl (by omega) ?_
        refine n_ic_ne f_31_248 rfl rfl ⟨by omega, by omega⟩ (fun e9 => absurd e9 (by omega)) (fun _ => ?_)
        refine n_go f_31_251 rfl (pc' := 252) rfl ?_
        refine n_go f_31_252 rfl (pc' := 253) rfl ?_
        refine n_go f_31_253 rfl (pc' := 255) rfl ?_
        refine n_cv (ls' := [_, _, _, _]) f_31_255 (by decide) m_78 rfl rfl (t3) rfl ?_
        refine c_aimOf hW3 hv (by omega) e ?_
        show En V _ 31 258 _ [_] _ _
        refine n_go f_31_258 rfl (pc' := 259) rfl ?_
        refine n_go f_31_259 rfl (pc' := 261) rfl ?_
        refine n_go f_31_261 rfl (pc' := 263) rfl ?_
        refine n_iadd f_31_263 rfl ?_
        refine n_ial f_31_264 rfl (a3) (by unfold ev_ext; omega) (by omega) ?_
        refine n_sip (m := 4096) f_31_265 rfl (by decide) ?_
        refine n_idiv f_31_268 rfl (by omega) ?_
        refine n_go f_31_269 rfl (pc' := 270) (st' := .int (iI 1) :: _) rfl ?_
        refine n_isub f_31_270 rfl ?_
        refine n_ic_ne f_31_271 rfl rfl ⟨by omega, by omega⟩ (fun e9 => absurd e9 (by omega)) (fun _ => ?_)
        refine n_go f_31_274 rfl (pc' := 275) rfl ?_
        refine n_go f_31_275 rfl (pc' := 276) rfl ?_
        refine n_go f_31_276 rfl (pc' := 278) rfl ?_
        refine n_cv (ls' := [_, _, _, _]) f_31_278 (by decide) m_79 rfl rfl (t3) rfl ?_
        refine c_words hW3 hv (by omega) e ?_
        show En V _ 31 281 _ [_] _ _
        rw [hwd]
        refine n_go f_31_281 rfl (pc' := 283) rfl ?_
        refine n_ic_ne f_31_283 rfl rfl ⟨by omega, by omega⟩ (fun e9 => absurd e9 (by omega)) (fun _ => ?_)
        refine n_go f_31_286 rfl (pc' := 287) (st' := .int (iI 1) :: _) rfl ?_
        refine n_go f_31_287 rfl (pc' := 291) rfl ?_
        refine n_go f_31_291 rfl (pc' := 293) (ls' := [_, _, _, _, _, _, _, _, _, _, _, _, _, _, _]) rfl ?_
        refine n_go f_31_293 rfl (pc' := 295) rfl ?_
        refine n_if_eq f_31_295 rfl rfl (by omega) (fun e9 => absurd e9 (by omega)) (fun _ => ?_)
        refine n_go f_31_298 rfl (pc' := 300) rfl ?_
        refine n_if_le f_31_300 rfl rfl (by omega) (fun e3 => ?_) (fun e3 => ?_)
        · refine n_iinc (m' := 1) (ls' := [_, _, _, _, _, _, _, _, _, _, _, _, _, _, _]) f_31_369 rfl rfl rfl rfl ?_
          refine n_go f_31_372 rfl (pc' := 40) rfl ?_
          exact kk _ _ _ _
        have hq : 0 ≤ x % wc ∧ x % wc < wc := ⟨Int.emod_nonneg _ (by omega), Int.emod_lt_of_pos _ (by omega)⟩
        refine n_go f_31_303 rfl (pc' := 304) rfl ?_
        refine n_go f_31_304 rfl (pc' := 306) rfl ?_
        refine n_go f_31_306 rfl (pc' := 308) rfl ?_
        refine n_go f_31_308 rfl (pc' := 310) rfl ?_
        refine n_go f_31_310 rfl (pc' := 312) rfl ?_
        refine n_go f_31_312 rfl (pc' := 314) rfl ?_
        refine n_go f_31_314 rfl (pc' := 316) rfl ?_
        refine n_irem f_31_316 rfl (by omega) ?_
        refine n_cs (ls' := [_, _, _, _, _, _, _, _]) f_31_317 (by decide) m_10 rfl rfl ?_
        refine c_lword hB3 ⟨hm1, kw⟩ hX3 hO3 hr (by omega) (by omega) ?_
        show En V _ 31 320 _ [_] _ _
        obtain ⟨j0, p1, p2, p3, p4⟩ := wd_p (S := vwS w v) (p := i) hK hW hE (q := x % wc) ⟨hq.1, by rw [hwd]; exact hq.2⟩
        have hj0 := hK.2.1.1 j0 p1.1 p1.2
        have wj := hW _ hj0.1 hj0.2
        have ke := kr.2.2.2.2.2.2.2.2.1 (kU (wK w) j0)
        have kq := kr.2.2.2.2.2.2.2.2.2.1 (kU (wK w) j0)
        rw [p4]
        refine n_go f_31_320 rfl (pc' := 322) (ls' := [_, _, _, _, _, _, _, _, _, _, _, _, _, _, _]) rfl ?_
        refine n_go f_31_322 rfl (pc' := 323) rfl ?_
        refine n_go f_31_323 rfl (pc' := 324) rfl ?_
        refine n_go f_31_324 rfl (pc' := 326) rfl ?_
        refine n_go f_31_326 rfl (pc' := 328) rfl ?_
        refine n_go f_31_328 rfl (pc' := 330) rfl ?_
        refine n_irem f_31_330 rfl (by omega) ?_
        refine n_cv (ls' := [_, _, _, _, _]) f_31_331 (by decide) m_80 rfl rfl (t3) rfl ?_
        refine c_word hW3 hv (by omega) e (by omega) (fun j q1 q2 q3 q4 => ?_) ⟨j0, p1.1, p1.2, p2, p3⟩
        have ej : kU (wK w) j = kU (wK w) j0 := by
          rw [← p4]
          exact (wd_w hK hW hE hq.1 ⟨q1, q2⟩ q3 q4).symm
        rw [ej]
        show En V _ _ 334 _ [_] h3 _
        refine n_bip (m := 10) f_31_334 rfl (by decide) ?_
        refine n_go f_31_336 rfl (pc' := 338) rfl ?_
        refine n_go f_31_338 rfl (pc' := 340) rfl ?_
        refine n_ial f_31_340 rfl (o3) (by unfold ev_ext; omega) (by omega) ?_
        refine n_bip (m := 16) f_31_341 rfl (by decide) ?_
        refine n_idiv f_31_343 rfl (by omega) ?_
        refine n_sip (m := 128) f_31_344 rfl (by decide) ?_
        refine n_irem f_31_347 rfl (by omega) ?_
        refine n_imul f_31_348 rfl ?_
        refine n_go f_31_349 rfl (pc' := 351) rfl ?_
        refine n_go f_31_351 rfl (pc' := 353) rfl ?_
        refine n_ial f_31_353 rfl (o3) (by unfold ev_ext; omega) (by omega) ?_
        refine n_sip (m := 2048) f_31_354 rfl (by decide) ?_
        refine n_idiv f_31_357 rfl (by omega) ?_
        refine n_iadd f_31_358 rfl ?_
        refine n_ic_ne f_31_359 rfl rfl ⟨by omega, by omega⟩ (fun e9 => absurd e9 (by omega)) (fun _ => ?_)
        refine n_go f_31_362 rfl (pc' := 363) (st' := .int (iI 1) :: _) rfl ?_
        refine n_go f_31_363 rfl (pc' := 367) rfl ?_
        refine n_go f_31_367 rfl (pc' := 369) (ls' := [_, _, _, _, _, _, _, _, _, _, _, _, _, _, _]) rfl ?_
        refine n_iinc (m' := 1) (ls' := [_, _, _, _, _, _, _, _, _, _, _, _, _, _, _]) f_31_369 rfl rfl rfl rfl ?_
        refine n_go f_31_372 rfl (pc' := 40) rfl ?_
        exact kk _ _ _ _
      have rest : ∀ pl, 0 ≤ pl → pl < 2147483648 → En V (d + 7) 31 188 [some (.ref 0), some (.int (iI v)), some (.ref B), some (.ref A), some (.ref M), some (.int (iI o)), some (.ref C), some (.ref O), some (.int (iI x)), some (.int (iI 1)), some (.int (iI i)), some (.int (iI kc)), some (.int (iI wc)), u13, u14] [.int (iI pl)] h3 P := fun pl p1 p2 => by
        refine n_go f_31_188 rfl (pc' := 190) (ls' := [_, _, _, _, _, _, _, _, _, _, _, _, _, _, _]) rfl ?_
        refine n_go f_31_190 rfl (pc' := 191) rfl ?_
        refine n_go f_31_191 rfl (pc' := 192) rfl ?_
        refine n_go f_31_192 rfl (pc' := 194) rfl ?_
        refine n_cv (ls' := [_, _, _, _]) f_31_194 (by decide) m_74 rfl rfl (t3) rfl ?_
        refine c_children hW3 hv (by omega) e ?_
        show En V _ 31 197 _ [_] _ _
        rw [cn_m1, hkd]
        refine n_go f_31_197 rfl (pc' := 199) rfl ?_
        refine n_ic_ne f_31_199 rfl rfl ⟨by omega, by omega⟩ (fun e9 => absurd e9 (by omega)) (fun _ => ?_)
        refine n_go f_31_202 rfl (pc' := 203) rfl ?_
        refine n_go f_31_203 rfl (pc' := 204) rfl ?_
        refine n_go f_31_204 rfl (pc' := 206) rfl ?_
        refine n_go f_31_206 rfl (pc' := 208) rfl ?_
        refine n_cv (ls' := [_, _, _, _, _]) f_31_208 (by decide) m_75 rfl rfl (t3) rfl ?_
        refine c_child hW3 hv (by omega) e ⟨p1, p2⟩ (fun j q1 q2 q3 q4 => ?_) (fun q => ?_)
        · show En V _ _ 211 _ [_] h3 _
          have hm3 := met_r kr (vwS w v) i j (by have := swL_r kr i; omega) (fun e => by have := (swL_r kr i).2.2 e; omega)
          refine n_go f_31_211 rfl (pc' := 212) rfl ?_
          refine n_go f_31_212 rfl (pc' := 213) rfl ?_
          refine n_go f_31_213 rfl (pc' := 215) rfl ?_
          refine n_go f_31_215 rfl (pc' := 217) rfl ?_
          refine n_go f_31_217 rfl (pc' := 219) rfl ?_
          refine n_go f_31_219 rfl (pc' := 221) rfl ?_
          refine n_cs (ls' := [_, _, _, _, _, _, _, _, _]) f_31_221 (by decide) m_76 rfl rfl ?_
          refine c_lkid hB3 ⟨hm, kn⟩ hA3 hC3 hr (by omega) (by omega) ?_
          show En V _ 31 224 _ [_, _] _ _
          rw [fi, (ch_kid hK hI.1 hR i1 (sw_k q1 q2) ⟨q1, q2⟩ q3 q4).1]
          exact rest3 pl _ hm3.1 (by omega)
        · show En V _ _ 211 _ [_] h3 _
          refine n_go f_31_211 rfl (pc' := 212) rfl ?_
          refine n_go f_31_212 rfl (pc' := 213) rfl ?_
          refine n_go f_31_213 rfl (pc' := 215) rfl ?_
          refine n_go f_31_215 rfl (pc' := 217) rfl ?_
          refine n_go f_31_217 rfl (pc' := 219) rfl ?_
          refine n_go f_31_219 rfl (pc' := 221) rfl ?_
          refine n_cs (ls' := [_, _, _, _, _, _, _, _, _]) f_31_221 (by decide) m_76 rfl rfl ?_
          refine c_lkid hB3 ⟨hm, kn⟩ hA3 hC3 hr (by omega) (by omega) ?_
          show En V _ 31 224 _ [_, _] _ _
          rw [fi, ch_no2 hK kr hI hR i1 q]
          exact rest3 pl _ (by omega) (by omega)
      refine n_go f_31_170 rfl (pc' := 172) (ls' := [_, _, _, _, _, _, _, _, _, _, _, _, _, _, _]) rfl ?_
      refine n_go f_31_172 rfl (pc' := 174) rfl ?_
      refine n_if_ne f_31_174 rfl rfl (by omega) (fun e2 => ?_) (fun e2 => ?_)
      · have hq : 0 ≤ x % (kc + 1) ∧ x % (kc + 1) < kc + 1 := ⟨Int.emod_nonneg _ (by omega), Int.emod_lt_of_pos _ (by omega)⟩
        refine n_go f_31_181 rfl (pc' := 183) rfl ?_
        refine n_go f_31_183 rfl (pc' := 185) rfl ?_
        refine n_go f_31_185 rfl (pc' := 186) (st' := .int (iI 1) :: _) rfl ?_
        refine n_iadd f_31_186 rfl ?_
        refine n_irem f_31_187 rfl (by omega) ?_
        exact rest _ hq.1 (by omega)
      · refine n_go f_31_177 rfl (pc' := 178) (st' := .int (iI 0) :: _) rfl ?_
        refine n_go f_31_178 rfl (pc' := 188) rfl ?_
        exact rest _ (by omega) (by omega)
  · rintro ls st h3 ⟨⟨u11, u12, u13, u14, rfl⟩, rfl, hW3, hG3⟩
    have hB3 := hB.gm hG3
    have b3 := hB3.1
    refine n_go f_31_40 rfl (pc' := 42) rfl ?_
    refine n_go f_31_42 rfl (pc' := 43) rfl ?_
    refine n_go f_31_43 rfl (pc' := 44) (st' := .int (iI 0) :: _) rfl ?_
    refine n_ial f_31_44 rfl (b3) (by unfold ev_ext; omega) (by omega) ?_
    refine n_ic_ge f_31_45 rfl rfl ⟨by omega, by omega⟩ (fun _ => ?_) (fun e9 => absurd (by omega) e9)
    refine n_go f_31_375 rfl (pc' := 377) rfl ?_
    first | refine n_rtz f_31_377 rfl ?_ | refine n_rt0 f_31_377 rfl ?_ | refine n_rt1 f_31_377 rfl ?_
    exact KK _ hW3 (hG3.le (by omega) (by omega))
end LW
